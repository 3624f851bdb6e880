/-! The model: the order in which survivors are laid -/
def OS (σ ρ μ : Nat → Nat → Int32) (t n : Nat) : Prop := n ≤ t ∧ μ 16 0 = nI n ∧ (∀ i, i < n → ∃ j, j < t ∧ μ 15 i = nI j ∧ plB ρ j = true) ∧ (∀ j, j < t → plB ρ j = true → ∃ i, i < n ∧ μ 15 i = nI j) ∧ ∀ i k j j', i < k → k < n → j < 24 → j' < 24 → μ 15 i = nI j → μ 15 k = nI j' → rkN σ j < rkN σ j'
theorem le0 {k : Nat} (hk : k < 2 ^ 31) : nI k ≤ 0 ↔ k = 0 := by
  rw [show (0 : Int32) = nI 0 from rfl, nI_leI hk (by decide)]
  omega
/-- the array while o's place is sought -/
def MV (σ μ μ' : Nat → Nat → Int32) (n k o : Nat) : Prop := (∀ i, i < k → μ' 15 i = μ 15 i) ∧ ∀ i, k ≤ i → i < n → μ' 15 (i + 1) = μ 15 i ∧ ∀ j, j < 24 → μ 15 i = nI j → rkN σ o < rkN σ j
theorem mv_step {σ μ μ' : Nat → Nat → Int32} {n k o j : Nat} (h : MV σ μ μ' n k o) (hk : 0 < k) (hkn : k ≤ n) (hj : j < 24) (e : μ 15 (k - 1) = nI j) (hr : rkN σ o < rkN σ j) (v : Int32) (hv : v = nI j) : MV σ μ (rw2 μ' 15 (upd (μ' 15) k v)) n (k - 1) o := by
  refine ⟨fun i hi => by rw [rw2_s, upd_e, if_neg (by omega)]; exact h.1 i (by omega), fun i h1 h2 => ?_⟩
  by_cases c : i = k - 1
  · subst c
    refine ⟨by rw [rw2_s, upd_e, if_pos (by omega), hv, e], fun j2 hj2 e2 => ?_⟩
    rw [(nI_eq (by omega) (by omega)).mp (e2.symm.trans e)]
    exact hr
  · rw [rw2_s, upd_e, if_neg (by omega)]
    exact h.2 i (by omega) h2
theorem os_ins {σ ρ μ μ' : Nat → Nat → Int32} {n k o : Nat} (h : OS σ ρ μ o n) (ho : o < 24) (hp : plB ρ o = true) (hm : MV σ μ μ' n k o) (hk : k ≤ n) (hinj : ∀ j, j < o → plB ρ j = true → rkN σ j ≠ rkN σ o) (he : k = 0 ∨ ∃ j, j < 24 ∧ μ 15 (k - 1) = nI j ∧ ¬ rkN σ o < rkN σ j) (f : Nat → Int32) (hf : ∀ i, f i = if i = k then nI o else μ' 15 i) (g : Nat → Int32) (hg : g 0 = nI (n + 1)) : OS σ ρ (rw2 (rw2 μ' 15 f) 16 g) (o + 1) (n + 1) := by
  obtain ⟨h1, h2, h3, h4, h5⟩ := h
  have A : ∀ i, rw2 (rw2 μ' 15 f) 16 g 15 i = if i = k then nI o else μ' 15 i := fun i => by rw [rw2_n _ _ (by decide), rw2_s]; exact hf i
  have lo : ∀ i, i < k → rw2 (rw2 μ' 15 f) 16 g 15 i = μ 15 i := fun i hi => by rw [A, if_neg (by omega)]; exact hm.1 i hi
  have hi : ∀ i, k ≤ i → i < n → rw2 (rw2 μ' 15 f) 16 g 15 (i + 1) = μ 15 i := fun i a b => by rw [A, if_neg (by omega)]; exact (hm.2 i a b).1
  have at_ : rw2 (rw2 μ' 15 f) 16 g 15 k = nI o := by rw [A, if_pos rfl]
  have below : ∀ i j, i < k → j < 24 → μ 15 i = nI j → rkN σ j < rkN σ o := by
    intro i j a b c
    rcases he with z | ⟨j2, hj2, e2, r2⟩
    · omega
    · have lt : rkN σ j2 < rkN σ o := by
        obtain ⟨j3, hj3, e3, p3⟩ := h3 (k - 1) (by omega)
        have : j2 = j3 := (nI_eq (by omega) (by omega)).mp (e2.symm.trans e3)
        subst this
        have := hinj j2 hj3 p3
        omega
      by_cases z : i = k - 1
      · subst z
        rw [(nI_eq (by omega) (by omega)).mp (c.symm.trans e2)]
        exact lt
      · have := h5 i (k - 1) j j2 (by omega) (by omega) b hj2 c e2
        omega
  refine ⟨by omega, by rw [rw2_s]; exact hg, fun i a => ?_, fun j a b => ?_, fun i k2 j j2 a b c d e f2 => ?_⟩
  · rcases Nat.lt_trichotomy i k with z | z | z
    · obtain ⟨j, q1, q2, q3⟩ := h3 i (by omega)
      exact ⟨j, by omega, by rw [lo i z, q2], q3⟩
    · subst z; exact ⟨o, by omega, at_, hp⟩
    · obtain ⟨j, q1, q2, q3⟩ := h3 (i - 1) (by omega)
      exact ⟨j, by omega, by rw [show i = (i - 1) + 1 by omega, hi (i - 1) (by omega) (by omega), q2], q3⟩
  · by_cases z : j = o
    · subst z; exact ⟨k, by omega, at_⟩
    · obtain ⟨i, q1, q2⟩ := h4 j (by omega) b
      by_cases y : i < k
      · exact ⟨i, by omega, by rw [lo i y, q2]⟩
      · exact ⟨i + 1, by omega, by rw [hi i (by omega) q1, q2]⟩
  · rcases Nat.lt_trichotomy i k with z | z | z
    · rw [lo i z] at e
      rcases Nat.lt_trichotomy k2 k with y | y | y
      · rw [lo k2 y] at f2
        exact h5 i k2 j j2 a (by omega) c d e f2
      · subst y
        rw [at_] at f2
        rw [← (nI_eq (by omega) (by omega)).mp f2]
        exact below i j z c e
      · rw [show k2 = (k2 - 1) + 1 by omega, hi (k2 - 1) (by omega) (by omega)] at f2
        exact h5 i (k2 - 1) j j2 (by omega) (by omega) c d e f2
    · subst z
      rw [at_] at e
      rw [show k2 = (k2 - 1) + 1 by omega, hi (k2 - 1) (by omega) (by omega)] at f2
      rw [← (nI_eq (by omega) (by omega)).mp e]
      exact (hm.2 (k2 - 1) (by omega) (by omega)).2 j2 d f2
    · rw [show i = (i - 1) + 1 by omega, hi (i - 1) (by omega) (by omega)] at e
      rw [show k2 = (k2 - 1) + 1 by omega, hi (k2 - 1) (by omega) (by omega)] at f2
      exact h5 (i - 1) (k2 - 1) j j2 (by omega) (by omega) c d e f2
theorem os_no {σ ρ μ : Nat → Nat → Int32} {n o : Nat} (h : OS σ ρ μ o n) (hp : plB ρ o = false) : OS σ ρ μ (o + 1) n := by
  obtain ⟨h1, h2, h3, h4, h5⟩ := h
  refine ⟨by omega, h2, fun i hi => by obtain ⟨j, a, b, c⟩ := h3 i hi; exact ⟨j, by omega, b, c⟩, fun j hj hq => h4 j ?_ hq, h5⟩
  by_cases e : j = o
  · subst e; rw [hp] at hq; cases hq
  · omega
def OP (σ μ μ' : Nat → Nat → Int32) (a : Int32) : Prop := LQP σ μ μ' ∧ LV μ' (suC σ a)
theorem OP.up {σ μ μ' : Nat → Nat → Int32} {a : Int32} (h : OP σ μ μ' a) (f : Nat → Int32) : OP σ μ (rw2 μ' 15 f) a := ⟨⟨fun k hk => (rw2_n _ _ (by omega)).trans (h.1.1 k hk), h.1.2.elim fun q hq => ⟨q, hq⟩⟩, fun j hj => by rw [rw2_n _ _ (by decide)]; exact h.2 j hj⟩
theorem OP.up2 {σ μ μ' : Nat → Nat → Int32} {a : Int32} (h : OP σ μ μ' a) (f : Nat → Int32) : OP σ μ (rw2 μ' 16 f) a := ⟨⟨fun k hk => (rw2_n _ _ (by omega)).trans (h.1.1 k hk), h.1.2.elim fun q hq => ⟨q, hq⟩⟩, fun j hj => by rw [rw2_n _ _ (by decide)]; exact h.2 j hj⟩
set_option maxRecDepth 100000 in
set_option maxHeartbeats 4000000 in
theorem m_X6_orders (l : Launch) (g : GG) (ad : Nat → Nat) (μ : Nat → Nat → Int32) (σ : Nat → Nat → Int32) (a : Int32) (hR : RI σ (μ 0)) (ha : a ≠ -1) : MME (U := {μ' : Nat → Nat → Int32 // OP σ μ μ' a ∧ ∃ n, OS σ (suC σ a) μ' 24 n}) l g yX6_orders cX6_orders 4 none 4 0 0 [.ref (ad 0), .int (a)] [moC g ad μ] (none) (fun u => [moC g ad u.1]) := by
  refine mk_me (by decide +kernel) (Nat.le_of_ble_eq_true rfl) (fun p e s m below meth c A hA X => ?_)
  refine w_aload_n X 0 rfl dX6_orders_0 ?_
  refine w_iload_n X 1 rfl dX6_orders_1 ?_
  refine w_meV X hA (U := {μ' : Nat → Nat → Int32 // LQP σ μ μ' ∧ LV μ' (suC σ (a))}) (gr := []) (gs1 := fun u => [moC g ad u.1]) [0] [] 0 0 (m_X6_survives l g ad μ σ (a) (hR) (ha)) cv_X6_survives mk_X6_75 rfl rfl rfl (ng := 1) rfl (by decide) (fun _ => rfl) (fun _ => rfl) (fun _ => rfl) rfl rfl rfl ⟨Nat.le_of_ble_eq_true rfl, Nat.le_of_ble_eq_true rfl⟩ (Nat.le_of_ble_eq_true rfl) ⟨Nat.le_of_ble_eq_true rfl, Nat.le_of_ble_eq_true rfl⟩ dX6_orders_2 rfl (fun u => ?_)
  obtain ⟨μ1, hμ1⟩ := u
  try dsimp only
  have hR1 : RI σ (μ1 0) := hμ1.1.RI hR
  refine w_aload_n X 0 rfl dX6_orders_5 ?_
  refine w_iconst X (nI 0) dX6_orders_6 (by decide +kernel) ?_
  refine w_put X 0 0 rfl rfl rfl in_X6 tyX6 tyX6_ok nmX6 16 (by decide) fk_X6_78 rfl rfl rfl rfl (Nat.le_of_ble_eq_true rfl) (show _ = moC g ad (rw2 μ1 16 (fun _ => nI (0))) from rfl) dX6_orders_7 ?_
  refine w_iconst X (nI 0) dX6_orders_10 (by decide +kernel) ?_
  refine w_istore_n X dX6_orders_11 (by decide) ?_
  refine w_all [1, 2, 0] (rfl) (rfl) rfl (w_loop (st := []) (pc := 12) X (V := Nat × Nat × (Nat → Nat → Int32)) (fun (v12 : Nat × Nat × (Nat → Nat → Int32)) => 24 - v12.1) (fun (v12 : Nat × Nat × (Nat → Nat → Int32)) => (v12.1 ≤ 24) ∧ (OP σ μ v12.2.2 a) ∧ (OS σ (suC σ a) v12.2.2 v12.1 v12.2.1)) (fun (v12 : Nat × Nat × (Nat → Nat → Int32)) => [(0, .ref (ad 0)), (1, .int (a)), (2, .int (nI v12.1))]) (fun (v12 : Nat × Nat × (Nat → Nat → Int32)) => [moC g ad v12.2.2]) (fun v12 hv12 ih12 => ?_) (0, 0, rw2 μ1 16 (fun _ => nI 0)) (by (try dsimp only); exact ⟨by omega, OP.up2 hμ1 _, ⟨Nat.le_refl _, rfl, fun i h => by omega, fun j h => by omega, fun i k j j' h1 h2 => by omega⟩⟩))
  obtain ⟨o, n, μ4⟩ := v12
  obtain ⟨ho, hA4, hO⟩ := hv12
  try dsimp only at ho hA4 hO ih12 ⊢
  refine w_iload_n X 2 rfl dX6_orders_12 ?_
  refine w_bipush X (nI 24) dX6_orders_13 (by decide +kernel) ?_
  refine w_nc_ge X (by omega) (by omega) 95 dX6_orders_15 (by decide) (fun c15 => ?_) (fun c15 => ?_)
  · have he_o : o = 24 := by omega
    exact w_vret_me X ⟨μ4, hA4, n, by rw [← he_o]; exact hO⟩ rfl (Nat.le_of_ble_eq_true rfl) (Nat.le_of_ble_eq_true rfl) dX6_orders_95
  · have hR4 : RI σ (μ4 0) := hA4.1.1.RI hR
    have hno := hO.1
    refine w_aload_n X 0 rfl dX6_orders_18 ?_
    refine w_get X 0 0 rfl rfl rfl in_X6 14 (by decide) fk_X6_28 rfl dX6_orders_19 ?_
    refine w_iload_n X 2 rfl dX6_orders_22 ?_
    refine w_zald_n X 0 7 1 rfl rfl rfl (by omega) (by decide) dX6_orders_23 ?_
    refine w_if_eq X 89 dX6_orders_24 (by decide) (fun c24 => ?_) (fun c24 => ?_)
    · refine w_iinc X (nI (o + 1)) 2 rfl (nI_1 _) dX6_orders_89 (by decide) ?_
      refine w_goto X 12 dX6_orders_92 (by decide) ?_
      exact w_all [1, 2, 0] (rfl) (rfl) rfl (ih12 (o + 1, n, μ4) (by omega) (by (try dsimp only); exact ⟨by omega, hA4, os_no hO (lv_f hA4.2 (by omega) c24)⟩))
    · refine w_aload_n X 0 rfl dX6_orders_27 ?_
      refine w_get X 0 0 rfl rfl rfl in_X6 16 (by decide) fk_X6_78 rfl dX6_orders_28 ?_
      refine w_st (st2 := [.int (nI n)]) (by rw [hO.2.1]) ?_
      refine w_istore_n X dX6_orders_31 (by decide) ?_
      refine w_all [1, 2, 3, 0] (rfl) (rfl) rfl (w_loop (st := []) (pc := 32) X (V := Nat × (Nat → Nat → Int32)) (fun (v32 : Nat × (Nat → Nat → Int32)) => v32.1) (fun (v32 : Nat × (Nat → Nat → Int32)) => (v32.1 ≤ n) ∧ (OP σ μ v32.2 a) ∧ (v32.2 16 0 = nI n) ∧ (MV σ μ4 v32.2 n v32.1 o)) (fun (v32 : Nat × (Nat → Nat → Int32)) => [(0, .ref (ad 0)), (1, .int (a)), (2, .int (nI o)), (3, .int (nI v32.1))]) (fun (v32 : Nat × (Nat → Nat → Int32)) => [moC g ad v32.2]) (fun v32 hv32 ih32 => ?_) (n, μ4) (by (try dsimp only); exact ⟨Nat.le_refl _, hA4, hO.2.1, ⟨fun _ _ => rfl, fun i h1 h2 => by omega⟩⟩))
      obtain ⟨k, μ5⟩ := v32
      obtain ⟨hk, hA5, h16, hM⟩ := hv32
      try dsimp only at hk hA5 h16 hM ih32 ⊢
      refine w_iload_n X 3 rfl dX6_orders_32 ?_
      refine w_if_le X 72 dX6_orders_33 (by decide) (fun c33 => ?_) (fun c33 => ?_)
      · have hR5 : RI σ (μ5 0) := hA5.1.1.RI hR
        refine w_aload_n X 0 rfl dX6_orders_72 ?_
        refine w_get X 0 0 rfl rfl rfl in_X6 15 (by decide) fk_X6_32 rfl dX6_orders_73 ?_
        refine w_iload_n X 3 rfl dX6_orders_76 ?_
        refine w_iload_n X 2 rfl dX6_orders_77 ?_
        refine w_iast_n X 0 8 0 rfl rfl rfl (by omega) (by decide) (show _ = moC g ad (rw2 μ5 15 (upd (μ5 15) k (nI (o)))) from rfl) dX6_orders_78 ?_
        refine w_aload_n X 0 rfl dX6_orders_79 ?_
        refine w_dup X dX6_orders_80 rfl ?_
        refine w_get X 0 0 rfl rfl rfl in_X6 16 (by decide) fk_X6_78 rfl dX6_orders_81 ?_
        refine w_st (st2 := [.int (μ5 16 0), .ref (ad 0)]) rfl ?_
        refine w_st (st2 := [.int (nI n), .ref (ad 0)]) (by rw [h16] <;> rfl) ?_
        refine w_iconst X (nI 1) dX6_orders_84 (by decide +kernel) ?_
        refine w_iadd_n X dX6_orders_85 ?_
        refine w_put X 0 0 rfl rfl rfl in_X6 tyX6 tyX6_ok nmX6 16 (by decide) fk_X6_78 rfl rfl rfl rfl (Nat.le_of_ble_eq_true rfl) (show _ = moC g ad (rw2 (rw2 μ5 15 (upd (μ5 15) k (nI (o)))) 16 (fun _ => nI (n + 1))) from rfl) dX6_orders_86 ?_
        refine w_iinc X (nI (o + 1)) 2 rfl (nI_1 _) dX6_orders_89 (by decide) ?_
        refine w_goto X 12 dX6_orders_92 (by decide) ?_
        exact w_all [1, 2, 0] (rfl) (rfl) rfl (ih12 (o + 1, n + 1, rw2 (rw2 μ5 15 (upd (μ5 15) k (nI (o)))) 16 (fun _ => nI (n + 1))) (by omega) (by (try dsimp only); exact ⟨by omega, (hA5.up _).up2 _, os_ins hO (by omega) (lv_t hA4.2 (by omega) c24) hM hk (fun j hj hp e => by obtain ⟨q4, hF4⟩ := hA4.1.2; have := rN_inj hR4 hF4 (o := j) (j := o) (by omega) (by omega) (su_use hR ha (by omega) hp).1 (su_use hR ha (by omega) (lv_t hA4.2 (by omega) c24)).1 ((su_use hR ha (by omega) hp).2.trans (su_use hR ha (by omega) (lv_t hA4.2 (by omega) c24)).2.symm) e; omega) (Or.inl ((le0 (by omega)).mp c33)) _ (fun i => rfl) _ rfl⟩))
      · have hk0 : 0 < k := Nat.pos_of_ne_zero (fun e => c33 ((le0 (by omega)).mpr e))
        obtain ⟨j, hjo, hj0, hjp⟩ := hO.2.2.1 (k - 1) (by omega)
        have hj5 : μ5 15 (k - 1) = nI j := (hM.1 (k - 1) (by omega)).trans hj0
        obtain ⟨q5, hF5⟩ := hA5.1.2
        have hpo := lv_t hA4.2 (by omega) c24
        have uo := su_use hR ha (by omega) hpo
        have uj := su_use hR ha (by omega) hjp
        have hR5 : RI σ (μ5 0) := hA5.1.1.RI hR
        refine w_aload_n X 0 rfl dX6_orders_36 ?_
        refine w_iload_n X 2 rfl dX6_orders_37 ?_
        refine w_aload_n X 0 rfl dX6_orders_38 ?_
        refine w_get X 0 0 rfl rfl rfl in_X6 15 (by decide) fk_X6_32 rfl dX6_orders_39 ?_
        refine w_iload_n X 3 rfl dX6_orders_42 ?_
        refine w_iconst X (nI 1) dX6_orders_43 (by decide +kernel) ?_
        refine w_isub_n X (by omega) dX6_orders_44 ?_
        refine w_iald_n X 0 8 0 rfl rfl rfl (by omega) (by decide) dX6_orders_45 ?_
        refine w_st (st2 := [.int (nI j), .int (nI o), .ref (ad 0)]) (by rw [hj5] <;> rfl) ?_
        refine w_roV X [0] 0 0 (m_X6_isAhead l g ad μ5 σ q5 o j (by omega) (by omega) (uo.1) (uj.1) (hR5) (hF5)) cv_X6_isAhead mk_X6_81 rfl rfl rfl rfl rfl ⟨Nat.le_of_ble_eq_true rfl, Nat.le_of_ble_eq_true rfl⟩ (Nat.le_of_ble_eq_true rfl) ⟨Nat.le_of_ble_eq_true rfl, Nat.le_of_ble_eq_true rfl⟩ dX6_orders_46 rfl ?_
        refine w_bf_eq X 72 dX6_orders_49 (by decide) (fun c49 => ?_) (fun c49 => ?_)
        · refine w_aload_n X 0 rfl dX6_orders_72 ?_
          refine w_get X 0 0 rfl rfl rfl in_X6 15 (by decide) fk_X6_32 rfl dX6_orders_73 ?_
          refine w_iload_n X 3 rfl dX6_orders_76 ?_
          refine w_iload_n X 2 rfl dX6_orders_77 ?_
          refine w_iast_n X 0 8 0 rfl rfl rfl (by omega) (by decide) (show _ = moC g ad (rw2 μ5 15 (upd (μ5 15) k (nI (o)))) from rfl) dX6_orders_78 ?_
          refine w_aload_n X 0 rfl dX6_orders_79 ?_
          refine w_dup X dX6_orders_80 rfl ?_
          refine w_get X 0 0 rfl rfl rfl in_X6 16 (by decide) fk_X6_78 rfl dX6_orders_81 ?_
          refine w_st (st2 := [.int (μ5 16 0), .ref (ad 0)]) rfl ?_
          refine w_st (st2 := [.int (nI n), .ref (ad 0)]) (by rw [h16] <;> rfl) ?_
          refine w_iconst X (nI 1) dX6_orders_84 (by decide +kernel) ?_
          refine w_iadd_n X dX6_orders_85 ?_
          refine w_put X 0 0 rfl rfl rfl in_X6 tyX6 tyX6_ok nmX6 16 (by decide) fk_X6_78 rfl rfl rfl rfl (Nat.le_of_ble_eq_true rfl) (show _ = moC g ad (rw2 (rw2 μ5 15 (upd (μ5 15) k (nI (o)))) 16 (fun _ => nI (n + 1))) from rfl) dX6_orders_86 ?_
          refine w_iinc X (nI (o + 1)) 2 rfl (nI_1 _) dX6_orders_89 (by decide) ?_
          refine w_goto X 12 dX6_orders_92 (by decide) ?_
          exact w_all [1, 2, 0] (rfl) (rfl) rfl (ih12 (o + 1, n + 1, rw2 (rw2 μ5 15 (upd (μ5 15) k (nI (o)))) 16 (fun _ => nI (n + 1))) (by omega) (by (try dsimp only); exact ⟨by omega, (hA5.up _).up2 _, os_ins hO (by omega) (lv_t hA4.2 (by omega) c24) hM hk (fun j hj hp e => by obtain ⟨q4, hF4⟩ := hA4.1.2; have := rN_inj hR4 hF4 (o := j) (j := o) (by omega) (by omega) (su_use hR ha (by omega) hp).1 (su_use hR ha (by omega) (lv_t hA4.2 (by omega) c24)).1 ((su_use hR ha (by omega) hp).2.trans (su_use hR ha (by omega) (lv_t hA4.2 (by omega) c24)).2.symm) e; omega) (Or.inr ⟨j, by omega, hj0, of_decide_eq_false c49⟩) _ (fun i => rfl) _ rfl⟩))
        · refine w_aload_n X 0 rfl dX6_orders_52 ?_
          refine w_get X 0 0 rfl rfl rfl in_X6 15 (by decide) fk_X6_32 rfl dX6_orders_53 ?_
          refine w_iload_n X 3 rfl dX6_orders_56 ?_
          refine w_aload_n X 0 rfl dX6_orders_57 ?_
          refine w_get X 0 0 rfl rfl rfl in_X6 15 (by decide) fk_X6_32 rfl dX6_orders_58 ?_
          refine w_iload_n X 3 rfl dX6_orders_61 ?_
          refine w_iconst X (nI 1) dX6_orders_62 (by decide +kernel) ?_
          refine w_isub_n X (by omega) dX6_orders_63 ?_
          refine w_iald_n X 0 8 0 rfl rfl rfl (by omega) (by decide) dX6_orders_64 ?_
          refine w_iast_n X 0 8 0 rfl rfl rfl (by omega) (by decide) (show _ = moC g ad (rw2 μ5 15 (upd (μ5 15) k ((μ5 15 (k - 1))))) from rfl) dX6_orders_65 ?_
          refine w_iinc X (nI (k - 1)) 3 rfl (nI_dec (by omega)) dX6_orders_66 (by decide) ?_
          refine w_goto X 32 dX6_orders_69 (by decide) ?_
          exact w_all [1, 2, 3, 0] (rfl) (rfl) rfl (ih32 (k - 1, rw2 μ5 15 (upd (μ5 15) k ((μ5 15 (k - 1))))) (by (try dsimp only); omega) (by (try dsimp only); exact ⟨by omega, hA5.up _, by rw [rw2_n _ _ (by decide)]; exact h16, mv_step hM hk0 hk (by omega) hj0 (of_decide_eq_true c49) _ hj5⟩))
