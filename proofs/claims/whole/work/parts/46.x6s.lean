/-! The model: giveBack -/
def gibO (σ : Nat → Nat → Int32) (x y : Int32) : OC := if isArB x = false then .inr iOE else if isArB y = false then .inr iOE else if x = y then .inr iAE else if rsC σ x y = 0 then rI (suC σ x 3 0) else .inr iSE
theorem rs_1 {σ : Nat → Nat → Int32} {x y : Int32} : rsC σ x y = nI 1 ↔ x = y := by
  rw [rs_eq]
  constructor
  · intro h
    repeat' split at h
    · assumption
    all_goals exact absurd h (by decide)
  · intro h
    rw [if_pos h]
def LY (σ ρ : Nat → Nat → Int32) (b n i : Nat) (z : Int32) (μ0 μ2 : Nat → Nat → Int32) : Prop := (∀ j, j ≠ 0 → μ2 j = μ0 j) ∧ ZS σ ρ μ0 n i (σ 9 b) z ∧ μ2 0 (6 + 3 * b + 1) = z ∧ μ2 0 3 = μ0 0 3 + nI i ∧ (∀ o y, o < 24 → y < i → μ0 15 y = nI o → μ2 0 (24 + 9 * o + 1) = nI b ∧ μ2 0 (24 + 9 * o + 2) = landL σ (trC σ (-1)) ρ (rankI σ (trC σ (-1)) (nI o)) (σ 9 b) 24 ∧ μ2 0 (24 + 9 * o + 8) = μ0 0 (24 + 9 * o + 8) + nI 1) ∧ ∀ k, k < 240 → k ≠ 3 → k ≠ 6 + 3 * b + 1 → (∀ o y, o < 24 → y < i → μ0 15 y = nI o → k ≠ 24 + 9 * o + 1 ∧ k ≠ 24 + 9 * o + 2 ∧ k ≠ 24 + 9 * o + 8) → μ2 0 k = μ0 0 k
theorem ly_0 {σ ρ μ0 : Nat → Nat → Int32} {b n : Nat} (hb : b < 6) (hR : RI σ (μ0 0)) (hO : OS σ ρ μ0 24 n) : LY σ ρ b n 0 (σ 9 b) μ0 μ0 := ⟨fun _ _ => rfl, zs_0 hO _, (hR.2.2.1 b hb).2.1, (add_0 _).symm, fun o y _ h => by omega, fun _ _ _ _ _ => rfl⟩
theorem ly_new {σ ρ μ0 : Nat → Nat → Int32} {b n i o : Nat} {z : Int32} (hO : OS σ ρ μ0 24 n) (hi : i < n) (ho : o < 24) (e : μ0 15 i = nI o) : ∀ o2 y, o2 < 24 → y < i → μ0 15 y = nI o2 → o2 ≠ o := fun o2 y h2 hy e2 h => by
  have := hO.2.2.2.2 y i o2 o hy hi h2 ho e2 e
  rw [h] at this
  omega
theorem ly_s {σ ρ μ0 μ2 μ' : Nat → Nat → Int32} {a : Int32} {N : Nat → Int32} {b n i o q : Nat} {z : Int32} {μf : Nat → Nat → Int32} (hRN : RI σ N) (hρ : ρ = suC σ a) (ha : a ≠ -1) (hF : FM σ μf (trC σ (-1)) q) (hO : OS σ ρ μ0 24 n) (hb : b < 6) (hi : i < n) (ho : o < 24) (e : μ0 15 i = nI o) (hp : plB ρ o = true) (h : LY σ ρ b n i z μ0 μ2) (r : ∀ j, j ≠ 0 → μ' j = μ2 j) (e1 : μ' 0 (24 + 9 * o + 1) = nI b) (e2 : μ' 0 (24 + 9 * o + 2) = μ2 0 (6 + 3 * b + 1)) (e8 : μ' 0 (24 + 9 * o + 8) = μ2 0 (24 + 9 * o + 8) + nI 1) (em : μ' 0 (6 + 3 * b + 1) = μ2 0 (6 + 3 * b + 1) + σ 3 o) (e3 : μ' 0 3 = μ2 0 3 + nI 1) (rest : ∀ k, k ≠ 3 → k ≠ 6 + 3 * b + 1 → k ≠ 24 + 9 * o + 1 → k ≠ 24 + 9 * o + 2 → k ≠ 24 + 9 * o + 8 → μ' 0 k = μ2 0 k) : LY σ ρ b n (i + 1) (z + σ 3 o) μ0 μ' := by
  obtain ⟨h1, h2, h3, h4, h5, h6⟩ := h
  have nw := ly_new (b := b) (z := z) hO hi ho e
  have fresh : ∀ k, k = 24 + 9 * o + 1 ∨ k = 24 + 9 * o + 2 ∨ k = 24 + 9 * o + 8 → μ2 0 k = μ0 0 k := fun k hk => h6 k (by omega) (by omega) (by omega) (fun o2 y a2 c d => by
    have := nw o2 y a2 c d
    omega)
  refine ⟨fun j hj => (r j hj).trans (h1 j hj), zs_s hO hi ho hp e h2, by rw [em, h3], by rw [e3, h4, Int32.add_assoc, nI_add], fun o2 y a2 c d => ?_, fun k k1 k2 k3 k4 => ?_⟩
  · by_cases g : y = i
    · subst g
      have : o2 = o := (nI_eq (by omega) (by omega)).mp (d.symm.trans e)
      subst this
      refine ⟨e1, ?_, by rw [e8, fresh _ (Or.inr (Or.inr rfl))]⟩
      rw [e2, h3]
      subst hρ
      exact (zs_at hRN ha hF hO hi ho e h2).2.symm
    · have ne := nw o2 y a2 (by omega) d
      obtain ⟨g1, g2, g3⟩ := h5 o2 y a2 (by omega) d
      rw [rest _ (by omega) (by omega) (by omega) (by omega) (by omega), rest _ (by omega) (by omega) (by omega) (by omega) (by omega), rest _ (by omega) (by omega) (by omega) (by omega) (by omega)]
      exact ⟨g1, g2, g3⟩
  · obtain ⟨g1, g2, g3⟩ := k4 o i ho (by omega) e
    rw [rest k k2 k3 g1 g2 g3]
    exact h6 k k1 k2 k3 (fun o2 y a2 c d => k4 o2 y a2 (by omega) d)
theorem ly_end {σ μ0 μ2 μf : Nat → Nat → Int32} {a b n q : Nat} {z : Int32} (hR : RI σ (μ0 0)) (hF : FM σ μf (trC σ (-1)) q) (ha : a < 6) (hb : b < 6) (hab : ¬ a = b) (h0 : rsC σ (nI a) (nI b) = 0) (hO : OS σ (suC σ (nI a)) μ0 24 n) (h : LY σ (suC σ (nI a)) b n n z μ0 μ2) : RI (cyC σ (nI a) b 24) (μ2 0) ∧ suC σ (nI a) 3 0 = nI n := by
  obtain ⟨h1, h2, h3, h4, h5, h6⟩ := h
  have hna : (nI a : Int32) ≠ -1 := nI_nm1 (by omega)
  have rk : ∀ j, j < 24 → plB (suC σ (nI a)) j = true → rkN σ j < 100 := fun j hj hp => (rk_nI hR hF hj (su_use hR hna hj hp).1).2
  have bl : ∀ j, j < 24 → blB σ (suC σ (nI a)) 100 j = plB (suC σ (nI a)) j := fun j hj => by
    rw [blB]
    rcases hp : plB (suC σ (nI a)) j with _ | _
    · rfl
    · rw [if_pos rfl]; exact decide_eq_true (rk j hj hp)
  have up : ∀ y j, y < n → j < 24 → μ0 15 y = nI j → rkN σ j < 100 := fun y j hy hj e => by
    obtain ⟨k, hk, e2, hp⟩ := hO.2.2.1 y hy
    have : j = k := (nI_eq (by omega) (by omega)).mp (e.symm.trans e2)
    subst this
    exact rk j hj hp
  have c := cn_os hO n (Nat.le_refl _) 100 up (fun y j a2 b2 => by omega)
  rw [cn_eq 24 bl] at c
  have s := h2 100 up (fun y j a2 b2 => by omega)
  rw [sumI_eq 24 bl] at s
  refine ⟨ri_lay hR hF ha hb hab h0 (fun o ho hp => ?_) (fun k k1 k2 k3 k4 => h6 k k1 k2 k3 (fun o y o1 o2 o3 => ?_)) (by rw [h4, c]) (by rw [h3, ← s, (hR.2.2.1 b hb).2.1]), ?_⟩
  · obtain ⟨y, hy, e⟩ := hO.2.2.2.1 o ho hp
    exact h5 o y ho hy e
  · obtain ⟨k, hk, e2, hp⟩ := hO.2.2.1 y o2
    have : o = k := (nI_eq (by omega) (by omega)).mp (o3.symm.trans e2)
    subst this
    exact k4 o o1 hp
  · obtain ⟨⟨q2, hq2⟩, -⟩ := su_clo hR.1.2.2.2.2.2.1 hna
    rw [hq2.2.1, ← hq2.2.2.2.2, c]
set_option maxRecDepth 100000 in
set_option maxHeartbeats 4000000 in
theorem m_X6_giveBack (l : Launch) (g : GG) (ad : Nat → Nat) (μ : Nat → Nat → Int32) (σ : Nat → Nat → Int32) (v : Nat) (x : Int32) (y : Int32) (hR : RI σ (μ 0)) (hv : μ 2 0 = nI v) (hv6 : v ≤ 6) : MME (U := {μ' : Nat → Nat → Int32 // MC (gbS σ x.toNatClampNeg y.toNatClampNeg) (gibO σ x y) [iOE, iAE, iSE] v μ μ'}) l g yX6_giveBack cX6_giveBack 6 (some .int) 7 0 0 [.ref (ad 0), .int (x), .int (y)] [moC g ad μ] (some (.int (vO (gibO σ x y)))) (fun u => [moC g ad u.1]) := by
  refine mk_me (by decide +kernel) (Nat.le_of_ble_eq_true rfl) (fun p e s m below meth c A hA X => ?_)
  refine w_aload_n X 0 rfl dX6_giveBack_0 ?_
  refine w_iconst X (nI 0) dX6_giveBack_1 (by decide +kernel) ?_
  refine w_put X 0 0 rfl rfl rfl in_X6 tyX6 tyX6_ok nmX6 5 (by decide) fk_X6_35 rfl rfl rfl rfl (Nat.le_of_ble_eq_true rfl) (show _ = moC g ad (rw2 μ 5 (fun _ => nI (0))) from rfl) dX6_giveBack_2 ?_
  refine w_iload_n X 1 rfl dX6_giveBack_5 ?_
  refine w_roS X [] (m_X6_isArena l g (x)) cs_X6_isArena mk_X6_103 rfl rfl ⟨Nat.le_of_ble_eq_true rfl, Nat.le_of_ble_eq_true rfl⟩ (Nat.le_of_ble_eq_true rfl) ⟨Nat.le_of_ble_eq_true rfl, Nat.le_of_ble_eq_true rfl⟩ dX6_giveBack_6 rfl ?_
  refine w_bf_eq X 19 dX6_giveBack_9 (by decide) (fun c9 => ?_) (fun c9 => ?_)
  · refine w_aload_n X 0 rfl dX6_giveBack_19 ?_
    refine w_iconst X (nI 1) dX6_giveBack_20 (by decide +kernel) ?_
    refine w_muV X hA (gr := []) (gs1 := [moC g ad (rw2 (rw2 μ 5 (fun _ => nI (0))) 5 (fun _ => nI 1))]) [0] [] 0 0 (m_X6_fails l g ad (rw2 μ 5 (fun _ => nI (0))) 1) cv_X6_fails mk_X6_50 rfl rfl rfl (ng := 1) rfl (by decide) rfl rfl rfl rfl rfl rfl ⟨Nat.le_of_ble_eq_true rfl, Nat.le_of_ble_eq_true rfl⟩ (Nat.le_of_ble_eq_true rfl) ⟨Nat.le_of_ble_eq_true rfl, Nat.le_of_ble_eq_true rfl⟩ dX6_giveBack_21 rfl ?_
    exact w_iret_me X ⟨rw2 (rw2 μ 5 (fun _ => nI (0))) 5 (fun _ => nI 1), by rw [gibO, if_pos c9]; exact mc_r (lk_1 _ _ _)⟩ (by rw [gibO, if_pos c9]; rfl) rfl (Nat.le_of_ble_eq_true rfl) (Nat.le_of_ble_eq_true rfl) dX6_giveBack_24
  · obtain ⟨a, ha, rfl⟩ := isArB_ex c9
    refine w_iload_n X 2 rfl dX6_giveBack_12 ?_
    refine w_roS X [] (m_X6_isArena l g (y)) cs_X6_isArena mk_X6_103 rfl rfl ⟨Nat.le_of_ble_eq_true rfl, Nat.le_of_ble_eq_true rfl⟩ (Nat.le_of_ble_eq_true rfl) ⟨Nat.le_of_ble_eq_true rfl, Nat.le_of_ble_eq_true rfl⟩ dX6_giveBack_13 rfl ?_
    refine w_bf_ne X 25 dX6_giveBack_16 (by decide) (fun c16 => ?_) (fun c16 => ?_)
    · obtain ⟨b, hb, rfl⟩ := isArB_ex c16
      refine w_aload_n X 0 rfl dX6_giveBack_25 ?_
      refine w_iload_n X 1 rfl dX6_giveBack_26 ?_
      refine w_iload_n X 2 rfl dX6_giveBack_27 ?_
      refine w_meV X hA (U := {μ' : Nat → Nat → Int32 // scr (rw2 μ 5 (fun _ => nI (0))) μ'}) (gr := []) (gs1 := fun u => [moC g ad u.1]) [0] [] 0 0 (m_X6_reason l g ad (rw2 μ 5 (fun _ => nI (0))) σ a b (hR) (by omega) (by omega)) cv_X6_reason mk_X6_125 rfl rfl rfl (ng := 1) rfl (by decide) (fun _ => rfl) (fun _ => rfl) (fun _ => rfl) rfl rfl rfl ⟨Nat.le_of_ble_eq_true rfl, Nat.le_of_ble_eq_true rfl⟩ (Nat.le_of_ble_eq_true rfl) ⟨Nat.le_of_ble_eq_true rfl, Nat.le_of_ble_eq_true rfl⟩ dX6_giveBack_28 rfl (fun u => ?_)
      obtain ⟨μ1, hμ1⟩ := u
      try dsimp only
      have hR1 : RI σ (μ1 0) := hμ1.RI hR
      refine w_istore_n X dX6_giveBack_31 (by decide) ?_
      refine w_iload_n X 0 rfl dX6_giveBack_32 ?_
      refine w_if_le X 51 dX6_giveBack_33 (by decide) (fun c33 => ?_) (fun c33 => ?_)
      · have hne : ¬ (nI a : Int32) = nI b := fun e => by have h1 := (rs_1 (σ := σ)).mpr e; rw [rs_le.mp c33] at h1; exact absurd h1 (by decide)
        have hab : ¬ a = b := fun e => hne (by rw [e])
        refine w_aload_n X 1 rfl dX6_giveBack_51 ?_
        refine w_meV X hA (U := {μ' : Nat → Nat → Int32 // SQ μ1 μ' v}) (gr := []) (gs1 := fun u => [moC g ad u.1]) [0] [] 0 0 (m_X6_saves l g ad μ1 v (by rw [hμ1 2 (by decide)]; exact hv) (hv6)) cv_X6_saves mk_X6_97 rfl rfl rfl (ng := 1) rfl (by decide) (fun _ => rfl) (fun _ => rfl) (fun _ => rfl) rfl rfl rfl ⟨Nat.le_of_ble_eq_true rfl, Nat.le_of_ble_eq_true rfl⟩ (Nat.le_of_ble_eq_true rfl) ⟨Nat.le_of_ble_eq_true rfl, Nat.le_of_ble_eq_true rfl⟩ dX6_giveBack_52 rfl (fun u => ?_)
        obtain ⟨μ2, hμ2⟩ := u
        try dsimp only
        have hR2 : RI σ (μ2 0) := by rw [hμ2.1 0 (by decide) (by decide)]; exact hR1
        refine w_aload_n X 1 rfl dX6_giveBack_55 ?_
        refine w_iload_n X 2 rfl dX6_giveBack_56 ?_
        refine w_meV X hA (U := {μ' : Nat → Nat → Int32 // OP σ μ2 μ' (nI (a)) ∧ ∃ n, OS σ (suC σ (nI (a))) μ' 24 n}) (gr := []) (gs1 := fun u => [moC g ad u.1]) [0] [] 0 0 (m_X6_orders l g ad μ2 σ (nI (a)) (hR2) (nI_nm1 (by omega))) cv_X6_orders mk_X6_128 rfl rfl rfl (ng := 1) rfl (by decide) (fun _ => rfl) (fun _ => rfl) (fun _ => rfl) rfl rfl rfl ⟨Nat.le_of_ble_eq_true rfl, Nat.le_of_ble_eq_true rfl⟩ (Nat.le_of_ble_eq_true rfl) ⟨Nat.le_of_ble_eq_true rfl, Nat.le_of_ble_eq_true rfl⟩ dX6_giveBack_57 rfl (fun u => ?_)
        obtain ⟨μ3, hμ3⟩ := u
        try dsimp only
        have hR3 : RI σ (μ3 0) := hμ3.1.1.1.RI hR2
        obtain ⟨n, hO⟩ := hμ3.2
        obtain ⟨q, hF⟩ := hμ3.1.1.2
        have hn24 := hO.1
        refine w_iconst X (nI 0) dX6_giveBack_60 (by decide +kernel) ?_
        refine w_istore X dX6_giveBack_61 (by decide) ?_
        refine w_all [2, 3, 4, 0] (rfl) (rfl) rfl (w_loop (st := []) (pc := 63) X (V := Nat × Int32 × (Nat → Nat → Int32)) (fun (v63 : Nat × Int32 × (Nat → Nat → Int32)) => n - v63.1) (fun (v63 : Nat × Int32 × (Nat → Nat → Int32)) => (v63.1 ≤ n) ∧ (LY σ (suC σ (nI a)) b n v63.1 v63.2.1 μ3 v63.2.2)) (fun (v63 : Nat × Int32 × (Nat → Nat → Int32)) => [(0, .ref (ad 0)), (1, .int (nI a)), (2, .int (nI b)), (4, .int (nI v63.1))]) (fun (v63 : Nat × Int32 × (Nat → Nat → Int32)) => [moC g ad v63.2.2]) (fun v63 hv63 ih63 => ?_) (0, σ 9 b, μ3) (by (try dsimp only); exact ⟨Nat.zero_le _, ly_0 hb hR3 hO⟩))
        obtain ⟨i, z, μ4⟩ := v63
        obtain ⟨hi, hL⟩ := hv63
        try dsimp only at hi hL ih63 ⊢
        refine w_iload X 3 rfl dX6_giveBack_63 ?_
        refine w_aload_n X 0 rfl dX6_giveBack_65 ?_
        refine w_get X 0 0 rfl rfl rfl in_X6 16 (by decide) fk_X6_78 rfl dX6_giveBack_66 ?_
        refine w_st (st2 := [.int (nI n), .int (nI i)]) (by exact congrArg (fun v => Value.int v :: _) (by rw [hL.1 16 (by decide)]; exact hO.2.1)) ?_
        refine w_nc_ge X (by omega) (by omega) 161 dX6_giveBack_69 (by decide) (fun c69 => ?_) (fun c69 => ?_)
        · have he_i : i = n := by omega
          subst he_i
          have hfin := ly_end hR3 hF ha hb hab (rs_le.mp c33) hO hL
          refine w_aload_n X 0 rfl dX6_giveBack_161 ?_
          refine w_iload_n X 1 rfl dX6_giveBack_162 ?_
          refine w_meV X hA (U := {μ' : Nat → Nat → Int32 // (∀ j, j ≠ 0 → μ' j = μ4 j) ∧ RI (freeS (cyC σ (nI a) b 24) a) (μ' 0)}) (gr := []) (gs1 := fun u => [moC g ad u.1]) [0] [] 0 0 (m_X6_frees l g ad μ4 (cyC σ (nI a) b 24) a (hfin.1) (by omega)) cv_X6_frees mk_X6_131 rfl rfl rfl (ng := 1) rfl (by decide) (fun _ => rfl) (fun _ => rfl) (fun _ => rfl) rfl rfl rfl ⟨Nat.le_of_ble_eq_true rfl, Nat.le_of_ble_eq_true rfl⟩ (Nat.le_of_ble_eq_true rfl) ⟨Nat.le_of_ble_eq_true rfl, Nat.le_of_ble_eq_true rfl⟩ dX6_giveBack_163 rfl (fun u => ?_)
          obtain ⟨μ4, hμ4⟩ := u
          try dsimp only
          refine w_pop X dX6_giveBack_166 rfl ?_
          refine w_aload_n X 0 rfl dX6_giveBack_167 ?_
          refine w_get X 0 0 rfl rfl rfl in_X6 16 (by decide) fk_X6_78 rfl dX6_giveBack_168 ?_
          exact w_iret_me X ⟨μ4, by rw [gibO, if_neg (by rw [c9]; decide), if_neg (by rw [c16]; decide), if_neg hne, if_pos (rs_le.mp c33), nI_clamp (by omega), nI_clamp (by omega)]; exact mc_l2 (fun j hj => hμ1 j (by omega)) hμ2 (fun j j0 j6 => (hμ4.1 j j0).trans ((hL.1 j j0).trans (hμ3.1.1.1 j (by omega)))) hμ4.2⟩ (by rw [gibO, if_neg (by rw [c9]; decide), if_neg (by rw [c16]; decide), if_neg hne, if_pos (rs_le.mp c33)]; exact ((congrFun (hμ4.1 16 (by decide)) 0).trans ((congrFun (hL.1 16 (by decide)) 0).trans hO.2.1)).trans hfin.2.symm) rfl (Nat.le_of_ble_eq_true rfl) (Nat.le_of_ble_eq_true rfl) dX6_giveBack_171
        · obtain ⟨o, ho, ho0, hop⟩ := hO.2.2.1 i (by omega)
          have ho2 : μ4 15 i = nI o := by rw [hL.1 15 (by decide)]; exact ho0
          refine w_aload_n X 0 rfl dX6_giveBack_72 ?_
          refine w_get X 0 0 rfl rfl rfl in_X6 15 (by decide) fk_X6_32 rfl dX6_giveBack_73 ?_
          refine w_iload X 3 rfl dX6_giveBack_76 ?_
          refine w_iald_n X 0 8 0 rfl rfl rfl (by omega) (by decide) dX6_giveBack_78 ?_
          refine w_st (st2 := [.int (nI o)]) (by exact congrArg (fun v => Value.int v :: _) (ho2)) ?_
          have s3 : μ4 0 (24 + 9 * o + 3) = σ 3 o := by rw [hL.2.2.2.2.2 _ (by omega) (by omega) (by omega) (fun o2 y _ _ _ => by omega)]; exact (hR3.at ho (su_use hR3 (nI_nm1 (by omega)) ho hop).1).2.2.1
          refine w_istore X dX6_giveBack_79 (by decide) ?_
          refine w_aload_n X 1 rfl dX6_giveBack_81 ?_
          refine w_iload X 0 rfl dX6_giveBack_82 ?_
          refine w_iconst X (nI 1) dX6_giveBack_84 (by decide +kernel) ?_
          refine w_iload_n X 3 rfl dX6_giveBack_85 ?_
          refine w_muV X hA (gr := []) (gs1 := [moC g ad (rw2 μ4 0 (upd (μ4 0) (24 + 9 * o + 1) (nI (b))))]) [0] [] 0 0 (m_X6_changes l g ad μ4 o 1 (nI (b)) (by omega) (by omega)) cv_X6_changes mk_X6_115 rfl rfl rfl (ng := 1) rfl (by decide) rfl rfl rfl rfl rfl rfl ⟨Nat.le_of_ble_eq_true rfl, Nat.le_of_ble_eq_true rfl⟩ (Nat.le_of_ble_eq_true rfl) ⟨Nat.le_of_ble_eq_true rfl, Nat.le_of_ble_eq_true rfl⟩ dX6_giveBack_86 rfl ?_
          refine w_pop X dX6_giveBack_89 rfl ?_
          refine w_aload_n X 1 rfl dX6_giveBack_90 ?_
          refine w_iload X 0 rfl dX6_giveBack_91 ?_
          refine w_iconst X (nI 2) dX6_giveBack_93 (by decide +kernel) ?_
          refine w_aload_n X 1 rfl dX6_giveBack_94 ?_
          refine w_iload_n X 3 rfl dX6_giveBack_95 ?_
          refine w_roV X [0] 0 0 (m_X6_mark l g ad (rw2 μ4 0 (upd (μ4 0) (24 + 9 * o + 1) (nI (b)))) b (by omega)) cv_X6_mark mk_X6_94 rfl rfl rfl rfl rfl ⟨Nat.le_of_ble_eq_true rfl, Nat.le_of_ble_eq_true rfl⟩ (Nat.le_of_ble_eq_true rfl) ⟨Nat.le_of_ble_eq_true rfl, Nat.le_of_ble_eq_true rfl⟩ dX6_giveBack_96 rfl ?_
          refine w_muV X hA (gr := []) (gs1 := [moC g ad (rw2 (rw2 μ4 0 (upd (μ4 0) (24 + 9 * o + 1) (nI (b)))) 0 (upd ((rw2 μ4 0 (upd (μ4 0) (24 + 9 * o + 1) (nI (b)))) 0) (24 + 9 * o + 2) ((rw2 μ4 0 (upd (μ4 0) (24 + 9 * o + 1) (nI (b)))) 0 (6 + 3 * b + 1))))]) [0] [] 0 0 (m_X6_changes l g ad (rw2 μ4 0 (upd (μ4 0) (24 + 9 * o + 1) (nI (b)))) o 2 ((rw2 μ4 0 (upd (μ4 0) (24 + 9 * o + 1) (nI (b)))) 0 (6 + 3 * b + 1)) (by omega) (by omega)) cv_X6_changes mk_X6_115 rfl rfl rfl (ng := 1) rfl (by decide) rfl rfl rfl rfl rfl rfl ⟨Nat.le_of_ble_eq_true rfl, Nat.le_of_ble_eq_true rfl⟩ (Nat.le_of_ble_eq_true rfl) ⟨Nat.le_of_ble_eq_true rfl, Nat.le_of_ble_eq_true rfl⟩ dX6_giveBack_99 rfl ?_
          refine w_pop X dX6_giveBack_102 rfl ?_
          refine w_aload_n X 1 rfl dX6_giveBack_103 ?_
          refine w_iload X 0 rfl dX6_giveBack_104 ?_
          refine w_bipush X (nI 8) dX6_giveBack_106 (by decide +kernel) ?_
          refine w_aload_n X 1 rfl dX6_giveBack_108 ?_
          refine w_iload X 0 rfl dX6_giveBack_109 ?_
          refine w_bipush X (nI 8) dX6_giveBack_111 (by decide +kernel) ?_
          refine w_roV X [0] 0 0 (m_X6_of l g ad (rw2 (rw2 μ4 0 (upd (μ4 0) (24 + 9 * o + 1) (nI (b)))) 0 (upd ((rw2 μ4 0 (upd (μ4 0) (24 + 9 * o + 1) (nI (b)))) 0) (24 + 9 * o + 2) ((rw2 μ4 0 (upd (μ4 0) (24 + 9 * o + 1) (nI (b)))) 0 (6 + 3 * b + 1)))) o 8 (by omega) (by omega)) cv_X6_of mk_X6_43 rfl rfl rfl rfl rfl ⟨Nat.le_of_ble_eq_true rfl, Nat.le_of_ble_eq_true rfl⟩ (Nat.le_of_ble_eq_true rfl) ⟨Nat.le_of_ble_eq_true rfl, Nat.le_of_ble_eq_true rfl⟩ dX6_giveBack_113 rfl ?_
          refine w_iconst X (nI 1) dX6_giveBack_116 (by decide +kernel) ?_
          refine w_iadd X dX6_giveBack_117 ?_
          refine w_muV X hA (gr := []) (gs1 := [moC g ad (rw2 (rw2 (rw2 μ4 0 (upd (μ4 0) (24 + 9 * o + 1) (nI (b)))) 0 (upd ((rw2 μ4 0 (upd (μ4 0) (24 + 9 * o + 1) (nI (b)))) 0) (24 + 9 * o + 2) ((rw2 μ4 0 (upd (μ4 0) (24 + 9 * o + 1) (nI (b)))) 0 (6 + 3 * b + 1)))) 0 (upd ((rw2 (rw2 μ4 0 (upd (μ4 0) (24 + 9 * o + 1) (nI (b)))) 0 (upd ((rw2 μ4 0 (upd (μ4 0) (24 + 9 * o + 1) (nI (b)))) 0) (24 + 9 * o + 2) ((rw2 μ4 0 (upd (μ4 0) (24 + 9 * o + 1) (nI (b)))) 0 (6 + 3 * b + 1)))) 0) (24 + 9 * o + 8) (((rw2 (rw2 μ4 0 (upd (μ4 0) (24 + 9 * o + 1) (nI (b)))) 0 (upd ((rw2 μ4 0 (upd (μ4 0) (24 + 9 * o + 1) (nI (b)))) 0) (24 + 9 * o + 2) ((rw2 μ4 0 (upd (μ4 0) (24 + 9 * o + 1) (nI (b)))) 0 (6 + 3 * b + 1)))) 0 (24 + 9 * o + 8)) + nI (1))))]) [0] [] 0 0 (m_X6_changes l g ad (rw2 (rw2 μ4 0 (upd (μ4 0) (24 + 9 * o + 1) (nI (b)))) 0 (upd ((rw2 μ4 0 (upd (μ4 0) (24 + 9 * o + 1) (nI (b)))) 0) (24 + 9 * o + 2) ((rw2 μ4 0 (upd (μ4 0) (24 + 9 * o + 1) (nI (b)))) 0 (6 + 3 * b + 1)))) o 8 (((rw2 (rw2 μ4 0 (upd (μ4 0) (24 + 9 * o + 1) (nI (b)))) 0 (upd ((rw2 μ4 0 (upd (μ4 0) (24 + 9 * o + 1) (nI (b)))) 0) (24 + 9 * o + 2) ((rw2 μ4 0 (upd (μ4 0) (24 + 9 * o + 1) (nI (b)))) 0 (6 + 3 * b + 1)))) 0 (24 + 9 * o + 8)) + nI (1)) (by omega) (by omega)) cv_X6_changes mk_X6_115 rfl rfl rfl (ng := 1) rfl (by decide) rfl rfl rfl rfl rfl rfl ⟨Nat.le_of_ble_eq_true rfl, Nat.le_of_ble_eq_true rfl⟩ (Nat.le_of_ble_eq_true rfl) ⟨Nat.le_of_ble_eq_true rfl, Nat.le_of_ble_eq_true rfl⟩ dX6_giveBack_118 rfl ?_
          refine w_pop X dX6_giveBack_121 rfl ?_
          refine w_aload_n X 1 rfl dX6_giveBack_122 ?_
          refine w_get X 0 0 rfl rfl rfl in_X6 0 (by decide) fk_X6_7 rfl dX6_giveBack_123 ?_
          refine w_bipush X (nI 6) dX6_giveBack_126 (by decide +kernel) ?_
          refine w_iconst X (nI 3) dX6_giveBack_128 (by decide +kernel) ?_
          refine w_iload_n X 3 rfl dX6_giveBack_129 ?_
          refine w_imul_n X dX6_giveBack_130 ?_
          refine w_iadd_n X dX6_giveBack_131 ?_
          refine w_iconst X (nI 1) dX6_giveBack_132 (by decide +kernel) ?_
          refine w_iadd_n X dX6_giveBack_133 ?_
          refine w_dup2 X dX6_giveBack_134 rfl rfl ?_
          refine w_iald_n X 0 1 0 rfl rfl rfl (by omega) (by decide) dX6_giveBack_135 ?_
          refine w_aload_n X 1 rfl dX6_giveBack_136 ?_
          refine w_iload X 0 rfl dX6_giveBack_137 ?_
          refine w_iconst X (nI 3) dX6_giveBack_139 (by decide +kernel) ?_
          refine w_roV X [0] 0 0 (m_X6_of l g ad (rw2 (rw2 (rw2 μ4 0 (upd (μ4 0) (24 + 9 * o + 1) (nI (b)))) 0 (upd ((rw2 μ4 0 (upd (μ4 0) (24 + 9 * o + 1) (nI (b)))) 0) (24 + 9 * o + 2) ((rw2 μ4 0 (upd (μ4 0) (24 + 9 * o + 1) (nI (b)))) 0 (6 + 3 * b + 1)))) 0 (upd ((rw2 (rw2 μ4 0 (upd (μ4 0) (24 + 9 * o + 1) (nI (b)))) 0 (upd ((rw2 μ4 0 (upd (μ4 0) (24 + 9 * o + 1) (nI (b)))) 0) (24 + 9 * o + 2) ((rw2 μ4 0 (upd (μ4 0) (24 + 9 * o + 1) (nI (b)))) 0 (6 + 3 * b + 1)))) 0) (24 + 9 * o + 8) (((rw2 (rw2 μ4 0 (upd (μ4 0) (24 + 9 * o + 1) (nI (b)))) 0 (upd ((rw2 μ4 0 (upd (μ4 0) (24 + 9 * o + 1) (nI (b)))) 0) (24 + 9 * o + 2) ((rw2 μ4 0 (upd (μ4 0) (24 + 9 * o + 1) (nI (b)))) 0 (6 + 3 * b + 1)))) 0 (24 + 9 * o + 8)) + nI (1)))) o 3 (by omega) (by omega)) cv_X6_of mk_X6_43 rfl rfl rfl rfl rfl ⟨Nat.le_of_ble_eq_true rfl, Nat.le_of_ble_eq_true rfl⟩ (Nat.le_of_ble_eq_true rfl) ⟨Nat.le_of_ble_eq_true rfl, Nat.le_of_ble_eq_true rfl⟩ dX6_giveBack_140 rfl ?_
          refine w_iadd X dX6_giveBack_143 ?_
          refine w_iast_n X 0 1 0 rfl rfl rfl (by omega) (by decide) (show _ = moC g ad (rw2 (rw2 (rw2 (rw2 μ4 0 (upd (μ4 0) (24 + 9 * o + 1) (nI (b)))) 0 (upd ((rw2 μ4 0 (upd (μ4 0) (24 + 9 * o + 1) (nI (b)))) 0) (24 + 9 * o + 2) ((rw2 μ4 0 (upd (μ4 0) (24 + 9 * o + 1) (nI (b)))) 0 (6 + 3 * b + 1)))) 0 (upd ((rw2 (rw2 μ4 0 (upd (μ4 0) (24 + 9 * o + 1) (nI (b)))) 0 (upd ((rw2 μ4 0 (upd (μ4 0) (24 + 9 * o + 1) (nI (b)))) 0) (24 + 9 * o + 2) ((rw2 μ4 0 (upd (μ4 0) (24 + 9 * o + 1) (nI (b)))) 0 (6 + 3 * b + 1)))) 0) (24 + 9 * o + 8) (((rw2 (rw2 μ4 0 (upd (μ4 0) (24 + 9 * o + 1) (nI (b)))) 0 (upd ((rw2 μ4 0 (upd (μ4 0) (24 + 9 * o + 1) (nI (b)))) 0) (24 + 9 * o + 2) ((rw2 μ4 0 (upd (μ4 0) (24 + 9 * o + 1) (nI (b)))) 0 (6 + 3 * b + 1)))) 0 (24 + 9 * o + 8)) + nI (1)))) 0 (upd ((rw2 (rw2 (rw2 μ4 0 (upd (μ4 0) (24 + 9 * o + 1) (nI (b)))) 0 (upd ((rw2 μ4 0 (upd (μ4 0) (24 + 9 * o + 1) (nI (b)))) 0) (24 + 9 * o + 2) ((rw2 μ4 0 (upd (μ4 0) (24 + 9 * o + 1) (nI (b)))) 0 (6 + 3 * b + 1)))) 0 (upd ((rw2 (rw2 μ4 0 (upd (μ4 0) (24 + 9 * o + 1) (nI (b)))) 0 (upd ((rw2 μ4 0 (upd (μ4 0) (24 + 9 * o + 1) (nI (b)))) 0) (24 + 9 * o + 2) ((rw2 μ4 0 (upd (μ4 0) (24 + 9 * o + 1) (nI (b)))) 0 (6 + 3 * b + 1)))) 0) (24 + 9 * o + 8) (((rw2 (rw2 μ4 0 (upd (μ4 0) (24 + 9 * o + 1) (nI (b)))) 0 (upd ((rw2 μ4 0 (upd (μ4 0) (24 + 9 * o + 1) (nI (b)))) 0) (24 + 9 * o + 2) ((rw2 μ4 0 (upd (μ4 0) (24 + 9 * o + 1) (nI (b)))) 0 (6 + 3 * b + 1)))) 0 (24 + 9 * o + 8)) + nI (1)))) 0) ((6 + (3 * b)) + 1) ((((rw2 (rw2 (rw2 μ4 0 (upd (μ4 0) (24 + 9 * o + 1) (nI (b)))) 0 (upd ((rw2 μ4 0 (upd (μ4 0) (24 + 9 * o + 1) (nI (b)))) 0) (24 + 9 * o + 2) ((rw2 μ4 0 (upd (μ4 0) (24 + 9 * o + 1) (nI (b)))) 0 (6 + 3 * b + 1)))) 0 (upd ((rw2 (rw2 μ4 0 (upd (μ4 0) (24 + 9 * o + 1) (nI (b)))) 0 (upd ((rw2 μ4 0 (upd (μ4 0) (24 + 9 * o + 1) (nI (b)))) 0) (24 + 9 * o + 2) ((rw2 μ4 0 (upd (μ4 0) (24 + 9 * o + 1) (nI (b)))) 0 (6 + 3 * b + 1)))) 0) (24 + 9 * o + 8) (((rw2 (rw2 μ4 0 (upd (μ4 0) (24 + 9 * o + 1) (nI (b)))) 0 (upd ((rw2 μ4 0 (upd (μ4 0) (24 + 9 * o + 1) (nI (b)))) 0) (24 + 9 * o + 2) ((rw2 μ4 0 (upd (μ4 0) (24 + 9 * o + 1) (nI (b)))) 0 (6 + 3 * b + 1)))) 0 (24 + 9 * o + 8)) + nI (1)))) 0 ((6 + (3 * b)) + 1)) + ((rw2 (rw2 (rw2 μ4 0 (upd (μ4 0) (24 + 9 * o + 1) (nI (b)))) 0 (upd ((rw2 μ4 0 (upd (μ4 0) (24 + 9 * o + 1) (nI (b)))) 0) (24 + 9 * o + 2) ((rw2 μ4 0 (upd (μ4 0) (24 + 9 * o + 1) (nI (b)))) 0 (6 + 3 * b + 1)))) 0 (upd ((rw2 (rw2 μ4 0 (upd (μ4 0) (24 + 9 * o + 1) (nI (b)))) 0 (upd ((rw2 μ4 0 (upd (μ4 0) (24 + 9 * o + 1) (nI (b)))) 0) (24 + 9 * o + 2) ((rw2 μ4 0 (upd (μ4 0) (24 + 9 * o + 1) (nI (b)))) 0 (6 + 3 * b + 1)))) 0) (24 + 9 * o + 8) (((rw2 (rw2 μ4 0 (upd (μ4 0) (24 + 9 * o + 1) (nI (b)))) 0 (upd ((rw2 μ4 0 (upd (μ4 0) (24 + 9 * o + 1) (nI (b)))) 0) (24 + 9 * o + 2) ((rw2 μ4 0 (upd (μ4 0) (24 + 9 * o + 1) (nI (b)))) 0 (6 + 3 * b + 1)))) 0 (24 + 9 * o + 8)) + nI (1)))) 0 (24 + 9 * o + 3)))))) from rfl) dX6_giveBack_144 ?_
          refine w_aload_n X 1 rfl dX6_giveBack_145 ?_
          refine w_get X 0 0 rfl rfl rfl in_X6 0 (by decide) fk_X6_7 rfl dX6_giveBack_146 ?_
          refine w_iconst X (nI 3) dX6_giveBack_149 (by decide +kernel) ?_
          refine w_dup2 X dX6_giveBack_150 rfl rfl ?_
          refine w_iald_n X 0 1 0 rfl rfl rfl (by omega) (by decide) dX6_giveBack_151 ?_
          refine w_st (st2 := [.int ((upd ((rw2 (rw2 (rw2 μ4 0 (upd (μ4 0) (24 + 9 * o + 1) (nI (b)))) 0 (upd ((rw2 μ4 0 (upd (μ4 0) (24 + 9 * o + 1) (nI (b)))) 0) (24 + 9 * o + 2) ((rw2 μ4 0 (upd (μ4 0) (24 + 9 * o + 1) (nI (b)))) 0 (6 + 3 * b + 1)))) 0 (upd ((rw2 (rw2 μ4 0 (upd (μ4 0) (24 + 9 * o + 1) (nI (b)))) 0 (upd ((rw2 μ4 0 (upd (μ4 0) (24 + 9 * o + 1) (nI (b)))) 0) (24 + 9 * o + 2) ((rw2 μ4 0 (upd (μ4 0) (24 + 9 * o + 1) (nI (b)))) 0 (6 + 3 * b + 1)))) 0) (24 + 9 * o + 8) (((rw2 (rw2 μ4 0 (upd (μ4 0) (24 + 9 * o + 1) (nI (b)))) 0 (upd ((rw2 μ4 0 (upd (μ4 0) (24 + 9 * o + 1) (nI (b)))) 0) (24 + 9 * o + 2) ((rw2 μ4 0 (upd (μ4 0) (24 + 9 * o + 1) (nI (b)))) 0 (6 + 3 * b + 1)))) 0 (24 + 9 * o + 8)) + nI (1)))) 0) ((6 + (3 * b)) + 1) ((((rw2 (rw2 (rw2 μ4 0 (upd (μ4 0) (24 + 9 * o + 1) (nI (b)))) 0 (upd ((rw2 μ4 0 (upd (μ4 0) (24 + 9 * o + 1) (nI (b)))) 0) (24 + 9 * o + 2) ((rw2 μ4 0 (upd (μ4 0) (24 + 9 * o + 1) (nI (b)))) 0 (6 + 3 * b + 1)))) 0 (upd ((rw2 (rw2 μ4 0 (upd (μ4 0) (24 + 9 * o + 1) (nI (b)))) 0 (upd ((rw2 μ4 0 (upd (μ4 0) (24 + 9 * o + 1) (nI (b)))) 0) (24 + 9 * o + 2) ((rw2 μ4 0 (upd (μ4 0) (24 + 9 * o + 1) (nI (b)))) 0 (6 + 3 * b + 1)))) 0) (24 + 9 * o + 8) (((rw2 (rw2 μ4 0 (upd (μ4 0) (24 + 9 * o + 1) (nI (b)))) 0 (upd ((rw2 μ4 0 (upd (μ4 0) (24 + 9 * o + 1) (nI (b)))) 0) (24 + 9 * o + 2) ((rw2 μ4 0 (upd (μ4 0) (24 + 9 * o + 1) (nI (b)))) 0 (6 + 3 * b + 1)))) 0 (24 + 9 * o + 8)) + nI (1)))) 0 ((6 + (3 * b)) + 1)) + ((rw2 (rw2 (rw2 μ4 0 (upd (μ4 0) (24 + 9 * o + 1) (nI (b)))) 0 (upd ((rw2 μ4 0 (upd (μ4 0) (24 + 9 * o + 1) (nI (b)))) 0) (24 + 9 * o + 2) ((rw2 μ4 0 (upd (μ4 0) (24 + 9 * o + 1) (nI (b)))) 0 (6 + 3 * b + 1)))) 0 (upd ((rw2 (rw2 μ4 0 (upd (μ4 0) (24 + 9 * o + 1) (nI (b)))) 0 (upd ((rw2 μ4 0 (upd (μ4 0) (24 + 9 * o + 1) (nI (b)))) 0) (24 + 9 * o + 2) ((rw2 μ4 0 (upd (μ4 0) (24 + 9 * o + 1) (nI (b)))) 0 (6 + 3 * b + 1)))) 0) (24 + 9 * o + 8) (((rw2 (rw2 μ4 0 (upd (μ4 0) (24 + 9 * o + 1) (nI (b)))) 0 (upd ((rw2 μ4 0 (upd (μ4 0) (24 + 9 * o + 1) (nI (b)))) 0) (24 + 9 * o + 2) ((rw2 μ4 0 (upd (μ4 0) (24 + 9 * o + 1) (nI (b)))) 0 (6 + 3 * b + 1)))) 0 (24 + 9 * o + 8)) + nI (1)))) 0 (24 + 9 * o + 3))))) 3), .int (nI 3), .ref (ad 1)]) rfl ?_
          refine w_iconst X (nI 1) dX6_giveBack_152 (by decide +kernel) ?_
          refine w_iadd X dX6_giveBack_153 ?_
          refine w_iast_n X 0 1 0 rfl rfl rfl (by omega) (by decide) (show _ = moC g ad (rw2 (rw2 (rw2 (rw2 μ4 0 (upd (μ4 0) (24 + 9 * o + 1) (nI (b)))) 0 (upd ((rw2 μ4 0 (upd (μ4 0) (24 + 9 * o + 1) (nI (b)))) 0) (24 + 9 * o + 2) ((rw2 μ4 0 (upd (μ4 0) (24 + 9 * o + 1) (nI (b)))) 0 (6 + 3 * b + 1)))) 0 (upd ((rw2 (rw2 μ4 0 (upd (μ4 0) (24 + 9 * o + 1) (nI (b)))) 0 (upd ((rw2 μ4 0 (upd (μ4 0) (24 + 9 * o + 1) (nI (b)))) 0) (24 + 9 * o + 2) ((rw2 μ4 0 (upd (μ4 0) (24 + 9 * o + 1) (nI (b)))) 0 (6 + 3 * b + 1)))) 0) (24 + 9 * o + 8) (((rw2 (rw2 μ4 0 (upd (μ4 0) (24 + 9 * o + 1) (nI (b)))) 0 (upd ((rw2 μ4 0 (upd (μ4 0) (24 + 9 * o + 1) (nI (b)))) 0) (24 + 9 * o + 2) ((rw2 μ4 0 (upd (μ4 0) (24 + 9 * o + 1) (nI (b)))) 0 (6 + 3 * b + 1)))) 0 (24 + 9 * o + 8)) + nI (1)))) 0 (upd ((upd ((rw2 (rw2 (rw2 μ4 0 (upd (μ4 0) (24 + 9 * o + 1) (nI (b)))) 0 (upd ((rw2 μ4 0 (upd (μ4 0) (24 + 9 * o + 1) (nI (b)))) 0) (24 + 9 * o + 2) ((rw2 μ4 0 (upd (μ4 0) (24 + 9 * o + 1) (nI (b)))) 0 (6 + 3 * b + 1)))) 0 (upd ((rw2 (rw2 μ4 0 (upd (μ4 0) (24 + 9 * o + 1) (nI (b)))) 0 (upd ((rw2 μ4 0 (upd (μ4 0) (24 + 9 * o + 1) (nI (b)))) 0) (24 + 9 * o + 2) ((rw2 μ4 0 (upd (μ4 0) (24 + 9 * o + 1) (nI (b)))) 0 (6 + 3 * b + 1)))) 0) (24 + 9 * o + 8) (((rw2 (rw2 μ4 0 (upd (μ4 0) (24 + 9 * o + 1) (nI (b)))) 0 (upd ((rw2 μ4 0 (upd (μ4 0) (24 + 9 * o + 1) (nI (b)))) 0) (24 + 9 * o + 2) ((rw2 μ4 0 (upd (μ4 0) (24 + 9 * o + 1) (nI (b)))) 0 (6 + 3 * b + 1)))) 0 (24 + 9 * o + 8)) + nI (1)))) 0) ((6 + (3 * b)) + 1) ((((rw2 (rw2 (rw2 μ4 0 (upd (μ4 0) (24 + 9 * o + 1) (nI (b)))) 0 (upd ((rw2 μ4 0 (upd (μ4 0) (24 + 9 * o + 1) (nI (b)))) 0) (24 + 9 * o + 2) ((rw2 μ4 0 (upd (μ4 0) (24 + 9 * o + 1) (nI (b)))) 0 (6 + 3 * b + 1)))) 0 (upd ((rw2 (rw2 μ4 0 (upd (μ4 0) (24 + 9 * o + 1) (nI (b)))) 0 (upd ((rw2 μ4 0 (upd (μ4 0) (24 + 9 * o + 1) (nI (b)))) 0) (24 + 9 * o + 2) ((rw2 μ4 0 (upd (μ4 0) (24 + 9 * o + 1) (nI (b)))) 0 (6 + 3 * b + 1)))) 0) (24 + 9 * o + 8) (((rw2 (rw2 μ4 0 (upd (μ4 0) (24 + 9 * o + 1) (nI (b)))) 0 (upd ((rw2 μ4 0 (upd (μ4 0) (24 + 9 * o + 1) (nI (b)))) 0) (24 + 9 * o + 2) ((rw2 μ4 0 (upd (μ4 0) (24 + 9 * o + 1) (nI (b)))) 0 (6 + 3 * b + 1)))) 0 (24 + 9 * o + 8)) + nI (1)))) 0 ((6 + (3 * b)) + 1)) + ((rw2 (rw2 (rw2 μ4 0 (upd (μ4 0) (24 + 9 * o + 1) (nI (b)))) 0 (upd ((rw2 μ4 0 (upd (μ4 0) (24 + 9 * o + 1) (nI (b)))) 0) (24 + 9 * o + 2) ((rw2 μ4 0 (upd (μ4 0) (24 + 9 * o + 1) (nI (b)))) 0 (6 + 3 * b + 1)))) 0 (upd ((rw2 (rw2 μ4 0 (upd (μ4 0) (24 + 9 * o + 1) (nI (b)))) 0 (upd ((rw2 μ4 0 (upd (μ4 0) (24 + 9 * o + 1) (nI (b)))) 0) (24 + 9 * o + 2) ((rw2 μ4 0 (upd (μ4 0) (24 + 9 * o + 1) (nI (b)))) 0 (6 + 3 * b + 1)))) 0) (24 + 9 * o + 8) (((rw2 (rw2 μ4 0 (upd (μ4 0) (24 + 9 * o + 1) (nI (b)))) 0 (upd ((rw2 μ4 0 (upd (μ4 0) (24 + 9 * o + 1) (nI (b)))) 0) (24 + 9 * o + 2) ((rw2 μ4 0 (upd (μ4 0) (24 + 9 * o + 1) (nI (b)))) 0 (6 + 3 * b + 1)))) 0 (24 + 9 * o + 8)) + nI (1)))) 0 (24 + 9 * o + 3)))))) 3 ((((upd ((rw2 (rw2 (rw2 μ4 0 (upd (μ4 0) (24 + 9 * o + 1) (nI (b)))) 0 (upd ((rw2 μ4 0 (upd (μ4 0) (24 + 9 * o + 1) (nI (b)))) 0) (24 + 9 * o + 2) ((rw2 μ4 0 (upd (μ4 0) (24 + 9 * o + 1) (nI (b)))) 0 (6 + 3 * b + 1)))) 0 (upd ((rw2 (rw2 μ4 0 (upd (μ4 0) (24 + 9 * o + 1) (nI (b)))) 0 (upd ((rw2 μ4 0 (upd (μ4 0) (24 + 9 * o + 1) (nI (b)))) 0) (24 + 9 * o + 2) ((rw2 μ4 0 (upd (μ4 0) (24 + 9 * o + 1) (nI (b)))) 0 (6 + 3 * b + 1)))) 0) (24 + 9 * o + 8) (((rw2 (rw2 μ4 0 (upd (μ4 0) (24 + 9 * o + 1) (nI (b)))) 0 (upd ((rw2 μ4 0 (upd (μ4 0) (24 + 9 * o + 1) (nI (b)))) 0) (24 + 9 * o + 2) ((rw2 μ4 0 (upd (μ4 0) (24 + 9 * o + 1) (nI (b)))) 0 (6 + 3 * b + 1)))) 0 (24 + 9 * o + 8)) + nI (1)))) 0) ((6 + (3 * b)) + 1) ((((rw2 (rw2 (rw2 μ4 0 (upd (μ4 0) (24 + 9 * o + 1) (nI (b)))) 0 (upd ((rw2 μ4 0 (upd (μ4 0) (24 + 9 * o + 1) (nI (b)))) 0) (24 + 9 * o + 2) ((rw2 μ4 0 (upd (μ4 0) (24 + 9 * o + 1) (nI (b)))) 0 (6 + 3 * b + 1)))) 0 (upd ((rw2 (rw2 μ4 0 (upd (μ4 0) (24 + 9 * o + 1) (nI (b)))) 0 (upd ((rw2 μ4 0 (upd (μ4 0) (24 + 9 * o + 1) (nI (b)))) 0) (24 + 9 * o + 2) ((rw2 μ4 0 (upd (μ4 0) (24 + 9 * o + 1) (nI (b)))) 0 (6 + 3 * b + 1)))) 0) (24 + 9 * o + 8) (((rw2 (rw2 μ4 0 (upd (μ4 0) (24 + 9 * o + 1) (nI (b)))) 0 (upd ((rw2 μ4 0 (upd (μ4 0) (24 + 9 * o + 1) (nI (b)))) 0) (24 + 9 * o + 2) ((rw2 μ4 0 (upd (μ4 0) (24 + 9 * o + 1) (nI (b)))) 0 (6 + 3 * b + 1)))) 0 (24 + 9 * o + 8)) + nI (1)))) 0 ((6 + (3 * b)) + 1)) + ((rw2 (rw2 (rw2 μ4 0 (upd (μ4 0) (24 + 9 * o + 1) (nI (b)))) 0 (upd ((rw2 μ4 0 (upd (μ4 0) (24 + 9 * o + 1) (nI (b)))) 0) (24 + 9 * o + 2) ((rw2 μ4 0 (upd (μ4 0) (24 + 9 * o + 1) (nI (b)))) 0 (6 + 3 * b + 1)))) 0 (upd ((rw2 (rw2 μ4 0 (upd (μ4 0) (24 + 9 * o + 1) (nI (b)))) 0 (upd ((rw2 μ4 0 (upd (μ4 0) (24 + 9 * o + 1) (nI (b)))) 0) (24 + 9 * o + 2) ((rw2 μ4 0 (upd (μ4 0) (24 + 9 * o + 1) (nI (b)))) 0 (6 + 3 * b + 1)))) 0) (24 + 9 * o + 8) (((rw2 (rw2 μ4 0 (upd (μ4 0) (24 + 9 * o + 1) (nI (b)))) 0 (upd ((rw2 μ4 0 (upd (μ4 0) (24 + 9 * o + 1) (nI (b)))) 0) (24 + 9 * o + 2) ((rw2 μ4 0 (upd (μ4 0) (24 + 9 * o + 1) (nI (b)))) 0 (6 + 3 * b + 1)))) 0 (24 + 9 * o + 8)) + nI (1)))) 0 (24 + 9 * o + 3))))) 3) + nI (1))))) from rfl) dX6_giveBack_154 ?_
          refine w_iinc X (nI (i + 1)) 4 rfl (nI_1 _) dX6_giveBack_155 (by decide) ?_
          refine w_goto X 63 dX6_giveBack_158 (by decide) ?_
          exact w_all [2, 3, 4, 0] (rfl) (rfl) rfl (ih63 (i + 1, z + σ 3 o, rw2 (rw2 (rw2 (rw2 μ4 0 (upd (μ4 0) (24 + 9 * o + 1) (nI (b)))) 0 (upd ((rw2 μ4 0 (upd (μ4 0) (24 + 9 * o + 1) (nI (b)))) 0) (24 + 9 * o + 2) ((rw2 μ4 0 (upd (μ4 0) (24 + 9 * o + 1) (nI (b)))) 0 (6 + 3 * b + 1)))) 0 (upd ((rw2 (rw2 μ4 0 (upd (μ4 0) (24 + 9 * o + 1) (nI (b)))) 0 (upd ((rw2 μ4 0 (upd (μ4 0) (24 + 9 * o + 1) (nI (b)))) 0) (24 + 9 * o + 2) ((rw2 μ4 0 (upd (μ4 0) (24 + 9 * o + 1) (nI (b)))) 0 (6 + 3 * b + 1)))) 0) (24 + 9 * o + 8) (((rw2 (rw2 μ4 0 (upd (μ4 0) (24 + 9 * o + 1) (nI (b)))) 0 (upd ((rw2 μ4 0 (upd (μ4 0) (24 + 9 * o + 1) (nI (b)))) 0) (24 + 9 * o + 2) ((rw2 μ4 0 (upd (μ4 0) (24 + 9 * o + 1) (nI (b)))) 0 (6 + 3 * b + 1)))) 0 (24 + 9 * o + 8)) + nI (1)))) 0 (upd ((upd ((rw2 (rw2 (rw2 μ4 0 (upd (μ4 0) (24 + 9 * o + 1) (nI (b)))) 0 (upd ((rw2 μ4 0 (upd (μ4 0) (24 + 9 * o + 1) (nI (b)))) 0) (24 + 9 * o + 2) ((rw2 μ4 0 (upd (μ4 0) (24 + 9 * o + 1) (nI (b)))) 0 (6 + 3 * b + 1)))) 0 (upd ((rw2 (rw2 μ4 0 (upd (μ4 0) (24 + 9 * o + 1) (nI (b)))) 0 (upd ((rw2 μ4 0 (upd (μ4 0) (24 + 9 * o + 1) (nI (b)))) 0) (24 + 9 * o + 2) ((rw2 μ4 0 (upd (μ4 0) (24 + 9 * o + 1) (nI (b)))) 0 (6 + 3 * b + 1)))) 0) (24 + 9 * o + 8) (((rw2 (rw2 μ4 0 (upd (μ4 0) (24 + 9 * o + 1) (nI (b)))) 0 (upd ((rw2 μ4 0 (upd (μ4 0) (24 + 9 * o + 1) (nI (b)))) 0) (24 + 9 * o + 2) ((rw2 μ4 0 (upd (μ4 0) (24 + 9 * o + 1) (nI (b)))) 0 (6 + 3 * b + 1)))) 0 (24 + 9 * o + 8)) + nI (1)))) 0) ((6 + (3 * b)) + 1) ((((rw2 (rw2 (rw2 μ4 0 (upd (μ4 0) (24 + 9 * o + 1) (nI (b)))) 0 (upd ((rw2 μ4 0 (upd (μ4 0) (24 + 9 * o + 1) (nI (b)))) 0) (24 + 9 * o + 2) ((rw2 μ4 0 (upd (μ4 0) (24 + 9 * o + 1) (nI (b)))) 0 (6 + 3 * b + 1)))) 0 (upd ((rw2 (rw2 μ4 0 (upd (μ4 0) (24 + 9 * o + 1) (nI (b)))) 0 (upd ((rw2 μ4 0 (upd (μ4 0) (24 + 9 * o + 1) (nI (b)))) 0) (24 + 9 * o + 2) ((rw2 μ4 0 (upd (μ4 0) (24 + 9 * o + 1) (nI (b)))) 0 (6 + 3 * b + 1)))) 0) (24 + 9 * o + 8) (((rw2 (rw2 μ4 0 (upd (μ4 0) (24 + 9 * o + 1) (nI (b)))) 0 (upd ((rw2 μ4 0 (upd (μ4 0) (24 + 9 * o + 1) (nI (b)))) 0) (24 + 9 * o + 2) ((rw2 μ4 0 (upd (μ4 0) (24 + 9 * o + 1) (nI (b)))) 0 (6 + 3 * b + 1)))) 0 (24 + 9 * o + 8)) + nI (1)))) 0 ((6 + (3 * b)) + 1)) + ((rw2 (rw2 (rw2 μ4 0 (upd (μ4 0) (24 + 9 * o + 1) (nI (b)))) 0 (upd ((rw2 μ4 0 (upd (μ4 0) (24 + 9 * o + 1) (nI (b)))) 0) (24 + 9 * o + 2) ((rw2 μ4 0 (upd (μ4 0) (24 + 9 * o + 1) (nI (b)))) 0 (6 + 3 * b + 1)))) 0 (upd ((rw2 (rw2 μ4 0 (upd (μ4 0) (24 + 9 * o + 1) (nI (b)))) 0 (upd ((rw2 μ4 0 (upd (μ4 0) (24 + 9 * o + 1) (nI (b)))) 0) (24 + 9 * o + 2) ((rw2 μ4 0 (upd (μ4 0) (24 + 9 * o + 1) (nI (b)))) 0 (6 + 3 * b + 1)))) 0) (24 + 9 * o + 8) (((rw2 (rw2 μ4 0 (upd (μ4 0) (24 + 9 * o + 1) (nI (b)))) 0 (upd ((rw2 μ4 0 (upd (μ4 0) (24 + 9 * o + 1) (nI (b)))) 0) (24 + 9 * o + 2) ((rw2 μ4 0 (upd (μ4 0) (24 + 9 * o + 1) (nI (b)))) 0 (6 + 3 * b + 1)))) 0 (24 + 9 * o + 8)) + nI (1)))) 0 (24 + 9 * o + 3)))))) 3 ((((upd ((rw2 (rw2 (rw2 μ4 0 (upd (μ4 0) (24 + 9 * o + 1) (nI (b)))) 0 (upd ((rw2 μ4 0 (upd (μ4 0) (24 + 9 * o + 1) (nI (b)))) 0) (24 + 9 * o + 2) ((rw2 μ4 0 (upd (μ4 0) (24 + 9 * o + 1) (nI (b)))) 0 (6 + 3 * b + 1)))) 0 (upd ((rw2 (rw2 μ4 0 (upd (μ4 0) (24 + 9 * o + 1) (nI (b)))) 0 (upd ((rw2 μ4 0 (upd (μ4 0) (24 + 9 * o + 1) (nI (b)))) 0) (24 + 9 * o + 2) ((rw2 μ4 0 (upd (μ4 0) (24 + 9 * o + 1) (nI (b)))) 0 (6 + 3 * b + 1)))) 0) (24 + 9 * o + 8) (((rw2 (rw2 μ4 0 (upd (μ4 0) (24 + 9 * o + 1) (nI (b)))) 0 (upd ((rw2 μ4 0 (upd (μ4 0) (24 + 9 * o + 1) (nI (b)))) 0) (24 + 9 * o + 2) ((rw2 μ4 0 (upd (μ4 0) (24 + 9 * o + 1) (nI (b)))) 0 (6 + 3 * b + 1)))) 0 (24 + 9 * o + 8)) + nI (1)))) 0) ((6 + (3 * b)) + 1) ((((rw2 (rw2 (rw2 μ4 0 (upd (μ4 0) (24 + 9 * o + 1) (nI (b)))) 0 (upd ((rw2 μ4 0 (upd (μ4 0) (24 + 9 * o + 1) (nI (b)))) 0) (24 + 9 * o + 2) ((rw2 μ4 0 (upd (μ4 0) (24 + 9 * o + 1) (nI (b)))) 0 (6 + 3 * b + 1)))) 0 (upd ((rw2 (rw2 μ4 0 (upd (μ4 0) (24 + 9 * o + 1) (nI (b)))) 0 (upd ((rw2 μ4 0 (upd (μ4 0) (24 + 9 * o + 1) (nI (b)))) 0) (24 + 9 * o + 2) ((rw2 μ4 0 (upd (μ4 0) (24 + 9 * o + 1) (nI (b)))) 0 (6 + 3 * b + 1)))) 0) (24 + 9 * o + 8) (((rw2 (rw2 μ4 0 (upd (μ4 0) (24 + 9 * o + 1) (nI (b)))) 0 (upd ((rw2 μ4 0 (upd (μ4 0) (24 + 9 * o + 1) (nI (b)))) 0) (24 + 9 * o + 2) ((rw2 μ4 0 (upd (μ4 0) (24 + 9 * o + 1) (nI (b)))) 0 (6 + 3 * b + 1)))) 0 (24 + 9 * o + 8)) + nI (1)))) 0 ((6 + (3 * b)) + 1)) + ((rw2 (rw2 (rw2 μ4 0 (upd (μ4 0) (24 + 9 * o + 1) (nI (b)))) 0 (upd ((rw2 μ4 0 (upd (μ4 0) (24 + 9 * o + 1) (nI (b)))) 0) (24 + 9 * o + 2) ((rw2 μ4 0 (upd (μ4 0) (24 + 9 * o + 1) (nI (b)))) 0 (6 + 3 * b + 1)))) 0 (upd ((rw2 (rw2 μ4 0 (upd (μ4 0) (24 + 9 * o + 1) (nI (b)))) 0 (upd ((rw2 μ4 0 (upd (μ4 0) (24 + 9 * o + 1) (nI (b)))) 0) (24 + 9 * o + 2) ((rw2 μ4 0 (upd (μ4 0) (24 + 9 * o + 1) (nI (b)))) 0 (6 + 3 * b + 1)))) 0) (24 + 9 * o + 8) (((rw2 (rw2 μ4 0 (upd (μ4 0) (24 + 9 * o + 1) (nI (b)))) 0 (upd ((rw2 μ4 0 (upd (μ4 0) (24 + 9 * o + 1) (nI (b)))) 0) (24 + 9 * o + 2) ((rw2 μ4 0 (upd (μ4 0) (24 + 9 * o + 1) (nI (b)))) 0 (6 + 3 * b + 1)))) 0 (24 + 9 * o + 8)) + nI (1)))) 0 (24 + 9 * o + 3))))) 3) + nI (1))))) (by (try dsimp only); omega) (by (try dsimp only); exact ⟨by omega, ly_s hR3 rfl (nI_nm1 (by omega)) hF hO hb (by omega) ho ho0 hop hL (fun j hj => by rw [rw2_n _ _ hj, rw2_n _ _ hj, rw2_n _ _ hj, rw2_n _ _ hj]) (by rw [rw2_s, upd_e, if_neg (by omega), upd_e, if_neg (by omega), rw2_s, upd_e, if_neg (by omega), rw2_s, upd_e, if_neg (by omega), rw2_s, upd_e, if_pos rfl]) (by rw [rw2_s, upd_e, if_neg (by omega), upd_e, if_neg (by omega), rw2_s, upd_e, if_neg (by omega), rw2_s, upd_e, if_pos rfl, rw2_s, upd_e, if_neg (by omega)]) (by rw [rw2_s, upd_e, if_neg (by omega), upd_e, if_neg (by omega), rw2_s, upd_e, if_pos rfl, rw2_s, upd_e, if_neg (by omega), rw2_s, upd_e, if_neg (by omega)]) (by rw [rw2_s, upd_e, if_neg (by omega), upd_e, if_pos rfl, rw2_s, upd_e, if_neg (by omega), rw2_s, upd_e, if_neg (by omega), rw2_s, upd_e, if_neg (by omega), upd_e, if_neg (by omega), upd_e, if_neg (by omega), upd_e, if_neg (by omega), s3]) (by rw [rw2_s, upd_e, if_pos rfl, upd_e, if_neg (by omega), rw2_s, upd_e, if_neg (by omega), rw2_s, upd_e, if_neg (by omega), rw2_s, upd_e, if_neg (by omega)]) (fun k k3 km k1 k2 k8 => by rw [rw2_s, upd_e, if_neg k3, upd_e, if_neg km, rw2_s, upd_e, if_neg k8, rw2_s, upd_e, if_neg k2, rw2_s, upd_e, if_neg k1])⟩))
      · refine w_aload_n X 1 rfl dX6_giveBack_36 ?_
        refine w_iload_n X 0 rfl dX6_giveBack_37 ?_
        refine w_iconst X (nI 1) dX6_giveBack_38 (by decide +kernel) ?_
        refine w_ic_ne X 46 dX6_giveBack_39 (by decide) (fun c39 => ?_) (fun c39 => ?_)
        · refine w_iconst X (nI 3) dX6_giveBack_46 (by decide +kernel) ?_
          refine w_muV X hA (gr := []) (gs1 := [moC g ad (rw2 μ1 5 (fun _ => nI 3))]) [0] [] 0 0 (m_X6_fails l g ad μ1 3) cv_X6_fails mk_X6_50 rfl rfl rfl (ng := 1) rfl (by decide) rfl rfl rfl rfl rfl rfl ⟨Nat.le_of_ble_eq_true rfl, Nat.le_of_ble_eq_true rfl⟩ (Nat.le_of_ble_eq_true rfl) ⟨Nat.le_of_ble_eq_true rfl, Nat.le_of_ble_eq_true rfl⟩ dX6_giveBack_47 rfl ?_
          exact w_iret_me X ⟨rw2 μ1 5 (fun _ => nI 3), by rw [gibO, if_neg (by rw [c9]; decide), if_neg (by rw [c16]; decide), if_neg (fun z => c39 (rs_1.mpr z)), if_neg (fun z => c33 (rs_le.mpr z))]; exact mc_r (lk_2 hμ1)⟩ (by rw [gibO, if_neg (by rw [c9]; decide), if_neg (by rw [c16]; decide), if_neg (fun z => c39 (rs_1.mpr z)), if_neg (fun z => c33 (rs_le.mpr z))]; rfl) rfl (Nat.le_of_ble_eq_true rfl) (Nat.le_of_ble_eq_true rfl) dX6_giveBack_50
        · refine w_iconst X (nI 2) dX6_giveBack_42 (by decide +kernel) ?_
          refine w_goto X 47 dX6_giveBack_43 (by decide) ?_
          refine w_muV X hA (gr := []) (gs1 := [moC g ad (rw2 μ1 5 (fun _ => nI 2))]) [0] [] 0 0 (m_X6_fails l g ad μ1 2) cv_X6_fails mk_X6_50 rfl rfl rfl (ng := 1) rfl (by decide) rfl rfl rfl rfl rfl rfl ⟨Nat.le_of_ble_eq_true rfl, Nat.le_of_ble_eq_true rfl⟩ (Nat.le_of_ble_eq_true rfl) ⟨Nat.le_of_ble_eq_true rfl, Nat.le_of_ble_eq_true rfl⟩ dX6_giveBack_47 rfl ?_
          exact w_iret_me X ⟨rw2 μ1 5 (fun _ => nI 2), by rw [gibO, if_neg (by rw [c9]; decide), if_neg (by rw [c16]; decide), if_pos (rs_1.mp c39)]; exact mc_r (lk_2 hμ1)⟩ (by rw [gibO, if_neg (by rw [c9]; decide), if_neg (by rw [c16]; decide), if_pos (rs_1.mp c39)]; rfl) rfl (Nat.le_of_ble_eq_true rfl) (Nat.le_of_ble_eq_true rfl) dX6_giveBack_50
    · refine w_aload_n X 0 rfl dX6_giveBack_19 ?_
      refine w_iconst X (nI 1) dX6_giveBack_20 (by decide +kernel) ?_
      refine w_muV X hA (gr := []) (gs1 := [moC g ad (rw2 (rw2 μ 5 (fun _ => nI (0))) 5 (fun _ => nI 1))]) [0] [] 0 0 (m_X6_fails l g ad (rw2 μ 5 (fun _ => nI (0))) 1) cv_X6_fails mk_X6_50 rfl rfl rfl (ng := 1) rfl (by decide) rfl rfl rfl rfl rfl rfl ⟨Nat.le_of_ble_eq_true rfl, Nat.le_of_ble_eq_true rfl⟩ (Nat.le_of_ble_eq_true rfl) ⟨Nat.le_of_ble_eq_true rfl, Nat.le_of_ble_eq_true rfl⟩ dX6_giveBack_21 rfl ?_
      exact w_iret_me X ⟨rw2 (rw2 μ 5 (fun _ => nI (0))) 5 (fun _ => nI 1), by rw [gibO, if_neg (by rw [c9]; decide), if_pos c16]; exact mc_r (lk_1 _ _ _)⟩ (by rw [gibO, if_neg (by rw [c9]; decide), if_pos c16]; rfl) rfl (Nat.le_of_ble_eq_true rfl) (Nat.le_of_ble_eq_true rfl) dX6_giveBack_24
