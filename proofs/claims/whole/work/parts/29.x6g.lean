/-! The model: given, lost, canGo -/
def sumI (P : Nat → Bool) (s : Nat → Int32) : Nat → Int32
  | 0 => nI 0
  | n + 1 => if P n = true then sumI P s n + s n else sumI P s n
theorem sumI_eq {P Q : Nat → Bool} {s : Nat → Int32} : ∀ n, (∀ i, i < n → P i = Q i) → sumI P s n = sumI Q s n
  | 0, _ => rfl
  | n + 1, h => by rw [sumI, sumI, sumI_eq n (fun i hi => h i (by omega)), h n (by omega)]
theorem add_sw (x y z : Int32) : x + y + z = x + z + y := by rw [Int32.add_assoc, Int32.add_comm y z, ← Int32.add_assoc]
theorem sumI_up {P Q : Nat → Bool} {s : Nat → Int32} {j : Nat} (hp : P j = false) (hq : Q j = true) : ∀ n, n ≤ 24 → j < n → (∀ i, i < n → i ≠ j → P i = Q i) → sumI Q s n = sumI P s n + s j
  | 0, _, hn, _ => by omega
  | n + 1, h24, hn, h => by
    rw [sumI, sumI]
    by_cases e : j = n
    · subst e
      rw [hp, hq, if_pos rfl, if_neg (by decide), sumI_eq (P := Q) (Q := P) j (fun i hi => (h i (by omega) (by omega)).symm)]
    · rw [sumI_up hp hq n (by omega) (by omega) (fun i hi hne => h i (by omega) hne), h n (by omega) (by omega)]
      split
      · exact add_sw _ _ _
      · rfl
theorem sumI_0 {P : Nat → Bool} {s : Nat → Int32} : ∀ n, (∀ i, i < n → P i = false) → sumI P s n = nI 0
  | 0, _ => rfl
  | n + 1, h => by rw [sumI, h n (by omega), if_neg (by decide), sumI_0 n (fun i hi => h i (by omega))]
theorem cells_sum (σ ρ : Nat → Nat → Int32) : ∀ n, n ≤ 24 → cellsL σ ρ n = sumI (plB ρ) (σ 3) n
  | 0, _ => rfl
  | n + 1, h => by
    rw [sumI, ← cells_sum σ ρ n (by omega)]
    rcases hp : plB ρ n with _ | _
    · rw [← cell_f (by omega) hp, add_0, if_neg (by decide)]
    · rw [← cell_t (by omega) hp, if_pos rfl]
def blB (σ ρ : Nat → Nat → Int32) (x j : Nat) : Bool := if plB ρ j = true then decide (rkN σ j < x) else false
theorem land_sum {σ μ : Nat → Nat → Int32} {N : Nat → Int32} {q : Nat} {a : Int32} (hR : RI σ N) (ha : a ≠ -1) (hF : FM σ μ (trC σ (-1)) q) {x : Nat} (hx : x < 2 ^ 31) (b : Int32) : ∀ n, n ≤ 24 → landL σ (trC σ (-1)) (suC σ a) (nI x) b n = b + sumI (blB σ (suC σ a) x) (σ 3) n
  | 0, _ => (add_0 b).symm
  | n + 1, h => by
    rw [landL, sumI, land_sum hR ha hF hx b n (by omega), met_pl _ (by omega), blB]
    rcases hp : plB (suC σ a) n with _ | _
    · rw [if_pos rfl, if_neg Bool.false_ne_true, if_neg Bool.false_ne_true]
    · have hr := rk_nI hR hF (o := n) (by omega) (su_use hR ha (by omega) hp).1
      rw [if_neg (by decide), if_pos rfl, hr.1]
      by_cases c : rkN σ n < x
      · rw [if_neg (fun e => by have := (nI_leI hx (by omega)).mp e; omega), if_pos (decide_eq_true c), Int32.add_assoc]
      · rw [if_pos ((nI_leI hx (by omega)).mpr (by omega)), if_neg (by rw [decide_eq_false c]; decide)]
theorem rs_bd (σ : Nat → Nat → Int32) (a b : Int32) : rsC σ a b = 0 ∨ ∃ k, 0 < k ∧ k < 5 ∧ rsC σ a b = nI k := by
  rw [rs_eq]
  repeat' split
  · exact Or.inr ⟨1, by decide, by decide, rfl⟩
  · exact Or.inr ⟨2, by decide, by decide, rfl⟩
  · exact Or.inr ⟨2, by decide, by decide, rfl⟩
  · exact Or.inr ⟨3, by decide, by decide, rfl⟩
  · exact Or.inr ⟨4, by decide, by decide, rfl⟩
  · exact Or.inl rfl
theorem rs_le {σ : Nat → Nat → Int32} {a b : Int32} : rsC σ a b ≤ 0 ↔ rsC σ a b = 0 := by
  rcases rs_bd σ a b with e | ⟨k, h1, h2, e⟩
  · rw [e]; decide
  · rw [e, le0 (by omega)]
    exact ⟨fun z => by omega, fun z => by
      have := (nI_eq (a := k) (b := 0) (by omega) (by decide)).mp z
      exact this⟩
theorem gv_eq {σ : Nat → Nat → Int32} {o a : Nat} (ho : o < 24) (hu : σ 0 o = nI 1) (e : σ 1 o = nI a) (b : Int32) : gvC σ (nI o) b = if ¬ rsC σ (nI a) b = 0 then -1 else if plB (suC σ (nI a)) o = true then landL σ (trC σ (-1)) (suC σ (nI a)) (rankI σ (trC σ (-1)) (nI o)) (baseI σ b) 24 else -1 := by
  have h1 : agI σ (nI o) = nI a := by rw [agI, has_nI σ ho, hu, if_neg n10, if_neg (by decide), nI_clamp (by omega), e]
  rw [gvC, h1, met_pl _ ho]
  rfl
theorem base_nI (σ : Nat → Nat → Int32) {b : Nat} (hb : b < 6) : baseI σ (nI b) = σ 9 b := by
  rw [baseI, isArB_nI hb, if_neg (by decide), nI_clamp (by omega)]
/-- what has been added up before the k-th of the order -/
def ZS (σ ρ μ : Nat → Nat → Int32) (n k : Nat) (b z : Int32) : Prop := ∀ x, (∀ i j, i < k → j < 24 → μ 15 i = nI j → rkN σ j < x) → (∀ i j, k ≤ i → i < n → j < 24 → μ 15 i = nI j → ¬ rkN σ j < x) → b + sumI (blB σ ρ x) (σ 3) 24 = z
theorem zs_0 {σ ρ μ : Nat → Nat → Int32} {n : Nat} (hO : OS σ ρ μ 24 n) (b : Int32) : ZS σ ρ μ n 0 b b := fun x _ h => by
  rw [sumI_0 24, add_0]
  intro j hj
  rw [blB]
  rcases hp : plB ρ j with _ | _
  · rw [if_neg (by decide)]
  · rw [if_pos rfl]
    obtain ⟨i, hi, e⟩ := hO.2.2.2.1 j hj hp
    exact decide_eq_false (h i j (by omega) hi hj e)
theorem zs_s {σ ρ μ : Nat → Nat → Int32} {n k j : Nat} {b z : Int32} (hO : OS σ ρ μ 24 n) (hk : k < n) (hj : j < 24) (hp : plB ρ j = true) (e : μ 15 k = nI j) (h : ZS σ ρ μ n k b z) : ZS σ ρ μ n (k + 1) b (z + σ 3 j) := by
  intro x h1 h2
  have base := h (rkN σ j) (fun i j2 a c d => hO.2.2.2.2 i k j2 j (by omega) hk c hj d e) (fun i j2 a c d f => by
    by_cases g : i = k
    · subst g
      rw [(nI_eq (by omega) (by omega)).mp (f.symm.trans e)]
      omega
    · have := hO.2.2.2.2 k i j j2 (by omega) c hj d e f
      omega)
  rw [← base, sumI_up (P := blB σ ρ (rkN σ j)) (Q := blB σ ρ x) (j := j) (by rw [blB, hp, if_pos rfl]; exact decide_eq_false (by omega)) (by rw [blB, hp, if_pos rfl]; exact decide_eq_true (h1 k j (by omega) hj e)) 24 (Nat.le_refl _) hj (fun i hi hne => ?_), Int32.add_assoc]
  rw [blB, blB]
  rcases hq : plB ρ i with _ | _
  · rw [if_neg (by decide), if_neg (by decide)]
  · rw [if_pos rfl, if_pos rfl]
    obtain ⟨y, hy, ey⟩ := hO.2.2.2.1 i hi hq
    rcases Nat.lt_trichotomy y k with g | g | g
    · rw [decide_eq_true (hO.2.2.2.2 y k i j g hk hi hj ey e), decide_eq_true (h1 y i (by omega) hi ey)]
    · subst g
      exact absurd ((nI_eq (by omega) (by omega)).mp (ey.symm.trans e)) hne
    · rw [decide_eq_false (by have := hO.2.2.2.2 k y j i g hy hj hi e ey; omega), decide_eq_false (h2 y i (by omega) hy hi ey)]
theorem zs_at {σ μ μ' : Nat → Nat → Int32} {N : Nat → Int32} {n k o q : Nat} {a b z : Int32} (hR : RI σ N) (ha : a ≠ -1) (hF : FM σ μ' (trC σ (-1)) q) (hO : OS σ (suC σ a) μ 24 n) (hk : k < n) (ho : o < 24) (e : μ 15 k = nI o) (h : ZS σ (suC σ a) μ n k b z) : plB (suC σ a) o = true ∧ landL σ (trC σ (-1)) (suC σ a) (rankI σ (trC σ (-1)) (nI o)) b 24 = z := by
  obtain ⟨j, hj, e2, hp⟩ := hO.2.2.1 k hk
  have : o = j := (nI_eq (by omega) (by omega)).mp (e.symm.trans e2)
  subst this
  have hr := rk_nI hR hF ho (su_use hR ha ho hp).1
  refine ⟨hp, ?_⟩
  rw [hr.1, land_sum hR ha hF (by omega) b 24 (Nat.le_refl _)]
  refine h (rkN σ o) (fun i j2 a c d => hO.2.2.2.2 i k j2 o (by omega) hk c ho d e) (fun i j2 a c d f => ?_)
  by_cases g : i = k
  · subst g
    rw [(nI_eq (by omega) (by omega)).mp (f.symm.trans e)]
    omega
  · have := hO.2.2.2.2 k i o j2 (by omega) c ho d e f
    omega
set_option maxRecDepth 100000 in
set_option maxHeartbeats 4000000 in
theorem m_X6_given (l : Launch) (g : GG) (ad : Nat → Nat) (μ : Nat → Nat → Int32) (σ : Nat → Nat → Int32) (o : Nat) (b : Nat) (hR : RI σ (μ 0)) (ho : o < 24) (hb : b < 6) (hu : σ 0 o = nI 1) : MME (U := {μ' : Nat → Nat → Int32 // scr μ μ'}) l g yX6_given cX6_given 5 (some .int) 6 0 0 [.ref (ad 0), .int (nI o), .int (nI b)] [moC g ad μ] (some (.int (gvC σ (nI o) (nI b)))) (fun u => [moC g ad u.1]) := by
  refine mk_me (by decide +kernel) (Nat.le_of_ble_eq_true rfl) (fun p e s m below meth c A hA X => ?_)
  refine w_aload_n X 0 rfl dX6_given_0 ?_
  refine w_aload_n X 0 rfl dX6_given_1 ?_
  refine w_iload_n X 1 rfl dX6_given_2 ?_
  refine w_iconst X (nI 1) dX6_given_3 (by decide +kernel) ?_
  refine w_roV X [0] 0 0 (m_X6_of l g ad μ o 1 (by omega) (by omega)) cv_X6_of mk_X6_43 rfl rfl rfl rfl rfl ⟨Nat.le_of_ble_eq_true rfl, Nat.le_of_ble_eq_true rfl⟩ (Nat.le_of_ble_eq_true rfl) ⟨Nat.le_of_ble_eq_true rfl, Nat.le_of_ble_eq_true rfl⟩ dX6_given_4 rfl ?_
  obtain ⟨a, ha, ha0⟩ : ∃ a, a < 6 ∧ μ 0 (24 + 9 * o + 1) = nI a := hR.2.2.2.2.1 o ho
  rw [ha0]
  have ha1 : σ 1 o = nI a := (hR.at ho hu).1.symm.trans ha0
  refine w_iload_n X 2 rfl dX6_given_7 ?_
  refine w_meV X hA (U := {μ' : Nat → Nat → Int32 // scr μ μ'}) (gr := []) (gs1 := fun u => [moC g ad u.1]) [0] [] 0 0 (m_X6_reason l g ad μ σ a b (hR) (by omega) (by omega)) cv_X6_reason mk_X6_125 rfl rfl rfl (ng := 1) rfl (by decide) (fun _ => rfl) (fun _ => rfl) (fun _ => rfl) rfl rfl rfl ⟨Nat.le_of_ble_eq_true rfl, Nat.le_of_ble_eq_true rfl⟩ (Nat.le_of_ble_eq_true rfl) ⟨Nat.le_of_ble_eq_true rfl, Nat.le_of_ble_eq_true rfl⟩ dX6_given_8 rfl (fun u => ?_)
  obtain ⟨μ1, hμ1⟩ := u
  try dsimp only
  have hR1 : RI σ (μ1 0) := hμ1.RI hR
  refine w_if_le X 16 dX6_given_11 (by decide) (fun c11 => ?_) (fun c11 => ?_)
  · refine w_aload_n X 0 rfl dX6_given_16 ?_
    refine w_aload_n X 0 rfl dX6_given_17 ?_
    refine w_iload_n X 1 rfl dX6_given_18 ?_
    refine w_iconst X (nI 1) dX6_given_19 (by decide +kernel) ?_
    refine w_roV X [0] 0 0 (m_X6_of l g ad μ1 o 1 (by omega) (by omega)) cv_X6_of mk_X6_43 rfl rfl rfl rfl rfl ⟨Nat.le_of_ble_eq_true rfl, Nat.le_of_ble_eq_true rfl⟩ (Nat.le_of_ble_eq_true rfl) ⟨Nat.le_of_ble_eq_true rfl, Nat.le_of_ble_eq_true rfl⟩ dX6_given_20 rfl ?_
    refine w_st (st2 := [.int (nI a), .ref (ad 0)]) (by rw [hμ1 0 (by decide), ha0] <;> rfl) ?_
    refine w_meV X hA (U := {μ' : Nat → Nat → Int32 // OP σ μ1 μ' (nI (a)) ∧ ∃ n, OS σ (suC σ (nI (a))) μ' 24 n}) (gr := []) (gs1 := fun u => [moC g ad u.1]) [0] [] 0 0 (m_X6_orders l g ad μ1 σ (nI (a)) (hR1) (nI_nm1 (by omega))) cv_X6_orders mk_X6_128 rfl rfl rfl (ng := 1) rfl (by decide) (fun _ => rfl) (fun _ => rfl) (fun _ => rfl) rfl rfl rfl ⟨Nat.le_of_ble_eq_true rfl, Nat.le_of_ble_eq_true rfl⟩ (Nat.le_of_ble_eq_true rfl) ⟨Nat.le_of_ble_eq_true rfl, Nat.le_of_ble_eq_true rfl⟩ dX6_given_23 rfl (fun u => ?_)
    obtain ⟨μ2, hμ2⟩ := u
    try dsimp only
    have hR2 : RI σ (μ2 0) := hμ2.1.1.1.RI hR1
    obtain ⟨hP2, n, hO⟩ := hμ2
    obtain ⟨q, hF⟩ := hP2.1.2
    have hn24 := hO.1
    refine w_aload_n X 0 rfl dX6_given_26 ?_
    refine w_iload_n X 2 rfl dX6_given_27 ?_
    refine w_roV X [0] 0 0 (m_X6_mark l g ad μ2 b (by omega)) cv_X6_mark mk_X6_94 rfl rfl rfl rfl rfl ⟨Nat.le_of_ble_eq_true rfl, Nat.le_of_ble_eq_true rfl⟩ (Nat.le_of_ble_eq_true rfl) ⟨Nat.le_of_ble_eq_true rfl, Nat.le_of_ble_eq_true rfl⟩ dX6_given_28 rfl ?_
    refine w_istore_n X dX6_given_31 (by decide) ?_
    refine w_iconst X (nI 0) dX6_given_32 (by decide +kernel) ?_
    refine w_istore X dX6_given_33 (by decide) ?_
    refine w_all [2, 3, 4, 1, 0] (rfl) (rfl) rfl (w_loop (st := []) (pc := 35) X (V := Nat × Int32) (fun (v35 : Nat × Int32) => n - v35.1) (fun (v35 : Nat × Int32) => (v35.1 ≤ n) ∧ (ZS σ (suC σ (nI a)) μ2 n v35.1 (σ 9 b) v35.2) ∧ (∀ i, i < v35.1 → ¬ μ2 15 i = nI o)) (fun (v35 : Nat × Int32) => [(0, .ref (ad 0)), (1, .int (nI o)), (2, .int (nI b)), (3, .int (v35.2)), (4, .int (nI v35.1))]) (fun (v35 : Nat × Int32) => [moC g ad μ2]) (fun v35 hv35 ih35 => ?_) (0, μ2 0 (6 + 3 * b + 1)) (by (try dsimp only); exact ⟨Nat.zero_le _, by rw [(hR2.2.2.1 b hb).2.1]; exact zs_0 hO _, fun i h => by omega⟩))
    obtain ⟨k, z⟩ := v35
    obtain ⟨hk, hz, hno⟩ := hv35
    try dsimp only at hk hz hno ih35 ⊢
    refine w_iload X 4 rfl dX6_given_35 ?_
    refine w_aload_n X 0 rfl dX6_given_37 ?_
    refine w_get X 0 0 rfl rfl rfl in_X6 16 (by decide) fk_X6_78 rfl dX6_given_38 ?_
    refine w_st (st2 := [.int (nI n), .int (nI k)]) (by rw [hO.2.1] <;> rfl) ?_
    refine w_nc_ge X (by omega) (by omega) 78 dX6_given_41 (by decide) (fun c41 => ?_) (fun c41 => ?_)
    · refine w_iconst X (-1) dX6_given_78 (by decide +kernel) ?_
      exact w_iret_me X ⟨μ2, hμ1.tr hP2.1.1⟩ (by rw [gv_eq ho hu ha1, if_neg (not_not_intro (rs_le.mp c11)), if_neg (fun e => by obtain ⟨i, hi, e2⟩ := hO.2.2.2.1 o ho e; exact hno i (by omega) e2)]) rfl (Nat.le_of_ble_eq_true rfl) (Nat.le_of_ble_eq_true rfl) dX6_given_79
    · refine w_aload_n X 0 rfl dX6_given_44 ?_
      refine w_get X 0 0 rfl rfl rfl in_X6 15 (by decide) fk_X6_32 rfl dX6_given_45 ?_
      refine w_iload X 4 rfl dX6_given_48 ?_
      refine w_iald_n X 0 8 0 rfl rfl rfl (by omega) (by decide) dX6_given_50 ?_
      refine w_iload_n X 1 rfl dX6_given_51 ?_
      refine w_ic_ne X 57 dX6_given_52 (by decide) (fun c52 => ?_) (fun c52 => ?_)
      · obtain ⟨j, hj, hj0, hjp⟩ := hO.2.2.1 k (by omega)
        refine w_iload_n X 3 rfl dX6_given_57 ?_
        refine w_aload_n X 0 rfl dX6_given_58 ?_
        refine w_aload_n X 0 rfl dX6_given_59 ?_
        refine w_get X 0 0 rfl rfl rfl in_X6 15 (by decide) fk_X6_32 rfl dX6_given_60 ?_
        refine w_iload X 4 rfl dX6_given_63 ?_
        refine w_iald_n X 0 8 0 rfl rfl rfl (by omega) (by decide) dX6_given_65 ?_
        refine w_st (st2 := [.int (nI j), .ref (ad 0), .int (z)]) (by rw [hj0] <;> rfl) ?_
        refine w_iconst X (nI 3) dX6_given_66 (by decide +kernel) ?_
        refine w_roV X [0] 0 0 (m_X6_of l g ad μ2 j 3 (by omega) (by omega)) cv_X6_of mk_X6_43 rfl rfl rfl rfl rfl ⟨Nat.le_of_ble_eq_true rfl, Nat.le_of_ble_eq_true rfl⟩ (Nat.le_of_ble_eq_true rfl) ⟨Nat.le_of_ble_eq_true rfl, Nat.le_of_ble_eq_true rfl⟩ dX6_given_67 rfl ?_
        refine w_iadd X dX6_given_70 ?_
        refine w_istore_n X dX6_given_71 (by decide) ?_
        refine w_iinc X (nI (k + 1)) 4 rfl (nI_1 _) dX6_given_72 (by decide) ?_
        refine w_goto X 35 dX6_given_75 (by decide) ?_
        exact w_all [2, 3, 4, 1, 0] (rfl) (rfl) rfl (ih35 (k + 1, ((z) + (μ2 0 (24 + 9 * j + 3)))) (by (try dsimp only); omega) (by (try dsimp only); exact ⟨by omega, by rw [(hR2.at hj (su_use hR2 (nI_nm1 (by omega)) hj hjp).1).2.2.1]; exact zs_s hO (by omega) hj hjp hj0 hz, lt_ext hno c52⟩))
      · refine w_iload_n X 3 rfl dX6_given_55 ?_
        exact w_iret_me X ⟨μ2, hμ1.tr hP2.1.1⟩ (by rw [gv_eq ho hu ha1, if_neg (not_not_intro (rs_le.mp c11)), if_pos (zs_at hR2 (nI_nm1 (by omega)) hF hO (by omega) ho c52 hz).1, base_nI σ hb, (zs_at hR2 (nI_nm1 (by omega)) hF hO (by omega) ho c52 hz).2]) rfl (Nat.le_of_ble_eq_true rfl) (Nat.le_of_ble_eq_true rfl) dX6_given_56
  · refine w_iconst X (-1) dX6_given_14 (by decide +kernel) ?_
    exact w_iret_me X ⟨μ1, hμ1⟩ (by rw [gv_eq ho hu ha1, if_pos (fun e => c11 (rs_le.mpr e))]) rfl (Nat.le_of_ble_eq_true rfl) (Nat.le_of_ble_eq_true rfl) dX6_given_15
set_option maxRecDepth 100000 in
set_option maxHeartbeats 4000000 in
theorem m_X6_lost (l : Launch) (g : GG) (ad : Nat → Nat) (μ : Nat → Nat → Int32) (σ : Nat → Nat → Int32) (o : Nat) (hR : RI σ (μ 0)) : MME (U := {μ' : Nat → Nat → Int32 // scr μ μ'}) l g yX6_lost cX6_lost 3 (some .int) 3 0 0 [.ref (ad 0), .int (nI o)] [moC g ad μ] (some (.int (lostC σ (nI o)))) (fun u => [moC g ad u.1]) := by
  refine mk_me (by decide +kernel) (Nat.le_of_ble_eq_true rfl) (fun p e s m below meth c A hA X => ?_)
  refine w_aload_n X 0 rfl dX6_lost_0 ?_
  refine w_iconst X (-1) dX6_lost_1 (by decide +kernel) ?_
  refine w_meV X hA (U := {μ' : Nat → Nat → Int32 // scr μ μ' ∧ ∃ q, FM σ μ' (trC σ (-1)) q}) (gr := []) (gs1 := fun u => [moC g ad u.1]) [0] [] 0 0 (m_X6_meetsAll l g ad μ σ (-1) (hR)) cv_X6_meetsAll mk_X6_60 rfl rfl rfl (ng := 1) rfl (by decide) (fun _ => rfl) (fun _ => rfl) (fun _ => rfl) rfl rfl rfl ⟨Nat.le_of_ble_eq_true rfl, Nat.le_of_ble_eq_true rfl⟩ (Nat.le_of_ble_eq_true rfl) ⟨Nat.le_of_ble_eq_true rfl, Nat.le_of_ble_eq_true rfl⟩ dX6_lost_2 rfl (fun u => ?_)
  obtain ⟨μ1, hμ1⟩ := u
  try dsimp only
  have hR1 : RI σ (μ1 0) := hμ1.1.RI hR
  refine w_aload_n X 0 rfl dX6_lost_5 ?_
  refine w_get X 0 0 rfl rfl rfl in_X6 13 (by decide) fk_X6_54 rfl dX6_lost_6 ?_
  refine w_istore_n X dX6_lost_9 (by decide) ?_
  refine w_aload_n X 1 rfl dX6_lost_10 ?_
  refine w_iload_n X 2 rfl dX6_lost_11 ?_
  refine w_meV X hA (U := {μ' : Nat → Nat → Int32 // scr μ1 μ' ∧ ∃ q, FM σ μ' (trC σ (nI (o))) q}) (gr := []) (gs1 := fun u => [moC g ad u.1]) [0] [] 0 0 (m_X6_meetsAll l g ad μ1 σ (nI (o)) (hR1)) cv_X6_meetsAll mk_X6_60 rfl rfl rfl (ng := 1) rfl (by decide) (fun _ => rfl) (fun _ => rfl) (fun _ => rfl) rfl rfl rfl ⟨Nat.le_of_ble_eq_true rfl, Nat.le_of_ble_eq_true rfl⟩ (Nat.le_of_ble_eq_true rfl) ⟨Nat.le_of_ble_eq_true rfl, Nat.le_of_ble_eq_true rfl⟩ dX6_lost_12 rfl (fun u => ?_)
  obtain ⟨μ2, hμ2⟩ := u
  try dsimp only
  refine w_iload_n X 0 rfl dX6_lost_15 ?_
  refine w_aload_n X 1 rfl dX6_lost_16 ?_
  refine w_get X 0 0 rfl rfl rfl in_X6 13 (by decide) fk_X6_54 rfl dX6_lost_17 ?_
  refine w_isub X dX6_lost_20 ?_
  exact w_iret_me X ⟨μ2, hμ1.1.tr hμ2.1⟩ (by obtain ⟨q1, h1⟩ := hμ1.2; obtain ⟨q2, h2⟩ := hμ2.2; rw [lostC, h1.2.1, h2.2.1, h1.2.2.1, h2.2.2.1]) rfl (Nat.le_of_ble_eq_true rfl) (Nat.le_of_ble_eq_true rfl) dX6_lost_21
def cgB (σ : Nat → Nat → Int32) (a i : Nat) : Bool := if rsC σ (nI a) (nI i) = 0 then true else false
set_option maxRecDepth 100000 in
set_option maxHeartbeats 4000000 in
theorem m_X6_canGo (l : Launch) (g : GG) (ad : Nat → Nat) (μ : Nat → Nat → Int32) (σ : Nat → Nat → Int32) (a : Nat) (hR : RI σ (μ 0)) (ha : a < 6) : MME (U := {μ' : Nat → Nat → Int32 // scr μ μ'}) l g yX6_canGo cX6_canGo 3 (some .boolean) 6 0 0 [.ref (ad 0), .int (nI a)] [moC g ad μ] (some (.int (bI (anyB (cgB σ a) 6)))) (fun u => [moC g ad u.1]) := by
  refine mk_me (by decide +kernel) (Nat.le_of_ble_eq_true rfl) (fun p e s m below meth c A hA X => ?_)
  refine w_iconst X (nI 0) dX6_canGo_0 (by decide +kernel) ?_
  refine w_istore_n X dX6_canGo_1 (by decide) ?_
  refine w_all [1, 2, 0] (rfl) (rfl) rfl (w_loop (st := []) (pc := 2) X (V := Nat × (Nat → Nat → Int32)) (fun (v2 : Nat × (Nat → Nat → Int32)) => 6 - v2.1) (fun (v2 : Nat × (Nat → Nat → Int32)) => (v2.1 ≤ 6) ∧ (scr μ v2.2) ∧ (∀ j, j < v2.1 → cgB σ a j = false)) (fun (v2 : Nat × (Nat → Nat → Int32)) => [(0, .ref (ad 0)), (1, .int (nI a)), (2, .int (nI v2.1))]) (fun (v2 : Nat × (Nat → Nat → Int32)) => [moC g ad v2.2]) (fun v2 hv2 ih2 => ?_) (0, μ) (by (try dsimp only); exact ⟨by omega, scr.rf _, fun j h => by omega⟩))
  obtain ⟨i, μ2⟩ := v2
  obtain ⟨hi, hs2, hn⟩ := hv2
  try dsimp only at hi hs2 hn ih2 ⊢
  refine w_iload_n X 2 rfl dX6_canGo_2 ?_
  refine w_bipush X (nI 6) dX6_canGo_3 (by decide +kernel) ?_
  refine w_nc_ge X (by omega) (by omega) 25 dX6_canGo_5 (by decide) (fun c5 => ?_) (fun c5 => ?_)
  · refine w_iconst X (nI 0) dX6_canGo_25 (by decide +kernel) ?_
    exact w_zret_me X ⟨μ2, hs2⟩ (by rw [anyB_none (fun j hj => hn j (by omega))]; rfl) rfl (Nat.le_of_ble_eq_true rfl) (Nat.le_of_ble_eq_true rfl) (rfl) dX6_canGo_26
  · have hR2 : RI σ (μ2 0) := hs2.RI hR
    refine w_aload_n X 0 rfl dX6_canGo_8 ?_
    refine w_iload_n X 1 rfl dX6_canGo_9 ?_
    refine w_iload_n X 2 rfl dX6_canGo_10 ?_
    refine w_meV X hA (U := {μ' : Nat → Nat → Int32 // scr μ2 μ'}) (gr := []) (gs1 := fun u => [moC g ad u.1]) [0] [] 0 0 (m_X6_reason l g ad μ2 σ a i (hR2) (by omega) (by omega)) cv_X6_reason mk_X6_125 rfl rfl rfl (ng := 1) rfl (by decide) (fun _ => rfl) (fun _ => rfl) (fun _ => rfl) rfl rfl rfl ⟨Nat.le_of_ble_eq_true rfl, Nat.le_of_ble_eq_true rfl⟩ (Nat.le_of_ble_eq_true rfl) ⟨Nat.le_of_ble_eq_true rfl, Nat.le_of_ble_eq_true rfl⟩ dX6_canGo_11 rfl (fun u => ?_)
    obtain ⟨μ1, hμ1⟩ := u
    try dsimp only
    refine w_if_ne X 19 dX6_canGo_14 (by decide) (fun c14 => ?_) (fun c14 => ?_)
    · refine w_iinc X (nI (i + 1)) 2 rfl (nI_1 _) dX6_canGo_19 (by decide) ?_
      refine w_goto X 2 dX6_canGo_22 (by decide) ?_
      exact w_all [1, 2, 0] (rfl) (rfl) rfl (ih2 (i + 1, μ1) (by omega) (by (try dsimp only); exact ⟨by omega, hs2.tr hμ1, lt_ext hn (if_neg c14)⟩))
    · refine w_iconst X (nI 1) dX6_canGo_17 (by decide +kernel) ?_
      exact w_zret_me X ⟨μ1, hs2.tr hμ1⟩ (by rw [anyB_found (k := i) hn (by omega) (if_pos c14)]; rfl) rfl (Nat.le_of_ble_eq_true rfl) (Nat.le_of_ble_eq_true rfl) (rfl) dX6_canGo_18
