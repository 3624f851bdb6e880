/-! The model: states -/
def szS (σ : Nat → Nat → Int32) (a : Nat) : Nat → Nat
  | 0 => 0
  | n + 1 => szS σ a n + if σ 0 n = nI 1 ∧ σ 1 n = nI a then (σ 3 n).toNatClampNeg else 0
def InvF (σ : Nat → Nat → Int32) : Prop := ∀ o, o < 24 → (σ 0 o = nI 0 ∨ σ 0 o = nI 1) ∧ (σ 5 o = nI 0 ∨ σ 5 o = nI 1) ∧ (σ 6 o = nI 0 ∨ σ 6 o = nI 1)
def InvA (σ : Nat → Nat → Int32) : Prop := ∀ a, a < 6 → (σ 8 a = nI 0 ∨ σ 8 a = nI 1) ∧ ∃ q, q ≤ 64 ∧ σ 9 a = nI q ∧ szS σ a 24 ≤ q
def InvS (σ : Nat → Nat → Int32) : Prop := (σ 11 0 = nI 0 ∨ σ 11 0 = nI 1) ∧ (σ 11 1 = nI 0 ∨ σ 11 1 = nI 1 ∨ σ 11 1 = nI 2)
def InvU (σ : Nat → Nat → Int32) : Prop := ∀ o, o < 24 → σ 0 o = nI 0 → σ 4 (o * 2 + 0) = -1 ∧ σ 4 (o * 2 + 1) = -1 ∧ σ 5 o = nI 0 ∧ σ 6 o = nI 0 ∧ σ 7 o = nI 0
def InvO (σ : Nat → Nat → Int32) : Prop := ∀ o, o < 24 → σ 0 o = nI 1 → ∃ a z d q, a < 6 ∧ 1 ≤ z ∧ z ≤ 16 ∧ d + z ≤ q ∧ q ≤ 64 ∧ σ 1 o = nI a ∧ σ 2 o = nI d ∧ σ 3 o = nI z ∧ σ 9 a = nI q ∧ σ 8 a = nI 1
def InvR (σ : Nat → Nat → Int32) : Prop := ∀ o f, o < 24 → f < 2 → σ 4 (o * 2 + f) = -1 ∨ ∃ j, j < 24 ∧ σ 4 (o * 2 + f) = nI j ∧ σ 0 j = nI 1
def InvD (σ : Nat → Nat → Int32) : Prop := ∀ o j, o < 24 → j < 24 → σ 0 o = nI 1 → σ 0 j = nI 1 → σ 1 o = σ 1 j → σ 2 o = σ 2 j → o = j
def Inv (σ : Nat → Nat → Int32) : Prop := InvF σ ∧ InvA σ ∧ InvS σ ∧ InvU σ ∧ InvO σ ∧ InvR σ ∧ InvD σ
def RelA (σ : Nat → Nat → Int32) (N : Nat → Int32) : Prop := ∀ a, a < 6 → N (6 + 3 * a) = σ 8 a ∧ N (6 + 3 * a + 1) = σ 9 a ∧ N (6 + 3 * a + 2) = σ 10 a
def RelC (σ : Nat → Nat → Int32) (N : Nat → Int32) : Prop := N 0 = σ 11 0 ∧ N 1 = σ 11 1 ∧ N 2 = σ 12 0 ∧ N 3 = σ 12 1 ∧ N 4 = σ 12 2 ∧ N 5 = σ 12 3
def RelO (σ : Nat → Nat → Int32) (N : Nat → Int32) : Prop := ∀ o, o < 24 → N (24 + 9 * o + 0) = σ 0 o ∧ (σ 0 o = nI 1 → N (24 + 9 * o + 1) = σ 1 o ∧ N (24 + 9 * o + 2) = σ 2 o ∧ N (24 + 9 * o + 3) = σ 3 o ∧ N (24 + 9 * o + 4) = σ 4 (o * 2 + 0) ∧ N (24 + 9 * o + 5) = σ 4 (o * 2 + 1) ∧ N (24 + 9 * o + 6) = σ 5 o ∧ N (24 + 9 * o + 7) = σ 6 o ∧ N (24 + 9 * o + 8) = σ 7 o)
def RelW (N : Nat → Int32) : Prop := (∀ o, o < 24 → ∃ a, a < 6 ∧ N (24 + 9 * o + 1) = nI a) ∧ ∀ o f, o < 24 → f < 2 → N (24 + 9 * o + (4 + f)) = -1 ∨ ∃ j, j < 24 ∧ N (24 + 9 * o + (4 + f)) = nI j
/-- the model's numbers N are a state σ of the class -/
def RI (σ : Nat → Nat → Int32) (N : Nat → Int32) : Prop := Inv σ ∧ RelC σ N ∧ RelA σ N ∧ RelO σ N ∧ RelW N
section RIS
variable {σ : Nat → Nat → Int32} {N : Nat → Int32}
theorem RI.inv (h : RI σ N) : Inv σ := h.1
theorem RI.flag (h : RI σ N) {o : Nat} (ho : o < 24) : σ 0 o = nI 0 ∨ σ 0 o = nI 1 := (h.1.1 o ho).1
theorem RI.used (h : RI σ N) {o : Nat} (ho : o < 24) : N (24 + 9 * o + 0) = σ 0 o := (h.2.2.2.1 o ho).1
theorem RI.at (h : RI σ N) {o : Nat} (ho : o < 24) (hu : σ 0 o = nI 1) : N (24 + 9 * o + 1) = σ 1 o ∧ N (24 + 9 * o + 2) = σ 2 o ∧ N (24 + 9 * o + 3) = σ 3 o ∧ N (24 + 9 * o + 4) = σ 4 (o * 2 + 0) ∧ N (24 + 9 * o + 5) = σ 4 (o * 2 + 1) ∧ N (24 + 9 * o + 6) = σ 5 o ∧ N (24 + 9 * o + 7) = σ 6 o ∧ N (24 + 9 * o + 8) = σ 7 o := (h.2.2.2.1 o ho).2 hu
theorem n10 : ¬ (nI 1 : Int32) = nI 0 := by decide
theorem n01 : ¬ (nI 0 : Int32) = nI 1 := by decide
theorem nI_nlt0 {j : Nat} (h : j < 2 ^ 31) : ¬ nI j < 0 := nI_pos h
theorem nI_nge {j n : Nat} (hj : j < n) (h : n < 2 ^ 31) : ¬ nI n ≤ nI j := fun e => by have := (nI_leI h (by omega)).mp e; omega
theorem isIn_nI (σ : Nat → Nat → Int32) {o : Nat} (ho : o < 24) (a : Int32) : isInB σ (nI o) a = if σ 0 o = nI 0 then false else if σ 1 o = a then true else false := by
  rw [isInB, if_neg (nI_nlt0 (by omega)), if_neg (nI_nge ho (by decide)), nI_clamp (by omega)]
  rfl
theorem has_nI (σ : Nat → Nat → Int32) {o : Nat} (ho : o < 24) : hasB σ (nI o) = if σ 0 o = nI 0 then false else true := by
  rw [hasB, if_neg (nI_nlt0 (by omega)), if_neg (nI_nge ho (by decide)), nI_clamp (by omega)]
  rfl
theorem isOp_nI (σ : Nat → Nat → Int32) {a : Nat} (ha : a < 6) : isOpB σ (nI a) = if σ 8 a = nI 0 then false else true := by
  rw [isOpB, isArB_nI ha, if_neg (by decide), nI_clamp (by omega)]
  rfl
theorem ref_nI (σ : Nat → Nat → Int32) {o f : Nat} (ho : o < 24) (hf : f < 2) : refI σ (nI o) (nI f) = σ 4 (o * 2 + f) := by
  rw [refI, if_neg (nI_nlt0 (by omega)), if_neg (nI_nge ho (by decide)), if_neg (nI_nlt0 (by omega)), if_pos ((nI_ltI (by omega) (by decide)).mpr hf), nI_clamp (by omega), nI_clamp (by omega)]
/-- a flag's two values -/
theorem RI.two (h : RI σ N) {o : Nat} (ho : o < 24) {P : Prop} (h0 : σ 0 o = nI 0 → N (24 + 9 * o + 0) = nI 0 → P) (h1 : σ 0 o = nI 1 → N (24 + 9 * o + 0) = nI 1 → P) : P := by
  have e := h.used ho
  rcases h.flag ho with hz | hz
  · exact h0 hz (e.trans hz)
  · exact h1 hz (e.trans hz)
theorem RI.isIn (h : RI σ N) {o : Nat} (ho : o < 24) (a : Int32) : isInB σ (nI o) a = if N (24 + 9 * o + 0) = nI 1 then (if N (24 + 9 * o + 1) = a then true else false) else false := by
  rw [isIn_nI σ ho]
  refine h.two ho (fun h0 h1 => ?_) (fun h0 h1 => ?_)
  · rw [h0, h1, if_pos rfl, if_neg n01]
  · rw [h0, h1, if_neg n10, if_pos rfl, (h.at ho h0).1]
theorem RI.isOp (h : RI σ N) {a : Nat} (ha : a < 6) : isOpB σ (nI a) = if N (6 + 3 * a) = nI 1 then true else false := by
  rw [isOp_nI σ ha, (h.2.2.1 a ha).1]
  rcases (h.1.2.1 a ha).1 with e | e
  · rw [e, if_pos rfl, if_neg n01]
  · rw [e, if_neg n10, if_pos rfl]
theorem dig_cases (x : Int32) (n : Nat) (hn : n < 2 ^ 31) : (digB x (nI 0) (nI n) = true ∧ ∃ j, j ≤ n ∧ x = nI j) ∨ (digB x (nI 0) (nI n) = false ∧ ∀ j, j ≤ n → x ≠ nI j) := by
  unfold digB
  by_cases h0 : x < nI 0
  · rw [if_pos h0]
    refine Or.inr ⟨rfl, fun j hj e => ?_⟩
    rw [e, nI_ltI (by omega) (by decide)] at h0
    omega
  · rw [if_neg h0]
    by_cases h1 : nI n < x
    · rw [if_pos h1]
      refine Or.inr ⟨rfl, fun j hj e => ?_⟩
      rw [e, nI_ltI hn (by omega)] at h1
      omega
    · rw [if_neg h1]
      refine Or.inl ⟨rfl, x.toNatClampNeg, ?_, ?_⟩
      · rw [Int32.lt_iff_toInt_lt, nI_toInt hn] at h1
        have : x.toInt.toNat = x.toNatClampNeg := rfl
        omega
      · rw [Int32.lt_iff_toInt_lt, nI_toInt (by decide)] at h0
        rw [Int32.lt_iff_toInt_lt, nI_toInt hn] at h1
        have : x.toInt.toNat = x.toNatClampNeg := rfl
        exact Int32.toInt_inj.mp (by rw [nI_toInt (by omega)]; omega)
theorem isAr_dig (x : Int32) : isArB x = digB x (nI 0) (nI 5) := by
  rcases dig_cases x 5 (by decide) with ⟨e, j, hj, rfl⟩ | ⟨e, h⟩
  · rw [e, isArB_nI (by omega)]
  · rw [e]
    rcases hx : isArB x with _ | _
    · rfl
    · obtain ⟨j, hj, rfl⟩ := isArB_ex hx
      exact absurd rfl (h j (by omega))
theorem isSe_dig (x : Int32) : isSeB x = digB x (nI 0) (nI 1) := by
  rcases dig_cases x 1 (by decide) with ⟨e, j, hj, rfl⟩ | ⟨e, h⟩
  · rw [e, isSeB, if_neg (nI_nlt0 (by omega)), if_pos ((nI_ltI (by omega) (by decide)).mpr (by omega))]
  · rw [e]
    rcases hx : isSeB x with _ | _
    · rfl
    · obtain ⟨j, hj, rfl⟩ := isSeB_ex hx
      exact absurd rfl (h j (by omega))
theorem has_dig (σ : Nat → Nat → Int32) (x : Int32) (h : digB x (nI 0) (nI 23) = false) : hasB σ x = false := by
  rcases hx : hasB σ x with _ | _
  · rfl
  · obtain ⟨j, hj, rfl⟩ := vp_in_of (hasB_in hx) (by decide)
    rcases dig_cases (nI j) 23 (by decide) with ⟨e, _⟩ | ⟨e, h2⟩
    · rw [e] at h; cases h
    · exact absurd rfl (h2 j (by omega))
theorem RI.has (h : RI σ N) {o : Nat} (ho : o < 24) : hasB σ (nI o) = if N (24 + 9 * o + 0) = nI 1 then true else false := by
  rw [has_nI σ ho]
  refine h.two ho (fun h0 h1 => ?_) (fun h0 h1 => ?_)
  · rw [h0, h1, if_pos rfl, if_neg n01]
  · rw [h0, h1, if_neg n10, if_pos rfl]
end RIS
set_option maxRecDepth 100000 in
set_option maxHeartbeats 4000000 in
theorem m_X6_thrown (l : Launch) (g : GG) (ad : Nat → Nat) (μ : Nat → Nat → Int32) : MRO l g yX6_thrown cX6_thrown 1 (some .int) 0 [.ref (ad 0)] [moC g ad μ] (some (.int (μ 5 0))) := by
  refine mk_ro (by decide +kernel) (Nat.le_of_ble_eq_true rfl) (fun p e s m below meth c X => ?_)
  refine w_aload_n X 0 rfl dX6_thrown_0 ?_
  refine w_get X 0 0 rfl rfl rfl in_X6 5 (by decide) fk_X6_35 rfl dX6_thrown_1 ?_
  exact w_iret_ro X (by first | rfl | (subst he_i; rfl) | simp (decide := true) [bI]) dX6_thrown_4
set_option maxRecDepth 100000 in
set_option maxHeartbeats 4000000 in
theorem m_X6_in (l : Launch) (g : GG) (q : Int32) (a : Int32) (b : Int32) : MRO l g yX6_in cX6_in 3 (some .boolean) 0 [.int (q), .int (a), .int (b)] [] (some (.int (bI (digB q a b)))) := by
  refine mk_ro (by decide +kernel) (Nat.le_of_ble_eq_true rfl) (fun p e s m below meth c X => ?_)
  refine w_iload_n X 0 rfl dX6_in_0 ?_
  refine w_iload_n X 1 rfl dX6_in_1 ?_
  refine w_ic_lt X 14 dX6_in_2 (by decide) (fun c2 => ?_) (fun c2 => ?_)
  · refine w_iconst X (nI 0) dX6_in_14 (by decide +kernel) ?_
    exact w_zret_ro X (by first | rfl | (subst he_i; rfl) | simp (decide := true) [digB, c2, bI]) (rfl) dX6_in_15
  · refine w_iload_n X 0 rfl dX6_in_5 ?_
    refine w_iload_n X 2 rfl dX6_in_6 ?_
    refine w_ic_gt X 14 dX6_in_7 (by decide) (fun c7 => ?_) (fun c7 => ?_)
    · refine w_iconst X (nI 0) dX6_in_14 (by decide +kernel) ?_
      exact w_zret_ro X (by first | rfl | (subst he_i; rfl) | simp (decide := true) [digB, c2, c7, bI]) (rfl) dX6_in_15
    · refine w_iconst X (nI 1) dX6_in_10 (by decide +kernel) ?_
      refine w_goto X 15 dX6_in_11 (by decide) ?_
      exact w_zret_ro X (by first | rfl | (subst he_i; rfl) | simp (decide := true) [digB, c2, c7, bI]) (rfl) dX6_in_15
set_option maxRecDepth 100000 in
set_option maxHeartbeats 4000000 in
theorem m_X6_isArena (l : Launch) (g : GG) (x : Int32) : MRO l g yX6_isArena cX6_isArena 1 (some .boolean) 1 [.int (x)] [] (some (.int (bI (isArB x)))) := by
  refine mk_ro (by decide +kernel) (Nat.le_of_ble_eq_true rfl) (fun p e s m below meth c X => ?_)
  refine w_iload_n X 0 rfl dX6_isArena_0 ?_
  refine w_iconst X (nI 0) dX6_isArena_1 (by decide +kernel) ?_
  refine w_iconst X (nI 5) dX6_isArena_2 (by decide +kernel) ?_
  refine w_roS X [] (m_X6_in l g (x) (nI (0)) (nI (5))) cs_X6_in mk_X6_39 rfl rfl ⟨Nat.le_of_ble_eq_true rfl, Nat.le_of_ble_eq_true rfl⟩ (Nat.le_of_ble_eq_true rfl) ⟨Nat.le_of_ble_eq_true rfl, Nat.le_of_ble_eq_true rfl⟩ dX6_isArena_3 rfl ?_
  exact w_zret_ro X (by rw [isAr_dig]) (bI_nar _) dX6_isArena_6
set_option maxRecDepth 100000 in
set_option maxHeartbeats 4000000 in
theorem m_X6_of (l : Launch) (g : GG) (ad : Nat → Nat) (μ : Nat → Nat → Int32) (o : Nat) (w : Nat) (ho : o < 24) (hw : w < 9) : MRO l g yX6_of cX6_of 3 (some .int) 0 [.ref (ad 0), .int (nI o), .int (nI w)] [moC g ad μ] (some (.int (μ 0 (24 + 9 * o + w)))) := by
  refine mk_ro (by decide +kernel) (Nat.le_of_ble_eq_true rfl) (fun p e s m below meth c X => ?_)
  refine w_aload_n X 0 rfl dX6_of_0 ?_
  refine w_get X 0 0 rfl rfl rfl in_X6 0 (by decide) fk_X6_7 rfl dX6_of_1 ?_
  refine w_bipush X (nI 24) dX6_of_4 (by decide +kernel) ?_
  refine w_bipush X (nI 9) dX6_of_6 (by decide +kernel) ?_
  refine w_iload_n X 1 rfl dX6_of_8 ?_
  refine w_imul_n X dX6_of_9 ?_
  refine w_iadd_n X dX6_of_10 ?_
  refine w_iload_n X 2 rfl dX6_of_11 ?_
  refine w_iadd_n X dX6_of_12 ?_
  refine w_iald_n X 0 1 0 rfl rfl rfl (by omega) (by decide) dX6_of_13 ?_
  exact w_iret_ro X (by first | rfl | (subst he_i; rfl) | simp (decide := true) [bI]) dX6_of_14
set_option maxRecDepth 100000 in
set_option maxHeartbeats 4000000 in
theorem m_X6_mark (l : Launch) (g : GG) (ad : Nat → Nat) (μ : Nat → Nat → Int32) (a : Nat) (ha : a < 6) : MRO l g yX6_mark cX6_mark 2 (some .int) 0 [.ref (ad 0), .int (nI a)] [moC g ad μ] (some (.int (μ 0 (6 + 3 * a + 1)))) := by
  refine mk_ro (by decide +kernel) (Nat.le_of_ble_eq_true rfl) (fun p e s m below meth c X => ?_)
  refine w_aload_n X 0 rfl dX6_mark_0 ?_
  refine w_get X 0 0 rfl rfl rfl in_X6 0 (by decide) fk_X6_7 rfl dX6_mark_1 ?_
  refine w_bipush X (nI 6) dX6_mark_4 (by decide +kernel) ?_
  refine w_iconst X (nI 3) dX6_mark_6 (by decide +kernel) ?_
  refine w_iload_n X 1 rfl dX6_mark_7 ?_
  refine w_imul_n X dX6_mark_8 ?_
  refine w_iadd_n X dX6_mark_9 ?_
  refine w_iconst X (nI 1) dX6_mark_10 (by decide +kernel) ?_
  refine w_iadd_n X dX6_mark_11 ?_
  refine w_iald_n X 0 1 0 rfl rfl rfl (by omega) (by decide) dX6_mark_12 ?_
  exact w_iret_ro X (by first | rfl | (subst he_i; rfl) | simp (decide := true) [bI]) dX6_mark_13
set_option maxRecDepth 100000 in
set_option maxHeartbeats 4000000 in
theorem m_X6_isOpen (l : Launch) (g : GG) (ad : Nat → Nat) (μ : Nat → Nat → Int32) (σ : Nat → Nat → Int32) (a : Nat) (ha : a < 6) (hR : RI σ (μ 0)) : MRO l g yX6_isOpen cX6_isOpen 2 (some .boolean) 0 [.ref (ad 0), .int (nI a)] [moC g ad μ] (some (.int (bI (isOpB σ (nI a))))) := by
  refine mk_ro (by decide +kernel) (Nat.le_of_ble_eq_true rfl) (fun p e s m below meth c X => ?_)
  refine w_aload_n X 0 rfl dX6_isOpen_0 ?_
  refine w_get X 0 0 rfl rfl rfl in_X6 0 (by decide) fk_X6_7 rfl dX6_isOpen_1 ?_
  refine w_bipush X (nI 6) dX6_isOpen_4 (by decide +kernel) ?_
  refine w_iconst X (nI 3) dX6_isOpen_6 (by decide +kernel) ?_
  refine w_iload_n X 1 rfl dX6_isOpen_7 ?_
  refine w_imul_n X dX6_isOpen_8 ?_
  refine w_iadd_n X dX6_isOpen_9 ?_
  refine w_iald_n X 0 1 0 rfl rfl rfl (by omega) (by decide) dX6_isOpen_10 ?_
  refine w_iconst X (nI 1) dX6_isOpen_11 (by decide +kernel) ?_
  refine w_ic_ne X 19 dX6_isOpen_12 (by decide) (fun c12 => ?_) (fun c12 => ?_)
  · refine w_iconst X (nI 0) dX6_isOpen_19 (by decide +kernel) ?_
    exact w_zret_ro X (by rw [hR.isOp ha, if_neg c12]; rfl) (rfl) dX6_isOpen_20
  · refine w_iconst X (nI 1) dX6_isOpen_15 (by decide +kernel) ?_
    refine w_goto X 20 dX6_isOpen_16 (by decide) ?_
    exact w_zret_ro X (by rw [hR.isOp ha, if_pos c12]; rfl) (rfl) dX6_isOpen_20
set_option maxRecDepth 100000 in
set_option maxHeartbeats 4000000 in
theorem m_X6_isIn (l : Launch) (g : GG) (ad : Nat → Nat) (μ : Nat → Nat → Int32) (σ : Nat → Nat → Int32) (o : Nat) (a : Int32) (ho : o < 24) (hR : RI σ (μ 0)) : MRO l g yX6_isIn cX6_isIn 3 (some .boolean) 1 [.ref (ad 0), .int (nI o), .int (a)] [moC g ad μ] (some (.int (bI (isInB σ (nI o) a)))) := by
  refine mk_ro (by decide +kernel) (Nat.le_of_ble_eq_true rfl) (fun p e s m below meth c X => ?_)
  refine w_aload_n X 0 rfl dX6_isIn_0 ?_
  refine w_iload_n X 1 rfl dX6_isIn_1 ?_
  refine w_iconst X (nI 0) dX6_isIn_2 (by decide +kernel) ?_
  refine w_roV X [0] 0 0 (m_X6_of l g ad μ o 0 (by omega) (by omega)) cv_X6_of mk_X6_43 rfl rfl rfl rfl rfl ⟨Nat.le_of_ble_eq_true rfl, Nat.le_of_ble_eq_true rfl⟩ (Nat.le_of_ble_eq_true rfl) ⟨Nat.le_of_ble_eq_true rfl, Nat.le_of_ble_eq_true rfl⟩ dX6_isIn_3 rfl ?_
  refine w_iconst X (nI 1) dX6_isIn_6 (by decide +kernel) ?_
  refine w_ic_ne X 24 dX6_isIn_7 (by decide) (fun c7 => ?_) (fun c7 => ?_)
  · refine w_iconst X (nI 0) dX6_isIn_24 (by decide +kernel) ?_
    exact w_zret_ro X (by rw [hR.isIn ho, if_neg c7]; rfl) (rfl) dX6_isIn_25
  · refine w_aload_n X 0 rfl dX6_isIn_10 ?_
    refine w_iload_n X 1 rfl dX6_isIn_11 ?_
    refine w_iconst X (nI 1) dX6_isIn_12 (by decide +kernel) ?_
    refine w_roV X [0] 0 0 (m_X6_of l g ad μ o 1 (by omega) (by omega)) cv_X6_of mk_X6_43 rfl rfl rfl rfl rfl ⟨Nat.le_of_ble_eq_true rfl, Nat.le_of_ble_eq_true rfl⟩ (Nat.le_of_ble_eq_true rfl) ⟨Nat.le_of_ble_eq_true rfl, Nat.le_of_ble_eq_true rfl⟩ dX6_isIn_13 rfl ?_
    refine w_iload_n X 2 rfl dX6_isIn_16 ?_
    refine w_ic_ne X 24 dX6_isIn_17 (by decide) (fun c17 => ?_) (fun c17 => ?_)
    · refine w_iconst X (nI 0) dX6_isIn_24 (by decide +kernel) ?_
      exact w_zret_ro X (by rw [hR.isIn ho, if_pos c7, if_neg c17]; rfl) (rfl) dX6_isIn_25
    · refine w_iconst X (nI 1) dX6_isIn_20 (by decide +kernel) ?_
      refine w_goto X 25 dX6_isIn_21 (by decide) ?_
      exact w_zret_ro X (by rw [hR.isIn ho, if_pos c7, if_pos c17]; rfl) (rfl) dX6_isIn_25
theorem dig_ex {x : Int32} {n : Nat} (hn : n < 2 ^ 31) (h : digB x (nI 0) (nI n) = true) : ∃ j, j < n + 1 ∧ x = nI j := by
  rcases dig_cases x n hn with ⟨_, j, hj, e⟩ | ⟨e, _⟩
  · exact ⟨j, by omega, e⟩
  · rw [e] at h; cases h
theorem cnt_f {P : Nat → Bool} {n : Nat} (h : P n = false) : cntI P n + nI 0 = cntI P (n + 1) := by rw [cntI, h]; rfl
theorem cnt_t {P : Nat → Bool} {n : Nat} (h : P n = true) : cntI P n + nI 1 = cntI P (n + 1) := by rw [cntI, h]; rfl
theorem cnt_v {P : Nat → Bool} {n : Nat} {v : Int32} (h : v = bI (P n)) : cntI P n + v = cntI P (n + 1) := by rw [cntI, h]
theorem bI_nz {x : Int32} (h : x = nI 0 ∨ x = nI 1) : x = bI (nz x) := by rcases h with h | h <;> rw [h] <;> rfl
section RIT
variable {σ : Nat → Nat → Int32} {N : Nat → Int32}
theorem in_used (hR : RI σ N) {o : Nat} (ho : o < 24) {a : Int32} (h : isInB σ (nI o) a = true) : σ 0 o = nI 1 ∧ σ 1 o = a := by
  rw [isIn_nI σ ho] at h
  rcases hR.flag ho with e | e
  · rw [e, if_pos rfl] at h; cases h
  · refine ⟨e, ?_⟩
    rw [e, if_neg n10] at h
    split at h
    · assumption
    · cases h
theorem RI.pin7 (hR : RI σ N) {o : Nat} (ho : o < 24) {a : Int32} (h : isInB σ (nI o) a = true) : N (24 + 9 * o + 7) = bI (nz (σ 6 o)) := by
  rw [(hR.at ho (in_used hR ho h).1).2.2.2.2.2.2.1]
  exact bI_nz (hR.1.1 o ho).2.2
theorem isOp_nz (σ : Nat → Nat → Int32) {a : Nat} (ha : a < 6) : isOpB σ (nI a) = nz (σ 8 a) := by rw [isOp_nI σ ha]; rfl
theorem RI.atp (hR : RI σ N) {o : Nat} (ho : o < 24) {a : Int32} (h : isInB σ (nI o) a = true) (q : Int32) : atP σ a q o = digB q (N (24 + 9 * o + 2)) (N (24 + 9 * o + 2) + N (24 + 9 * o + 3) - nI 1) := by
  have hu := in_used hR ho h
  obtain ⟨k, z, d, t, h1, h2, h3, h4, h5, e1, e2, e3, e4, e5⟩ := hR.1.2.2.2.2.1 o ho hu.1
  obtain ⟨f1, f2, f3, -⟩ := hR.at ho hu.1
  rw [atP, if_neg (by rw [h]; decide), f2, f3, e2, e3, nI_add, pk_sub (by omega), digB]
  by_cases c1 : q < nI d
  · rw [if_pos c1, if_pos c1]
  · rw [if_neg c1, if_neg c1]
    have hq : (nI (d + z) ≤ q) ↔ nI (d + z - 1) < q := by
      rw [Int32.le_iff_toInt_le, Int32.lt_iff_toInt_lt, nI_toInt (by omega), nI_toInt (by omega)]
      omega
    by_cases c2 : nI (d + z) ≤ q
    · rw [if_pos c2, if_pos (hq.mp c2)]
    · rw [if_neg c2, if_neg (fun e => c2 (hq.mpr e))]
theorem RI.fld (hR : RI σ N) {o f : Nat} (ho : o < 24) (hf : f < 2) (hu : σ 0 o = nI 1) : N (24 + 9 * o + (4 + f)) = σ 4 (o * 2 + f) := by
  obtain ⟨-, -, -, f4, f5, -⟩ := hR.at ho hu
  rcases (show f = 0 ∨ f = 1 by omega) with rfl | rfl
  · exact f4
  · exact f5
theorem RI.unf (hR : RI σ N) {o f : Nat} (ho : o < 24) (hf : f < 2) (hu : σ 0 o = nI 0) : σ 4 (o * 2 + f) = -1 := by
  obtain ⟨g0, g1, -⟩ := hR.1.2.2.2.1 o ho hu
  rcases (show f = 0 ∨ f = 1 by omega) with rfl | rfl
  · exact g0
  · exact g1
theorem has_m1 (σ : Nat → Nat → Int32) : hasB σ (-1) = false := by rw [hasB, if_pos (by decide)]
theorem RI.ref0 (hR : RI σ N) {o f : Nat} (ho : o < 24) (hf : f < 2) {b : Bool} (h : ¬ N (24 + 9 * o + 0) = nI 1) : refP σ b o f = false := by
  rw [refP, ref_nI σ ho hf, hR.unf ho hf (hR.two ho (fun a _ => a) (fun _ a => absurd a h)), has_m1, if_pos rfl]
theorem RI.ref1 (hR : RI σ N) {o f : Nat} (ho : o < 24) (hf : f < 2) {b : Bool} (h : N (24 + 9 * o + 0) = nI 1) (h1 : N (24 + 9 * o + (4 + f)) = -1) : refP σ b o f = false := by
  rw [refP, ref_nI σ ho hf, ← hR.fld ho hf ((hR.used ho).symm.trans h), h1, has_m1, if_pos rfl]
theorem RI.to (hR : RI σ N) {o f : Nat} (ho : o < 24) (hf : f < 2) (h : N (24 + 9 * o + 0) = nI 1) (h1 : ¬ N (24 + 9 * o + (4 + f)) = -1) : ∃ j, j < 24 ∧ N (24 + 9 * o + (4 + f)) = nI j ∧ σ 4 (o * 2 + f) = nI j ∧ σ 0 j = nI 1 := by
  rw [hR.fld ho hf ((hR.used ho).symm.trans h)] at h1 ⊢
  rcases hR.1.2.2.2.2.2.1 o f ho hf with e | ⟨j, hj, e, u⟩
  · exact absurd e h1
  · exact ⟨j, hj, e, e, u⟩
theorem RI.ref2 (hR : RI σ N) {o f : Nat} (ho : o < 24) (hf : f < 2) {b : Bool} (h : N (24 + 9 * o + 0) = nI 1) (h1 : ¬ N (24 + 9 * o + (4 + f)) = -1) {j : Nat} (hj : N (24 + 9 * o + (4 + f)) = nI j) (hj2 : j < 24) : refP σ b o f = if b = false then true else if N (24 + 9 * j + 1) = N (24 + 9 * o + 1) then false else true := by
  obtain ⟨k, hk, e1, e2, u⟩ := hR.to ho hf h h1
  have e3 : j = k := (nI_eq (by omega) (by omega)).mp (hj.symm.trans e1)
  subst e3
  rw [refP, ref_nI σ ho hf, e2, has_nI σ hj2, u, if_neg n10, if_neg (by decide), nI_clamp (by omega), (hR.at hj2 u).1, (hR.at ho ((hR.used ho).symm.trans h)).1]
theorem RI.rto (hR : RI σ N) {o f : Nat} (ho : o < 24) (hf : f < 2) {j : Nat} (hj : j < 24) : (if refI σ (nI o) (nI f) = nI j then true else false) = if N (24 + 9 * o + 0) = nI 1 then (if N (24 + 9 * o + (4 + f)) = nI j then true else false) else false := by
  rw [ref_nI σ ho hf]
  refine hR.two ho (fun h0 h1 => ?_) (fun h0 h1 => ?_)
  · rw [h1, if_neg n01, hR.unf ho hf h0, if_neg (fun e => nI_ne (by omega) e.symm)]
  · rw [h1, if_pos rfl, hR.fld ho hf h0]
theorem RI.cell (hR : RI σ N) {a : Nat} (ha : a < 6) {z : Nat} (hz : z ≤ 1000) : roomB σ (nI a) (nI z) = if nI 64 < N (6 + 3 * a + 1) + nI z then false else true := by
  obtain ⟨-, q, hq, e, -⟩ := hR.1.2.1 a ha
  rw [roomB, isArB_nI ha, if_neg (by decide), nI_clamp (by omega), (hR.2.2.1 a ha).2.1, e, pk_sub hq, nI_add]
  have h1 : (nI (64 - q) < nI z) ↔ nI 64 < nI (q + z) := by
    rw [nI_ltI (by omega) (by omega), nI_ltI (by omega) (by omega)]
    omega
  by_cases c : nI 64 < nI (q + z)
  · rw [if_pos c, if_pos (h1.mpr c)]
  · rw [if_neg c, if_neg (fun e => c (h1.mp e))]
theorem not_t {b : Bool} (h : b = false) : (!b) = true := by rw [h]; rfl
theorem not_f {b : Bool} (h : b = true) : (!b) = false := by rw [h]; rfl
theorem nz_t {x : Int32} (h : ¬ x = nI 0) : nz x = true := if_neg h
theorem nz_f {x : Int32} (h : x = nI 0) : nz x = false := if_pos h
theorem RI.nzu (hR : RI σ N) {o : Nat} (ho : o < 24) : nz (σ 0 o) = if N (24 + 9 * o + 0) = nI 1 then true else false := by
  refine hR.two ho (fun h0 h1 => ?_) (fun h0 h1 => ?_)
  · rw [h0, h1]; rfl
  · rw [h0, h1]; rfl
theorem RI.nzr (hR : RI σ N) {o : Nat} (ho : o < 24) : nz (σ 5 o) = if N (24 + 9 * o + 0) = nI 1 then (if N (24 + 9 * o + 6) = nI 1 then true else false) else false := by
  refine hR.two ho (fun h0 h1 => ?_) (fun h0 h1 => ?_)
  · rw [h1, (hR.1.2.2.2.1 o ho h0).2.2.1]; rfl
  · rw [h1, if_pos rfl, (hR.at ho h0).2.2.2.2.2.1]
    rcases (hR.1.1 o ho).2.1 with e | e <;> rw [e] <;> rfl
end RIT
def frN (σ : Nat → Nat → Int32) : Nat := ffst (fun o => !nz (σ 0 o)) 24 0
theorem lfN_fr (σ : Nat → Nat → Int32) : lfN σ = if frN σ = 24 then -1 else nI (frN σ) := rfl
theorem fr_le (σ : Nat → Nat → Int32) : frN σ ≤ 24 := by have := (ffst_le (fun o => !nz (σ 0 o)) 24 0).2; rw [Nat.zero_add] at this; exact this
def mmB (σ : Nat → Nat → Int32) (a : Nat) (z : Int32) : Bool := if isOpB σ (nI a) = false then false else if roomB σ (nI a) z = false then false else if frN σ = 24 then false else true
def thP (σ : Nat → Nat → Int32) (w o : Nat) : Bool := if w = 0 then nz (σ 0 o) else nz (σ 5 o)
set_option maxRecDepth 100000 in
set_option maxHeartbeats 4000000 in
theorem m_X6_isObject (l : Launch) (g : GG) (ad : Nat → Nat) (μ : Nat → Nat → Int32) (σ : Nat → Nat → Int32) (x : Int32) (hR : RI σ (μ 0)) : MRO l g yX6_isObject cX6_isObject 2 (some .boolean) 2 [.ref (ad 0), .int (x)] [moC g ad μ] (some (.int (bI (hasB σ x)))) := by
  refine mk_ro (by decide +kernel) (Nat.le_of_ble_eq_true rfl) (fun p e s m below meth c X => ?_)
  refine w_iload_n X 1 rfl dX6_isObject_0 ?_
  refine w_iconst X (nI 0) dX6_isObject_1 (by decide +kernel) ?_
  refine w_bipush X (nI 23) dX6_isObject_2 (by decide +kernel) ?_
  refine w_roS X [] (m_X6_in l g (x) (nI (0)) (nI (23))) cs_X6_in mk_X6_39 rfl rfl ⟨Nat.le_of_ble_eq_true rfl, Nat.le_of_ble_eq_true rfl⟩ (Nat.le_of_ble_eq_true rfl) ⟨Nat.le_of_ble_eq_true rfl, Nat.le_of_ble_eq_true rfl⟩ dX6_isObject_4 rfl ?_
  refine w_bf_eq X 24 dX6_isObject_7 (by decide) (fun c7 => ?_) (fun c7 => ?_)
  · refine w_iconst X (nI 0) dX6_isObject_24 (by decide +kernel) ?_
    exact w_zret_ro X (by rw [has_dig σ x c7]; rfl) (rfl) dX6_isObject_25
  · obtain ⟨o, ho, rfl⟩ := dig_ex (by decide) c7
    refine w_aload_n X 0 rfl dX6_isObject_10 ?_
    refine w_iload_n X 1 rfl dX6_isObject_11 ?_
    refine w_iconst X (nI 0) dX6_isObject_12 (by decide +kernel) ?_
    refine w_roV X [0] 0 0 (m_X6_of l g ad μ o 0 (by omega) (by omega)) cv_X6_of mk_X6_43 rfl rfl rfl rfl rfl ⟨Nat.le_of_ble_eq_true rfl, Nat.le_of_ble_eq_true rfl⟩ (Nat.le_of_ble_eq_true rfl) ⟨Nat.le_of_ble_eq_true rfl, Nat.le_of_ble_eq_true rfl⟩ dX6_isObject_13 rfl ?_
    refine w_iconst X (nI 1) dX6_isObject_16 (by decide +kernel) ?_
    refine w_ic_ne X 24 dX6_isObject_17 (by decide) (fun c17 => ?_) (fun c17 => ?_)
    · refine w_iconst X (nI 0) dX6_isObject_24 (by decide +kernel) ?_
      exact w_zret_ro X (by rw [hR.has (by omega), if_neg c17]; rfl) (rfl) dX6_isObject_25
    · refine w_iconst X (nI 1) dX6_isObject_20 (by decide +kernel) ?_
      refine w_goto X 25 dX6_isObject_21 (by decide) ?_
      exact w_zret_ro X (by rw [hR.has (by omega), if_pos c17]; rfl) (rfl) dX6_isObject_25
set_option maxRecDepth 100000 in
set_option maxHeartbeats 4000000 in
theorem m_X6_pinned (l : Launch) (g : GG) (ad : Nat → Nat) (μ : Nat → Nat → Int32) (σ : Nat → Nat → Int32) (a : Int32) (hR : RI σ (μ 0)) : MRO l g yX6_pinned cX6_pinned 4 (some .int) 2 [.ref (ad 0), .int (a)] [moC g ad μ] (some (.int (cntI (fun o => if isInB σ (nI o) a = false then false else nz (σ 6 o)) 24))) := by
  refine mk_ro (by decide +kernel) (Nat.le_of_ble_eq_true rfl) (fun p e s m below meth c X => ?_)
  refine w_iconst X (nI 0) dX6_pinned_0 (by decide +kernel) ?_
  refine w_istore_n X dX6_pinned_1 (by decide) ?_
  refine w_iconst X (nI 0) dX6_pinned_2 (by decide +kernel) ?_
  refine w_istore_n X dX6_pinned_3 (by decide) ?_
  refine w_all [2, 1, 0, 3] (rfl) (rfl) rfl (w_loop (st := []) (pc := 4) X (V := Nat) (fun (i : Nat) => 24 - i) (fun (i : Nat) => (i ≤ 24)) (fun (i : Nat) => [(0, .ref (ad 0)), (2, .int (cntI (fun o => if isInB σ (nI o) a = false then false else nz (σ 6 o)) i)), (3, .int (nI i)), (1, .int (a))]) (fun (i : Nat) => [moC g ad μ]) (fun i hv4 ih4 => ?_) 0 (by omega))
  have hi := hv4
  try dsimp only at ih4 ⊢
  refine w_iload_n X 2 rfl dX6_pinned_4 ?_
  refine w_bipush X (nI 24) dX6_pinned_5 (by decide +kernel) ?_
  refine w_nc_ge X (by omega) (by omega) 39 dX6_pinned_7 (by decide) (fun c7 => ?_) (fun c7 => ?_)
  · have he_i : i = 24 := by omega
    refine w_iload_n X 1 rfl dX6_pinned_39 ?_
    exact w_iret_ro X (by first | rfl | (subst he_i; rfl) | simp (decide := true) [c7, bI]) dX6_pinned_40
  · refine w_iload_n X 1 rfl dX6_pinned_10 ?_
    refine w_aload_n X 0 rfl dX6_pinned_11 ?_
    refine w_iload_n X 2 rfl dX6_pinned_12 ?_
    refine w_iload_n X 3 rfl dX6_pinned_13 ?_
    refine w_roV X [0] 0 0 (m_X6_isIn l g ad μ σ i (a) (by omega) (by omega)) cv_X6_isIn mk_X6_64 rfl rfl rfl rfl rfl ⟨Nat.le_of_ble_eq_true rfl, Nat.le_of_ble_eq_true rfl⟩ (Nat.le_of_ble_eq_true rfl) ⟨Nat.le_of_ble_eq_true rfl, Nat.le_of_ble_eq_true rfl⟩ dX6_pinned_14 rfl ?_
    refine w_bf_eq X 30 dX6_pinned_17 (by decide) (fun c17 => ?_) (fun c17 => ?_)
    · refine w_iconst X (nI 0) dX6_pinned_30 (by decide +kernel) ?_
      refine w_iadd X dX6_pinned_31 ?_
      refine w_istore_n X dX6_pinned_32 (by decide) ?_
      refine w_iinc X (nI (i + 1)) 2 rfl (nI_1 _) dX6_pinned_33 (by decide) ?_
      refine w_goto X 4 dX6_pinned_36 (by decide) ?_
      have e1_2 : ((cntI (fun o => if isInB σ (nI o) a = false then false else nz (σ 6 o)) i) + nI (0)) = (cntI (fun o => if isInB σ (nI o) a = false then false else nz (σ 6 o)) (i + 1)) := cnt_f (if_pos c17)
      exact w_all [2, 1, 0, 3] (rfl) (rfl) (by rw [← e1_2]; rfl) (ih4 (i + 1) (by omega) (by omega))
    · refine w_aload_n X 0 rfl dX6_pinned_20 ?_
      refine w_iload_n X 2 rfl dX6_pinned_21 ?_
      refine w_bipush X (nI 7) dX6_pinned_22 (by decide +kernel) ?_
      refine w_roV X [0] 0 0 (m_X6_of l g ad μ i 7 (by omega) (by omega)) cv_X6_of mk_X6_43 rfl rfl rfl rfl rfl ⟨Nat.le_of_ble_eq_true rfl, Nat.le_of_ble_eq_true rfl⟩ (Nat.le_of_ble_eq_true rfl) ⟨Nat.le_of_ble_eq_true rfl, Nat.le_of_ble_eq_true rfl⟩ dX6_pinned_24 rfl ?_
      refine w_goto X 31 dX6_pinned_27 (by decide) ?_
      refine w_iadd X dX6_pinned_31 ?_
      refine w_istore_n X dX6_pinned_32 (by decide) ?_
      refine w_iinc X (nI (i + 1)) 2 rfl (nI_1 _) dX6_pinned_33 (by decide) ?_
      refine w_goto X 4 dX6_pinned_36 (by decide) ?_
      have e2_2 : ((cntI (fun o => if isInB σ (nI o) a = false then false else nz (σ 6 o)) i) + (μ 0 (24 + 9 * i + 7))) = (cntI (fun o => if isInB σ (nI o) a = false then false else nz (σ 6 o)) (i + 1)) := cnt_v ((hR.pin7 (by omega) c17).trans (congrArg bI (if_neg (by rw [c17]; decide)).symm))
      exact w_all [2, 1, 0, 3] (rfl) (rfl) (by rw [← e2_2]; rfl) (ih4 (i + 1) (by omega) (by omega))
set_option maxRecDepth 100000 in
set_option maxHeartbeats 4000000 in
theorem m_X6_objectsIn (l : Launch) (g : GG) (ad : Nat → Nat) (μ : Nat → Nat → Int32) (σ : Nat → Nat → Int32) (a : Int32) (hR : RI σ (μ 0)) : MRO l g yX6_objectsIn cX6_objectsIn 4 (some .int) 2 [.ref (ad 0), .int (a)] [moC g ad μ] (some (.int (cntI (fun o => isInB σ (nI o) a) 24))) := by
  refine mk_ro (by decide +kernel) (Nat.le_of_ble_eq_true rfl) (fun p e s m below meth c X => ?_)
  refine w_iconst X (nI 0) dX6_objectsIn_0 (by decide +kernel) ?_
  refine w_istore_n X dX6_objectsIn_1 (by decide) ?_
  refine w_iconst X (nI 0) dX6_objectsIn_2 (by decide +kernel) ?_
  refine w_istore_n X dX6_objectsIn_3 (by decide) ?_
  refine w_all [2, 1, 0, 3] (rfl) (rfl) rfl (w_loop (st := []) (pc := 4) X (V := Nat) (fun (i : Nat) => 24 - i) (fun (i : Nat) => (i ≤ 24)) (fun (i : Nat) => [(0, .ref (ad 0)), (2, .int (cntI (fun o => isInB σ (nI o) a) i)), (3, .int (nI i)), (1, .int (a))]) (fun (i : Nat) => [moC g ad μ]) (fun i hv4 ih4 => ?_) 0 (by omega))
  have hi := hv4
  try dsimp only at ih4 ⊢
  refine w_iload_n X 2 rfl dX6_objectsIn_4 ?_
  refine w_bipush X (nI 24) dX6_objectsIn_5 (by decide +kernel) ?_
  refine w_nc_ge X (by omega) (by omega) 33 dX6_objectsIn_7 (by decide) (fun c7 => ?_) (fun c7 => ?_)
  · have he_i : i = 24 := by omega
    refine w_iload_n X 1 rfl dX6_objectsIn_33 ?_
    exact w_iret_ro X (by first | rfl | (subst he_i; rfl) | simp (decide := true) [c7, bI]) dX6_objectsIn_34
  · refine w_iload_n X 1 rfl dX6_objectsIn_10 ?_
    refine w_aload_n X 0 rfl dX6_objectsIn_11 ?_
    refine w_iload_n X 2 rfl dX6_objectsIn_12 ?_
    refine w_iload_n X 3 rfl dX6_objectsIn_13 ?_
    refine w_roV X [0] 0 0 (m_X6_isIn l g ad μ σ i (a) (by omega) (by omega)) cv_X6_isIn mk_X6_64 rfl rfl rfl rfl rfl ⟨Nat.le_of_ble_eq_true rfl, Nat.le_of_ble_eq_true rfl⟩ (Nat.le_of_ble_eq_true rfl) ⟨Nat.le_of_ble_eq_true rfl, Nat.le_of_ble_eq_true rfl⟩ dX6_objectsIn_14 rfl ?_
    refine w_bf_eq X 24 dX6_objectsIn_17 (by decide) (fun c17 => ?_) (fun c17 => ?_)
    · refine w_iconst X (nI 0) dX6_objectsIn_24 (by decide +kernel) ?_
      refine w_iadd X dX6_objectsIn_25 ?_
      refine w_istore_n X dX6_objectsIn_26 (by decide) ?_
      refine w_iinc X (nI (i + 1)) 2 rfl (nI_1 _) dX6_objectsIn_27 (by decide) ?_
      refine w_goto X 4 dX6_objectsIn_30 (by decide) ?_
      have e1_2 : ((cntI (fun o => isInB σ (nI o) a) i) + nI (0)) = (cntI (fun o => isInB σ (nI o) a) (i + 1)) := cnt_f c17
      exact w_all [2, 1, 0, 3] (rfl) (rfl) (by rw [← e1_2]; rfl) (ih4 (i + 1) (by omega) (by omega))
    · refine w_iconst X (nI 1) dX6_objectsIn_20 (by decide +kernel) ?_
      refine w_goto X 25 dX6_objectsIn_21 (by decide) ?_
      refine w_iadd X dX6_objectsIn_25 ?_
      refine w_istore_n X dX6_objectsIn_26 (by decide) ?_
      refine w_iinc X (nI (i + 1)) 2 rfl (nI_1 _) dX6_objectsIn_27 (by decide) ?_
      refine w_goto X 4 dX6_objectsIn_30 (by decide) ?_
      have e2_2 : ((cntI (fun o => isInB σ (nI o) a) i) + nI (1)) = (cntI (fun o => isInB σ (nI o) a) (i + 1)) := cnt_t c17
      exact w_all [2, 1, 0, 3] (rfl) (rfl) (by rw [← e2_2]; rfl) (ih4 (i + 1) (by omega) (by omega))
set_option maxRecDepth 100000 in
set_option maxHeartbeats 4000000 in
theorem m_X6_objectAt (l : Launch) (g : GG) (ad : Nat → Nat) (μ : Nat → Nat → Int32) (σ : Nat → Nat → Int32) (a : Int32) (q : Int32) (hR : RI σ (μ 0)) : MRO l g yX6_objectAt cX6_objectAt 4 (some .int) 2 [.ref (ad 0), .int (a), .int (q)] [moC g ad μ] (some (.int (lowI (fun o => atP σ a q o) 24))) := by
  refine mk_ro (by decide +kernel) (Nat.le_of_ble_eq_true rfl) (fun p e s m below meth c X => ?_)
  refine w_iconst X (nI 0) dX6_objectAt_0 (by decide +kernel) ?_
  refine w_istore_n X dX6_objectAt_1 (by decide) ?_
  refine w_all [1, 2, 3, 0] (rfl) (rfl) rfl (w_loop (st := []) (pc := 2) X (V := Nat) (fun (i : Nat) => 24 - i) (fun (i : Nat) => (i ≤ 24) ∧ (∀ j, j < i → atP σ a q j = false)) (fun (i : Nat) => [(0, .ref (ad 0)), (1, .int (a)), (2, .int (q)), (3, .int (nI i))]) (fun (i : Nat) => [moC g ad μ]) (fun i hv2 ih2 => ?_) 0 ⟨by omega, fun j h => by omega⟩)
  obtain ⟨hi, hn⟩ := hv2
  try dsimp only at ih2 ⊢
  refine w_iload_n X 3 rfl dX6_objectAt_2 ?_
  refine w_bipush X (nI 24) dX6_objectAt_3 (by decide +kernel) ?_
  refine w_nc_ge X (by omega) (by omega) 53 dX6_objectAt_5 (by decide) (fun c5 => ?_) (fun c5 => ?_)
  · refine w_iconst X (-1) dX6_objectAt_53 (by decide +kernel) ?_
    exact w_iret_ro X (by rw [lowI_none (fun j hj => hn j (by omega))]) dX6_objectAt_54
  · refine w_aload_n X 0 rfl dX6_objectAt_8 ?_
    refine w_iload_n X 3 rfl dX6_objectAt_9 ?_
    refine w_iload_n X 1 rfl dX6_objectAt_10 ?_
    refine w_roV X [0] 0 0 (m_X6_isIn l g ad μ σ i (a) (by omega) (by omega)) cv_X6_isIn mk_X6_64 rfl rfl rfl rfl rfl ⟨Nat.le_of_ble_eq_true rfl, Nat.le_of_ble_eq_true rfl⟩ (Nat.le_of_ble_eq_true rfl) ⟨Nat.le_of_ble_eq_true rfl, Nat.le_of_ble_eq_true rfl⟩ dX6_objectAt_11 rfl ?_
    refine w_bf_eq X 47 dX6_objectAt_14 (by decide) (fun c14 => ?_) (fun c14 => ?_)
    · refine w_iinc X (nI (i + 1)) 3 rfl (nI_1 _) dX6_objectAt_47 (by decide) ?_
      refine w_goto X 2 dX6_objectAt_50 (by decide) ?_
      exact w_all [1, 2, 3, 0] (rfl) (rfl) rfl (ih2 (i + 1) (by omega) ⟨by omega, lt_ext hn (if_pos c14)⟩)
    · refine w_iload_n X 2 rfl dX6_objectAt_17 ?_
      refine w_aload_n X 0 rfl dX6_objectAt_18 ?_
      refine w_iload_n X 3 rfl dX6_objectAt_19 ?_
      refine w_iconst X (nI 2) dX6_objectAt_20 (by decide +kernel) ?_
      refine w_roV X [0] 0 0 (m_X6_of l g ad μ i 2 (by omega) (by omega)) cv_X6_of mk_X6_43 rfl rfl rfl rfl rfl ⟨Nat.le_of_ble_eq_true rfl, Nat.le_of_ble_eq_true rfl⟩ (Nat.le_of_ble_eq_true rfl) ⟨Nat.le_of_ble_eq_true rfl, Nat.le_of_ble_eq_true rfl⟩ dX6_objectAt_21 rfl ?_
      refine w_aload_n X 0 rfl dX6_objectAt_24 ?_
      refine w_iload_n X 3 rfl dX6_objectAt_25 ?_
      refine w_iconst X (nI 2) dX6_objectAt_26 (by decide +kernel) ?_
      refine w_roV X [0] 0 0 (m_X6_of l g ad μ i 2 (by omega) (by omega)) cv_X6_of mk_X6_43 rfl rfl rfl rfl rfl ⟨Nat.le_of_ble_eq_true rfl, Nat.le_of_ble_eq_true rfl⟩ (Nat.le_of_ble_eq_true rfl) ⟨Nat.le_of_ble_eq_true rfl, Nat.le_of_ble_eq_true rfl⟩ dX6_objectAt_27 rfl ?_
      refine w_aload_n X 0 rfl dX6_objectAt_30 ?_
      refine w_iload_n X 3 rfl dX6_objectAt_31 ?_
      refine w_iconst X (nI 3) dX6_objectAt_32 (by decide +kernel) ?_
      refine w_roV X [0] 0 0 (m_X6_of l g ad μ i 3 (by omega) (by omega)) cv_X6_of mk_X6_43 rfl rfl rfl rfl rfl ⟨Nat.le_of_ble_eq_true rfl, Nat.le_of_ble_eq_true rfl⟩ (Nat.le_of_ble_eq_true rfl) ⟨Nat.le_of_ble_eq_true rfl, Nat.le_of_ble_eq_true rfl⟩ dX6_objectAt_33 rfl ?_
      refine w_iadd X dX6_objectAt_36 ?_
      refine w_iconst X (nI 1) dX6_objectAt_37 (by decide +kernel) ?_
      refine w_isub X dX6_objectAt_38 ?_
      refine w_roS X [] (m_X6_in l g (q) (μ 0 (24 + 9 * i + 2)) (((μ 0 (24 + 9 * i + 2)) + (μ 0 (24 + 9 * i + 3))) - nI (1))) cs_X6_in mk_X6_39 rfl rfl ⟨Nat.le_of_ble_eq_true rfl, Nat.le_of_ble_eq_true rfl⟩ (Nat.le_of_ble_eq_true rfl) ⟨Nat.le_of_ble_eq_true rfl, Nat.le_of_ble_eq_true rfl⟩ dX6_objectAt_39 rfl ?_
      refine w_bf_eq X 47 dX6_objectAt_42 (by decide) (fun c42 => ?_) (fun c42 => ?_)
      · refine w_iinc X (nI (i + 1)) 3 rfl (nI_1 _) dX6_objectAt_47 (by decide) ?_
        refine w_goto X 2 dX6_objectAt_50 (by decide) ?_
        exact w_all [1, 2, 3, 0] (rfl) (rfl) rfl (ih2 (i + 1) (by omega) ⟨by omega, lt_ext hn ((hR.atp (by omega) c14 q).trans c42)⟩)
      · refine w_iload_n X 3 rfl dX6_objectAt_45 ?_
        exact w_iret_ro X (by rw [lowI_found (k := i) hn (by omega) (by rw [hR.atp (by omega) c14]; exact c42)]) dX6_objectAt_46
set_option maxRecDepth 100000 in
set_option maxHeartbeats 4000000 in
theorem m_X6_opened (l : Launch) (g : GG) (ad : Nat → Nat) (μ : Nat → Nat → Int32) (σ : Nat → Nat → Int32) (hR : RI σ (μ 0)) : MRO l g yX6_opened cX6_opened 3 (some .int) 2 [.ref (ad 0)] [moC g ad μ] (some (.int (cntI (fun o => nz (σ 8 o)) 6))) := by
  refine mk_ro (by decide +kernel) (Nat.le_of_ble_eq_true rfl) (fun p e s m below meth c X => ?_)
  refine w_iconst X (nI 0) dX6_opened_0 (by decide +kernel) ?_
  refine w_istore_n X dX6_opened_1 (by decide) ?_
  refine w_iconst X (nI 0) dX6_opened_2 (by decide +kernel) ?_
  refine w_istore_n X dX6_opened_3 (by decide) ?_
  refine w_all [2, 1, 0] (rfl) (rfl) rfl (w_loop (st := []) (pc := 4) X (V := Nat) (fun (i : Nat) => 6 - i) (fun (i : Nat) => (i ≤ 6)) (fun (i : Nat) => [(0, .ref (ad 0)), (1, .int (cntI (fun o => nz (σ 8 o)) i)), (2, .int (nI i))]) (fun (i : Nat) => [moC g ad μ]) (fun i hv4 ih4 => ?_) 0 (by omega))
  have hi := hv4
  try dsimp only at ih4 ⊢
  refine w_iload_n X 2 rfl dX6_opened_4 ?_
  refine w_bipush X (nI 6) dX6_opened_5 (by decide +kernel) ?_
  refine w_nc_ge X (by omega) (by omega) 32 dX6_opened_7 (by decide) (fun c7 => ?_) (fun c7 => ?_)
  · have he_i : i = 6 := by omega
    refine w_iload_n X 1 rfl dX6_opened_32 ?_
    exact w_iret_ro X (by first | rfl | (subst he_i; rfl) | simp (decide := true) [c7, bI]) dX6_opened_33
  · refine w_iload_n X 1 rfl dX6_opened_10 ?_
    refine w_aload_n X 0 rfl dX6_opened_11 ?_
    refine w_iload_n X 2 rfl dX6_opened_12 ?_
    refine w_roV X [0] 0 0 (m_X6_isOpen l g ad μ σ i (by omega) (by omega)) cv_X6_isOpen mk_X6_88 rfl rfl rfl rfl rfl ⟨Nat.le_of_ble_eq_true rfl, Nat.le_of_ble_eq_true rfl⟩ (Nat.le_of_ble_eq_true rfl) ⟨Nat.le_of_ble_eq_true rfl, Nat.le_of_ble_eq_true rfl⟩ dX6_opened_13 rfl ?_
    refine w_bf_eq X 23 dX6_opened_16 (by decide) (fun c16 => ?_) (fun c16 => ?_)
    · refine w_iconst X (nI 0) dX6_opened_23 (by decide +kernel) ?_
      refine w_iadd X dX6_opened_24 ?_
      refine w_istore_n X dX6_opened_25 (by decide) ?_
      refine w_iinc X (nI (i + 1)) 2 rfl (nI_1 _) dX6_opened_26 (by decide) ?_
      refine w_goto X 4 dX6_opened_29 (by decide) ?_
      have e1_1 : ((cntI (fun o => nz (σ 8 o)) i) + nI (0)) = (cntI (fun o => nz (σ 8 o)) (i + 1)) := cnt_f ((isOp_nz σ (by omega)).symm.trans c16)
      exact w_all [2, 1, 0] (rfl) (rfl) (by rw [← e1_1]; rfl) (ih4 (i + 1) (by omega) (by omega))
    · refine w_iconst X (nI 1) dX6_opened_19 (by decide +kernel) ?_
      refine w_goto X 24 dX6_opened_20 (by decide) ?_
      refine w_iadd X dX6_opened_24 ?_
      refine w_istore_n X dX6_opened_25 (by decide) ?_
      refine w_iinc X (nI (i + 1)) 2 rfl (nI_1 _) dX6_opened_26 (by decide) ?_
      refine w_goto X 4 dX6_opened_29 (by decide) ?_
      have e2_1 : ((cntI (fun o => nz (σ 8 o)) i) + nI (1)) = (cntI (fun o => nz (σ 8 o)) (i + 1)) := cnt_t ((isOp_nz σ (by omega)).symm.trans c16)
      exact w_all [2, 1, 0] (rfl) (rfl) (by rw [← e2_1]; rfl) (ih4 (i + 1) (by omega) (by omega))
set_option maxRecDepth 100000 in
set_option maxHeartbeats 4000000 in
theorem m_X6_freeNumber (l : Launch) (g : GG) (ad : Nat → Nat) (μ : Nat → Nat → Int32) (σ : Nat → Nat → Int32) (hR : RI σ (μ 0)) : MRO l g yX6_freeNumber cX6_freeNumber 2 (some .int) 2 [.ref (ad 0)] [moC g ad μ] (some (.int (nI (frN σ)))) := by
  refine mk_ro (by decide +kernel) (Nat.le_of_ble_eq_true rfl) (fun p e s m below meth c X => ?_)
  refine w_iconst X (nI 0) dX6_freeNumber_0 (by decide +kernel) ?_
  refine w_istore_n X dX6_freeNumber_1 (by decide) ?_
  refine w_all [1, 0] (rfl) (rfl) rfl (w_loop (st := []) (pc := 2) X (V := Nat) (fun (i : Nat) => 24 - i) (fun (i : Nat) => (i ≤ 24) ∧ (∀ j, j < i → (!nz (σ 0 j)) = false)) (fun (i : Nat) => [(0, .ref (ad 0)), (1, .int (nI i))]) (fun (i : Nat) => [moC g ad μ]) (fun i hv2 ih2 => ?_) 0 ⟨by omega, fun j h => by omega⟩)
  obtain ⟨hi, hn⟩ := hv2
  try dsimp only at ih2 ⊢
  refine w_iload_n X 1 rfl dX6_freeNumber_2 ?_
  refine w_bipush X (nI 24) dX6_freeNumber_3 (by decide +kernel) ?_
  refine w_nc_ge X (by omega) (by omega) 24 dX6_freeNumber_5 (by decide) (fun c5 => ?_) (fun c5 => ?_)
  · refine w_iload_n X 1 rfl dX6_freeNumber_24 ?_
    exact w_iret_ro X (by rw [frN, ffst_none (p := fun o => !nz (σ 0 o)) 24 0 (fun j _ h => hn j (by omega)), show i = 24 by omega]) dX6_freeNumber_25
  · refine w_aload_n X 0 rfl dX6_freeNumber_8 ?_
    refine w_iload_n X 1 rfl dX6_freeNumber_9 ?_
    refine w_iconst X (nI 0) dX6_freeNumber_10 (by decide +kernel) ?_
    refine w_roV X [0] 0 0 (m_X6_of l g ad μ i 0 (by omega) (by omega)) cv_X6_of mk_X6_43 rfl rfl rfl rfl rfl ⟨Nat.le_of_ble_eq_true rfl, Nat.le_of_ble_eq_true rfl⟩ (Nat.le_of_ble_eq_true rfl) ⟨Nat.le_of_ble_eq_true rfl, Nat.le_of_ble_eq_true rfl⟩ dX6_freeNumber_11 rfl ?_
    refine w_iconst X (nI 1) dX6_freeNumber_14 (by decide +kernel) ?_
    refine w_ic_ne X 24 dX6_freeNumber_15 (by decide) (fun c15 => ?_) (fun c15 => ?_)
    · refine w_iload_n X 1 rfl dX6_freeNumber_24 ?_
      exact w_iret_ro X (by rw [frN, ffst_found (p := fun o => !nz (σ 0 o)) 24 0 i (fun j _ h => hn j h) (by omega) (by omega) (not_t (by rw [hR.nzu (by omega), if_neg c15]))]) dX6_freeNumber_25
    · refine w_iinc X (nI (i + 1)) 1 rfl (nI_1 _) dX6_freeNumber_18 (by decide) ?_
      refine w_goto X 2 dX6_freeNumber_21 (by decide) ?_
      exact w_all [1, 0] (rfl) (rfl) rfl (ih2 (i + 1) (by omega) ⟨by omega, lt_ext hn (not_f (by rw [hR.nzu (by omega), if_pos c15]))⟩)
set_option maxRecDepth 100000 in
set_option maxHeartbeats 4000000 in
theorem m_X6_mayMake (l : Launch) (g : GG) (ad : Nat → Nat) (μ : Nat → Nat → Int32) (σ : Nat → Nat → Int32) (a : Nat) (z : Nat) (ha : a < 6) (hz : z ≤ 1000) (hR : RI σ (μ 0)) : MRO l g yX6_mayMake cX6_mayMake 3 (some .boolean) 3 [.ref (ad 0), .int (nI a), .int (nI z)] [moC g ad μ] (some (.int (bI (mmB σ a (nI z))))) := by
  refine mk_ro (by decide +kernel) (Nat.le_of_ble_eq_true rfl) (fun p e s m below meth c X => ?_)
  refine w_aload_n X 0 rfl dX6_mayMake_0 ?_
  refine w_iload_n X 1 rfl dX6_mayMake_1 ?_
  refine w_roV X [0] 0 0 (m_X6_isOpen l g ad μ σ a (by omega) (by omega)) cv_X6_isOpen mk_X6_88 rfl rfl rfl rfl rfl ⟨Nat.le_of_ble_eq_true rfl, Nat.le_of_ble_eq_true rfl⟩ (Nat.le_of_ble_eq_true rfl) ⟨Nat.le_of_ble_eq_true rfl, Nat.le_of_ble_eq_true rfl⟩ dX6_mayMake_2 rfl ?_
  refine w_bf_eq X 33 dX6_mayMake_5 (by decide) (fun c5 => ?_) (fun c5 => ?_)
  · refine w_iconst X (nI 0) dX6_mayMake_33 (by decide +kernel) ?_
    exact w_zret_ro X (by rw [mmB, if_pos c5]; rfl) (rfl) dX6_mayMake_34
  · refine w_aload_n X 0 rfl dX6_mayMake_8 ?_
    refine w_iload_n X 1 rfl dX6_mayMake_9 ?_
    refine w_roV X [0] 0 0 (m_X6_mark l g ad μ a (by omega)) cv_X6_mark mk_X6_94 rfl rfl rfl rfl rfl ⟨Nat.le_of_ble_eq_true rfl, Nat.le_of_ble_eq_true rfl⟩ (Nat.le_of_ble_eq_true rfl) ⟨Nat.le_of_ble_eq_true rfl, Nat.le_of_ble_eq_true rfl⟩ dX6_mayMake_10 rfl ?_
    refine w_iload_n X 2 rfl dX6_mayMake_13 ?_
    refine w_iadd X dX6_mayMake_14 ?_
    refine w_bipush X (nI 64) dX6_mayMake_15 (by decide +kernel) ?_
    refine w_ic_gt X 33 dX6_mayMake_17 (by decide) (fun c17 => ?_) (fun c17 => ?_)
    · refine w_iconst X (nI 0) dX6_mayMake_33 (by decide +kernel) ?_
      exact w_zret_ro X (by rw [mmB, if_neg (by rw [c5]; decide), hR.cell ha hz, if_pos c17, if_pos rfl]; rfl) (rfl) dX6_mayMake_34
    · refine w_aload_n X 0 rfl dX6_mayMake_20 ?_
      refine w_roV X [0] 0 0 (m_X6_freeNumber l g ad μ σ (by omega)) cv_X6_freeNumber mk_X6_100 rfl rfl rfl rfl rfl ⟨Nat.le_of_ble_eq_true rfl, Nat.le_of_ble_eq_true rfl⟩ (Nat.le_of_ble_eq_true rfl) ⟨Nat.le_of_ble_eq_true rfl, Nat.le_of_ble_eq_true rfl⟩ dX6_mayMake_21 rfl ?_
      refine w_bipush X (nI 24) dX6_mayMake_24 (by decide +kernel) ?_
      refine w_nc_ge X (by have := fr_le σ; omega) (by omega) 33 dX6_mayMake_26 (by decide) (fun c26 => ?_) (fun c26 => ?_)
      · refine w_iconst X (nI 0) dX6_mayMake_33 (by decide +kernel) ?_
        exact w_zret_ro X (by rw [mmB, if_neg (by rw [c5]; decide), hR.cell ha hz, if_neg c17, if_neg (by decide), if_pos (by have := fr_le σ; omega)]; rfl) (rfl) dX6_mayMake_34
      · refine w_iconst X (nI 1) dX6_mayMake_29 (by decide +kernel) ?_
        refine w_goto X 34 dX6_mayMake_30 (by decide) ?_
        exact w_zret_ro X (by rw [mmB, if_neg (by rw [c5]; decide), hR.cell ha hz, if_neg c17, if_neg (by decide), if_neg (by omega)]; rfl) (rfl) dX6_mayMake_34
theorem RI.th {σ : Nat → Nat → Int32} {N : Nat → Int32} (hR : RI σ N) {w : Nat} (hw : w = 0 ∨ w = 6) {o : Nat} (ho : o < 24) : thP σ w o = if N (24 + 9 * o + 0) = nI 1 then (if w = 0 then true else if N (24 + 9 * o + w) = nI 1 then true else false) else false := by
  rcases hw with rfl | rfl
  · rw [thP, if_pos rfl, hR.nzu ho, if_pos rfl]
  · rw [thP, if_neg (show ¬ (6 : Nat) = 0 by decide), hR.nzr ho, if_neg (show ¬ (6 : Nat) = 0 by decide)]
theorem s2_v {P : Nat → Nat → Bool} {n : Nat} {a b : Int32} (ha : a = bI (P n 0)) (hb : b = bI (P n 1)) : sum2 P n + a + b = sum2 P (n + 1) := by rw [sum2, ha, hb]
def s2I (P : Nat → Nat → Bool) (n : Nat) : Nat → Int32
  | 0 => sum2 P n
  | f + 1 => s2I P n f + bI (P n f)
theorem s2_f {P : Nat → Nat → Bool} {n f : Nat} (h : P n f = false) : s2I P n f + nI 0 = s2I P n (f + 1) := by rw [s2I, h]; rfl
theorem s2_t {P : Nat → Nat → Bool} {n f : Nat} (h : P n f = true) : s2I P n f + nI 1 = s2I P n (f + 1) := by rw [s2I, h]; rfl
set_option maxRecDepth 100000 in
set_option maxHeartbeats 4000000 in
theorem m_X6_those (l : Launch) (g : GG) (ad : Nat → Nat) (μ : Nat → Nat → Int32) (σ : Nat → Nat → Int32) (w : Nat) (hw : w = 0 ∨ w = 6) (hR : RI σ (μ 0)) : MRO l g yX6_those cX6_those 4 (some .int) 2 [.ref (ad 0), .int (nI w)] [moC g ad μ] (some (.int (cntI (thP σ w) 24))) := by
  refine mk_ro (by decide +kernel) (Nat.le_of_ble_eq_true rfl) (fun p e s m below meth c X => ?_)
  refine w_iconst X (nI 0) dX6_those_0 (by decide +kernel) ?_
  refine w_istore_n X dX6_those_1 (by decide) ?_
  refine w_iconst X (nI 0) dX6_those_2 (by decide +kernel) ?_
  refine w_istore_n X dX6_those_3 (by decide) ?_
  refine w_all [2, 1, 0, 3] (rfl) (rfl) rfl (w_loop (st := []) (pc := 4) X (V := Nat) (fun (i : Nat) => 24 - i) (fun (i : Nat) => (i ≤ 24)) (fun (i : Nat) => [(0, .ref (ad 0)), (2, .int (cntI (thP σ w) i)), (3, .int (nI i)), (1, .int (nI w))]) (fun (i : Nat) => [moC g ad μ]) (fun i hv4 ih4 => ?_) 0 (by omega))
  have hi := hv4
  try dsimp only at ih4 ⊢
  refine w_iload_n X 2 rfl dX6_those_4 ?_
  refine w_bipush X (nI 24) dX6_those_5 (by decide +kernel) ?_
  refine w_nc_ge X (by omega) (by omega) 48 dX6_those_7 (by decide) (fun c7 => ?_) (fun c7 => ?_)
  · have he_i : i = 24 := by omega
    refine w_iload_n X 1 rfl dX6_those_48 ?_
    exact w_iret_ro X (by first | rfl | (subst he_i; rfl) | simp (decide := true) [c7, bI]) dX6_those_49
  · refine w_iload_n X 1 rfl dX6_those_10 ?_
    refine w_aload_n X 0 rfl dX6_those_11 ?_
    refine w_iload_n X 2 rfl dX6_those_12 ?_
    refine w_iconst X (nI 0) dX6_those_13 (by decide +kernel) ?_
    refine w_roV X [0] 0 0 (m_X6_of l g ad μ i 0 (by omega) (by omega)) cv_X6_of mk_X6_43 rfl rfl rfl rfl rfl ⟨Nat.le_of_ble_eq_true rfl, Nat.le_of_ble_eq_true rfl⟩ (Nat.le_of_ble_eq_true rfl) ⟨Nat.le_of_ble_eq_true rfl, Nat.le_of_ble_eq_true rfl⟩ dX6_those_14 rfl ?_
    refine w_iconst X (nI 1) dX6_those_17 (by decide +kernel) ?_
    refine w_ic_ne X 39 dX6_those_18 (by decide) (fun c18 => ?_) (fun c18 => ?_)
    · refine w_iconst X (nI 0) dX6_those_39 (by decide +kernel) ?_
      refine w_iadd X dX6_those_40 ?_
      refine w_istore_n X dX6_those_41 (by decide) ?_
      refine w_iinc X (nI (i + 1)) 2 rfl (nI_1 _) dX6_those_42 (by decide) ?_
      refine w_goto X 4 dX6_those_45 (by decide) ?_
      have e1_2 : ((cntI (thP σ w) i) + nI (0)) = (cntI (thP σ w) (i + 1)) := cnt_f (by rw [hR.th hw (by omega), if_neg c18])
      exact w_all [2, 1, 0, 3] (rfl) (rfl) (by rw [← e1_2]; rfl) (ih4 (i + 1) (by omega) (by omega))
    · refine w_iload_n X 3 rfl dX6_those_21 ?_
      refine w_nf_eq X (by omega) 35 dX6_those_22 (by decide) (fun c22 => ?_) (fun c22 => ?_)
      · refine w_iconst X (nI 1) dX6_those_35 (by decide +kernel) ?_
        refine w_goto X 40 dX6_those_36 (by decide) ?_
        refine w_iadd X dX6_those_40 ?_
        refine w_istore_n X dX6_those_41 (by decide) ?_
        refine w_iinc X (nI (i + 1)) 2 rfl (nI_1 _) dX6_those_42 (by decide) ?_
        refine w_goto X 4 dX6_those_45 (by decide) ?_
        have e2_2 : ((cntI (thP σ w) i) + nI (1)) = (cntI (thP σ w) (i + 1)) := cnt_t (by rw [hR.th hw (by omega), if_pos c18, if_pos c22])
        exact w_all [2, 1, 0, 3] (rfl) (rfl) (by rw [← e2_2]; rfl) (ih4 (i + 1) (by omega) (by omega))
      · refine w_aload_n X 0 rfl dX6_those_25 ?_
        refine w_iload_n X 2 rfl dX6_those_26 ?_
        refine w_iload_n X 3 rfl dX6_those_27 ?_
        refine w_roV X [0] 0 0 (m_X6_of l g ad μ i w (by omega) (by omega)) cv_X6_of mk_X6_43 rfl rfl rfl rfl rfl ⟨Nat.le_of_ble_eq_true rfl, Nat.le_of_ble_eq_true rfl⟩ (Nat.le_of_ble_eq_true rfl) ⟨Nat.le_of_ble_eq_true rfl, Nat.le_of_ble_eq_true rfl⟩ dX6_those_28 rfl ?_
        refine w_iconst X (nI 1) dX6_those_31 (by decide +kernel) ?_
        refine w_ic_ne X 39 dX6_those_32 (by decide) (fun c32 => ?_) (fun c32 => ?_)
        · refine w_iconst X (nI 0) dX6_those_39 (by decide +kernel) ?_
          refine w_iadd X dX6_those_40 ?_
          refine w_istore_n X dX6_those_41 (by decide) ?_
          refine w_iinc X (nI (i + 1)) 2 rfl (nI_1 _) dX6_those_42 (by decide) ?_
          refine w_goto X 4 dX6_those_45 (by decide) ?_
          have e3_2 : ((cntI (thP σ w) i) + nI (0)) = (cntI (thP σ w) (i + 1)) := cnt_f (by rw [hR.th hw (by omega), if_pos c18, if_neg c22, if_neg c32])
          exact w_all [2, 1, 0, 3] (rfl) (rfl) (by rw [← e3_2]; rfl) (ih4 (i + 1) (by omega) (by omega))
        · refine w_iconst X (nI 1) dX6_those_35 (by decide +kernel) ?_
          refine w_goto X 40 dX6_those_36 (by decide) ?_
          refine w_iadd X dX6_those_40 ?_
          refine w_istore_n X dX6_those_41 (by decide) ?_
          refine w_iinc X (nI (i + 1)) 2 rfl (nI_1 _) dX6_those_42 (by decide) ?_
          refine w_goto X 4 dX6_those_45 (by decide) ?_
          have e4_2 : ((cntI (thP σ w) i) + nI (1)) = (cntI (thP σ w) (i + 1)) := cnt_t (by rw [hR.th hw (by omega), if_pos c18, if_neg c22, if_pos c32])
          exact w_all [2, 1, 0, 3] (rfl) (rfl) (by rw [← e4_2]; rfl) (ih4 (i + 1) (by omega) (by omega))
set_option maxRecDepth 100000 in
set_option maxHeartbeats 4000000 in
theorem m_X6_refersTo (l : Launch) (g : GG) (ad : Nat → Nat) (μ : Nat → Nat → Int32) (σ : Nat → Nat → Int32) (j : Nat) (hj : j < 24) (hR : RI σ (μ 0)) : MRO l g yX6_refersTo cX6_refersTo 4 (some .int) 2 [.ref (ad 0), .int (nI j)] [moC g ad μ] (some (.int (sum2 (fun h f => if refI σ (nI h) (nI f) = nI j then true else false) 24))) := by
  refine mk_ro (by decide +kernel) (Nat.le_of_ble_eq_true rfl) (fun p e s m below meth c X => ?_)
  refine w_iconst X (nI 0) dX6_refersTo_0 (by decide +kernel) ?_
  refine w_istore_n X dX6_refersTo_1 (by decide) ?_
  refine w_iconst X (nI 0) dX6_refersTo_2 (by decide +kernel) ?_
  refine w_istore_n X dX6_refersTo_3 (by decide) ?_
  refine w_all [2, 1, 0, 3] (rfl) (rfl) rfl (w_loop (st := []) (pc := 4) X (V := Nat) (fun (i : Nat) => 24 - i) (fun (i : Nat) => (i ≤ 24)) (fun (i : Nat) => [(0, .ref (ad 0)), (2, .int (sum2 (fun h f => if refI σ (nI h) (nI f) = nI j then true else false) i)), (3, .int (nI i)), (1, .int (nI j))]) (fun (i : Nat) => [moC g ad μ]) (fun i hv4 ih4 => ?_) 0 (by omega))
  have hi := hv4
  try dsimp only at ih4 ⊢
  refine w_iload_n X 2 rfl dX6_refersTo_4 ?_
  refine w_bipush X (nI 24) dX6_refersTo_5 (by decide +kernel) ?_
  refine w_nc_ge X (by omega) (by omega) 72 dX6_refersTo_7 (by decide) (fun c7 => ?_) (fun c7 => ?_)
  · have he_i : i = 24 := by omega
    refine w_iload_n X 1 rfl dX6_refersTo_72 ?_
    exact w_iret_ro X (by first | rfl | (subst he_i; rfl) | simp (decide := true) [c7, bI]) dX6_refersTo_73
  · refine w_iload_n X 1 rfl dX6_refersTo_10 ?_
    refine w_aload_n X 0 rfl dX6_refersTo_11 ?_
    refine w_iload_n X 2 rfl dX6_refersTo_12 ?_
    refine w_iconst X (nI 0) dX6_refersTo_13 (by decide +kernel) ?_
    refine w_roV X [0] 0 0 (m_X6_of l g ad μ i 0 (by omega) (by omega)) cv_X6_of mk_X6_43 rfl rfl rfl rfl rfl ⟨Nat.le_of_ble_eq_true rfl, Nat.le_of_ble_eq_true rfl⟩ (Nat.le_of_ble_eq_true rfl) ⟨Nat.le_of_ble_eq_true rfl, Nat.le_of_ble_eq_true rfl⟩ dX6_refersTo_14 rfl ?_
    refine w_iconst X (nI 1) dX6_refersTo_17 (by decide +kernel) ?_
    refine w_ic_ne X 35 dX6_refersTo_18 (by decide) (fun c18 => ?_) (fun c18 => ?_)
    · refine w_iconst X (nI 0) dX6_refersTo_35 (by decide +kernel) ?_
      refine w_iadd X dX6_refersTo_36 ?_
      refine w_istore_n X dX6_refersTo_37 (by decide) ?_
      refine w_iload_n X 0 rfl dX6_refersTo_38 ?_
      refine w_aload_n X 1 rfl dX6_refersTo_39 ?_
      refine w_iload_n X 2 rfl dX6_refersTo_40 ?_
      refine w_iconst X (nI 0) dX6_refersTo_41 (by decide +kernel) ?_
      refine w_roV X [0] 0 0 (m_X6_of l g ad μ i 0 (by omega) (by omega)) cv_X6_of mk_X6_43 rfl rfl rfl rfl rfl ⟨Nat.le_of_ble_eq_true rfl, Nat.le_of_ble_eq_true rfl⟩ (Nat.le_of_ble_eq_true rfl) ⟨Nat.le_of_ble_eq_true rfl, Nat.le_of_ble_eq_true rfl⟩ dX6_refersTo_42 rfl ?_
      refine w_iconst X (nI 1) dX6_refersTo_45 (by decide +kernel) ?_
      refine w_ic_ne X 63 dX6_refersTo_46 (by decide) (fun c46 => ?_) (fun c46 => ?_)
      · refine w_iconst X (nI 0) dX6_refersTo_63 (by decide +kernel) ?_
        refine w_iadd X dX6_refersTo_64 ?_
        refine w_istore_n X dX6_refersTo_65 (by decide) ?_
        refine w_iinc X (nI (i + 1)) 2 rfl (nI_1 _) dX6_refersTo_66 (by decide) ?_
        refine w_goto X 4 dX6_refersTo_69 (by decide) ?_
        have e1_2 : (((sum2 (fun h f => if refI σ (nI h) (nI f) = nI j then true else false) i) + nI (0)) + nI (0)) = (sum2 (fun h f => if refI σ (nI h) (nI f) = nI j then true else false) (i + 1)) := s2_v ((congrArg bI (show (if refI σ (nI i) (nI 0) = nI j then true else false) = false from by rw [hR.rto (by omega) (by omega) hj, if_neg c18])).symm) ((congrArg bI (show (if refI σ (nI i) (nI 1) = nI j then true else false) = false from by rw [hR.rto (by omega) (by omega) hj, if_neg c46])).symm)
        exact w_all [2, 1, 0, 3] (rfl) (rfl) (by rw [← e1_2]; rfl) (ih4 (i + 1) (by omega) (by omega))
      · refine w_aload_n X 1 rfl dX6_refersTo_49 ?_
        refine w_iload_n X 2 rfl dX6_refersTo_50 ?_
        refine w_iconst X (nI 5) dX6_refersTo_51 (by decide +kernel) ?_
        refine w_roV X [0] 0 0 (m_X6_of l g ad μ i 5 (by omega) (by omega)) cv_X6_of mk_X6_43 rfl rfl rfl rfl rfl ⟨Nat.le_of_ble_eq_true rfl, Nat.le_of_ble_eq_true rfl⟩ (Nat.le_of_ble_eq_true rfl) ⟨Nat.le_of_ble_eq_true rfl, Nat.le_of_ble_eq_true rfl⟩ dX6_refersTo_52 rfl ?_
        refine w_iload_n X 3 rfl dX6_refersTo_55 ?_
        refine w_ic_ne X 63 dX6_refersTo_56 (by decide) (fun c56 => ?_) (fun c56 => ?_)
        · refine w_iconst X (nI 0) dX6_refersTo_63 (by decide +kernel) ?_
          refine w_iadd X dX6_refersTo_64 ?_
          refine w_istore_n X dX6_refersTo_65 (by decide) ?_
          refine w_iinc X (nI (i + 1)) 2 rfl (nI_1 _) dX6_refersTo_66 (by decide) ?_
          refine w_goto X 4 dX6_refersTo_69 (by decide) ?_
          have e2_2 : (((sum2 (fun h f => if refI σ (nI h) (nI f) = nI j then true else false) i) + nI (0)) + nI (0)) = (sum2 (fun h f => if refI σ (nI h) (nI f) = nI j then true else false) (i + 1)) := s2_v ((congrArg bI (show (if refI σ (nI i) (nI 0) = nI j then true else false) = false from by rw [hR.rto (by omega) (by omega) hj, if_neg c18])).symm) ((congrArg bI (show (if refI σ (nI i) (nI 1) = nI j then true else false) = false from by rw [hR.rto (by omega) (by omega) hj, if_pos c46, if_neg c56])).symm)
          exact w_all [2, 1, 0, 3] (rfl) (rfl) (by rw [← e2_2]; rfl) (ih4 (i + 1) (by omega) (by omega))
        · refine w_iconst X (nI 1) dX6_refersTo_59 (by decide +kernel) ?_
          refine w_goto X 64 dX6_refersTo_60 (by decide) ?_
          refine w_iadd X dX6_refersTo_64 ?_
          refine w_istore_n X dX6_refersTo_65 (by decide) ?_
          refine w_iinc X (nI (i + 1)) 2 rfl (nI_1 _) dX6_refersTo_66 (by decide) ?_
          refine w_goto X 4 dX6_refersTo_69 (by decide) ?_
          have e3_2 : (((sum2 (fun h f => if refI σ (nI h) (nI f) = nI j then true else false) i) + nI (0)) + nI (1)) = (sum2 (fun h f => if refI σ (nI h) (nI f) = nI j then true else false) (i + 1)) := s2_v ((congrArg bI (show (if refI σ (nI i) (nI 0) = nI j then true else false) = false from by rw [hR.rto (by omega) (by omega) hj, if_neg c18])).symm) ((congrArg bI (show (if refI σ (nI i) (nI 1) = nI j then true else false) = true from by rw [hR.rto (by omega) (by omega) hj, if_pos c46, if_pos c56])).symm)
          exact w_all [2, 1, 0, 3] (rfl) (rfl) (by rw [← e3_2]; rfl) (ih4 (i + 1) (by omega) (by omega))
    · refine w_aload_n X 0 rfl dX6_refersTo_21 ?_
      refine w_iload_n X 2 rfl dX6_refersTo_22 ?_
      refine w_iconst X (nI 4) dX6_refersTo_23 (by decide +kernel) ?_
      refine w_roV X [0] 0 0 (m_X6_of l g ad μ i 4 (by omega) (by omega)) cv_X6_of mk_X6_43 rfl rfl rfl rfl rfl ⟨Nat.le_of_ble_eq_true rfl, Nat.le_of_ble_eq_true rfl⟩ (Nat.le_of_ble_eq_true rfl) ⟨Nat.le_of_ble_eq_true rfl, Nat.le_of_ble_eq_true rfl⟩ dX6_refersTo_24 rfl ?_
      refine w_iload_n X 3 rfl dX6_refersTo_27 ?_
      refine w_ic_ne X 35 dX6_refersTo_28 (by decide) (fun c28 => ?_) (fun c28 => ?_)
      · refine w_iconst X (nI 0) dX6_refersTo_35 (by decide +kernel) ?_
        refine w_iadd X dX6_refersTo_36 ?_
        refine w_istore_n X dX6_refersTo_37 (by decide) ?_
        refine w_iload_n X 0 rfl dX6_refersTo_38 ?_
        refine w_aload_n X 1 rfl dX6_refersTo_39 ?_
        refine w_iload_n X 2 rfl dX6_refersTo_40 ?_
        refine w_iconst X (nI 0) dX6_refersTo_41 (by decide +kernel) ?_
        refine w_roV X [0] 0 0 (m_X6_of l g ad μ i 0 (by omega) (by omega)) cv_X6_of mk_X6_43 rfl rfl rfl rfl rfl ⟨Nat.le_of_ble_eq_true rfl, Nat.le_of_ble_eq_true rfl⟩ (Nat.le_of_ble_eq_true rfl) ⟨Nat.le_of_ble_eq_true rfl, Nat.le_of_ble_eq_true rfl⟩ dX6_refersTo_42 rfl ?_
        refine w_iconst X (nI 1) dX6_refersTo_45 (by decide +kernel) ?_
        refine w_ic_ne X 63 dX6_refersTo_46 (by decide) (fun c46 => ?_) (fun c46 => ?_)
        · refine w_iconst X (nI 0) dX6_refersTo_63 (by decide +kernel) ?_
          refine w_iadd X dX6_refersTo_64 ?_
          refine w_istore_n X dX6_refersTo_65 (by decide) ?_
          refine w_iinc X (nI (i + 1)) 2 rfl (nI_1 _) dX6_refersTo_66 (by decide) ?_
          refine w_goto X 4 dX6_refersTo_69 (by decide) ?_
          have e4_2 : (((sum2 (fun h f => if refI σ (nI h) (nI f) = nI j then true else false) i) + nI (0)) + nI (0)) = (sum2 (fun h f => if refI σ (nI h) (nI f) = nI j then true else false) (i + 1)) := s2_v ((congrArg bI (show (if refI σ (nI i) (nI 0) = nI j then true else false) = false from by rw [hR.rto (by omega) (by omega) hj, if_pos c18, if_neg c28])).symm) ((congrArg bI (show (if refI σ (nI i) (nI 1) = nI j then true else false) = false from by rw [hR.rto (by omega) (by omega) hj, if_neg c46])).symm)
          exact w_all [2, 1, 0, 3] (rfl) (rfl) (by rw [← e4_2]; rfl) (ih4 (i + 1) (by omega) (by omega))
        · refine w_aload_n X 1 rfl dX6_refersTo_49 ?_
          refine w_iload_n X 2 rfl dX6_refersTo_50 ?_
          refine w_iconst X (nI 5) dX6_refersTo_51 (by decide +kernel) ?_
          refine w_roV X [0] 0 0 (m_X6_of l g ad μ i 5 (by omega) (by omega)) cv_X6_of mk_X6_43 rfl rfl rfl rfl rfl ⟨Nat.le_of_ble_eq_true rfl, Nat.le_of_ble_eq_true rfl⟩ (Nat.le_of_ble_eq_true rfl) ⟨Nat.le_of_ble_eq_true rfl, Nat.le_of_ble_eq_true rfl⟩ dX6_refersTo_52 rfl ?_
          refine w_iload_n X 3 rfl dX6_refersTo_55 ?_
          refine w_ic_ne X 63 dX6_refersTo_56 (by decide) (fun c56 => ?_) (fun c56 => ?_)
          · refine w_iconst X (nI 0) dX6_refersTo_63 (by decide +kernel) ?_
            refine w_iadd X dX6_refersTo_64 ?_
            refine w_istore_n X dX6_refersTo_65 (by decide) ?_
            refine w_iinc X (nI (i + 1)) 2 rfl (nI_1 _) dX6_refersTo_66 (by decide) ?_
            refine w_goto X 4 dX6_refersTo_69 (by decide) ?_
            have e5_2 : (((sum2 (fun h f => if refI σ (nI h) (nI f) = nI j then true else false) i) + nI (0)) + nI (0)) = (sum2 (fun h f => if refI σ (nI h) (nI f) = nI j then true else false) (i + 1)) := s2_v ((congrArg bI (show (if refI σ (nI i) (nI 0) = nI j then true else false) = false from by rw [hR.rto (by omega) (by omega) hj, if_pos c18, if_neg c28])).symm) ((congrArg bI (show (if refI σ (nI i) (nI 1) = nI j then true else false) = false from by rw [hR.rto (by omega) (by omega) hj, if_pos c46, if_neg c56])).symm)
            exact w_all [2, 1, 0, 3] (rfl) (rfl) (by rw [← e5_2]; rfl) (ih4 (i + 1) (by omega) (by omega))
          · refine w_iconst X (nI 1) dX6_refersTo_59 (by decide +kernel) ?_
            refine w_goto X 64 dX6_refersTo_60 (by decide) ?_
            refine w_iadd X dX6_refersTo_64 ?_
            refine w_istore_n X dX6_refersTo_65 (by decide) ?_
            refine w_iinc X (nI (i + 1)) 2 rfl (nI_1 _) dX6_refersTo_66 (by decide) ?_
            refine w_goto X 4 dX6_refersTo_69 (by decide) ?_
            have e6_2 : (((sum2 (fun h f => if refI σ (nI h) (nI f) = nI j then true else false) i) + nI (0)) + nI (1)) = (sum2 (fun h f => if refI σ (nI h) (nI f) = nI j then true else false) (i + 1)) := s2_v ((congrArg bI (show (if refI σ (nI i) (nI 0) = nI j then true else false) = false from by rw [hR.rto (by omega) (by omega) hj, if_pos c18, if_neg c28])).symm) ((congrArg bI (show (if refI σ (nI i) (nI 1) = nI j then true else false) = true from by rw [hR.rto (by omega) (by omega) hj, if_pos c46, if_pos c56])).symm)
            exact w_all [2, 1, 0, 3] (rfl) (rfl) (by rw [← e6_2]; rfl) (ih4 (i + 1) (by omega) (by omega))
      · refine w_iconst X (nI 1) dX6_refersTo_31 (by decide +kernel) ?_
        refine w_goto X 36 dX6_refersTo_32 (by decide) ?_
        refine w_iadd X dX6_refersTo_36 ?_
        refine w_istore_n X dX6_refersTo_37 (by decide) ?_
        refine w_iload_n X 0 rfl dX6_refersTo_38 ?_
        refine w_aload_n X 1 rfl dX6_refersTo_39 ?_
        refine w_iload_n X 2 rfl dX6_refersTo_40 ?_
        refine w_iconst X (nI 0) dX6_refersTo_41 (by decide +kernel) ?_
        refine w_roV X [0] 0 0 (m_X6_of l g ad μ i 0 (by omega) (by omega)) cv_X6_of mk_X6_43 rfl rfl rfl rfl rfl ⟨Nat.le_of_ble_eq_true rfl, Nat.le_of_ble_eq_true rfl⟩ (Nat.le_of_ble_eq_true rfl) ⟨Nat.le_of_ble_eq_true rfl, Nat.le_of_ble_eq_true rfl⟩ dX6_refersTo_42 rfl ?_
        refine w_iconst X (nI 1) dX6_refersTo_45 (by decide +kernel) ?_
        refine w_ic_ne X 63 dX6_refersTo_46 (by decide) (fun c46 => ?_) (fun c46 => ?_)
        · refine w_iconst X (nI 0) dX6_refersTo_63 (by decide +kernel) ?_
          refine w_iadd X dX6_refersTo_64 ?_
          refine w_istore_n X dX6_refersTo_65 (by decide) ?_
          refine w_iinc X (nI (i + 1)) 2 rfl (nI_1 _) dX6_refersTo_66 (by decide) ?_
          refine w_goto X 4 dX6_refersTo_69 (by decide) ?_
          have e7_2 : (((sum2 (fun h f => if refI σ (nI h) (nI f) = nI j then true else false) i) + nI (1)) + nI (0)) = (sum2 (fun h f => if refI σ (nI h) (nI f) = nI j then true else false) (i + 1)) := s2_v ((congrArg bI (show (if refI σ (nI i) (nI 0) = nI j then true else false) = true from by rw [hR.rto (by omega) (by omega) hj, if_pos c18, if_pos c28])).symm) ((congrArg bI (show (if refI σ (nI i) (nI 1) = nI j then true else false) = false from by rw [hR.rto (by omega) (by omega) hj, if_neg c46])).symm)
          exact w_all [2, 1, 0, 3] (rfl) (rfl) (by rw [← e7_2]; rfl) (ih4 (i + 1) (by omega) (by omega))
        · refine w_aload_n X 1 rfl dX6_refersTo_49 ?_
          refine w_iload_n X 2 rfl dX6_refersTo_50 ?_
          refine w_iconst X (nI 5) dX6_refersTo_51 (by decide +kernel) ?_
          refine w_roV X [0] 0 0 (m_X6_of l g ad μ i 5 (by omega) (by omega)) cv_X6_of mk_X6_43 rfl rfl rfl rfl rfl ⟨Nat.le_of_ble_eq_true rfl, Nat.le_of_ble_eq_true rfl⟩ (Nat.le_of_ble_eq_true rfl) ⟨Nat.le_of_ble_eq_true rfl, Nat.le_of_ble_eq_true rfl⟩ dX6_refersTo_52 rfl ?_
          refine w_iload_n X 3 rfl dX6_refersTo_55 ?_
          refine w_ic_ne X 63 dX6_refersTo_56 (by decide) (fun c56 => ?_) (fun c56 => ?_)
          · refine w_iconst X (nI 0) dX6_refersTo_63 (by decide +kernel) ?_
            refine w_iadd X dX6_refersTo_64 ?_
            refine w_istore_n X dX6_refersTo_65 (by decide) ?_
            refine w_iinc X (nI (i + 1)) 2 rfl (nI_1 _) dX6_refersTo_66 (by decide) ?_
            refine w_goto X 4 dX6_refersTo_69 (by decide) ?_
            have e8_2 : (((sum2 (fun h f => if refI σ (nI h) (nI f) = nI j then true else false) i) + nI (1)) + nI (0)) = (sum2 (fun h f => if refI σ (nI h) (nI f) = nI j then true else false) (i + 1)) := s2_v ((congrArg bI (show (if refI σ (nI i) (nI 0) = nI j then true else false) = true from by rw [hR.rto (by omega) (by omega) hj, if_pos c18, if_pos c28])).symm) ((congrArg bI (show (if refI σ (nI i) (nI 1) = nI j then true else false) = false from by rw [hR.rto (by omega) (by omega) hj, if_pos c46, if_neg c56])).symm)
            exact w_all [2, 1, 0, 3] (rfl) (rfl) (by rw [← e8_2]; rfl) (ih4 (i + 1) (by omega) (by omega))
          · refine w_iconst X (nI 1) dX6_refersTo_59 (by decide +kernel) ?_
            refine w_goto X 64 dX6_refersTo_60 (by decide) ?_
            refine w_iadd X dX6_refersTo_64 ?_
            refine w_istore_n X dX6_refersTo_65 (by decide) ?_
            refine w_iinc X (nI (i + 1)) 2 rfl (nI_1 _) dX6_refersTo_66 (by decide) ?_
            refine w_goto X 4 dX6_refersTo_69 (by decide) ?_
            have e9_2 : (((sum2 (fun h f => if refI σ (nI h) (nI f) = nI j then true else false) i) + nI (1)) + nI (1)) = (sum2 (fun h f => if refI σ (nI h) (nI f) = nI j then true else false) (i + 1)) := s2_v ((congrArg bI (show (if refI σ (nI i) (nI 0) = nI j then true else false) = true from by rw [hR.rto (by omega) (by omega) hj, if_pos c18, if_pos c28])).symm) ((congrArg bI (show (if refI σ (nI i) (nI 1) = nI j then true else false) = true from by rw [hR.rto (by omega) (by omega) hj, if_pos c46, if_pos c56])).symm)
            exact w_all [2, 1, 0, 3] (rfl) (rfl) (by rw [← e9_2]; rfl) (ih4 (i + 1) (by omega) (by omega))
set_option maxRecDepth 100000 in
set_option maxHeartbeats 4000000 in
theorem m_X6_references (l : Launch) (g : GG) (ad : Nat → Nat) (μ : Nat → Nat → Int32) (σ : Nat → Nat → Int32) (b : Bool) (hR : RI σ (μ 0)) : MRO l g yX6_references cX6_references 6 (some .int) 2 [.ref (ad 0), .int (bI (b))] [moC g ad μ] (some (.int (sum2 (fun x y => refP σ b x y) 24))) := by
  refine mk_ro (by decide +kernel) (Nat.le_of_ble_eq_true rfl) (fun p e s m below meth c X => ?_)
  refine w_iconst X (nI 0) dX6_references_0 (by decide +kernel) ?_
  refine w_istore_n X dX6_references_1 (by decide) ?_
  refine w_iconst X (nI 0) dX6_references_2 (by decide +kernel) ?_
  refine w_istore_n X dX6_references_3 (by decide) ?_
  refine w_all [2, 1, 0, 3] (rfl) (rfl) rfl (w_loop (st := []) (pc := 4) X (V := Nat) (fun (i : Nat) => 24 - i) (fun (i : Nat) => (i ≤ 24)) (fun (i : Nat) => [(0, .ref (ad 0)), (2, .int (sum2 (fun x y => refP σ b x y) i)), (3, .int (nI i)), (1, .int (bI (b)))]) (fun (i : Nat) => [moC g ad μ]) (fun i hv4 ih4 => ?_) 0 (by omega))
  have hi := hv4
  try dsimp only at ih4 ⊢
  refine w_iload_n X 2 rfl dX6_references_4 ?_
  refine w_bipush X (nI 24) dX6_references_5 (by decide +kernel) ?_
  refine w_nc_ge X (by omega) (by omega) 98 dX6_references_7 (by decide) (fun c7 => ?_) (fun c7 => ?_)
  · have he_i : i = 24 := by omega
    refine w_iload_n X 1 rfl dX6_references_98 ?_
    exact w_iret_ro X (by first | rfl | (subst he_i; rfl) | simp (decide := true) [c7, bI]) dX6_references_99
  · refine w_iconst X (nI 4) dX6_references_10 (by decide +kernel) ?_
    refine w_istore X dX6_references_11 (by decide) ?_
    have e1_2 : (sum2 (fun x y => refP σ b x y) i) = (s2I (fun x y => refP σ b x y) i 0) := by rfl
    refine w_all [1, 4, 2, 3, 0] (rfl) (rfl) (by rw [← e1_2]; rfl) (w_loop (st := []) (pc := 13) X (V := Nat) (fun (f : Nat) => 2 - f) (fun (f : Nat) => (f ≤ 2)) (fun (f : Nat) => [(0, .ref (ad 0)), (1, .int (bI (b))), (2, .int (s2I (fun x y => refP σ b x y) i f)), (3, .int (nI i)), (4, .int (nI (4 + f)))]) (fun (f : Nat) => [moC g ad μ]) (fun f hv13 ih13 => ?_) 0 (by omega))
    have hf := hv13
    try dsimp only at ih13 ⊢
    refine w_iload X 4 rfl dX6_references_13 ?_
    refine w_bipush X (nI 6) dX6_references_15 (by decide +kernel) ?_
    refine w_nc_ge X (by omega) (by omega) 92 dX6_references_17 (by decide) (fun c17 => ?_) (fun c17 => ?_)
    · have he_f : f = 2 := by omega
      refine w_iinc X (nI (i + 1)) 3 rfl (nI_1 _) dX6_references_92 (by decide) ?_
      refine w_goto X 4 dX6_references_95 (by decide) ?_
      have e2_2 : (s2I (fun x y => refP σ b x y) i f) = (sum2 (fun x y => refP σ b x y) (i + 1)) := by rw [he_f]; rfl
      exact w_all [1, 3, 0, 2] (rfl) (rfl) (by rw [← e2_2]; rfl) (ih4 (i + 1) (by omega) (by omega))
    · refine w_aload_n X 0 rfl dX6_references_20 ?_
      refine w_iload_n X 3 rfl dX6_references_21 ?_
      refine w_iconst X (nI 0) dX6_references_22 (by decide +kernel) ?_
      refine w_roV X [0] 0 0 (m_X6_of l g ad μ i 0 (by omega) (by omega)) cv_X6_of mk_X6_43 rfl rfl rfl rfl rfl ⟨Nat.le_of_ble_eq_true rfl, Nat.le_of_ble_eq_true rfl⟩ (Nat.le_of_ble_eq_true rfl) ⟨Nat.le_of_ble_eq_true rfl, Nat.le_of_ble_eq_true rfl⟩ dX6_references_23 rfl ?_
      refine w_iconst X (nI 1) dX6_references_26 (by decide +kernel) ?_
      refine w_ic_ne X 45 dX6_references_27 (by decide) (fun c27 => ?_) (fun c27 => ?_)
      · refine w_iconst X (nI 0) dX6_references_45 (by decide +kernel) ?_
        refine w_istore X dX6_references_46 (by decide) ?_
        refine w_iload_n X 3 rfl dX6_references_48 ?_
        refine w_iload X 0 rfl dX6_references_49 ?_
        refine w_nf_eq X (by omega) 83 dX6_references_51 (by decide) (fun c51 => ?_) (fun c51 => by exfalso; omega)
        refine w_iconst X (nI 0) dX6_references_83 (by decide +kernel) ?_
        refine w_iadd X dX6_references_84 ?_
        refine w_istore_n X dX6_references_85 (by decide) ?_
        refine w_iinc X (nI (4 + f + 1)) 5 rfl (nI_1 _) dX6_references_86 (by decide) ?_
        refine w_goto X 13 dX6_references_89 (by decide) ?_
        have e3_2 : ((s2I (fun x y => refP σ b x y) i f) + nI (0)) = (s2I (fun x y => refP σ b x y) i (f + 1)) := s2_f (hR.ref0 (by omega) (by omega) c27)
        exact w_all [3, 4, 1, 5, 0] (rfl) (rfl) (by rw [← e3_2]; rfl) (ih13 (f + 1) (by omega) (by omega))
      · refine w_aload_n X 0 rfl dX6_references_30 ?_
        refine w_iload_n X 3 rfl dX6_references_31 ?_
        refine w_iload X 4 rfl dX6_references_32 ?_
        refine w_roV X [0] 0 0 (m_X6_of l g ad μ i (4 + f) (by omega) (by omega)) cv_X6_of mk_X6_43 rfl rfl rfl rfl rfl ⟨Nat.le_of_ble_eq_true rfl, Nat.le_of_ble_eq_true rfl⟩ (Nat.le_of_ble_eq_true rfl) ⟨Nat.le_of_ble_eq_true rfl, Nat.le_of_ble_eq_true rfl⟩ dX6_references_34 rfl ?_
        refine w_iconst X (-1) dX6_references_37 (by decide +kernel) ?_
        refine w_ic_eq X 45 dX6_references_38 (by decide) (fun c38 => ?_) (fun c38 => ?_)
        · refine w_iconst X (nI 0) dX6_references_45 (by decide +kernel) ?_
          refine w_istore X dX6_references_46 (by decide) ?_
          refine w_iload_n X 3 rfl dX6_references_48 ?_
          refine w_iload X 0 rfl dX6_references_49 ?_
          refine w_nf_eq X (by omega) 83 dX6_references_51 (by decide) (fun c51 => ?_) (fun c51 => by exfalso; omega)
          refine w_iconst X (nI 0) dX6_references_83 (by decide +kernel) ?_
          refine w_iadd X dX6_references_84 ?_
          refine w_istore_n X dX6_references_85 (by decide) ?_
          refine w_iinc X (nI (4 + f + 1)) 5 rfl (nI_1 _) dX6_references_86 (by decide) ?_
          refine w_goto X 13 dX6_references_89 (by decide) ?_
          have e4_2 : ((s2I (fun x y => refP σ b x y) i f) + nI (0)) = (s2I (fun x y => refP σ b x y) i (f + 1)) := s2_f (hR.ref1 (by omega) (by omega) c27 c38)
          exact w_all [3, 4, 1, 5, 0] (rfl) (rfl) (by rw [← e4_2]; rfl) (ih13 (f + 1) (by omega) (by omega))
        · refine w_iconst X (nI 1) dX6_references_41 (by decide +kernel) ?_
          refine w_goto X 46 dX6_references_42 (by decide) ?_
          refine w_istore X dX6_references_46 (by decide) ?_
          refine w_iload_n X 3 rfl dX6_references_48 ?_
          refine w_iload X 0 rfl dX6_references_49 ?_
          refine w_nf_eq X (by omega) 83 dX6_references_51 (by decide) (fun c51 => by exfalso; omega) (fun c51 => ?_)
          refine w_iload_n X 2 rfl dX6_references_54 ?_
          refine w_bf_eq X 79 dX6_references_55 (by decide) (fun c55 => ?_) (fun c55 => ?_)
          · refine w_iconst X (nI 1) dX6_references_79 (by decide +kernel) ?_
            refine w_goto X 84 dX6_references_80 (by decide) ?_
            refine w_iadd X dX6_references_84 ?_
            refine w_istore_n X dX6_references_85 (by decide) ?_
            refine w_iinc X (nI (4 + f + 1)) 5 rfl (nI_1 _) dX6_references_86 (by decide) ?_
            refine w_goto X 13 dX6_references_89 (by decide) ?_
            have e5_2 : ((s2I (fun x y => refP σ b x y) i f) + nI (1)) = (s2I (fun x y => refP σ b x y) i (f + 1)) := s2_t ((hR.ref2 (by omega) (by omega) c27 c38 (hR.to (by omega) (by omega) c27 c38).choose_spec.2.1 (hR.to (by omega) (by omega) c27 c38).choose_spec.1).trans (if_pos c55))
            exact w_all [3, 4, 1, 5, 0] (rfl) (rfl) (by rw [← e5_2]; rfl) (ih13 (f + 1) (by omega) (by omega))
          · refine w_aload_n X 1 rfl dX6_references_58 ?_
            refine w_aload_n X 1 rfl dX6_references_59 ?_
            refine w_iload_n X 4 rfl dX6_references_60 ?_
            refine w_iload X 5 rfl dX6_references_61 ?_
            refine w_roV X [0] 0 0 (m_X6_of l g ad μ i (4 + f) (by omega) (by omega)) cv_X6_of mk_X6_43 rfl rfl rfl rfl rfl ⟨Nat.le_of_ble_eq_true rfl, Nat.le_of_ble_eq_true rfl⟩ (Nat.le_of_ble_eq_true rfl) ⟨Nat.le_of_ble_eq_true rfl, Nat.le_of_ble_eq_true rfl⟩ dX6_references_63 rfl ?_
            obtain ⟨j, hj, hj0⟩ : ∃ j, j < 24 ∧ μ 0 (24 + 9 * i + (4 + f)) = nI j := (hR.to (by omega) (by omega) c27 c38).elim (fun j h => ⟨j, h.1, h.2.1⟩)
            rw [hj0]
            refine w_iconst X (nI 1) dX6_references_66 (by decide +kernel) ?_
            refine w_roV X [0] 0 0 (m_X6_of l g ad μ j 1 (by omega) (by omega)) cv_X6_of mk_X6_43 rfl rfl rfl rfl rfl ⟨Nat.le_of_ble_eq_true rfl, Nat.le_of_ble_eq_true rfl⟩ (Nat.le_of_ble_eq_true rfl) ⟨Nat.le_of_ble_eq_true rfl, Nat.le_of_ble_eq_true rfl⟩ dX6_references_67 rfl ?_
            refine w_aload_n X 1 rfl dX6_references_70 ?_
            refine w_iload_n X 4 rfl dX6_references_71 ?_
            refine w_iconst X (nI 1) dX6_references_72 (by decide +kernel) ?_
            refine w_roV X [0] 0 0 (m_X6_of l g ad μ i 1 (by omega) (by omega)) cv_X6_of mk_X6_43 rfl rfl rfl rfl rfl ⟨Nat.le_of_ble_eq_true rfl, Nat.le_of_ble_eq_true rfl⟩ (Nat.le_of_ble_eq_true rfl) ⟨Nat.le_of_ble_eq_true rfl, Nat.le_of_ble_eq_true rfl⟩ dX6_references_73 rfl ?_
            refine w_ic_eq X 83 dX6_references_76 (by decide) (fun c76 => ?_) (fun c76 => ?_)
            · refine w_iconst X (nI 0) dX6_references_83 (by decide +kernel) ?_
              refine w_iadd X dX6_references_84 ?_
              refine w_istore_n X dX6_references_85 (by decide) ?_
              refine w_iinc X (nI (4 + f + 1)) 5 rfl (nI_1 _) dX6_references_86 (by decide) ?_
              refine w_goto X 13 dX6_references_89 (by decide) ?_
              have e6_2 : ((s2I (fun x y => refP σ b x y) i f) + nI (0)) = (s2I (fun x y => refP σ b x y) i (f + 1)) := s2_f ((hR.ref2 (by omega) (by omega) c27 c38 hj0 hj).trans (by rw [if_neg (by rw [c55]; decide), if_pos c76]))
              exact w_all [3, 4, 1, 5, 0] (rfl) (rfl) (by rw [← e6_2]; rfl) (ih13 (f + 1) (by omega) (by omega))
            · refine w_iconst X (nI 1) dX6_references_79 (by decide +kernel) ?_
              refine w_goto X 84 dX6_references_80 (by decide) ?_
              refine w_iadd X dX6_references_84 ?_
              refine w_istore_n X dX6_references_85 (by decide) ?_
              refine w_iinc X (nI (4 + f + 1)) 5 rfl (nI_1 _) dX6_references_86 (by decide) ?_
              refine w_goto X 13 dX6_references_89 (by decide) ?_
              have e7_2 : ((s2I (fun x y => refP σ b x y) i f) + nI (1)) = (s2I (fun x y => refP σ b x y) i (f + 1)) := s2_t ((hR.ref2 (by omega) (by omega) c27 c38 hj0 hj).trans (by rw [if_neg (by rw [c55]; decide), if_neg c76]))
              exact w_all [3, 4, 1, 5, 0] (rfl) (rfl) (by rw [← e7_2]; rfl) (ih13 (f + 1) (by omega) (by omega))
