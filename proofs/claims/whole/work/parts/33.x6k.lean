/-! The model: parts of a text -/
def rtF (cd : Nat → Nat) (t q : Nat) : Nat := if atD cd t q 114 114 = true then 1 else 0
/-- a part: its size, its root, its holder, the place behind it -/
def ptN (cd : Nat → Nat) (t q : Nat) : Option (Nat × Nat × Int32 × Nat) := match numN cd t q 49 16 with
  | none => none
  | some (z, q1) => if atD cd t (sgP cd t q1 114) 60 60 = true then (match numN cd t (sgP cd t (sgP cd t q1 114) 60) 48 23 with
    | none => none
    | some (h, q4) => some (z, rtF cd t q1, nI h, q4)) else some (z, rtF cd t q1, -1, sgP cd t q1 114)
/-- where a part that isn't one stops -/
def ptF (cd : Nat → Nat) (t q : Nat) : Nat := match numN cd t q 49 16 with
  | none => q
  | some (_, q1) => sgP cd t (sgP cd t q1 114) 60
def PQ (cd : Nat → Nat) (t q k : Nat) (μ μ' : Nat → Nat → Int32) : Prop := (∀ j, j ≠ 6 → j ≠ 7 → j ≠ 8 → j ≠ 9 → μ' j = μ j) ∧ match ptN cd t q with
  | none => μ' 6 0 = nI (ptF cd t q) ∧ μ' 7 0 = bI (decide (ptF cd t q < t))
  | some r => μ' 6 0 = nI r.2.2.2 ∧ μ' 9 (3 * k) = nI r.1 ∧ μ' 9 (3 * k + 1) = nI r.2.1 ∧ μ' 9 (3 * k + 2) = r.2.2.1 ∧ ∀ i, i < 3 * k → μ' 9 i = μ 9 i
theorem num_bd {cd : Nat → Nat} {t q x y z q1 : Nat} (h : numN cd t q x y = some (z, q1)) : q < q1 ∧ q1 ≤ t := by
  rw [numN] at h
  split at h
  · rename_i c
    have c1 := (at_t c).1
    split at h
    · rename_i c2
      have c3 := (at_t c2.2.1).1
      cases h
      omega
    · cases h
      omega
  · cases h
theorem sg_bd {cd : Nat → Nat} {t q x : Nat} (h : q ≤ t) : q ≤ sgP cd t q x ∧ sgP cd t q x ≤ t := by
  rw [sgP]
  split
  · rename_i c
    have := (at_t c).1
    omega
  · omega
theorem pt_1 {cd : Nat → Nat} {t q : Nat} (h : numN cd t q 49 16 = none) : ptN cd t q = none ∧ ptF cd t q = q := by rw [ptN, ptF, h]; exact ⟨rfl, rfl⟩
theorem pt_2 {cd : Nat → Nat} {t q z q1 : Nat} (h : numN cd t q 49 16 = some (z, q1)) (h2 : atD cd t (sgP cd t q1 114) 60 60 = false) : ptN cd t q = some (z, rtF cd t q1, -1, sgP cd t q1 114) := by
  rw [ptN, h]
  show (if atD cd t (sgP cd t q1 114) 60 60 = true then _ else _) = _
  rw [if_neg (by rw [h2]; decide)]
theorem pt_3 {cd : Nat → Nat} {t q z q1 y q4 : Nat} (h : numN cd t q 49 16 = some (z, q1)) (h2 : atD cd t (sgP cd t q1 114) 60 60 = true) (h3 : numN cd t (sgP cd t (sgP cd t q1 114) 60) 48 23 = some (y, q4)) : ptN cd t q = some (z, rtF cd t q1, nI y, q4) := by
  rw [ptN, h]
  show (if atD cd t (sgP cd t q1 114) 60 60 = true then _ else _) = _
  rw [if_pos h2, h3]
theorem pt_4 {cd : Nat → Nat} {t q z q1 : Nat} (h : numN cd t q 49 16 = some (z, q1)) (h2 : atD cd t (sgP cd t q1 114) 60 60 = true) (h3 : numN cd t (sgP cd t (sgP cd t q1 114) 60) 48 23 = none) : ptN cd t q = none ∧ ptF cd t q = sgP cd t (sgP cd t q1 114) 60 := by
  rw [ptN, ptF, h]
  refine ⟨?_, rfl⟩
  show (if atD cd t (sgP cd t q1 114) 60 60 = true then _ else _) = _
  rw [if_pos h2, h3]
theorem pq_n {cd : Nat → Nat} {t q k : Nat} {μ μ' : Nat → Nat → Int32} (h1 : ∀ j, j ≠ 6 → j ≠ 7 → j ≠ 8 → j ≠ 9 → μ' j = μ j) (h : ptN cd t q = none) (h2 : μ' 6 0 = nI (ptF cd t q)) (h3 : μ' 7 0 = bI (decide (ptF cd t q < t))) : PQ cd t q k μ μ' := by
  refine ⟨h1, ?_⟩
  rw [h]
  exact ⟨h2, h3⟩
theorem pq_s {cd : Nat → Nat} {t q k : Nat} {r : Nat × Nat × Int32 × Nat} {μ μ' : Nat → Nat → Int32} (h1 : ∀ j, j ≠ 6 → j ≠ 7 → j ≠ 8 → j ≠ 9 → μ' j = μ j) (h : ptN cd t q = some r) (h2 : μ' 6 0 = nI r.2.2.2) (h3 : μ' 9 (3 * k) = nI r.1) (h4 : μ' 9 (3 * k + 1) = nI r.2.1) (h5 : μ' 9 (3 * k + 2) = r.2.2.1) (h6 : ∀ i, i < 3 * k → μ' 9 i = μ 9 i) : PQ cd t q k μ μ' := by
  refine ⟨h1, ?_⟩
  rw [h]
  exact ⟨h2, h3, h4, h5, h6⟩
theorem nq_i {cd : Nat → Nat} {t q x y : Nat} {μ μ' : Nat → Nat → Int32} (h : NQ cd t q x y μ μ') : (numN cd t q x y = none ∧ μ' 6 0 = nI q ∧ μ' 7 0 = bI (decide (q < t))) ∨ ∃ v q', numN cd t q x y = some (v, q') ∧ μ' 6 0 = nI q' ∧ μ' 8 0 = nI v := by
  have h2 := h.2
  rcases e : numN cd t q x y with _ | ⟨v, q'⟩
  · rw [e] at h2
    exact Or.inl ⟨rfl, h2⟩
  · rw [e] at h2
    exact Or.inr ⟨v, q', rfl, h2⟩
theorem TXM.to {μ μ' : Nat → Nat → Int32} {cd : Nat → Nat} {t : Nat} (h : TXM μ cd t) (h3 : μ' 3 = μ 3) (h4 : μ' 4 = μ 4) : TXM μ' cd t := ⟨by rw [h4]; exact h.1, h.2.1, fun i hi => by rw [h3]; exact h.2.2 i hi⟩
theorem t3_0 (f : Nat → Int32) (k : Nat) (a b c : Int32) : upd (upd (upd f (3 * k) a) (3 * k + 1) b) (3 * k + 2) c (3 * k) = a := by rw [upd_e, if_neg (by omega), upd_e, if_neg (by omega), upd_e, if_pos rfl]
theorem t3_1 (f : Nat → Int32) (k : Nat) (a b c : Int32) : upd (upd (upd f (3 * k) a) (3 * k + 1) b) (3 * k + 2) c (3 * k + 1) = b := by rw [upd_e, if_neg (by omega), upd_e, if_pos rfl]
theorem t3_2 (f : Nat → Int32) (k : Nat) (a b c : Int32) : upd (upd (upd f (3 * k) a) (3 * k + 1) b) (3 * k + 2) c (3 * k + 2) = c := by rw [upd_e, if_pos rfl]
theorem t3_n (f : Nat → Int32) {k i : Nat} (a b c : Int32) (h : i < 3 * k) : upd (upd (upd f (3 * k) a) (3 * k + 1) b) (3 * k + 2) c i = f i := by rw [upd_e, if_neg (by omega), upd_e, if_neg (by omega), upd_e, if_neg (by omega)]
theorem nq_none {cd : Nat → Nat} {t q x y : Nat} {μ μ' : Nat → Nat → Int32} (h : NQ cd t q x y μ μ') (c : (numN cd t q x y).isSome = false) : numN cd t q x y = none ∧ μ' 6 0 = nI q ∧ μ' 7 0 = bI (decide (q < t)) := by
  rcases nq_i h with h | ⟨v, q', e, _⟩
  · exact h
  · rw [e] at c; cases c
theorem pq_end {cd : Nat → Nat} {t q k z q1 : Nat} {μ μ1 μ3 μ2 : Nat → Nat → Int32} (hn1 : numN cd t q 49 16 = some (z, q1)) (c75 : atD cd t (sgP cd t q1 114) 60 60 = true) (h2 : NQ cd t (sgP cd t (sgP cd t q1 114) 60) 48 23 μ3 μ2) (h3 : ∀ j, j ≠ 6 → j ≠ 9 → μ3 j = μ1 j) (h1o : ∀ j, j ≠ 6 → j ≠ 7 → j ≠ 8 → μ1 j = μ j) (g0 : μ3 9 (3 * k) = nI z) (g1 : μ3 9 (3 * k + 1) = nI (rtF cd t q1)) (g2 : ∀ i, i < 3 * k → μ3 9 i = μ 9 i) : PQ cd t q k μ (rw2 μ2 9 (upd (μ2 9) (3 * k + 2) (μ2 8 0))) := by
  have ot : ∀ j, j ≠ 6 → j ≠ 7 → j ≠ 8 → j ≠ 9 → rw2 μ2 9 (upd (μ2 9) (3 * k + 2) (μ2 8 0)) j = μ j := fun j j6 j7 j8 j9 => by
    rw [rw2_n _ _ j9, h2.1 j j6 j7 j8, h3 j j6 j9, h1o j j6 j7 j8]
  have n9 : μ2 9 = μ3 9 := h2.1 9 (by decide) (by decide) (by decide)
  rcases nq_i h2 with ⟨e, a, b⟩ | ⟨v, q', e, a, b⟩
  · refine pq_n ot (pt_4 hn1 c75 e).1 ?_ ?_
    · rw [(pt_4 hn1 c75 e).2, rw2_n _ _ (by decide)]; exact a
    · rw [(pt_4 hn1 c75 e).2, rw2_n _ _ (by decide)]; exact b
  · refine pq_s ot (pt_3 hn1 c75 e) ?_ ?_ ?_ ?_ (fun i hi => ?_)
    · rw [rw2_n _ _ (by decide)]; exact a
    · rw [rw2_s, upd_e, if_neg (by omega), n9]; exact g0
    · rw [rw2_s, upd_e, if_neg (by omega), n9]; exact g1
    · rw [rw2_s, upd_e, if_pos rfl]; exact b
    · rw [rw2_s, upd_e, if_neg (by omega), n9]; exact g2 i hi
set_option maxRecDepth 100000 in
set_option maxHeartbeats 4000000 in
theorem m_X6_isPart (l : Launch) (g : GG) (ad : Nat → Nat) (μ : Nat → Nat → Int32) (cd : Nat → Nat) (t : Nat) (pp : Nat) (k : Nat) (hT : TXM μ cd t) (hp : μ 6 0 = nI pp) (hpt : pp ≤ t) (hk : μ 10 0 = nI k) (hk3 : k ≤ 30) : MME (U := {μ' : Nat → Nat → Int32 // PQ cd t pp k μ μ'}) l g yX6_isPart cX6_isPart 2 (some .boolean) 4 0 0 [.ref (ad 0)] [moC g ad μ] (some (.int (bI ((ptN cd t pp).isSome)))) (fun u => [moC g ad u.1]) := by
  refine mk_me (by decide +kernel) (Nat.le_of_ble_eq_true rfl) (fun p e s m below meth c A hA X => ?_)
  have ht60 := hT.2.1
  refine w_aload_n X 0 rfl dX6_isPart_0 ?_
  refine w_bipush X (nI 49) dX6_isPart_1 (by decide +kernel) ?_
  refine w_bipush X (nI 16) dX6_isPart_3 (by decide +kernel) ?_
  refine w_meV X hA (U := {μ' : Nat → Nat → Int32 // NQ cd t pp 49 16 μ μ'}) (gr := []) (gs1 := fun u => [moC g ad u.1]) [0] [] 0 0 (m_X6_isNumber l g ad μ cd t pp 49 16 (hT) (hp) (hpt) (by omega) (by omega) (by omega)) cv_X6_isNumber mk_X6_157 rfl rfl rfl (ng := 1) rfl (by decide) (fun _ => rfl) (fun _ => rfl) (fun _ => rfl) rfl rfl rfl ⟨Nat.le_of_ble_eq_true rfl, Nat.le_of_ble_eq_true rfl⟩ (Nat.le_of_ble_eq_true rfl) ⟨Nat.le_of_ble_eq_true rfl, Nat.le_of_ble_eq_true rfl⟩ dX6_isPart_5 rfl (fun u => ?_)
  obtain ⟨μ1, hμ1⟩ := u
  try dsimp only
  refine w_bf_ne X 13 dX6_isPart_8 (by decide) (fun c8 => ?_) (fun c8 => ?_)
  · obtain ⟨n1, _, _⟩ | ⟨z, q1, hn1, h16, h18⟩ := nq_i hμ1
    · rw [n1] at c8; cases c8
    have h1o := hμ1.1
    have hT1 : TXM μ1 cd t := hT.to (h1o 3 (by decide) (by decide) (by decide)) (h1o 4 (by decide) (by decide) (by decide))
    have hk1 : μ1 10 0 = nI k := by rw [h1o 10 (by decide) (by decide) (by decide)]; exact hk
    have hb1 := num_bd hn1
    have hb2 := sg_bd (cd := cd) (x := 114) hb1.2
    have hb3 := sg_bd (cd := cd) (x := 60) hb2.2
    refine w_aload_n X 0 rfl dX6_isPart_13 ?_
    refine w_get X 0 0 rfl rfl rfl in_X6 9 (by decide) fk_X6_19 rfl dX6_isPart_14 ?_
    refine w_iconst X (nI 3) dX6_isPart_17 (by decide +kernel) ?_
    refine w_aload_n X 0 rfl dX6_isPart_18 ?_
    refine w_get X 0 0 rfl rfl rfl in_X6 10 (by decide) fk_X6_160 rfl dX6_isPart_19 ?_
    refine w_st (st2 := [.int (nI k), .int (nI 3), .ref (ad 4)]) (by exact congrArg (fun v => Value.int v :: _) (hk1)) ?_
    refine w_imul_n X dX6_isPart_22 ?_
    refine w_aload_n X 0 rfl dX6_isPart_23 ?_
    refine w_get X 0 0 rfl rfl rfl in_X6 8 (by decide) fk_X6_154 rfl dX6_isPart_24 ?_
    refine w_st (st2 := [.int (nI z), .int (nI (3 * k)), .ref (ad 4)]) (by rw [h18] <;> rfl) ?_
    refine w_iast_n X 0 4 0 rfl rfl rfl (by omega) (by decide) (show _ = moC g ad (rw2 μ1 9 (upd (μ1 9) (3 * k) (nI (z)))) from rfl) dX6_isPart_27 ?_
    refine w_aload_n X 0 rfl dX6_isPart_28 ?_
    refine w_get X 0 0 rfl rfl rfl in_X6 9 (by decide) fk_X6_19 rfl dX6_isPart_29 ?_
    refine w_iconst X (nI 3) dX6_isPart_32 (by decide +kernel) ?_
    refine w_aload_n X 0 rfl dX6_isPart_33 ?_
    refine w_get X 0 0 rfl rfl rfl in_X6 10 (by decide) fk_X6_160 rfl dX6_isPart_34 ?_
    refine w_st (st2 := [.int (μ1 10 0), .int (nI 3), .ref (ad 4)]) rfl ?_
    refine w_st (st2 := [.int (nI k), .int (nI 3), .ref (ad 4)]) (by exact congrArg (fun v => Value.int v :: _) (hk1)) ?_
    refine w_imul_n X dX6_isPart_37 ?_
    refine w_iconst X (nI 1) dX6_isPart_38 (by decide +kernel) ?_
    refine w_iadd_n X dX6_isPart_39 ?_
    refine w_aload_n X 0 rfl dX6_isPart_40 ?_
    refine w_bipush X (nI 114) dX6_isPart_41 (by decide +kernel) ?_
    refine w_muV X hA (gr := []) (gs1 := [moC g ad (rw2 (rw2 μ1 9 (upd (μ1 9) (3 * k) (nI (z)))) 6 (fun _ => nI (sgP cd t q1 114)))]) [0] [] 0 0 (m_X6_isSign l g ad (rw2 μ1 9 (upd (μ1 9) (3 * k) (nI (z)))) cd t q1 114 (hT1) (h16) (hb1.2) (by omega)) cv_X6_isSign mk_X6_163 rfl rfl rfl (ng := 1) rfl (by decide) rfl rfl rfl rfl rfl rfl ⟨Nat.le_of_ble_eq_true rfl, Nat.le_of_ble_eq_true rfl⟩ (Nat.le_of_ble_eq_true rfl) ⟨Nat.le_of_ble_eq_true rfl, Nat.le_of_ble_eq_true rfl⟩ dX6_isPart_43 rfl ?_
    refine w_bf_eq X 53 dX6_isPart_46 (by decide) (fun c46 => ?_) (fun c46 => ?_)
    · refine w_iconst X (nI 0) dX6_isPart_53 (by decide +kernel) ?_
      refine w_iast_n X 0 4 0 rfl rfl rfl (by omega) (by decide) (show _ = moC g ad (rw2 (rw2 (rw2 μ1 9 (upd (μ1 9) (3 * k) (nI (z)))) 6 (fun _ => nI (sgP cd t q1 114))) 9 (upd ((rw2 (rw2 μ1 9 (upd (μ1 9) (3 * k) (nI (z)))) 6 (fun _ => nI (sgP cd t q1 114))) 9) ((3 * k) + 1) (nI (0)))) from rfl) dX6_isPart_54 ?_
      refine w_aload_n X 0 rfl dX6_isPart_55 ?_
      refine w_get X 0 0 rfl rfl rfl in_X6 9 (by decide) fk_X6_19 rfl dX6_isPart_56 ?_
      refine w_iconst X (nI 3) dX6_isPart_59 (by decide +kernel) ?_
      refine w_aload_n X 0 rfl dX6_isPart_60 ?_
      refine w_get X 0 0 rfl rfl rfl in_X6 10 (by decide) fk_X6_160 rfl dX6_isPart_61 ?_
      refine w_st (st2 := [.int ((rw2 (rw2 μ1 9 (upd (μ1 9) (3 * k) (nI (z)))) 6 (fun _ => nI (sgP cd t q1 114))) 10 0), .int (nI 3), .ref (ad 4)]) rfl ?_
      refine w_st (st2 := [.int (nI k), .int (nI 3), .ref (ad 4)]) (by exact congrArg (fun v => Value.int v :: _) (hk1)) ?_
      refine w_imul_n X dX6_isPart_64 ?_
      refine w_iconst X (nI 2) dX6_isPart_65 (by decide +kernel) ?_
      refine w_iadd_n X dX6_isPart_66 ?_
      refine w_iconst X (-1) dX6_isPart_67 (by decide +kernel) ?_
      refine w_iast_n X 0 4 0 rfl rfl rfl (by omega) (by decide) (show _ = moC g ad (rw2 (rw2 (rw2 μ1 9 (upd (μ1 9) (3 * k) (nI (z)))) 6 (fun _ => nI (sgP cd t q1 114))) 9 (upd ((upd ((rw2 (rw2 μ1 9 (upd (μ1 9) (3 * k) (nI (z)))) 6 (fun _ => nI (sgP cd t q1 114))) 9) ((3 * k) + 1) (nI (0)))) ((3 * k) + 2) ((-1)))) from rfl) dX6_isPart_68 ?_
      refine w_aload_n X 0 rfl dX6_isPart_69 ?_
      refine w_bipush X (nI 60) dX6_isPart_70 (by decide +kernel) ?_
      refine w_muV X hA (gr := []) (gs1 := [moC g ad (rw2 (rw2 (rw2 (rw2 μ1 9 (upd (μ1 9) (3 * k) (nI (z)))) 6 (fun _ => nI (sgP cd t q1 114))) 9 (upd ((upd ((rw2 (rw2 μ1 9 (upd (μ1 9) (3 * k) (nI (z)))) 6 (fun _ => nI (sgP cd t q1 114))) 9) ((3 * k) + 1) (nI (0)))) ((3 * k) + 2) ((-1)))) 6 (fun _ => nI (sgP cd t (sgP cd t q1 114) 60)))]) [0] [] 0 0 (m_X6_isSign l g ad (rw2 (rw2 (rw2 μ1 9 (upd (μ1 9) (3 * k) (nI (z)))) 6 (fun _ => nI (sgP cd t q1 114))) 9 (upd ((upd ((rw2 (rw2 μ1 9 (upd (μ1 9) (3 * k) (nI (z)))) 6 (fun _ => nI (sgP cd t q1 114))) 9) ((3 * k) + 1) (nI (0)))) ((3 * k) + 2) ((-1)))) cd t (sgP cd t q1 114) 60 (hT1) (rfl) (hb2.2) (by omega)) cv_X6_isSign mk_X6_163 rfl rfl rfl (ng := 1) rfl (by decide) rfl rfl rfl rfl rfl rfl ⟨Nat.le_of_ble_eq_true rfl, Nat.le_of_ble_eq_true rfl⟩ (Nat.le_of_ble_eq_true rfl) ⟨Nat.le_of_ble_eq_true rfl, Nat.le_of_ble_eq_true rfl⟩ dX6_isPart_72 rfl ?_
      refine w_bf_ne X 80 dX6_isPart_75 (by decide) (fun c75 => ?_) (fun c75 => ?_)
      · refine w_aload_n X 0 rfl dX6_isPart_80 ?_
        refine w_bipush X (nI 48) dX6_isPart_81 (by decide +kernel) ?_
        refine w_bipush X (nI 23) dX6_isPart_83 (by decide +kernel) ?_
        refine w_meV X hA (U := {μ' : Nat → Nat → Int32 // NQ cd t (sgP cd t (sgP cd t q1 114) 60) 48 23 (rw2 (rw2 (rw2 (rw2 μ1 9 (upd (μ1 9) (3 * k) (nI (z)))) 6 (fun _ => nI (sgP cd t q1 114))) 9 (upd ((upd ((rw2 (rw2 μ1 9 (upd (μ1 9) (3 * k) (nI (z)))) 6 (fun _ => nI (sgP cd t q1 114))) 9) ((3 * k) + 1) (nI (0)))) ((3 * k) + 2) ((-1)))) 6 (fun _ => nI (sgP cd t (sgP cd t q1 114) 60))) μ'}) (gr := []) (gs1 := fun u => [moC g ad u.1]) [0] [] 0 0 (m_X6_isNumber l g ad (rw2 (rw2 (rw2 (rw2 μ1 9 (upd (μ1 9) (3 * k) (nI (z)))) 6 (fun _ => nI (sgP cd t q1 114))) 9 (upd ((upd ((rw2 (rw2 μ1 9 (upd (μ1 9) (3 * k) (nI (z)))) 6 (fun _ => nI (sgP cd t q1 114))) 9) ((3 * k) + 1) (nI (0)))) ((3 * k) + 2) ((-1)))) 6 (fun _ => nI (sgP cd t (sgP cd t q1 114) 60))) cd t (sgP cd t (sgP cd t q1 114) 60) 48 23 (hT1) (rfl) (hb3.2) (by omega) (by omega) (by omega)) cv_X6_isNumber mk_X6_157 rfl rfl rfl (ng := 1) rfl (by decide) (fun _ => rfl) (fun _ => rfl) (fun _ => rfl) rfl rfl rfl ⟨Nat.le_of_ble_eq_true rfl, Nat.le_of_ble_eq_true rfl⟩ (Nat.le_of_ble_eq_true rfl) ⟨Nat.le_of_ble_eq_true rfl, Nat.le_of_ble_eq_true rfl⟩ dX6_isPart_85 rfl (fun u => ?_)
        obtain ⟨μ2, hμ2⟩ := u
        try dsimp only
        have hQ := hμ2
        have hk2 : μ2 10 0 = nI k := by rw [hQ.1 10 (by decide) (by decide) (by decide)]; exact hk1
        refine w_istore_n X dX6_isPart_88 (by decide) ?_
        refine w_aload_n X 1 rfl dX6_isPart_89 ?_
        refine w_get X 0 0 rfl rfl rfl in_X6 9 (by decide) fk_X6_19 rfl dX6_isPart_90 ?_
        refine w_iconst X (nI 3) dX6_isPart_93 (by decide +kernel) ?_
        refine w_aload_n X 1 rfl dX6_isPart_94 ?_
        refine w_get X 0 0 rfl rfl rfl in_X6 10 (by decide) fk_X6_160 rfl dX6_isPart_95 ?_
        refine w_st (st2 := [.int (nI k), .int (nI 3), .ref (ad 4)]) (by exact congrArg (fun v => Value.int v :: _) (hk2)) ?_
        refine w_imul_n X dX6_isPart_98 ?_
        refine w_iconst X (nI 2) dX6_isPart_99 (by decide +kernel) ?_
        refine w_iadd_n X dX6_isPart_100 ?_
        refine w_aload_n X 1 rfl dX6_isPart_101 ?_
        refine w_get X 0 0 rfl rfl rfl in_X6 8 (by decide) fk_X6_154 rfl dX6_isPart_102 ?_
        refine w_iast_n X 0 4 0 rfl rfl rfl (by omega) (by decide) (show _ = moC g ad (rw2 μ2 9 (upd (μ2 9) ((3 * k) + 2) ((μ2 8 0)))) from rfl) dX6_isPart_105 ?_
        refine w_iload_n X 0 rfl dX6_isPart_106 ?_
        exact w_zret_me X ⟨rw2 μ2 9 (upd (μ2 9) ((3 * k) + 2) ((μ2 8 0))), pq_end (μ3 := rw2 (rw2 (rw2 (rw2 μ1 9 (upd (μ1 9) (3 * k) (nI (z)))) 6 (fun _ => nI (sgP cd t q1 114))) 9 (upd ((upd ((rw2 (rw2 μ1 9 (upd (μ1 9) (3 * k) (nI (z)))) 6 (fun _ => nI (sgP cd t q1 114))) 9) ((3 * k) + 1) (nI (0)))) ((3 * k) + 2) ((-1)))) 6 (fun _ => nI (sgP cd t (sgP cd t q1 114) 60))) hn1 c75 hQ (fun j j6 j9 => by simp only [rw2_n _ _ j6, rw2_n _ _ j9]) h1o (by rw [show (rw2 (rw2 (rw2 (rw2 μ1 9 (upd (μ1 9) (3 * k) (nI (z)))) 6 (fun _ => nI (sgP cd t q1 114))) 9 (upd ((upd ((rw2 (rw2 μ1 9 (upd (μ1 9) (3 * k) (nI (z)))) 6 (fun _ => nI (sgP cd t q1 114))) 9) ((3 * k) + 1) (nI (0)))) ((3 * k) + 2) ((-1)))) 6 (fun _ => nI (sgP cd t (sgP cd t q1 114) 60))) 9 = upd (upd (upd (μ1 9) (3 * k) (nI z)) (3 * k + 1) (nI 0)) (3 * k + 2) (-1) from rfl]; exact t3_0 _ _ _ _ _) (by rw [show (rw2 (rw2 (rw2 (rw2 μ1 9 (upd (μ1 9) (3 * k) (nI (z)))) 6 (fun _ => nI (sgP cd t q1 114))) 9 (upd ((upd ((rw2 (rw2 μ1 9 (upd (μ1 9) (3 * k) (nI (z)))) 6 (fun _ => nI (sgP cd t q1 114))) 9) ((3 * k) + 1) (nI (0)))) ((3 * k) + 2) ((-1)))) 6 (fun _ => nI (sgP cd t (sgP cd t q1 114) 60))) 9 = upd (upd (upd (μ1 9) (3 * k) (nI z)) (3 * k + 1) (nI 0)) (3 * k + 2) (-1) from rfl, t3_1]; rw [rtF, if_neg (by rw [c46]; decide)]) (fun i hi => by rw [show (rw2 (rw2 (rw2 (rw2 μ1 9 (upd (μ1 9) (3 * k) (nI (z)))) 6 (fun _ => nI (sgP cd t q1 114))) 9 (upd ((upd ((rw2 (rw2 μ1 9 (upd (μ1 9) (3 * k) (nI (z)))) 6 (fun _ => nI (sgP cd t q1 114))) 9) ((3 * k) + 1) (nI (0)))) ((3 * k) + 2) ((-1)))) 6 (fun _ => nI (sgP cd t (sgP cd t q1 114) 60))) 9 = upd (upd (upd (μ1 9) (3 * k) (nI z)) (3 * k + 1) (nI 0)) (3 * k + 2) (-1) from rfl, t3_n _ _ _ _ hi, h1o 9 (by decide) (by decide) (by decide)])⟩ (by rcases nq_i hQ with ⟨e, _⟩ | ⟨v, q2, e, _⟩; (rw [e, (pt_4 hn1 c75 e).1]; rfl); (rw [e, pt_3 hn1 c75 e]; rfl)) rfl (Nat.le_of_ble_eq_true rfl) (Nat.le_of_ble_eq_true rfl) (bI_nar _) dX6_isPart_107
      · refine w_iconst X (nI 1) dX6_isPart_78 (by decide +kernel) ?_
        exact w_zret_me X ⟨rw2 (rw2 (rw2 (rw2 μ1 9 (upd (μ1 9) (3 * k) (nI (z)))) 6 (fun _ => nI (sgP cd t q1 114))) 9 (upd ((upd ((rw2 (rw2 μ1 9 (upd (μ1 9) (3 * k) (nI (z)))) 6 (fun _ => nI (sgP cd t q1 114))) 9) ((3 * k) + 1) (nI (0)))) ((3 * k) + 2) ((-1)))) 6 (fun _ => nI (sgP cd t (sgP cd t q1 114) 60)), pq_s (fun j j6 j7 j8 j9 => by simp only [rw2_n _ _ j6, rw2_n _ _ j9]; exact h1o j j6 j7 j8) (pt_2 hn1 c75) (by rw [show (rw2 (rw2 (rw2 (rw2 μ1 9 (upd (μ1 9) (3 * k) (nI (z)))) 6 (fun _ => nI (sgP cd t q1 114))) 9 (upd ((upd ((rw2 (rw2 μ1 9 (upd (μ1 9) (3 * k) (nI (z)))) 6 (fun _ => nI (sgP cd t q1 114))) 9) ((3 * k) + 1) (nI (0)))) ((3 * k) + 2) ((-1)))) 6 (fun _ => nI (sgP cd t (sgP cd t q1 114) 60))) 6 0 = nI (sgP cd t (sgP cd t q1 114) 60) from rfl, sgP, if_neg (by rw [c75]; decide)]) (by rw [show (rw2 (rw2 (rw2 (rw2 μ1 9 (upd (μ1 9) (3 * k) (nI (z)))) 6 (fun _ => nI (sgP cd t q1 114))) 9 (upd ((upd ((rw2 (rw2 μ1 9 (upd (μ1 9) (3 * k) (nI (z)))) 6 (fun _ => nI (sgP cd t q1 114))) 9) ((3 * k) + 1) (nI (0)))) ((3 * k) + 2) ((-1)))) 6 (fun _ => nI (sgP cd t (sgP cd t q1 114) 60))) 9 = upd (upd (upd (μ1 9) (3 * k) (nI z)) (3 * k + 1) (nI 0)) (3 * k + 2) (-1) from rfl]; exact t3_0 _ _ _ _ _) (by rw [show (rw2 (rw2 (rw2 (rw2 μ1 9 (upd (μ1 9) (3 * k) (nI (z)))) 6 (fun _ => nI (sgP cd t q1 114))) 9 (upd ((upd ((rw2 (rw2 μ1 9 (upd (μ1 9) (3 * k) (nI (z)))) 6 (fun _ => nI (sgP cd t q1 114))) 9) ((3 * k) + 1) (nI (0)))) ((3 * k) + 2) ((-1)))) 6 (fun _ => nI (sgP cd t (sgP cd t q1 114) 60))) 9 = upd (upd (upd (μ1 9) (3 * k) (nI z)) (3 * k + 1) (nI 0)) (3 * k + 2) (-1) from rfl, t3_1]; rw [rtF, if_neg (by rw [c46]; decide)]) (by rw [show (rw2 (rw2 (rw2 (rw2 μ1 9 (upd (μ1 9) (3 * k) (nI (z)))) 6 (fun _ => nI (sgP cd t q1 114))) 9 (upd ((upd ((rw2 (rw2 μ1 9 (upd (μ1 9) (3 * k) (nI (z)))) 6 (fun _ => nI (sgP cd t q1 114))) 9) ((3 * k) + 1) (nI (0)))) ((3 * k) + 2) ((-1)))) 6 (fun _ => nI (sgP cd t (sgP cd t q1 114) 60))) 9 = upd (upd (upd (μ1 9) (3 * k) (nI z)) (3 * k + 1) (nI 0)) (3 * k + 2) (-1) from rfl, t3_2]) (fun i hi => by rw [show (rw2 (rw2 (rw2 (rw2 μ1 9 (upd (μ1 9) (3 * k) (nI (z)))) 6 (fun _ => nI (sgP cd t q1 114))) 9 (upd ((upd ((rw2 (rw2 μ1 9 (upd (μ1 9) (3 * k) (nI (z)))) 6 (fun _ => nI (sgP cd t q1 114))) 9) ((3 * k) + 1) (nI (0)))) ((3 * k) + 2) ((-1)))) 6 (fun _ => nI (sgP cd t (sgP cd t q1 114) 60))) 9 = upd (upd (upd (μ1 9) (3 * k) (nI z)) (3 * k + 1) (nI 0)) (3 * k + 2) (-1) from rfl, t3_n _ _ _ _ hi, h1o 9 (by decide) (by decide) (by decide)])⟩ (by rw [pt_2 hn1 c75]; rfl) rfl (Nat.le_of_ble_eq_true rfl) (Nat.le_of_ble_eq_true rfl) (rfl) dX6_isPart_79
    · refine w_iconst X (nI 1) dX6_isPart_49 (by decide +kernel) ?_
      refine w_goto X 54 dX6_isPart_50 (by decide) ?_
      refine w_iast_n X 0 4 0 rfl rfl rfl (by omega) (by decide) (show _ = moC g ad (rw2 (rw2 (rw2 μ1 9 (upd (μ1 9) (3 * k) (nI (z)))) 6 (fun _ => nI (sgP cd t q1 114))) 9 (upd ((rw2 (rw2 μ1 9 (upd (μ1 9) (3 * k) (nI (z)))) 6 (fun _ => nI (sgP cd t q1 114))) 9) ((3 * k) + 1) (nI (1)))) from rfl) dX6_isPart_54 ?_
      refine w_aload_n X 0 rfl dX6_isPart_55 ?_
      refine w_get X 0 0 rfl rfl rfl in_X6 9 (by decide) fk_X6_19 rfl dX6_isPart_56 ?_
      refine w_iconst X (nI 3) dX6_isPart_59 (by decide +kernel) ?_
      refine w_aload_n X 0 rfl dX6_isPart_60 ?_
      refine w_get X 0 0 rfl rfl rfl in_X6 10 (by decide) fk_X6_160 rfl dX6_isPart_61 ?_
      refine w_st (st2 := [.int ((rw2 (rw2 μ1 9 (upd (μ1 9) (3 * k) (nI (z)))) 6 (fun _ => nI (sgP cd t q1 114))) 10 0), .int (nI 3), .ref (ad 4)]) rfl ?_
      refine w_st (st2 := [.int (nI k), .int (nI 3), .ref (ad 4)]) (by exact congrArg (fun v => Value.int v :: _) (hk1)) ?_
      refine w_imul_n X dX6_isPart_64 ?_
      refine w_iconst X (nI 2) dX6_isPart_65 (by decide +kernel) ?_
      refine w_iadd_n X dX6_isPart_66 ?_
      refine w_iconst X (-1) dX6_isPart_67 (by decide +kernel) ?_
      refine w_iast_n X 0 4 0 rfl rfl rfl (by omega) (by decide) (show _ = moC g ad (rw2 (rw2 (rw2 μ1 9 (upd (μ1 9) (3 * k) (nI (z)))) 6 (fun _ => nI (sgP cd t q1 114))) 9 (upd ((upd ((rw2 (rw2 μ1 9 (upd (μ1 9) (3 * k) (nI (z)))) 6 (fun _ => nI (sgP cd t q1 114))) 9) ((3 * k) + 1) (nI (1)))) ((3 * k) + 2) ((-1)))) from rfl) dX6_isPart_68 ?_
      refine w_aload_n X 0 rfl dX6_isPart_69 ?_
      refine w_bipush X (nI 60) dX6_isPart_70 (by decide +kernel) ?_
      refine w_muV X hA (gr := []) (gs1 := [moC g ad (rw2 (rw2 (rw2 (rw2 μ1 9 (upd (μ1 9) (3 * k) (nI (z)))) 6 (fun _ => nI (sgP cd t q1 114))) 9 (upd ((upd ((rw2 (rw2 μ1 9 (upd (μ1 9) (3 * k) (nI (z)))) 6 (fun _ => nI (sgP cd t q1 114))) 9) ((3 * k) + 1) (nI (1)))) ((3 * k) + 2) ((-1)))) 6 (fun _ => nI (sgP cd t (sgP cd t q1 114) 60)))]) [0] [] 0 0 (m_X6_isSign l g ad (rw2 (rw2 (rw2 μ1 9 (upd (μ1 9) (3 * k) (nI (z)))) 6 (fun _ => nI (sgP cd t q1 114))) 9 (upd ((upd ((rw2 (rw2 μ1 9 (upd (μ1 9) (3 * k) (nI (z)))) 6 (fun _ => nI (sgP cd t q1 114))) 9) ((3 * k) + 1) (nI (1)))) ((3 * k) + 2) ((-1)))) cd t (sgP cd t q1 114) 60 (hT1) (rfl) (hb2.2) (by omega)) cv_X6_isSign mk_X6_163 rfl rfl rfl (ng := 1) rfl (by decide) rfl rfl rfl rfl rfl rfl ⟨Nat.le_of_ble_eq_true rfl, Nat.le_of_ble_eq_true rfl⟩ (Nat.le_of_ble_eq_true rfl) ⟨Nat.le_of_ble_eq_true rfl, Nat.le_of_ble_eq_true rfl⟩ dX6_isPart_72 rfl ?_
      refine w_bf_ne X 80 dX6_isPart_75 (by decide) (fun c75 => ?_) (fun c75 => ?_)
      · refine w_aload_n X 0 rfl dX6_isPart_80 ?_
        refine w_bipush X (nI 48) dX6_isPart_81 (by decide +kernel) ?_
        refine w_bipush X (nI 23) dX6_isPart_83 (by decide +kernel) ?_
        refine w_meV X hA (U := {μ' : Nat → Nat → Int32 // NQ cd t (sgP cd t (sgP cd t q1 114) 60) 48 23 (rw2 (rw2 (rw2 (rw2 μ1 9 (upd (μ1 9) (3 * k) (nI (z)))) 6 (fun _ => nI (sgP cd t q1 114))) 9 (upd ((upd ((rw2 (rw2 μ1 9 (upd (μ1 9) (3 * k) (nI (z)))) 6 (fun _ => nI (sgP cd t q1 114))) 9) ((3 * k) + 1) (nI (1)))) ((3 * k) + 2) ((-1)))) 6 (fun _ => nI (sgP cd t (sgP cd t q1 114) 60))) μ'}) (gr := []) (gs1 := fun u => [moC g ad u.1]) [0] [] 0 0 (m_X6_isNumber l g ad (rw2 (rw2 (rw2 (rw2 μ1 9 (upd (μ1 9) (3 * k) (nI (z)))) 6 (fun _ => nI (sgP cd t q1 114))) 9 (upd ((upd ((rw2 (rw2 μ1 9 (upd (μ1 9) (3 * k) (nI (z)))) 6 (fun _ => nI (sgP cd t q1 114))) 9) ((3 * k) + 1) (nI (1)))) ((3 * k) + 2) ((-1)))) 6 (fun _ => nI (sgP cd t (sgP cd t q1 114) 60))) cd t (sgP cd t (sgP cd t q1 114) 60) 48 23 (hT1) (rfl) (hb3.2) (by omega) (by omega) (by omega)) cv_X6_isNumber mk_X6_157 rfl rfl rfl (ng := 1) rfl (by decide) (fun _ => rfl) (fun _ => rfl) (fun _ => rfl) rfl rfl rfl ⟨Nat.le_of_ble_eq_true rfl, Nat.le_of_ble_eq_true rfl⟩ (Nat.le_of_ble_eq_true rfl) ⟨Nat.le_of_ble_eq_true rfl, Nat.le_of_ble_eq_true rfl⟩ dX6_isPart_85 rfl (fun u => ?_)
        obtain ⟨μ3, hμ3⟩ := u
        try dsimp only
        have hQ := hμ3
        have hk2 : μ3 10 0 = nI k := by rw [hQ.1 10 (by decide) (by decide) (by decide)]; exact hk1
        refine w_istore_n X dX6_isPart_88 (by decide) ?_
        refine w_aload_n X 1 rfl dX6_isPart_89 ?_
        refine w_get X 0 0 rfl rfl rfl in_X6 9 (by decide) fk_X6_19 rfl dX6_isPart_90 ?_
        refine w_iconst X (nI 3) dX6_isPart_93 (by decide +kernel) ?_
        refine w_aload_n X 1 rfl dX6_isPart_94 ?_
        refine w_get X 0 0 rfl rfl rfl in_X6 10 (by decide) fk_X6_160 rfl dX6_isPart_95 ?_
        refine w_st (st2 := [.int (nI k), .int (nI 3), .ref (ad 4)]) (by exact congrArg (fun v => Value.int v :: _) (hk2)) ?_
        refine w_imul_n X dX6_isPart_98 ?_
        refine w_iconst X (nI 2) dX6_isPart_99 (by decide +kernel) ?_
        refine w_iadd_n X dX6_isPart_100 ?_
        refine w_aload_n X 1 rfl dX6_isPart_101 ?_
        refine w_get X 0 0 rfl rfl rfl in_X6 8 (by decide) fk_X6_154 rfl dX6_isPart_102 ?_
        refine w_iast_n X 0 4 0 rfl rfl rfl (by omega) (by decide) (show _ = moC g ad (rw2 μ3 9 (upd (μ3 9) ((3 * k) + 2) ((μ3 8 0)))) from rfl) dX6_isPart_105 ?_
        refine w_iload_n X 0 rfl dX6_isPart_106 ?_
        exact w_zret_me X ⟨rw2 μ3 9 (upd (μ3 9) ((3 * k) + 2) ((μ3 8 0))), pq_end (μ3 := rw2 (rw2 (rw2 (rw2 μ1 9 (upd (μ1 9) (3 * k) (nI (z)))) 6 (fun _ => nI (sgP cd t q1 114))) 9 (upd ((upd ((rw2 (rw2 μ1 9 (upd (μ1 9) (3 * k) (nI (z)))) 6 (fun _ => nI (sgP cd t q1 114))) 9) ((3 * k) + 1) (nI (1)))) ((3 * k) + 2) ((-1)))) 6 (fun _ => nI (sgP cd t (sgP cd t q1 114) 60))) hn1 c75 hQ (fun j j6 j9 => by simp only [rw2_n _ _ j6, rw2_n _ _ j9]) h1o (by rw [show (rw2 (rw2 (rw2 (rw2 μ1 9 (upd (μ1 9) (3 * k) (nI (z)))) 6 (fun _ => nI (sgP cd t q1 114))) 9 (upd ((upd ((rw2 (rw2 μ1 9 (upd (μ1 9) (3 * k) (nI (z)))) 6 (fun _ => nI (sgP cd t q1 114))) 9) ((3 * k) + 1) (nI (1)))) ((3 * k) + 2) ((-1)))) 6 (fun _ => nI (sgP cd t (sgP cd t q1 114) 60))) 9 = upd (upd (upd (μ1 9) (3 * k) (nI z)) (3 * k + 1) (nI 1)) (3 * k + 2) (-1) from rfl]; exact t3_0 _ _ _ _ _) (by rw [show (rw2 (rw2 (rw2 (rw2 μ1 9 (upd (μ1 9) (3 * k) (nI (z)))) 6 (fun _ => nI (sgP cd t q1 114))) 9 (upd ((upd ((rw2 (rw2 μ1 9 (upd (μ1 9) (3 * k) (nI (z)))) 6 (fun _ => nI (sgP cd t q1 114))) 9) ((3 * k) + 1) (nI (1)))) ((3 * k) + 2) ((-1)))) 6 (fun _ => nI (sgP cd t (sgP cd t q1 114) 60))) 9 = upd (upd (upd (μ1 9) (3 * k) (nI z)) (3 * k + 1) (nI 1)) (3 * k + 2) (-1) from rfl, t3_1]; rw [rtF, if_pos c46]) (fun i hi => by rw [show (rw2 (rw2 (rw2 (rw2 μ1 9 (upd (μ1 9) (3 * k) (nI (z)))) 6 (fun _ => nI (sgP cd t q1 114))) 9 (upd ((upd ((rw2 (rw2 μ1 9 (upd (μ1 9) (3 * k) (nI (z)))) 6 (fun _ => nI (sgP cd t q1 114))) 9) ((3 * k) + 1) (nI (1)))) ((3 * k) + 2) ((-1)))) 6 (fun _ => nI (sgP cd t (sgP cd t q1 114) 60))) 9 = upd (upd (upd (μ1 9) (3 * k) (nI z)) (3 * k + 1) (nI 1)) (3 * k + 2) (-1) from rfl, t3_n _ _ _ _ hi, h1o 9 (by decide) (by decide) (by decide)])⟩ (by rcases nq_i hQ with ⟨e, _⟩ | ⟨v, q2, e, _⟩; (rw [e, (pt_4 hn1 c75 e).1]; rfl); (rw [e, pt_3 hn1 c75 e]; rfl)) rfl (Nat.le_of_ble_eq_true rfl) (Nat.le_of_ble_eq_true rfl) (bI_nar _) dX6_isPart_107
      · refine w_iconst X (nI 1) dX6_isPart_78 (by decide +kernel) ?_
        exact w_zret_me X ⟨rw2 (rw2 (rw2 (rw2 μ1 9 (upd (μ1 9) (3 * k) (nI (z)))) 6 (fun _ => nI (sgP cd t q1 114))) 9 (upd ((upd ((rw2 (rw2 μ1 9 (upd (μ1 9) (3 * k) (nI (z)))) 6 (fun _ => nI (sgP cd t q1 114))) 9) ((3 * k) + 1) (nI (1)))) ((3 * k) + 2) ((-1)))) 6 (fun _ => nI (sgP cd t (sgP cd t q1 114) 60)), pq_s (fun j j6 j7 j8 j9 => by simp only [rw2_n _ _ j6, rw2_n _ _ j9]; exact h1o j j6 j7 j8) (pt_2 hn1 c75) (by rw [show (rw2 (rw2 (rw2 (rw2 μ1 9 (upd (μ1 9) (3 * k) (nI (z)))) 6 (fun _ => nI (sgP cd t q1 114))) 9 (upd ((upd ((rw2 (rw2 μ1 9 (upd (μ1 9) (3 * k) (nI (z)))) 6 (fun _ => nI (sgP cd t q1 114))) 9) ((3 * k) + 1) (nI (1)))) ((3 * k) + 2) ((-1)))) 6 (fun _ => nI (sgP cd t (sgP cd t q1 114) 60))) 6 0 = nI (sgP cd t (sgP cd t q1 114) 60) from rfl, sgP, if_neg (by rw [c75]; decide)]) (by rw [show (rw2 (rw2 (rw2 (rw2 μ1 9 (upd (μ1 9) (3 * k) (nI (z)))) 6 (fun _ => nI (sgP cd t q1 114))) 9 (upd ((upd ((rw2 (rw2 μ1 9 (upd (μ1 9) (3 * k) (nI (z)))) 6 (fun _ => nI (sgP cd t q1 114))) 9) ((3 * k) + 1) (nI (1)))) ((3 * k) + 2) ((-1)))) 6 (fun _ => nI (sgP cd t (sgP cd t q1 114) 60))) 9 = upd (upd (upd (μ1 9) (3 * k) (nI z)) (3 * k + 1) (nI 1)) (3 * k + 2) (-1) from rfl]; exact t3_0 _ _ _ _ _) (by rw [show (rw2 (rw2 (rw2 (rw2 μ1 9 (upd (μ1 9) (3 * k) (nI (z)))) 6 (fun _ => nI (sgP cd t q1 114))) 9 (upd ((upd ((rw2 (rw2 μ1 9 (upd (μ1 9) (3 * k) (nI (z)))) 6 (fun _ => nI (sgP cd t q1 114))) 9) ((3 * k) + 1) (nI (1)))) ((3 * k) + 2) ((-1)))) 6 (fun _ => nI (sgP cd t (sgP cd t q1 114) 60))) 9 = upd (upd (upd (μ1 9) (3 * k) (nI z)) (3 * k + 1) (nI 1)) (3 * k + 2) (-1) from rfl, t3_1]; rw [rtF, if_pos c46]) (by rw [show (rw2 (rw2 (rw2 (rw2 μ1 9 (upd (μ1 9) (3 * k) (nI (z)))) 6 (fun _ => nI (sgP cd t q1 114))) 9 (upd ((upd ((rw2 (rw2 μ1 9 (upd (μ1 9) (3 * k) (nI (z)))) 6 (fun _ => nI (sgP cd t q1 114))) 9) ((3 * k) + 1) (nI (1)))) ((3 * k) + 2) ((-1)))) 6 (fun _ => nI (sgP cd t (sgP cd t q1 114) 60))) 9 = upd (upd (upd (μ1 9) (3 * k) (nI z)) (3 * k + 1) (nI 1)) (3 * k + 2) (-1) from rfl, t3_2]) (fun i hi => by rw [show (rw2 (rw2 (rw2 (rw2 μ1 9 (upd (μ1 9) (3 * k) (nI (z)))) 6 (fun _ => nI (sgP cd t q1 114))) 9 (upd ((upd ((rw2 (rw2 μ1 9 (upd (μ1 9) (3 * k) (nI (z)))) 6 (fun _ => nI (sgP cd t q1 114))) 9) ((3 * k) + 1) (nI (1)))) ((3 * k) + 2) ((-1)))) 6 (fun _ => nI (sgP cd t (sgP cd t q1 114) 60))) 9 = upd (upd (upd (μ1 9) (3 * k) (nI z)) (3 * k + 1) (nI 1)) (3 * k + 2) (-1) from rfl, t3_n _ _ _ _ hi, h1o 9 (by decide) (by decide) (by decide)])⟩ (by rw [pt_2 hn1 c75]; rfl) rfl (Nat.le_of_ble_eq_true rfl) (Nat.le_of_ble_eq_true rfl) (rfl) dX6_isPart_79
  · refine w_iconst X (nI 0) dX6_isPart_11 (by decide +kernel) ?_
    exact w_zret_me X ⟨μ1, pq_n (fun j j6 j7 j8 _ => hμ1.1 j j6 j7 j8) (pt_1 (nq_none hμ1 c8).1).1 (by rw [(pt_1 (nq_none hμ1 c8).1).2]; exact (nq_none hμ1 c8).2.1) (by rw [(pt_1 (nq_none hμ1 c8).1).2]; exact (nq_none hμ1 c8).2.2)⟩ (by rw [(pt_1 (nq_none hμ1 c8).1).1]; rfl) rfl (Nat.le_of_ble_eq_true rfl) (Nat.le_of_ble_eq_true rfl) (rfl) dX6_isPart_12
