/-! The model: texts -/
def TXM (μ : Nat → Nat → Int32) (cd : Nat → Nat) (t : Nat) : Prop := μ 4 0 = nI t ∧ t ≤ 60 ∧ ∀ i, i < t → μ 3 i = nI (cd i) ∧ 33 ≤ cd i ∧ cd i ≤ 126
theorem dig_nI {q x y : Nat} (hq : q < 2 ^ 31) (hx : x < 2 ^ 31) (hy : y < 2 ^ 31) : digB (nI q) (nI x) (nI y) = decide (x ≤ q ∧ q ≤ y) := by
  rw [digB]
  by_cases c1 : q < x
  · rw [if_pos ((nI_ltI hq hx).mpr c1), decide_eq_false (by omega)]
  · rw [if_neg (fun e => c1 ((nI_ltI hq hx).mp e))]
    by_cases c2 : y < q
    · rw [if_pos ((nI_ltI hy hq).mpr c2), decide_eq_false (by omega)]
    · rw [if_neg (fun e => c2 ((nI_ltI hy hq).mp e)), decide_eq_true (by omega)]
def atD (cd : Nat → Nat) (t pp x y : Nat) : Bool := decide (pp < t ∧ x ≤ cd pp ∧ cd pp ≤ y)
def sgP (cd : Nat → Nat) (t pp x : Nat) : Nat := if atD cd t pp x x = true then pp + 1 else pp
/-- a number of two figures at most: its value, the place behind it -/
def numN (cd : Nat → Nat) (t pp x y : Nat) : Option (Nat × Nat) := if atD cd t pp x 57 = true then (if 0 < cd pp - 48 ∧ atD cd t (pp + 1) 48 57 = true ∧ 10 * (cd pp - 48) + cd (pp + 1) - 48 ≤ y then some (10 * (cd pp - 48) + cd (pp + 1) - 48, pp + 1 + 1) else some (cd pp - 48, pp + 1)) else none
def NQ (cd : Nat → Nat) (t pp x y : Nat) (μ μ' : Nat → Nat → Int32) : Prop := (∀ k, k ≠ 6 → k ≠ 7 → k ≠ 8 → μ' k = μ k) ∧ match numN cd t pp x y with
  | some q => μ' 6 0 = nI q.2 ∧ μ' 8 0 = nI q.1
  | none => μ' 6 0 = nI pp ∧ μ' 7 0 = bI (decide (pp < t))
theorem at_t {cd : Nat → Nat} {t pp x y : Nat} (h : atD cd t pp x y = true) : pp < t ∧ x ≤ cd pp ∧ cd pp ≤ y := of_decide_eq_true h
theorem num_n {cd : Nat → Nat} {t pp x y : Nat} (h : atD cd t pp x 57 = false) : numN cd t pp x y = none := by rw [numN, if_neg (by rw [h]; decide)]
theorem num_1 {cd : Nat → Nat} {t pp x y : Nat} (h : atD cd t pp x 57 = true) (h2 : ¬ (0 < cd pp - 48 ∧ atD cd t (pp + 1) 48 57 = true ∧ 10 * (cd pp - 48) + cd (pp + 1) - 48 ≤ y)) : numN cd t pp x y = some (cd pp - 48, pp + 1) := by rw [numN, if_pos h, if_neg h2]
theorem num_2 {cd : Nat → Nat} {t pp x y : Nat} (h : atD cd t pp x 57 = true) (h2 : 0 < cd pp - 48 ∧ atD cd t (pp + 1) 48 57 = true ∧ 10 * (cd pp - 48) + cd (pp + 1) - 48 ≤ y) : numN cd t pp x y = some (10 * (cd pp - 48) + cd (pp + 1) - 48, pp + 1 + 1) := by rw [numN, if_pos h, if_pos h2]
theorem nq_n {cd : Nat → Nat} {t pp x y : Nat} {μ μ' : Nat → Nat → Int32} (h1 : ∀ k, k ≠ 6 → k ≠ 7 → k ≠ 8 → μ' k = μ k) (h : numN cd t pp x y = none) (h2 : μ' 6 0 = nI pp) (h3 : μ' 7 0 = bI (decide (pp < t))) : NQ cd t pp x y μ μ' := by
  refine ⟨h1, ?_⟩
  rw [h]
  exact ⟨h2, h3⟩
theorem nq_s {cd : Nat → Nat} {t pp x y v pq : Nat} {μ μ' : Nat → Nat → Int32} (h1 : ∀ k, k ≠ 6 → k ≠ 7 → k ≠ 8 → μ' k = μ k) (h : numN cd t pp x y = some (v, pq)) (h2 : μ' 6 0 = nI pq) (h3 : μ' 8 0 = nI v) : NQ cd t pp x y μ μ' := by
  refine ⟨h1, ?_⟩
  rw [h]
  exact ⟨h2, h3⟩
set_option maxRecDepth 100000 in
set_option maxHeartbeats 4000000 in
theorem m_X6_isAt (l : Launch) (g : GG) (ad : Nat → Nat) (μ : Nat → Nat → Int32) (cd : Nat → Nat) (t : Nat) (pp : Nat) (x : Nat) (y : Nat) (hT : TXM μ cd t) (hp : μ 6 0 = nI pp) (hpt : pp ≤ t) (hx : x ≤ 200) (hy : y ≤ 200) : MRO l g yX6_isAt cX6_isAt 3 (some .boolean) 1 [.ref (ad 0), .int (nI x), .int (nI y)] [moC g ad μ] (some (.int (bI (atD cd t pp x y)))) := by
  refine mk_ro (by decide +kernel) (Nat.le_of_ble_eq_true rfl) (fun p e s m below meth c X => ?_)
  have ht60 := hT.2.1
  refine w_aload_n X 0 rfl dX6_isAt_0 ?_
  refine w_get X 0 0 rfl rfl rfl in_X6 6 (by decide) fk_X6_140 rfl dX6_isAt_1 ?_
  refine w_st (st2 := [.int (nI pp)]) (by rw [hp] <;> rfl) ?_
  refine w_aload_n X 0 rfl dX6_isAt_4 ?_
  refine w_get X 0 0 rfl rfl rfl in_X6 4 (by decide) fk_X6_137 rfl dX6_isAt_5 ?_
  refine w_st (st2 := [.int (nI t), .int (nI pp)]) (by rw [hT.1] <;> rfl) ?_
  refine w_nc_ge X (by omega) (by omega) 32 dX6_isAt_8 (by decide) (fun c8 => ?_) (fun c8 => ?_)
  · refine w_iconst X (nI 0) dX6_isAt_32 (by decide +kernel) ?_
    exact w_zret_ro X (by rw [atD, decide_eq_false (by omega)]; rfl) (rfl) dX6_isAt_33
  · refine w_aload_n X 0 rfl dX6_isAt_11 ?_
    refine w_get X 0 0 rfl rfl rfl in_X6 3 (by decide) fk_X6_16 rfl dX6_isAt_12 ?_
    refine w_aload_n X 0 rfl dX6_isAt_15 ?_
    refine w_get X 0 0 rfl rfl rfl in_X6 6 (by decide) fk_X6_140 rfl dX6_isAt_16 ?_
    refine w_st (st2 := [.int (nI pp), .ref (ad 3)]) (by rw [hp] <;> rfl) ?_
    refine w_iald_n X 0 3 0 rfl rfl rfl (by omega) (by decide) dX6_isAt_19 ?_
    have hc := hT.2.2 pp (by omega)
    refine w_st (st2 := [.int (nI (cd pp))]) (by rw [hc.1] <;> rfl) ?_
    refine w_iload_n X 1 rfl dX6_isAt_20 ?_
    refine w_iload_n X 2 rfl dX6_isAt_21 ?_
    refine w_roS X [] (m_X6_in l g (nI (cd pp)) (nI (x)) (nI (y))) cs_X6_in mk_X6_39 rfl rfl ⟨Nat.le_of_ble_eq_true rfl, Nat.le_of_ble_eq_true rfl⟩ (Nat.le_of_ble_eq_true rfl) ⟨Nat.le_of_ble_eq_true rfl, Nat.le_of_ble_eq_true rfl⟩ dX6_isAt_22 rfl ?_
    refine w_bf_eq X 32 dX6_isAt_25 (by decide) (fun c25 => ?_) (fun c25 => ?_)
    · refine w_iconst X (nI 0) dX6_isAt_32 (by decide +kernel) ?_
      exact w_zret_ro X (by rw [dig_nI (by omega) (by omega) (by omega)] at c25; have := of_decide_eq_false c25; rw [atD, decide_eq_false (fun z => this z.2)]; rfl) (rfl) dX6_isAt_33
    · refine w_iconst X (nI 1) dX6_isAt_28 (by decide +kernel) ?_
      refine w_goto X 33 dX6_isAt_29 (by decide) ?_
      exact w_zret_ro X (by rw [dig_nI (by omega) (by omega) (by omega)] at c25; have := of_decide_eq_true c25; rw [atD, decide_eq_true ⟨by omega, this⟩]; rfl) (rfl) dX6_isAt_33
set_option maxRecDepth 100000 in
set_option maxHeartbeats 4000000 in
theorem m_X6_stops (l : Launch) (g : GG) (ad : Nat → Nat) (μ : Nat → Nat → Int32) (cd : Nat → Nat) (t : Nat) (pp : Nat) (hT : TXM μ cd t) (hp : μ 6 0 = nI pp) (hpt : pp ≤ t) : MMU l g yX6_stops cX6_stops 1 (some .boolean) 0 0 0 [.ref (ad 0)] [moC g ad μ] (some (.int (bI (false)))) [moC g ad (rw2 μ 7 (fun _ => bI (decide (pp < t))))] := by
  refine mk_mu (by decide +kernel) (Nat.le_of_ble_eq_true rfl) (fun p e s m below meth c A hA X => ?_)
  have ht60 := hT.2.1
  refine w_aload_n X 0 rfl dX6_stops_0 ?_
  refine w_aload_n X 0 rfl dX6_stops_1 ?_
  refine w_get X 0 0 rfl rfl rfl in_X6 6 (by decide) fk_X6_140 rfl dX6_stops_2 ?_
  refine w_st (st2 := [.int (nI pp), .ref (ad 0)]) (by rw [hp] <;> rfl) ?_
  refine w_aload_n X 0 rfl dX6_stops_5 ?_
  refine w_get X 0 0 rfl rfl rfl in_X6 4 (by decide) fk_X6_137 rfl dX6_stops_6 ?_
  refine w_st (st2 := [.int (nI t), .int (nI pp), .ref (ad 0)]) (by rw [hT.1] <;> rfl) ?_
  refine w_nc_ge X (by omega) (by omega) 16 dX6_stops_9 (by decide) (fun c9 => ?_) (fun c9 => ?_)
  · refine w_iconst X (nI 0) dX6_stops_16 (by decide +kernel) ?_
    refine w_put X 0 0 rfl rfl rfl in_X6 tyX6 tyX6_ok nmX6 7 (by decide) fk_X6_143 rfl rfl (rfl) (rfl) (Nat.le_of_ble_eq_true rfl) (show _ = moC g ad (rw2 μ 7 (fun _ => nI (0))) from rfl) dX6_stops_17 ?_
    refine w_iconst X (nI 0) dX6_stops_20 (by decide +kernel) ?_
    exact w_zret_mu X (rfl) (by rw [decide_eq_false (by omega)]; rfl) (Nat.le_of_ble_eq_true rfl) (Nat.le_of_ble_eq_true rfl) (rfl) dX6_stops_21
  · refine w_iconst X (nI 1) dX6_stops_12 (by decide +kernel) ?_
    refine w_goto X 17 dX6_stops_13 (by decide) ?_
    refine w_put X 0 0 rfl rfl rfl in_X6 tyX6 tyX6_ok nmX6 7 (by decide) fk_X6_143 rfl rfl (rfl) (rfl) (Nat.le_of_ble_eq_true rfl) (show _ = moC g ad (rw2 μ 7 (fun _ => nI (1))) from rfl) dX6_stops_17 ?_
    refine w_iconst X (nI 0) dX6_stops_20 (by decide +kernel) ?_
    exact w_zret_mu X (rfl) (by rw [decide_eq_true (by omega)]; rfl) (Nat.le_of_ble_eq_true rfl) (Nat.le_of_ble_eq_true rfl) (rfl) dX6_stops_21
set_option maxRecDepth 100000 in
set_option maxHeartbeats 4000000 in
theorem m_X6_isSign (l : Launch) (g : GG) (ad : Nat → Nat) (μ : Nat → Nat → Int32) (cd : Nat → Nat) (t : Nat) (pp : Nat) (x : Nat) (hT : TXM μ cd t) (hp : μ 6 0 = nI pp) (hpt : pp ≤ t) (hx : x ≤ 200) : MMU l g yX6_isSign cX6_isSign 3 (some .boolean) 2 0 0 [.ref (ad 0), .int (nI x)] [moC g ad μ] (some (.int (bI (atD cd t pp x x)))) [moC g ad (rw2 μ 6 (fun _ => nI (sgP cd t pp x)))] := by
  refine mk_mu (by decide +kernel) (Nat.le_of_ble_eq_true rfl) (fun p e s m below meth c A hA X => ?_)
  refine w_aload_n X 0 rfl dX6_isSign_0 ?_
  refine w_iload_n X 1 rfl dX6_isSign_1 ?_
  refine w_iload_n X 1 rfl dX6_isSign_2 ?_
  refine w_roV X [0] 0 0 (m_X6_isAt l g ad μ cd t pp x x (hT) (hp) (hpt) (by omega) (by omega)) cv_X6_isAt mk_X6_147 rfl rfl rfl rfl rfl ⟨Nat.le_of_ble_eq_true rfl, Nat.le_of_ble_eq_true rfl⟩ (Nat.le_of_ble_eq_true rfl) ⟨Nat.le_of_ble_eq_true rfl, Nat.le_of_ble_eq_true rfl⟩ dX6_isSign_3 rfl ?_
  refine w_istore_n X dX6_isSign_6 (by decide) ?_
  refine w_aload_n X 1 rfl dX6_isSign_7 ?_
  refine w_dup X dX6_isSign_8 rfl ?_
  refine w_get X 0 0 rfl rfl rfl in_X6 6 (by decide) fk_X6_140 rfl dX6_isSign_9 ?_
  refine w_st (st2 := [.int (nI pp), .ref (ad 0)]) (by rw [hp] <;> rfl) ?_
  refine w_iload_n X 0 rfl dX6_isSign_12 ?_
  refine w_bf_eq X 20 dX6_isSign_13 (by decide) (fun c13 => ?_) (fun c13 => ?_)
  · refine w_iconst X (nI 0) dX6_isSign_20 (by decide +kernel) ?_
    refine w_iadd_n X dX6_isSign_21 ?_
    refine w_put X 0 0 rfl rfl rfl in_X6 tyX6 tyX6_ok nmX6 6 (by decide) fk_X6_140 rfl rfl rfl rfl (Nat.le_of_ble_eq_true rfl) (show _ = moC g ad (rw2 μ 6 (fun _ => nI (pp + 0))) from rfl) dX6_isSign_22 ?_
    refine w_iload_n X 0 rfl dX6_isSign_25 ?_
    exact w_zret_mu X (rfl) (by rw [sgP, if_neg (by rw [c13]; decide)]; rfl) (Nat.le_of_ble_eq_true rfl) (Nat.le_of_ble_eq_true rfl) (bI_nar _) dX6_isSign_26
  · refine w_iconst X (nI 1) dX6_isSign_16 (by decide +kernel) ?_
    refine w_goto X 21 dX6_isSign_17 (by decide) ?_
    refine w_iadd_n X dX6_isSign_21 ?_
    refine w_put X 0 0 rfl rfl rfl in_X6 tyX6 tyX6_ok nmX6 6 (by decide) fk_X6_140 rfl rfl rfl rfl (Nat.le_of_ble_eq_true rfl) (show _ = moC g ad (rw2 μ 6 (fun _ => nI (pp + 1))) from rfl) dX6_isSign_22 ?_
    refine w_iload_n X 0 rfl dX6_isSign_25 ?_
    exact w_zret_mu X (rfl) (by rw [sgP, if_pos c13]; rfl) (Nat.le_of_ble_eq_true rfl) (Nat.le_of_ble_eq_true rfl) (bI_nar _) dX6_isSign_26
set_option maxRecDepth 100000 in
set_option maxHeartbeats 4000000 in
theorem m_X6_isNumber (l : Launch) (g : GG) (ad : Nat → Nat) (μ : Nat → Nat → Int32) (cd : Nat → Nat) (t : Nat) (pp : Nat) (x : Nat) (y : Nat) (hT : TXM μ cd t) (hp : μ 6 0 = nI pp) (hpt : pp ≤ t) (hx : 48 ≤ x) (hx2 : x ≤ 57) (hy : y ≤ 200) : MME (U := {μ' : Nat → Nat → Int32 // NQ cd t pp x y μ μ'}) l g yX6_isNumber cX6_isNumber 3 (some .boolean) 3 0 0 [.ref (ad 0), .int (nI x), .int (nI y)] [moC g ad μ] (some (.int (bI ((numN cd t pp x y).isSome)))) (fun u => [moC g ad u.1]) := by
  refine mk_me (by decide +kernel) (Nat.le_of_ble_eq_true rfl) (fun p e s m below meth c A hA X => ?_)
  have ht60 := hT.2.1
  refine w_aload_n X 0 rfl dX6_isNumber_0 ?_
  refine w_iload_n X 1 rfl dX6_isNumber_1 ?_
  refine w_bipush X (nI 57) dX6_isNumber_2 (by decide +kernel) ?_
  refine w_roV X [0] 0 0 (m_X6_isAt l g ad μ cd t pp x 57 (hT) (hp) (hpt) (by omega) (by omega)) cv_X6_isAt mk_X6_147 rfl rfl rfl rfl rfl ⟨Nat.le_of_ble_eq_true rfl, Nat.le_of_ble_eq_true rfl⟩ (Nat.le_of_ble_eq_true rfl) ⟨Nat.le_of_ble_eq_true rfl, Nat.le_of_ble_eq_true rfl⟩ dX6_isNumber_4 rfl ?_
  refine w_bf_ne X 15 dX6_isNumber_7 (by decide) (fun c7 => ?_) (fun c7 => ?_)
  · refine w_aload_n X 0 rfl dX6_isNumber_15 ?_
    refine w_aload_n X 0 rfl dX6_isNumber_16 ?_
    refine w_get X 0 0 rfl rfl rfl in_X6 3 (by decide) fk_X6_16 rfl dX6_isNumber_17 ?_
    refine w_aload_n X 0 rfl dX6_isNumber_20 ?_
    refine w_get X 0 0 rfl rfl rfl in_X6 6 (by decide) fk_X6_140 rfl dX6_isNumber_21 ?_
    have hb := at_t c7
    have hc := (hT.2.2 pp hb.1).1
    have hcb := (hT.2.2 pp hb.1).2
    refine w_st (st2 := [.int (nI pp), .ref (ad 3), .ref (ad 0)]) (by rw [hp] <;> rfl) ?_
    refine w_iald_n X 0 3 0 rfl rfl rfl (by omega) (by decide) dX6_isNumber_24 ?_
    refine w_st (st2 := [.int (nI (cd pp)), .ref (ad 0)]) (by rw [hc] <;> rfl) ?_
    refine w_bipush X (nI 48) dX6_isNumber_25 (by decide +kernel) ?_
    refine w_isub_n X (by omega) dX6_isNumber_27 ?_
    refine w_put X 0 0 rfl rfl rfl in_X6 tyX6 tyX6_ok nmX6 8 (by decide) fk_X6_154 rfl rfl rfl rfl (Nat.le_of_ble_eq_true rfl) (show _ = moC g ad (rw2 μ 8 (fun _ => nI ((cd pp) - 48))) from rfl) dX6_isNumber_28 ?_
    refine w_aload_n X 0 rfl dX6_isNumber_31 ?_
    refine w_dup X dX6_isNumber_32 rfl ?_
    refine w_get X 0 0 rfl rfl rfl in_X6 6 (by decide) fk_X6_140 rfl dX6_isNumber_33 ?_
    refine w_st (st2 := [.int (μ 6 0), .ref (ad 0)]) rfl ?_
    refine w_st (st2 := [.int (nI pp), .ref (ad 0)]) (by rw [hp] <;> rfl) ?_
    refine w_iconst X (nI 1) dX6_isNumber_36 (by decide +kernel) ?_
    refine w_iadd_n X dX6_isNumber_37 ?_
    refine w_put X 0 0 rfl rfl rfl in_X6 tyX6 tyX6_ok nmX6 6 (by decide) fk_X6_140 rfl rfl rfl rfl (Nat.le_of_ble_eq_true rfl) (show _ = moC g ad (rw2 (rw2 μ 8 (fun _ => nI ((cd pp) - 48))) 6 (fun _ => nI (pp + 1))) from rfl) dX6_isNumber_38 ?_
    refine w_aload_n X 0 rfl dX6_isNumber_41 ?_
    refine w_get X 0 0 rfl rfl rfl in_X6 8 (by decide) fk_X6_154 rfl dX6_isNumber_42 ?_
    refine w_st (st2 := [.int (nI ((cd pp) - 48))]) rfl ?_
    refine w_st (st2 := [.int (nI (cd pp - 48))]) (rfl) ?_
    refine w_if_le X 117 dX6_isNumber_45 (by decide) (fun c45 => ?_) (fun c45 => ?_)
    · refine w_iconst X (nI 1) dX6_isNumber_117 (by decide +kernel) ?_
      exact w_zret_me X ⟨rw2 (rw2 μ 8 (fun _ => nI ((cd pp) - 48))) 6 (fun _ => nI (pp + 1)), nq_s (fun k h6 h7 h8 => by first | rfl | (simp only [rw2_n _ _ h6, rw2_n _ _ h7, rw2_n _ _ h8])) (num_1 c7 (fun z => by have := (le0 (by omega)).mp c45; omega)) rfl rfl⟩ (by rw [num_1 c7 (fun z => by have := (le0 (by omega)).mp c45; omega)]; rfl) rfl (Nat.le_of_ble_eq_true rfl) (Nat.le_of_ble_eq_true rfl) (rfl) dX6_isNumber_118
    · refine w_aload_n X 0 rfl dX6_isNumber_48 ?_
      refine w_bipush X (nI 48) dX6_isNumber_49 (by decide +kernel) ?_
      refine w_bipush X (nI 57) dX6_isNumber_51 (by decide +kernel) ?_
      refine w_roV X [0] 0 0 (m_X6_isAt l g ad (rw2 (rw2 μ 8 (fun _ => nI ((cd pp) - 48))) 6 (fun _ => nI (pp + 1))) cd t (pp + 1) 48 57 (hT) (rfl) (by omega) (by omega) (by omega)) cv_X6_isAt mk_X6_147 rfl rfl rfl rfl rfl ⟨Nat.le_of_ble_eq_true rfl, Nat.le_of_ble_eq_true rfl⟩ (Nat.le_of_ble_eq_true rfl) ⟨Nat.le_of_ble_eq_true rfl, Nat.le_of_ble_eq_true rfl⟩ dX6_isNumber_53 rfl ?_
      refine w_bf_eq X 117 dX6_isNumber_56 (by decide) (fun c56 => ?_) (fun c56 => ?_)
      · refine w_iconst X (nI 1) dX6_isNumber_117 (by decide +kernel) ?_
        exact w_zret_me X ⟨rw2 (rw2 μ 8 (fun _ => nI ((cd pp) - 48))) 6 (fun _ => nI (pp + 1)), nq_s (fun k h6 h7 h8 => by first | rfl | (simp only [rw2_n _ _ h6, rw2_n _ _ h7, rw2_n _ _ h8])) (num_1 c7 (fun z => by rw [c56] at z; cases z.2.1)) rfl rfl⟩ (by rw [num_1 c7 (fun z => by rw [c56] at z; cases z.2.1)]; rfl) rfl (Nat.le_of_ble_eq_true rfl) (Nat.le_of_ble_eq_true rfl) (rfl) dX6_isNumber_118
      · refine w_bipush X (nI 10) dX6_isNumber_59 (by decide +kernel) ?_
        refine w_aload_n X 0 rfl dX6_isNumber_61 ?_
        refine w_get X 0 0 rfl rfl rfl in_X6 8 (by decide) fk_X6_154 rfl dX6_isNumber_62 ?_
        refine w_st (st2 := [.int (nI ((cd pp) - 48)), .int (nI 10)]) rfl ?_
        refine w_st (st2 := [.int (nI (cd pp - 48)), .int (nI 10)]) (rfl) ?_
        refine w_imul_n X dX6_isNumber_65 ?_
        refine w_aload_n X 0 rfl dX6_isNumber_66 ?_
        refine w_get X 0 0 rfl rfl rfl in_X6 3 (by decide) fk_X6_16 rfl dX6_isNumber_67 ?_
        refine w_aload_n X 0 rfl dX6_isNumber_70 ?_
        refine w_get X 0 0 rfl rfl rfl in_X6 6 (by decide) fk_X6_140 rfl dX6_isNumber_71 ?_
        refine w_st (st2 := [.int (nI (pp + 1)), .ref (ad 3), .int (nI (10 * (cd pp - 48)))]) rfl ?_
        have hb2 := at_t c56
        have hc2 := (hT.2.2 (pp + 1) hb2.1).1
        have hcb2 := (hT.2.2 (pp + 1) hb2.1).2
        refine w_st (st2 := [.int (nI (pp + 1)), .ref (ad 3), .int (nI (10 * (cd pp - 48)))]) (rfl) ?_
        refine w_iald_n X 0 3 0 rfl rfl rfl (by omega) (by decide) dX6_isNumber_74 ?_
        refine w_st (st2 := [.int (μ 3 (pp + 1)), .int (nI (10 * (cd pp - 48)))]) rfl ?_
        refine w_st (st2 := [.int (nI (cd (pp + 1))), .int (nI (10 * (cd pp - 48)))]) (by rw [hc2] <;> rfl) ?_
        refine w_iadd_n X dX6_isNumber_75 ?_
        refine w_bipush X (nI 48) dX6_isNumber_76 (by decide +kernel) ?_
        refine w_isub_n X (by omega) dX6_isNumber_78 ?_
        refine w_iload_n X 2 rfl dX6_isNumber_79 ?_
        refine w_nc_gt X (by omega) (by omega) 117 dX6_isNumber_80 (by decide) (fun c80 => ?_) (fun c80 => ?_)
        · refine w_iconst X (nI 1) dX6_isNumber_117 (by decide +kernel) ?_
          exact w_zret_me X ⟨rw2 (rw2 μ 8 (fun _ => nI ((cd pp) - 48))) 6 (fun _ => nI (pp + 1)), nq_s (fun k h6 h7 h8 => by first | rfl | (simp only [rw2_n _ _ h6, rw2_n _ _ h7, rw2_n _ _ h8])) (num_1 c7 (fun z => by omega)) rfl rfl⟩ (by rw [num_1 c7 (fun z => by omega)]; rfl) rfl (Nat.le_of_ble_eq_true rfl) (Nat.le_of_ble_eq_true rfl) (rfl) dX6_isNumber_118
        · refine w_aload_n X 0 rfl dX6_isNumber_83 ?_
          refine w_bipush X (nI 10) dX6_isNumber_84 (by decide +kernel) ?_
          refine w_aload_n X 0 rfl dX6_isNumber_86 ?_
          refine w_get X 0 0 rfl rfl rfl in_X6 8 (by decide) fk_X6_154 rfl dX6_isNumber_87 ?_
          refine w_st (st2 := [.int (nI ((cd pp) - 48)), .int (nI 10), .ref (ad 0)]) rfl ?_
          refine w_st (st2 := [.int (nI (cd pp - 48)), .int (nI 10), .ref (ad 0)]) (rfl) ?_
          refine w_imul_n X dX6_isNumber_90 ?_
          refine w_aload_n X 0 rfl dX6_isNumber_91 ?_
          refine w_get X 0 0 rfl rfl rfl in_X6 3 (by decide) fk_X6_16 rfl dX6_isNumber_92 ?_
          refine w_aload_n X 0 rfl dX6_isNumber_95 ?_
          refine w_get X 0 0 rfl rfl rfl in_X6 6 (by decide) fk_X6_140 rfl dX6_isNumber_96 ?_
          refine w_st (st2 := [.int (nI (pp + 1)), .ref (ad 3), .int (nI (10 * (cd pp - 48))), .ref (ad 0)]) rfl ?_
          refine w_st (st2 := [.int (nI (pp + 1)), .ref (ad 3), .int (nI (10 * (cd pp - 48))), .ref (ad 0)]) (rfl) ?_
          refine w_iald_n X 0 3 0 rfl rfl rfl (by omega) (by decide) dX6_isNumber_99 ?_
          refine w_st (st2 := [.int (μ 3 (pp + 1)), .int (nI (10 * (cd pp - 48))), .ref (ad 0)]) rfl ?_
          refine w_st (st2 := [.int (nI (cd (pp + 1))), .int (nI (10 * (cd pp - 48))), .ref (ad 0)]) (by rw [hc2] <;> rfl) ?_
          refine w_iadd_n X dX6_isNumber_100 ?_
          refine w_bipush X (nI 48) dX6_isNumber_101 (by decide +kernel) ?_
          refine w_isub_n X (by omega) dX6_isNumber_103 ?_
          refine w_put X 0 0 rfl rfl rfl in_X6 tyX6 tyX6_ok nmX6 8 (by decide) fk_X6_154 rfl rfl rfl rfl (Nat.le_of_ble_eq_true rfl) (show _ = moC g ad (rw2 (rw2 μ 8 (fun _ => nI (((10 * (cd pp - 48)) + (cd (pp + 1))) - 48))) 6 (fun _ => nI (pp + 1))) from rfl) dX6_isNumber_104 ?_
          refine w_aload_n X 0 rfl dX6_isNumber_107 ?_
          refine w_dup X dX6_isNumber_108 rfl ?_
          refine w_get X 0 0 rfl rfl rfl in_X6 6 (by decide) fk_X6_140 rfl dX6_isNumber_109 ?_
          refine w_st (st2 := [.int (nI (pp + 1)), .ref (ad 0)]) rfl ?_
          refine w_st (st2 := [.int (nI (pp + 1)), .ref (ad 0)]) (rfl) ?_
          refine w_iconst X (nI 1) dX6_isNumber_112 (by decide +kernel) ?_
          refine w_iadd_n X dX6_isNumber_113 ?_
          refine w_put X 0 0 rfl rfl rfl in_X6 tyX6 tyX6_ok nmX6 6 (by decide) fk_X6_140 rfl rfl rfl rfl (Nat.le_of_ble_eq_true rfl) (show _ = moC g ad (rw2 (rw2 μ 8 (fun _ => nI (((10 * (cd pp - 48)) + (cd (pp + 1))) - 48))) 6 (fun _ => nI ((pp + 1) + 1))) from rfl) dX6_isNumber_114 ?_
          refine w_iconst X (nI 1) dX6_isNumber_117 (by decide +kernel) ?_
          exact w_zret_me X ⟨rw2 (rw2 μ 8 (fun _ => nI (((10 * (cd pp - 48)) + (cd (pp + 1))) - 48))) 6 (fun _ => nI ((pp + 1) + 1)), nq_s (fun k h6 h7 h8 => by first | rfl | (simp only [rw2_n _ _ h6, rw2_n _ _ h7, rw2_n _ _ h8])) (num_2 c7 ⟨Nat.pos_of_ne_zero (fun e => c45 ((le0 (by omega)).mpr e)), c56, by omega⟩) rfl rfl⟩ (by rw [num_2 c7 ⟨Nat.pos_of_ne_zero (fun e => c45 ((le0 (by omega)).mpr e)), c56, by omega⟩]; rfl) rfl (Nat.le_of_ble_eq_true rfl) (Nat.le_of_ble_eq_true rfl) (rfl) dX6_isNumber_118
  · refine w_aload_n X 0 rfl dX6_isNumber_10 ?_
    refine w_muV X hA (gr := []) (gs1 := [moC g ad (rw2 μ 7 (fun _ => bI (decide (pp < t))))]) [0] [] 0 0 (m_X6_stops l g ad μ cd t pp (hT) (hp) (hpt)) cv_X6_stops mk_X6_150 rfl rfl rfl (ng := 1) rfl (by decide) rfl rfl rfl rfl rfl rfl ⟨Nat.le_of_ble_eq_true rfl, Nat.le_of_ble_eq_true rfl⟩ (Nat.le_of_ble_eq_true rfl) ⟨Nat.le_of_ble_eq_true rfl, Nat.le_of_ble_eq_true rfl⟩ dX6_isNumber_11 rfl ?_
    exact w_zret_me X ⟨rw2 μ 7 (fun _ => bI (decide (pp < t))), nq_n (fun k h6 h7 h8 => by first | rfl | (simp only [rw2_n _ _ h6, rw2_n _ _ h7, rw2_n _ _ h8])) (num_n c7) hp rfl⟩ (by rw [num_n c7]; rfl) rfl (Nat.le_of_ble_eq_true rfl) (Nat.le_of_ble_eq_true rfl) (bI_nar _) dX6_isNumber_14
