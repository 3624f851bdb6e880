/-! The model: ranks, orders -/
def rkN (σ : Nat → Nat → Int32) (o : Nat) : Nat := (rankI σ (trC σ (-1)) (nI o)).toNatClampNeg
def plc (σ : Nat → Nat → Int32) (q o : Nat) : Nat := if trC σ (-1) 1 o = -1 then q else (trC σ (-1) 1 o).toNatClampNeg
section RKS
variable {σ μ : Nat → Nat → Int32} {N : Nat → Int32} {q o j : Nat}
theorem RI.ad (hR : RI σ N) (ho : o < 24) (hu : σ 0 o = nI 1) : ∃ d, d ≤ 64 ∧ σ 2 o = nI d ∧ N (24 + 9 * o + 2) = nI d := by
  obtain ⟨k, y, d, t, h1, h2, h3, h4, h5, e1, e2, e3, e4, e5⟩ := hR.1.2.2.2.2.1 o ho hu
  exact ⟨d, by omega, e2, (hR.at ho hu).2.1.trans e2⟩
theorem rank_1 (h : σ 11 1 = nI 1) (x : Int32) : rankI σ (trC σ (-1)) x = x := by rw [rankI, if_pos h]
theorem isNu_nI (ho : o < 24) : ¬ isNuB (nI o) = false := by rw [isNuB_nI ho]; decide
theorem rank_2p (h : σ 11 1 = nI 2) (ho : o < 24) (hp : ¬ trC σ (-1) 1 o = -1) : rankI σ (trC σ (-1)) (nI o) = trC σ (-1) 1 o := by
  rw [rankI, h, if_neg (by decide), if_neg (isNu_nI ho), if_pos rfl, met_pl _ ho, pl_t.mpr hp, if_neg (by decide), plI, if_neg (nI_nlt0 (by omega)), if_neg (nI_nge ho (by decide)), nI_clamp (by omega)]
theorem rank_2u (h : σ 11 1 = nI 2) (ho : o < 24) (hp : trC σ (-1) 1 o = -1) : rankI σ (trC σ (-1)) (nI o) = nI 24 + σ 2 o := by
  rw [rankI, h, if_neg (by decide), if_neg (isNu_nI ho), if_pos rfl, met_pl _ ho, pl_f.mpr hp, if_pos rfl, nI_clamp (by omega)]
theorem rank_0 (h1 : ¬ σ 11 1 = nI 1) (h2 : ¬ σ 11 1 = nI 2) (ho : o < 24) : rankI σ (trC σ (-1)) (nI o) = σ 2 o := by
  rw [rankI, if_neg h1, if_neg (isNu_nI ho), if_neg h2, nI_clamp (by omega)]
theorem rk_nI (hR : RI σ N) (hF : FM σ μ (trC σ (-1)) q) (ho : o < 24) (hu : σ 0 o = nI 1) : rankI σ (trC σ (-1)) (nI o) = nI (rkN σ o) ∧ rkN σ o < 100 := by
  have key : ∀ z, z < 100 → rankI σ (trC σ (-1)) (nI o) = nI z → rankI σ (trC σ (-1)) (nI o) = nI (rkN σ o) ∧ rkN σ o < 100 := fun z hz e => by
    have e2 : rkN σ o = z := by rw [rkN, e, nI_clamp (by omega)]
    rw [e2]; exact ⟨e, hz⟩
  obtain ⟨d, hd, e1, -⟩ := hR.ad ho hu
  by_cases c1 : σ 11 1 = nI 1
  · exact key o (by omega) (rank_1 c1 _)
  · by_cases c2 : σ 11 1 = nI 2
    · rcases hF.2.2.2.2.1 o ho with e | ⟨i, hi, e, _⟩
      · exact key (24 + d) (by omega) (by rw [rank_2u c2 ho e.1, e1, nI_add])
      · exact key i (by have := hF.1; omega) (by rw [rank_2p c2 ho (by rw [e]; exact nI_ne (by have := hF.1; omega)), e])
    · exact key d (by omega) (by rw [rank_0 c1 c2 ho, e1])
theorem rN_1 (h : σ 11 1 = nI 1) (ho : o < 24) : rkN σ o = o := by rw [rkN, rank_1 h, nI_clamp (by omega)]
theorem rN_2 (hR : RI σ N) (hF : FM σ μ (trC σ (-1)) q) (h : σ 11 1 = nI 2) (ho : o < 24) (hj : j < 24) (uo : σ 0 o = nI 1) (uj : σ 0 j = nI 1) (hp : ¬ trC σ (-1) 1 o = -1 ∨ ¬ trC σ (-1) 1 j = -1) : (plc σ q o < plc σ q j ↔ rkN σ o < rkN σ j) := by
  obtain ⟨d, hd, e1, -⟩ := hR.ad ho uo
  obtain ⟨d2, hd2, e2, -⟩ := hR.ad hj uj
  have hq := hF.1
  rcases hF.2.2.2.2.1 o ho with e | ⟨i, hi, e, _⟩ <;> rcases hF.2.2.2.2.1 j hj with f | ⟨k, hk, f, _⟩
  · exact hp.elim (fun z => absurd e.1 z) (fun z => absurd f.1 z)
  · have f2 : ¬ trC σ (-1) 1 j = -1 := by rw [f]; exact nI_ne (by omega)
    rw [plc, plc, if_pos e.1, if_neg f2, rkN, rkN, rank_2u h ho e.1, rank_2p h hj f2, e1, nI_add, f, nI_clamp (by omega), nI_clamp (by omega)]
    omega
  · have f2 : ¬ trC σ (-1) 1 o = -1 := by rw [e]; exact nI_ne (by omega)
    rw [plc, plc, if_pos f.1, if_neg f2, rkN, rkN, rank_2u h hj f.1, rank_2p h ho f2, e2, nI_add, e, nI_clamp (by omega), nI_clamp (by omega)]
    omega
  · have f2 : ¬ trC σ (-1) 1 o = -1 := by rw [e]; exact nI_ne (by omega)
    have f3 : ¬ trC σ (-1) 1 j = -1 := by rw [f]; exact nI_ne (by omega)
    rw [plc, plc, if_neg f2, if_neg f3, rkN, rkN, rank_2p h ho f2, rank_2p h hj f3]
theorem rN_0 (hR : RI σ N) (h1 : ¬ σ 11 1 = nI 1) (h2 : σ 11 1 = nI 2 → trC σ (-1) 1 o = -1 ∧ trC σ (-1) 1 j = -1) (ho : o < 24) (hj : j < 24) (uo : σ 0 o = nI 1) (uj : σ 0 j = nI 1) : (N (24 + 9 * o + 2) < N (24 + 9 * j + 2) ↔ rkN σ o < rkN σ j) := by
  obtain ⟨d, hd, e1, f1⟩ := hR.ad ho uo
  obtain ⟨d2, hd2, e2, f2⟩ := hR.ad hj uj
  rw [f1, f2, nI_ltI (by omega) (by omega)]
  by_cases c2 : σ 11 1 = nI 2
  · rw [rkN, rkN, rank_2u c2 ho (h2 c2).1, rank_2u c2 hj (h2 c2).2, e1, e2, nI_add, nI_add, nI_clamp (by omega), nI_clamp (by omega)]
    omega
  · rw [rkN, rkN, rank_0 h1 c2 ho, rank_0 h1 c2 hj, e1, e2, nI_clamp (by omega), nI_clamp (by omega)]
theorem rN_inj (hR : RI σ N) (hF : FM σ μ (trC σ (-1)) q) (ho : o < 24) (hj : j < 24) (uo : σ 0 o = nI 1) (uj : σ 0 j = nI 1) (ha : σ 1 o = σ 1 j) (he : rkN σ o = rkN σ j) : o = j := by
  have r1 := (rk_nI hR hF ho uo).1
  have r2 := (rk_nI hR hF hj uj).1
  rw [he] at r1
  have r3 := r1.trans r2.symm
  obtain ⟨d, hd, e1, -⟩ := hR.ad ho uo
  obtain ⟨d2, hd2, e2, -⟩ := hR.ad hj uj
  have hq := hF.1
  have fin : σ 2 o = σ 2 j → o = j := fun e => hR.1.2.2.2.2.2.2 o j ho hj uo uj ha e
  by_cases c1 : σ 11 1 = nI 1
  · rw [rank_1 c1, rank_1 c1] at r3
    exact (nI_eq (by omega) (by omega)).mp r3
  · by_cases c2 : σ 11 1 = nI 2
    · rcases hF.2.2.2.2.1 o ho with e | ⟨i, hi, e, e'⟩ <;> rcases hF.2.2.2.2.1 j hj with f | ⟨k, hk, f, f'⟩
      · rw [rank_2u c2 ho e.1, rank_2u c2 hj f.1, e1, e2, nI_add, nI_add] at r3
        have := (nI_eq (by omega) (by omega)).mp r3
        exact fin (by rw [e1, e2, show d = d2 by omega])
      · rw [rank_2u c2 ho e.1, rank_2p c2 hj (by rw [f]; exact nI_ne (by omega)), e1, f, nI_add] at r3
        have := (nI_eq (by omega) (by omega)).mp r3
        omega
      · rw [rank_2p c2 ho (by rw [e]; exact nI_ne (by omega)), rank_2u c2 hj f.1, e, e2, nI_add] at r3
        have := (nI_eq (by omega) (by omega)).mp r3
        omega
      · rw [rank_2p c2 ho (by rw [e]; exact nI_ne (by omega)), rank_2p c2 hj (by rw [f]; exact nI_ne (by omega)), e, f] at r3
        have := (nI_eq (by omega) (by omega)).mp r3
        rw [this] at e'
        exact (nI_eq (by omega) (by omega)).mp (e'.symm.trans f')
    · rw [rank_0 c1 c2 ho, rank_0 c1 c2 hj] at r3
      exact fin r3
end RKS
theorem plc_at {σ μ : Nat → Nat → Int32} {q o k : Nat} (hF : FM σ μ (trC σ (-1)) q) (ho : o < 24) (hk : k < q) (h : μ 12 k = nI o) : plc σ q o = k := by
  obtain ⟨j, d, hj, _, e1, e2, e3, _⟩ := hF.2.2.2.1 k hk
  have hq := hF.1
  have : o = j := (nI_eq (by omega) (by omega)).mp (h.symm.trans e2)
  subst this
  rw [plc, e3, if_neg (nI_ne (by omega)), nI_clamp (by omega)]
theorem plc_end {σ μ : Nat → Nat → Int32} {q o k : Nat} (hF : FM σ μ (trC σ (-1)) q) (ho : o < 24) (h : ∀ i, i < k → ¬ μ 12 i = nI o) (hk : q ≤ k) : plc σ q o = q := by
  rcases hF.2.2.2.2.1 o ho with e | ⟨i, hi, e, e'⟩
  · rw [plc, if_pos e.1]
  · obtain ⟨j, d, hj, _, e1, e2, e3, _⟩ := hF.2.2.2.1 i hi
    exact absurd (e2.trans (e1.symm.trans e')) (h i (by omega))
set_option maxRecDepth 100000 in
set_option maxHeartbeats 4000000 in
theorem m_X6_place (l : Launch) (g : GG) (ad : Nat → Nat) (μ : Nat → Nat → Int32) (σ : Nat → Nat → Int32) (q : Nat) (o : Nat) (ho : o < 24) (hR : RI σ (μ 0)) (hF : FM σ μ (trC σ (-1)) q) : MRO l g yX6_place cX6_place 3 (some .int) 1 [.ref (ad 0), .int (nI o)] [moC g ad μ] (some (.int (nI (plc σ q o)))) := by
  refine mk_ro (by decide +kernel) (Nat.le_of_ble_eq_true rfl) (fun p e s m below meth c X => ?_)
  have hq24 := hF.1
  refine w_iconst X (nI 0) dX6_place_0 (by decide +kernel) ?_
  refine w_istore_n X dX6_place_1 (by decide) ?_
  refine w_all [1, 2, 0] (rfl) (rfl) rfl (w_loop (st := []) (pc := 2) X (V := Nat) (fun (k : Nat) => 24 - k) (fun (k : Nat) => (k ≤ q) ∧ (∀ i, i < k → ¬ μ 12 i = nI o)) (fun (k : Nat) => [(0, .ref (ad 0)), (1, .int (nI o)), (2, .int (nI k))]) (fun (k : Nat) => [moC g ad μ]) (fun k hv2 ih2 => ?_) 0 ⟨by omega, fun i h => by omega⟩)
  obtain ⟨hk, hn⟩ := hv2
  try dsimp only at ih2 ⊢
  refine w_iload_n X 2 rfl dX6_place_2 ?_
  refine w_aload_n X 0 rfl dX6_place_3 ?_
  refine w_get X 0 0 rfl rfl rfl in_X6 13 (by decide) fk_X6_54 rfl dX6_place_4 ?_
  refine w_st (st2 := [.int (nI q), .int (nI k)]) (by rw [hF.2.2.1]) ?_
  refine w_nc_ge X (by omega) (by omega) 26 dX6_place_7 (by decide) (fun c7 => ?_) (fun c7 => ?_)
  · refine w_iload_n X 2 rfl dX6_place_26 ?_
    exact w_iret_ro X (by rw [plc_end hF ho hn (by omega), show k = q by omega]) dX6_place_27
  · refine w_aload_n X 0 rfl dX6_place_10 ?_
    refine w_get X 0 0 rfl rfl rfl in_X6 12 (by decide) fk_X6_25 rfl dX6_place_11 ?_
    refine w_iload_n X 2 rfl dX6_place_14 ?_
    refine w_iald_n X 0 6 0 rfl rfl rfl (by omega) (by decide) dX6_place_15 ?_
    refine w_iload_n X 1 rfl dX6_place_16 ?_
    refine w_ic_eq X 26 dX6_place_17 (by decide) (fun c17 => ?_) (fun c17 => ?_)
    · refine w_iload_n X 2 rfl dX6_place_26 ?_
      exact w_iret_ro X (by rw [plc_at hF ho (by omega) c17]) dX6_place_27
    · refine w_iinc X (nI (k + 1)) 2 rfl (nI_1 _) dX6_place_20 (by decide) ?_
      refine w_goto X 2 dX6_place_23 (by decide) ?_
      exact w_all [1, 2, 0] (rfl) (rfl) rfl (ih2 (k + 1) (by have := hF.1; omega) ⟨by omega, lt_ext hn c17⟩)
theorem plc_bd {σ μ : Nat → Nat → Int32} {q o : Nat} (hF : FM σ μ (trC σ (-1)) q) (ho : o < 24) : plc σ q o < 2 ^ 31 := by
  have hq := hF.1
  rcases hF.2.2.2.2.1 o ho with e | ⟨i, hi, e, e'⟩
  · rw [plc, if_pos e.1]; omega
  · rw [plc, e, if_neg (nI_ne (by omega)), nI_clamp (by omega)]; omega
set_option maxRecDepth 100000 in
set_option maxHeartbeats 4000000 in
theorem m_X6_isAhead (l : Launch) (g : GG) (ad : Nat → Nat) (μ : Nat → Nat → Int32) (σ : Nat → Nat → Int32) (q : Nat) (o : Nat) (j : Nat) (ho : o < 24) (hp : j < 24) (uo : σ 0 o = nI 1) (up : σ 0 j = nI 1) (hR : RI σ (μ 0)) (hF : FM σ μ (trC σ (-1)) q) : MRO l g yX6_isAhead cX6_isAhead 3 (some .boolean) 2 [.ref (ad 0), .int (nI o), .int (nI j)] [moC g ad μ] (some (.int (bI (decide (rkN σ o < rkN σ j))))) := by
  refine mk_ro (by decide +kernel) (Nat.le_of_ble_eq_true rfl) (fun p e s m below meth c X => ?_)
  refine w_aload_n X 0 rfl dX6_isAhead_0 ?_
  refine w_get X 0 0 rfl rfl rfl in_X6 0 (by decide) fk_X6_7 rfl dX6_isAhead_1 ?_
  refine w_iconst X (nI 1) dX6_isAhead_4 (by decide +kernel) ?_
  refine w_iald_n X 0 1 0 rfl rfl rfl (by omega) (by decide) dX6_isAhead_5 ?_
  refine w_iconst X (nI 1) dX6_isAhead_6 (by decide +kernel) ?_
  refine w_ic_ne X 21 dX6_isAhead_7 (by decide) (fun c7 => ?_) (fun c7 => ?_)
  · refine w_aload_n X 0 rfl dX6_isAhead_21 ?_
    refine w_get X 0 0 rfl rfl rfl in_X6 0 (by decide) fk_X6_7 rfl dX6_isAhead_22 ?_
    refine w_iconst X (nI 1) dX6_isAhead_25 (by decide +kernel) ?_
    refine w_iald_n X 0 1 0 rfl rfl rfl (by omega) (by decide) dX6_isAhead_26 ?_
    refine w_iconst X (nI 2) dX6_isAhead_27 (by decide +kernel) ?_
    refine w_ic_ne X 70 dX6_isAhead_28 (by decide) (fun c28 => ?_) (fun c28 => ?_)
    · refine w_aload_n X 0 rfl dX6_isAhead_70 ?_
      refine w_iload_n X 1 rfl dX6_isAhead_71 ?_
      refine w_iconst X (nI 2) dX6_isAhead_72 (by decide +kernel) ?_
      refine w_roV X [0] 0 0 (m_X6_of l g ad μ o 2 (by omega) (by omega)) cv_X6_of mk_X6_43 rfl rfl rfl rfl rfl ⟨Nat.le_of_ble_eq_true rfl, Nat.le_of_ble_eq_true rfl⟩ (Nat.le_of_ble_eq_true rfl) ⟨Nat.le_of_ble_eq_true rfl, Nat.le_of_ble_eq_true rfl⟩ dX6_isAhead_73 rfl ?_
      refine w_aload_n X 0 rfl dX6_isAhead_76 ?_
      refine w_iload_n X 2 rfl dX6_isAhead_77 ?_
      refine w_iconst X (nI 2) dX6_isAhead_78 (by decide +kernel) ?_
      refine w_roV X [0] 0 0 (m_X6_of l g ad μ j 2 (by omega) (by omega)) cv_X6_of mk_X6_43 rfl rfl rfl rfl rfl ⟨Nat.le_of_ble_eq_true rfl, Nat.le_of_ble_eq_true rfl⟩ (Nat.le_of_ble_eq_true rfl) ⟨Nat.le_of_ble_eq_true rfl, Nat.le_of_ble_eq_true rfl⟩ dX6_isAhead_79 rfl ?_
      refine w_ic_ge X 89 dX6_isAhead_82 (by decide) (fun c82 => ?_) (fun c82 => ?_)
      · refine w_iconst X (nI 0) dX6_isAhead_89 (by decide +kernel) ?_
        exact w_zret_ro X (by have s1 : ¬ σ 11 1 = nI 1 := fun e => c7 (hR.2.1.2.1.trans e); have s2 := rN_0 hR s1 (fun z => absurd (hR.2.1.2.1.trans z) c28) ho hp uo up; rw [decide_eq_false (fun z => nlt_le.mpr (s2.mpr z) c82)]; rfl) (rfl) dX6_isAhead_90
      · refine w_iconst X (nI 1) dX6_isAhead_85 (by decide +kernel) ?_
        refine w_goto X 90 dX6_isAhead_86 (by decide) ?_
        exact w_zret_ro X (by have s1 : ¬ σ 11 1 = nI 1 := fun e => c7 (hR.2.1.2.1.trans e); have s2 := rN_0 hR s1 (fun z => absurd (hR.2.1.2.1.trans z) c28) ho hp uo up; rw [decide_eq_true (s2.mp (nlt_le.mp c82))]; rfl) (rfl) dX6_isAhead_90
    · refine w_aload_n X 0 rfl dX6_isAhead_31 ?_
      refine w_get X 0 0 rfl rfl rfl in_X6 11 (by decide) fk_X6_22 rfl dX6_isAhead_32 ?_
      refine w_iload_n X 1 rfl dX6_isAhead_35 ?_
      refine w_iald_n X 0 5 0 rfl rfl rfl (by omega) (by decide) dX6_isAhead_36 ?_
      refine w_iconst X (-1) dX6_isAhead_37 (by decide +kernel) ?_
      refine w_ic_ne X 51 dX6_isAhead_38 (by decide) (fun c38 => ?_) (fun c38 => ?_)
      · refine w_aload_n X 0 rfl dX6_isAhead_51 ?_
        refine w_iload_n X 1 rfl dX6_isAhead_52 ?_
        refine w_roV X [0] 0 0 (m_X6_place l g ad μ σ q o (by omega) (hR) (hF)) cv_X6_place mk_X6_72 rfl rfl rfl rfl rfl ⟨Nat.le_of_ble_eq_true rfl, Nat.le_of_ble_eq_true rfl⟩ (Nat.le_of_ble_eq_true rfl) ⟨Nat.le_of_ble_eq_true rfl, Nat.le_of_ble_eq_true rfl⟩ dX6_isAhead_53 rfl ?_
        refine w_aload_n X 0 rfl dX6_isAhead_56 ?_
        refine w_iload_n X 2 rfl dX6_isAhead_57 ?_
        refine w_roV X [0] 0 0 (m_X6_place l g ad μ σ q j (by omega) (hR) (hF)) cv_X6_place mk_X6_72 rfl rfl rfl rfl rfl ⟨Nat.le_of_ble_eq_true rfl, Nat.le_of_ble_eq_true rfl⟩ (Nat.le_of_ble_eq_true rfl) ⟨Nat.le_of_ble_eq_true rfl, Nat.le_of_ble_eq_true rfl⟩ dX6_isAhead_58 rfl ?_
        refine w_nc_ge X (plc_bd hF ho) (plc_bd hF hp) 68 dX6_isAhead_61 (by decide) (fun c61 => ?_) (fun c61 => ?_)
        · refine w_iconst X (nI 0) dX6_isAhead_68 (by decide +kernel) ?_
          exact w_zret_ro X (by have s1 : ¬ σ 11 1 = nI 1 := fun e => c7 (hR.2.1.2.1.trans e); have s2 := rN_2 hR hF (hR.2.1.2.1.symm.trans c28) ho hp uo up (Or.inl (fun z => c38 ((hF.un ho).mpr z))); rw [decide_eq_false (fun z => by have := s2.mpr z; omega)]; rfl) (rfl) dX6_isAhead_69
        · refine w_iconst X (nI 1) dX6_isAhead_64 (by decide +kernel) ?_
          refine w_goto X 69 dX6_isAhead_65 (by decide) ?_
          exact w_zret_ro X (by have s1 : ¬ σ 11 1 = nI 1 := fun e => c7 (hR.2.1.2.1.trans e); have s2 := rN_2 hR hF (hR.2.1.2.1.symm.trans c28) ho hp uo up (Or.inl (fun z => c38 ((hF.un ho).mpr z))); rw [decide_eq_true (s2.mp (by omega))]; rfl) (rfl) dX6_isAhead_69
      · refine w_aload_n X 0 rfl dX6_isAhead_41 ?_
        refine w_get X 0 0 rfl rfl rfl in_X6 11 (by decide) fk_X6_22 rfl dX6_isAhead_42 ?_
        refine w_iload_n X 2 rfl dX6_isAhead_45 ?_
        refine w_iald_n X 0 5 0 rfl rfl rfl (by omega) (by decide) dX6_isAhead_46 ?_
        refine w_iconst X (-1) dX6_isAhead_47 (by decide +kernel) ?_
        refine w_ic_eq X 70 dX6_isAhead_48 (by decide) (fun c48 => ?_) (fun c48 => ?_)
        · refine w_aload_n X 0 rfl dX6_isAhead_70 ?_
          refine w_iload_n X 1 rfl dX6_isAhead_71 ?_
          refine w_iconst X (nI 2) dX6_isAhead_72 (by decide +kernel) ?_
          refine w_roV X [0] 0 0 (m_X6_of l g ad μ o 2 (by omega) (by omega)) cv_X6_of mk_X6_43 rfl rfl rfl rfl rfl ⟨Nat.le_of_ble_eq_true rfl, Nat.le_of_ble_eq_true rfl⟩ (Nat.le_of_ble_eq_true rfl) ⟨Nat.le_of_ble_eq_true rfl, Nat.le_of_ble_eq_true rfl⟩ dX6_isAhead_73 rfl ?_
          refine w_aload_n X 0 rfl dX6_isAhead_76 ?_
          refine w_iload_n X 2 rfl dX6_isAhead_77 ?_
          refine w_iconst X (nI 2) dX6_isAhead_78 (by decide +kernel) ?_
          refine w_roV X [0] 0 0 (m_X6_of l g ad μ j 2 (by omega) (by omega)) cv_X6_of mk_X6_43 rfl rfl rfl rfl rfl ⟨Nat.le_of_ble_eq_true rfl, Nat.le_of_ble_eq_true rfl⟩ (Nat.le_of_ble_eq_true rfl) ⟨Nat.le_of_ble_eq_true rfl, Nat.le_of_ble_eq_true rfl⟩ dX6_isAhead_79 rfl ?_
          refine w_ic_ge X 89 dX6_isAhead_82 (by decide) (fun c82 => ?_) (fun c82 => ?_)
          · refine w_iconst X (nI 0) dX6_isAhead_89 (by decide +kernel) ?_
            exact w_zret_ro X (by have s1 : ¬ σ 11 1 = nI 1 := fun e => c7 (hR.2.1.2.1.trans e); have s2 := rN_0 hR s1 (fun _ => ⟨(hF.un ho).mp c38, (hF.un hp).mp c48⟩) ho hp uo up; rw [decide_eq_false (fun z => nlt_le.mpr (s2.mpr z) c82)]; rfl) (rfl) dX6_isAhead_90
          · refine w_iconst X (nI 1) dX6_isAhead_85 (by decide +kernel) ?_
            refine w_goto X 90 dX6_isAhead_86 (by decide) ?_
            exact w_zret_ro X (by have s1 : ¬ σ 11 1 = nI 1 := fun e => c7 (hR.2.1.2.1.trans e); have s2 := rN_0 hR s1 (fun _ => ⟨(hF.un ho).mp c38, (hF.un hp).mp c48⟩) ho hp uo up; rw [decide_eq_true (s2.mp (nlt_le.mp c82))]; rfl) (rfl) dX6_isAhead_90
        · refine w_aload_n X 0 rfl dX6_isAhead_51 ?_
          refine w_iload_n X 1 rfl dX6_isAhead_52 ?_
          refine w_roV X [0] 0 0 (m_X6_place l g ad μ σ q o (by omega) (hR) (hF)) cv_X6_place mk_X6_72 rfl rfl rfl rfl rfl ⟨Nat.le_of_ble_eq_true rfl, Nat.le_of_ble_eq_true rfl⟩ (Nat.le_of_ble_eq_true rfl) ⟨Nat.le_of_ble_eq_true rfl, Nat.le_of_ble_eq_true rfl⟩ dX6_isAhead_53 rfl ?_
          refine w_aload_n X 0 rfl dX6_isAhead_56 ?_
          refine w_iload_n X 2 rfl dX6_isAhead_57 ?_
          refine w_roV X [0] 0 0 (m_X6_place l g ad μ σ q j (by omega) (hR) (hF)) cv_X6_place mk_X6_72 rfl rfl rfl rfl rfl ⟨Nat.le_of_ble_eq_true rfl, Nat.le_of_ble_eq_true rfl⟩ (Nat.le_of_ble_eq_true rfl) ⟨Nat.le_of_ble_eq_true rfl, Nat.le_of_ble_eq_true rfl⟩ dX6_isAhead_58 rfl ?_
          refine w_nc_ge X (plc_bd hF ho) (plc_bd hF hp) 68 dX6_isAhead_61 (by decide) (fun c61 => ?_) (fun c61 => ?_)
          · refine w_iconst X (nI 0) dX6_isAhead_68 (by decide +kernel) ?_
            exact w_zret_ro X (by have s1 : ¬ σ 11 1 = nI 1 := fun e => c7 (hR.2.1.2.1.trans e); have s2 := rN_2 hR hF (hR.2.1.2.1.symm.trans c28) ho hp uo up (Or.inr (fun z => c48 ((hF.un hp).mpr z))); rw [decide_eq_false (fun z => by have := s2.mpr z; omega)]; rfl) (rfl) dX6_isAhead_69
          · refine w_iconst X (nI 1) dX6_isAhead_64 (by decide +kernel) ?_
            refine w_goto X 69 dX6_isAhead_65 (by decide) ?_
            exact w_zret_ro X (by have s1 : ¬ σ 11 1 = nI 1 := fun e => c7 (hR.2.1.2.1.trans e); have s2 := rN_2 hR hF (hR.2.1.2.1.symm.trans c28) ho hp uo up (Or.inr (fun z => c48 ((hF.un hp).mpr z))); rw [decide_eq_true (s2.mp (by omega))]; rfl) (rfl) dX6_isAhead_69
  · refine w_iload_n X 1 rfl dX6_isAhead_10 ?_
    refine w_iload_n X 2 rfl dX6_isAhead_11 ?_
    refine w_nc_ge X (by omega) (by omega) 19 dX6_isAhead_12 (by decide) (fun c12 => ?_) (fun c12 => ?_)
    · refine w_iconst X (nI 0) dX6_isAhead_19 (by decide +kernel) ?_
      exact w_zret_ro X (by have s1 : σ 11 1 = nI 1 := hR.2.1.2.1.symm.trans c7; rw [decide_eq_false (by rw [rN_1 s1 ho, rN_1 s1 hp]; omega)]; rfl) (rfl) dX6_isAhead_20
    · refine w_iconst X (nI 1) dX6_isAhead_15 (by decide +kernel) ?_
      refine w_goto X 20 dX6_isAhead_16 (by decide) ?_
      exact w_zret_ro X (by have s1 : σ 11 1 = nI 1 := hR.2.1.2.1.symm.trans c7; rw [decide_eq_true (by rw [rN_1 s1 ho, rN_1 s1 hp]; omega)]; rfl) (rfl) dX6_isAhead_20
