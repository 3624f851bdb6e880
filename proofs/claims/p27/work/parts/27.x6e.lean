/-! The model: ranks, orders -/
def rkN (σ : Nat → Nat → Int32) (o : Nat) : Nat := (rankI σ (trC σ (-1)) (nI o)).toNatClampNeg
def plc (σ : Nat → Nat → Int32) (q o : Nat) : Nat := if trC σ (-1) 1 o = -1 then q else (trC σ (-1) 1 o).toNatClampNeg
section RKS
variable {σ μ : Nat → Nat → Int32} {N : Nat → Int32} {q o j : Nat}
theorem RI.ad (hR : RI σ N) (ho : o < 24) (hu : σ 0 o = nI 1) : ∃ d, d ≤ 64 ∧ σ 2 o = nI d ∧ N (24 + 9 * o + 2) = nI d := by
  obtain ⟨k, y, d, t, h1, h2, h3, h4, h5, e1, e2, e3, e4, e5⟩ := hR.1.2.2.2.2.1 o ho hu
  exact ⟨d, by omega, e2, (hR.at ho hu).2.1.trans e2⟩
theorem rank_1 (h : σ 11 1 = nI 1) (x : Int32) : rankI σ (trC σ (-1)) x = x := by rw [rankI, if_pos h]
theorem isNu_nI (ho : o < 24) : ¬ isNuB (nI o) = false := by rw [isNuB_nI ho]; decide
theorem rank_2p (h : σ 11 1 = nI 2) (ho : o < 24) (hp : ¬ trC σ (-1) 1 o = -1) : rankI σ (trC σ (-1)) (nI o) = trC σ (-1) 1 o := by
  rw [rankI, h, if_neg (by decide), if_neg (isNu_nI ho), if_pos rfl, met_pl _ ho, pl_t.mpr hp, if_neg (by decide), plI, if_neg (nI_nlt0 (by omega)), if_neg (nI_nge ho (by decide)), nI_clamp (by omega)]
theorem rank_2u (h : σ 11 1 = nI 2) (ho : o < 24) (hp : trC σ (-1) 1 o = -1) : rankI σ (trC σ (-1)) (nI o) = nI 24 + σ 2 o := by
  rw [rankI, h, if_neg (by decide), if_neg (isNu_nI ho), if_pos rfl, met_pl _ ho, pl_f.mpr hp, if_pos rfl, nI_clamp (by omega)]
theorem rank_0 (h1 : ¬ σ 11 1 = nI 1) (h2 : ¬ σ 11 1 = nI 2) (ho : o < 24) : rankI σ (trC σ (-1)) (nI o) = σ 2 o := by
  rw [rankI, if_neg h1, if_neg (isNu_nI ho), if_neg h2, nI_clamp (by omega)]
theorem rk_nI (hR : RI σ N) (hF : FM σ μ (trC σ (-1)) q) (ho : o < 24) (hu : σ 0 o = nI 1) : rankI σ (trC σ (-1)) (nI o) = nI (rkN σ o) ∧ rkN σ o < 100 := by
  have key : ∀ z, z < 100 → rankI σ (trC σ (-1)) (nI o) = nI z → rankI σ (trC σ (-1)) (nI o) = nI (rkN σ o) ∧ rkN σ o < 100 := fun z hz e => by
    have e2 : rkN σ o = z := by rw [rkN, e, nI_clamp (by omega)]
    rw [e2]; exact ⟨e, hz⟩
  obtain ⟨d, hd, e1, -⟩ := hR.ad ho hu
  by_cases c1 : σ 11 1 = nI 1
  · exact key o (by omega) (rank_1 c1 _)
  · by_cases c2 : σ 11 1 = nI 2
    · rcases hF.2.2.2.2.1 o ho with e | ⟨i, hi, e, _⟩
      · exact key (24 + d) (by omega) (by rw [rank_2u c2 ho e.1, e1, nI_add])
      · exact key i (by have := hF.1; omega) (by rw [rank_2p c2 ho (by rw [e]; exact nI_ne (by have := hF.1; omega)), e])
    · exact key d (by omega) (by rw [rank_0 c1 c2 ho, e1])
theorem rN_1 (h : σ 11 1 = nI 1) (ho : o < 24) : rkN σ o = o := by rw [rkN, rank_1 h, nI_clamp (by omega)]
theorem rN_2 (hR : RI σ N) (hF : FM σ μ (trC σ (-1)) q) (h : σ 11 1 = nI 2) (ho : o < 24) (hj : j < 24) (uo : σ 0 o = nI 1) (uj : σ 0 j = nI 1) (hp : ¬ trC σ (-1) 1 o = -1 ∨ ¬ trC σ (-1) 1 j = -1) : (plc σ q o < plc σ q j ↔ rkN σ o < rkN σ j) := by
  obtain ⟨d, hd, e1, -⟩ := hR.ad ho uo
  obtain ⟨d2, hd2, e2, -⟩ := hR.ad hj uj
  have hq := hF.1
  rcases hF.2.2.2.2.1 o ho with e | ⟨i, hi, e, _⟩ <;> rcases hF.2.2.2.2.1 j hj with f | ⟨k, hk, f, _⟩
  · exact hp.elim (fun z => absurd e.1 z) (fun z => absurd f.1 z)
  · have f2 : ¬ trC σ (-1) 1 j = -1 := by rw [f]; exact nI_ne (by omega)
    rw [plc, plc, if_pos e.1, if_neg f2, rkN, rkN, rank_2u h ho e.1, rank_2p h hj f2, e1, nI_add, f, nI_clamp (by omega), nI_clamp (by omega)]
    omega
  · have f2 : ¬ trC σ (-1) 1 o = -1 := by rw [e]; exact nI_ne (by omega)
    rw [plc, plc, if_pos f.1, if_neg f2, rkN, rkN, rank_2u h hj f.1, rank_2p h ho f2, e2, nI_add, e, nI_clamp (by omega), nI_clamp (by omega)]
    omega
  · have f2 : ¬ trC σ (-1) 1 o = -1 := by rw [e]; exact nI_ne (by omega)
    have f3 : ¬ trC σ (-1) 1 j = -1 := by rw [f]; exact nI_ne (by omega)
    rw [plc, plc, if_neg f2, if_neg f3, rkN, rkN, rank_2p h ho f2, rank_2p h hj f3]
theorem rN_0 (hR : RI σ N) (h1 : ¬ σ 11 1 = nI 1) (h2 : σ 11 1 = nI 2 → trC σ (-1) 1 o = -1 ∧ trC σ (-1) 1 j = -1) (ho : o < 24) (hj : j < 24) (uo : σ 0 o = nI 1) (uj : σ 0 j = nI 1) : (N (24 + 9 * o + 2) < N (24 + 9 * j + 2) ↔ rkN σ o < rkN σ j) := by
  obtain ⟨d, hd, e1, f1⟩ := hR.ad ho uo
  obtain ⟨d2, hd2, e2, f2⟩ := hR.ad hj uj
  rw [f1, f2, nI_ltI (by omega) (by omega)]
  by_cases c2 : σ 11 1 = nI 2
  · rw [rkN, rkN, rank_2u c2 ho (h2 c2).1, rank_2u c2 hj (h2 c2).2, e1, e2, nI_add, nI_add, nI_clamp (by omega), nI_clamp (by omega)]
    omega
  · rw [rkN, rkN, rank_0 h1 c2 ho, rank_0 h1 c2 hj, e1, e2, nI_clamp (by omega), nI_clamp (by omega)]
theorem rN_inj (hR : RI σ N) (hF : FM σ μ (trC σ (-1)) q) (ho : o < 24) (hj : j < 24) (uo : σ 0 o = nI 1) (uj : σ 0 j = nI 1) (ha : σ 1 o = σ 1 j) (he : rkN σ o = rkN σ j) : o = j := by
  have r1 := (rk_nI hR hF ho uo).1
  have r2 := (rk_nI hR hF hj uj).1
  rw [he] at r1
  have r3 := r1.trans r2.symm
  obtain ⟨d, hd, e1, -⟩ := hR.ad ho uo
  obtain ⟨d2, hd2, e2, -⟩ := hR.ad hj uj
  have hq := hF.1
  have fin : σ 2 o = σ 2 j → o = j := fun e => hR.1.2.2.2.2.2.2 o j ho hj uo uj ha e
  by_cases c1 : σ 11 1 = nI 1
  · rw [rank_1 c1, rank_1 c1] at r3
    exact (nI_eq (by omega) (by omega)).mp r3
  · by_cases c2 : σ 11 1 = nI 2
    · rcases hF.2.2.2.2.1 o ho with e | ⟨i, hi, e, e'⟩ <;> rcases hF.2.2.2.2.1 j hj with f | ⟨k, hk, f, f'⟩
      · rw [rank_2u c2 ho e.1, rank_2u c2 hj f.1, e1, e2, nI_add, nI_add] at r3
        have := (nI_eq (by omega) (by omega)).mp r3
        exact fin (by rw [e1, e2, show d = d2 by omega])
      · rw [rank_2u c2 ho e.1, rank_2p c2 hj (by rw [f]; exact nI_ne (by omega)), e1, f, nI_add] at r3
        have := (nI_eq (by omega) (by omega)).mp r3
        omega
      · rw [rank_2p c2 ho (by rw [e]; exact nI_ne (by omega)), rank_2u c2 hj f.1, e, e2, nI_add] at r3
        have := (nI_eq (by omega) (by omega)).mp r3
        omega
      · rw [rank_2p c2 ho (by rw [e]; exact nI_ne (by omega)), rank_2p c2 hj (by rw [f]; exact nI_ne (by omega)), e, f] at r3
        have := (nI_eq (by omega) (by omega)).mp r3
        rw [this] at e'
        exact (nI_eq (by omega) (by omega)).mp (e'.symm.trans f')
    · rw [rank_0 c1 c2 ho, rank_0 c1 c2 hj] at r3
      exact fin r3
end RKS
theorem plc_at {σ μ : Nat → Nat → Int32} {q o k : Nat} (hF : FM σ μ (trC σ (-1)) q) (ho : o < 24) (hk : k < q) (h : μ 12 k = nI o) : plc σ q o = k := by
  obtain ⟨j, d, hj, _, e1, e2, e3, _⟩ := hF.2.2.2.1 k hk
  have hq := hF.1
  have : o = j := (nI_eq (by omega) (by omega)).mp (h.symm.trans e2)
  subst this
  rw [plc, e3, if_neg (nI_ne (by omega)), nI_clamp (by omega)]
theorem plc_end {σ μ : Nat → Nat → Int32} {q o k : Nat} (hF : FM σ μ (trC σ (-1)) q) (ho : o < 24) (h : ∀ i, i < k → ¬ μ 12 i = nI o) (hk : q ≤ k) : plc σ q o = q := by
  rcases hF.2.2.2.2.1 o ho with e | ⟨i, hi, e, e'⟩
  · rw [plc, if_pos e.1]
  · obtain ⟨j, d, hj, _, e1, e2, e3, _⟩ := hF.2.2.2.1 i hi
    exact absurd (e2.trans (e1.symm.trans e')) (h i (by omega))
theorem plc_bd {σ μ : Nat → Nat → Int32} {q o : Nat} (hF : FM σ μ (trC σ (-1)) q) (ho : o < 24) : plc σ q o < 2 ^ 31 := by
  have hq := hF.1
  rcases hF.2.2.2.2.1 o ho with e | ⟨i, hi, e, e'⟩
  · rw [plc, if_pos e.1]; omega
  · rw [plc, e, if_neg (nI_ne (by omega)), nI_clamp (by omega)]; omega
