/-! an arena is handed out, an object is made -/
theorem ri_hand {σ : Nat → Nat → Int32} {N N' : Nat → Int32} (hR : RI σ N) {k : Nat} (hk : k < 6) (h1 : N' (6 + 3 * k) = nI 1) (h2 : N' (6 + 3 * k + 1) = N (6 + 3 * k + 1)) (h3 : N' (6 + 3 * k + 2) = N (6 + 3 * k + 2) + nI 1) (h4 : ∀ i, i < 240 → (i < 6 + 3 * k ∨ 6 + 3 * k + 2 < i) → N' i = N i) : RI (handS σ k) N' := by
  obtain ⟨⟨hF, hA, hS, hU, hO, hQ, hD⟩, hC, hB, hE, hW⟩ := hR
  have r0 : (handS σ k) 0 = σ 0 := (rw2_n _ _ (by decide)).trans (rw2_n _ _ (by decide))
  have r1 : (handS σ k) 1 = σ 1 := (rw2_n _ _ (by decide)).trans (rw2_n _ _ (by decide))
  have r2 : (handS σ k) 2 = σ 2 := (rw2_n _ _ (by decide)).trans (rw2_n _ _ (by decide))
  have r3 : (handS σ k) 3 = σ 3 := (rw2_n _ _ (by decide)).trans (rw2_n _ _ (by decide))
  have r4 : (handS σ k) 4 = σ 4 := (rw2_n _ _ (by decide)).trans (rw2_n _ _ (by decide))
  have r5 : (handS σ k) 5 = σ 5 := (rw2_n _ _ (by decide)).trans (rw2_n _ _ (by decide))
  have r6 : (handS σ k) 6 = σ 6 := (rw2_n _ _ (by decide)).trans (rw2_n _ _ (by decide))
  have r7 : (handS σ k) 7 = σ 7 := (rw2_n _ _ (by decide)).trans (rw2_n _ _ (by decide))
  have r9 : (handS σ k) 9 = σ 9 := (rw2_n _ _ (by decide)).trans (rw2_n _ _ (by decide))
  have r11 : (handS σ k) 11 = σ 11 := (rw2_n _ _ (by decide)).trans (rw2_n _ _ (by decide))
  have r12 : (handS σ k) 12 = σ 12 := (rw2_n _ _ (by decide)).trans (rw2_n _ _ (by decide))
  have r8 : ∀ i, (handS σ k) 8 i = if i = k then nI 1 else σ 8 i := fun i => by rw [handS, rw2_n _ _ (by decide), rw2_s, upd_e]
  have r10 : ∀ i, (handS σ k) 10 i = if i = k then σ 10 k + nI 1 else σ 10 i := fun i => by rw [handS, rw2_s, upd_e]
  refine ⟨⟨inv_F hF r0 r5 r6, fun a ha => ?_, inv_S hS r11, inv_U hU r0 r4 r5 r6 r7, fun o ho hu => ?_, inv_R hQ r0 r4, inv_D hD r0 r1 r2⟩, rel_C hC r11 r12 (fun i hi => h4 i (by omega) (by omega)), fun a ha => ?_, rel_O hE r0 r1 r2 r3 r4 r5 r6 r7 (fun i a b => h4 i b (by omega)), rel_W hW (fun o ho => h4 _ (by omega) (by omega)) (fun o f ho hf => h4 _ (by omega) (by omega))⟩
  · rw [r8, r9, szS_eq r0 r1 r3]
    obtain ⟨f1, f2⟩ := hA a ha
    refine ⟨?_, f2⟩
    split
    · exact Or.inr rfl
    · exact f1
  · rw [r0] at hu
    obtain ⟨a, z, d, q, g1, g2, g3, g4, g5, e1, e2, e3, e4, e5⟩ := hO o ho hu
    refine ⟨a, z, d, q, g1, g2, g3, g4, g5, by rw [r1]; exact e1, by rw [r2]; exact e2, by rw [r3]; exact e3, by rw [r9]; exact e4, ?_⟩
    rw [r8]
    split
    · rfl
    · exact e5
  · obtain ⟨f1, f2, f3⟩ := hB a ha
    rw [r8, r9, r10]
    by_cases e : a = k
    · subst e
      rw [if_pos rfl, if_pos rfl, h1, h2, h3, f2, f3]
      exact ⟨rfl, rfl, rfl⟩
    · rw [if_neg e, if_neg e, h4 _ (by omega) (by omega), h4 _ (by omega) (by omega), h4 _ (by omega) (by omega)]
      exact ⟨f1, f2, f3⟩
theorem szS_le {σ : Nat → Nat → Int32} (hO : InvO σ) (a : Nat) : ∀ n, n ≤ 24 → szS σ a n ≤ 16 * n
  | 0, _ => Nat.le_refl _
  | n + 1, h => by
    have := szS_le hO a n (by omega)
    rw [szS]
    split
    · rename_i c
      obtain ⟨b, z, d, q, g1, g2, g3, g4, g5, e1, e2, e3, e4, e5⟩ := hO n (by omega) c.1
      rw [e3, nI_clamp (by omega)]
      omega
    · omega
/-- a new object's cells are added to its arena's -/
theorem szS_new {σ σ' : Nat → Nat → Int32} {j k z : Nat} (hk : k < 6) (hz : z ≤ 16) (h0 : σ 0 j = nI 0) (r0 : ∀ i, σ' 0 i = if i = j then nI 1 else σ 0 i) (r1 : ∀ i, σ' 1 i = if i = j then nI k else σ 1 i) (r3 : ∀ i, σ' 3 i = if i = j then nI z else σ 3 i) (a : Nat) (ha : a < 6) : ∀ n, szS σ' a n = szS σ a n + if j < n ∧ a = k then z else 0
  | 0 => by rw [if_neg (by omega)]; rfl
  | n + 1 => by
    rw [szS, szS, szS_new hk hz h0 r0 r1 r3 a ha n, r0, r1, r3]
    by_cases e : n = j
    · subst e
      rw [if_pos rfl, if_pos rfl, if_pos rfl, h0, if_neg (show ¬ (nI 0 = nI 1 ∧ σ 1 n = nI a) from fun z => n01 z.1), if_neg (show ¬ (n < n ∧ a = k) by omega)]
      by_cases c : a = k
      · rw [if_pos (show nI 1 = nI 1 ∧ nI k = nI a from ⟨rfl, by rw [c]⟩), if_pos (show n < n + 1 ∧ a = k from ⟨by omega, c⟩), nI_clamp (by omega)]
      · rw [if_neg (show ¬ (nI 1 = nI 1 ∧ nI k = nI a) from fun y => c ((nI_eq (by omega) (by omega)).mp y.2).symm), if_neg (show ¬ (n < n + 1 ∧ a = k) by omega)]
    · rw [if_neg e, if_neg e, if_neg e]
      by_cases c : j < n ∧ a = k
      · rw [if_pos c, if_pos (show j < n + 1 ∧ a = k from ⟨by omega, c.2⟩)]; omega
      · rw [if_neg c, if_neg (show ¬ (j < n + 1 ∧ a = k) by omega)]; omega
theorem ri_add {σ : Nat → Nat → Int32} {N N' : Nat → Int32} (hR : RI σ N) {j k z : Nat} (hj : j < 24) (hk : k < 6) (hz1 : 1 ≤ z) (hz : z ≤ 16) (h0 : σ 0 j = nI 0) (ho8 : σ 8 k = nI 1) (hrm : roomB σ (nI k) (nI z) = true)
    (n0 : N' (24 + 9 * j + 0) = nI 1) (n1 : N' (24 + 9 * j + 1) = nI k) (n2 : N' (24 + 9 * j + 2) = N (6 + 3 * k + 1)) (n3 : N' (24 + 9 * j + 3) = nI z) (n4 : N' (24 + 9 * j + 4) = -1) (n5 : N' (24 + 9 * j + 5) = -1) (n6 : N' (24 + 9 * j + 6) = nI 0) (n7 : N' (24 + 9 * j + 7) = nI 0) (n8 : N' (24 + 9 * j + 8) = nI 0)
    (nm : N' (6 + 3 * k + 1) = N (6 + 3 * k + 1) + nI z) (nc : N' 2 = N 2 + nI 1) (nn : ∀ i, i < 240 → i ≠ 2 → i ≠ 6 + 3 * k + 1 → (i < 24 + 9 * j ∨ 24 + 9 * j + 8 < i) → N' i = N i) : RI (addS σ j k (nI z)) N' := by
  have hcell := hR.cell hk (show z ≤ 1000 by omega)
  obtain ⟨⟨hF, hA, hS, hU, hO, hQ, hD⟩, hC, hB, hE, hW⟩ := hR
  have r4 : (addS σ j k (nI z)) 4 = σ 4 := by rw [addS, rw2_n _ _ (by decide), rw2_n _ _ (by decide), rw2_n _ _ (by decide), rw2_n _ _ (by decide), rw2_n _ _ (by decide), rw2_n _ _ (by decide)]
  have r5 : (addS σ j k (nI z)) 5 = σ 5 := by rw [addS, rw2_n _ _ (by decide), rw2_n _ _ (by decide), rw2_n _ _ (by decide), rw2_n _ _ (by decide), rw2_n _ _ (by decide), rw2_n _ _ (by decide)]
  have r6 : (addS σ j k (nI z)) 6 = σ 6 := by rw [addS, rw2_n _ _ (by decide), rw2_n _ _ (by decide), rw2_n _ _ (by decide), rw2_n _ _ (by decide), rw2_n _ _ (by decide), rw2_n _ _ (by decide)]
  have r7 : (addS σ j k (nI z)) 7 = σ 7 := by rw [addS, rw2_n _ _ (by decide), rw2_n _ _ (by decide), rw2_n _ _ (by decide), rw2_n _ _ (by decide), rw2_n _ _ (by decide), rw2_n _ _ (by decide)]
  have r8 : (addS σ j k (nI z)) 8 = σ 8 := by rw [addS, rw2_n _ _ (by decide), rw2_n _ _ (by decide), rw2_n _ _ (by decide), rw2_n _ _ (by decide), rw2_n _ _ (by decide), rw2_n _ _ (by decide)]
  have r10 : (addS σ j k (nI z)) 10 = σ 10 := by rw [addS, rw2_n _ _ (by decide), rw2_n _ _ (by decide), rw2_n _ _ (by decide), rw2_n _ _ (by decide), rw2_n _ _ (by decide), rw2_n _ _ (by decide)]
  have r11 : (addS σ j k (nI z)) 11 = σ 11 := by rw [addS, rw2_n _ _ (by decide), rw2_n _ _ (by decide), rw2_n _ _ (by decide), rw2_n _ _ (by decide), rw2_n _ _ (by decide), rw2_n _ _ (by decide)]
  have r0 : ∀ i, (addS σ j k (nI z)) 0 i = if i = j then nI 1 else σ 0 i := fun i => by rw [addS, rw2_n _ _ (by decide), rw2_n _ _ (by decide), rw2_n _ _ (by decide), rw2_n _ _ (by decide), rw2_n _ _ (by decide), rw2_s, upd_e]
  have r1 : ∀ i, (addS σ j k (nI z)) 1 i = if i = j then nI k else σ 1 i := fun i => by rw [addS, rw2_n _ _ (by decide), rw2_n _ _ (by decide), rw2_n _ _ (by decide), rw2_n _ _ (by decide), rw2_s, upd_e]
  have r2 : ∀ i, (addS σ j k (nI z)) 2 i = if i = j then σ 9 k else σ 2 i := fun i => by rw [addS, rw2_n _ _ (by decide), rw2_n _ _ (by decide), rw2_n _ _ (by decide), rw2_s, upd_e]
  have r3 : ∀ i, (addS σ j k (nI z)) 3 i = if i = j then nI z else σ 3 i := fun i => by rw [addS, rw2_n _ _ (by decide), rw2_n _ _ (by decide), rw2_s, upd_e]
  have r9 : ∀ i, (addS σ j k (nI z)) 9 i = if i = k then σ 9 k + nI z else σ 9 i := fun i => by rw [addS, rw2_n _ _ (by decide), rw2_s, upd_e]
  have r12 : ∀ i, (addS σ j k (nI z)) 12 i = if i = 0 then σ 12 0 + nI 1 else σ 12 i := fun i => by rw [addS, rw2_s, upd_e]
  obtain ⟨o1, m, hm, e9, hsz⟩ := hA k hk
  have hfit : m + z ≤ 64 := by
    rw [hrm, (hB k hk).2.1, e9, nI_add] at hcell
    rcases Nat.lt_or_ge 64 (m + z) with c | c
    · rw [if_pos ((nI_ltI (by omega) (by omega)).mpr c)] at hcell; cases hcell
    · exact c
  have un := hU j hj h0
  have other : ∀ o, o < 24 → ∀ q, q < 9 → ¬ o = j → N' (24 + 9 * o + q) = N (24 + 9 * o + q) := fun o ho q hq e => nn _ (by omega) (by omega) (by omega) (by omega)
  refine ⟨⟨fun o ho => ?_, fun a ha => ?_, inv_S hS r11, fun o ho hu => ?_, fun o ho hu => ?_, fun o f ho hf => ?_, fun o i ho hi uo ui ea ed => ?_⟩, ?_, fun a ha => ?_, fun o ho => ?_, fun o ho => ?_, fun o f ho hf => ?_⟩
  · rw [r0, r5, r6]
    obtain ⟨f1, f2, f3⟩ := hF o ho
    split
    · exact ⟨Or.inr rfl, f2, f3⟩
    · exact ⟨f1, f2, f3⟩
  · rw [r8, r9, szS_new hk hz h0 r0 r1 r3 a ha]
    obtain ⟨f1, q, f2, f3, f4⟩ := hA a ha
    refine ⟨f1, ?_⟩
    by_cases e : a = k
    · subst e
      rw [if_pos rfl, if_pos ⟨hj, rfl⟩, e9, nI_add]
      exact ⟨m + z, hfit, rfl, by omega⟩
    · rw [if_neg e, if_neg (by omega)]
      exact ⟨q, f2, f3, by omega⟩
  · rw [r0] at hu
    split at hu
    · exact absurd hu n10
    · rw [r4, r5, r6, r7]; exact hU o ho hu
  · rw [r0] at hu
    by_cases e : o = j
    · subst e
      exact ⟨k, z, m, m + z, hk, hz1, hz, Nat.le_refl _, hfit, by rw [r1, if_pos rfl], by rw [r2, if_pos rfl, e9], by rw [r3, if_pos rfl], by rw [r9, if_pos rfl, e9, nI_add], by rw [r8]; exact ho8⟩
    · rw [if_neg e] at hu
      obtain ⟨a, y, d, q, g1, g2, g3, g4, g5, e1, e2, e3, e4, e5⟩ := hO o ho hu
      by_cases c : a = k
      · subst c
        have : q = m := (nI_eq (by omega) (by omega)).mp (e4.symm.trans e9)
        exact ⟨a, y, d, m + z, g1, g2, g3, by omega, hfit, by rw [r1, if_neg e, e1], by rw [r2, if_neg e, e2], by rw [r3, if_neg e, e3], by rw [r9, if_pos rfl, e9, nI_add], by rw [r8, e5]⟩
      · exact ⟨a, y, d, q, g1, g2, g3, g4, g5, by rw [r1, if_neg e, e1], by rw [r2, if_neg e, e2], by rw [r3, if_neg e, e3], by rw [r9, if_neg c, e4], by rw [r8, e5]⟩
  · rw [r4]
    rcases hQ o f ho hf with e | ⟨i, hi, e, u⟩
    · exact Or.inl e
    · refine Or.inr ⟨i, hi, e, ?_⟩
      rw [r0]
      split
      · rfl
      · exact u
  · have old : ∀ o, o < 24 → ¬ o = j → σ 0 o = nI 1 → σ 1 o = nI k → σ 2 o ≠ σ 9 k := fun o ho e hu hk2 he => by
      obtain ⟨a, y, d, q, g1, g2, g3, g4, g5, e1, e2, e3, e4, e5⟩ := hO o ho hu
      have : a = k := (nI_eq (by omega) (by omega)).mp (e1.symm.trans hk2)
      subst this
      have h1 : q = m := (nI_eq (by omega) (by omega)).mp (e4.symm.trans e9)
      have h2 : d = m := (nI_eq (by omega) (by omega)).mp (e2.symm.trans (he.trans e9))
      omega
    rw [r0] at uo ui
    rw [r1, r1] at ea
    rw [r2, r2] at ed
    by_cases c1 : o = j <;> by_cases c2 : i = j
    · rw [c1, c2]
    · rw [if_pos c1, if_neg c2] at ea ed
      rw [if_neg c2] at ui
      exact absurd ed.symm (old i hi c2 ui ea.symm)
    · rw [if_neg c1, if_pos c2] at ea ed
      rw [if_neg c1] at uo
      exact absurd ed (old o ho c1 uo ea)
    · rw [if_neg c1, if_neg c2] at ea ed
      rw [if_neg c1] at uo
      rw [if_neg c2] at ui
      exact hD o i ho hi uo ui ea ed
  · obtain ⟨c0, c1, c2, c3, c4, c5⟩ := hC
    rw [RelC, r11, r12, r12, r12, r12, if_pos rfl, if_neg (by decide), if_neg (by decide), if_neg (by decide), nc, nn 0 (by decide) (by decide) (by omega) (by omega), nn 1 (by decide) (by decide) (by omega) (by omega), nn 3 (by decide) (by decide) (by omega) (by omega), nn 4 (by decide) (by decide) (by omega) (by omega), nn 5 (by decide) (by decide) (by omega) (by omega), c2]
    exact ⟨c0, c1, rfl, c3, c4, c5⟩
  · obtain ⟨f1, f2, f3⟩ := hB a ha
    rw [r8, r9, r10, nn (6 + 3 * a) (by omega) (by omega) (by omega) (by omega), nn (6 + 3 * a + 2) (by omega) (by omega) (by omega) (by omega)]
    by_cases e : a = k
    · subst e
      rw [if_pos rfl, nm, f2]
      exact ⟨f1, rfl, f3⟩
    · rw [if_neg e, nn (6 + 3 * a + 1) (by omega) (by omega) (by omega) (by omega)]
      exact ⟨f1, f2, f3⟩
  · rw [r0, r1, r2, r3, r4, r5, r6, r7]
    by_cases e : o = j
    · subst e
      rw [if_pos rfl, if_pos rfl, if_pos rfl, if_pos rfl, n0, n1, n2, n3, n4, n5, n6, n7, n8, (hB k hk).2.1, un.1, un.2.1, un.2.2.1, un.2.2.2.1, un.2.2.2.2]
      exact ⟨rfl, fun _ => ⟨rfl, rfl, rfl, rfl, rfl, rfl, rfl, rfl⟩⟩
    · rw [if_neg e, if_neg e, if_neg e, if_neg e, other o ho 0 (by decide) e, other o ho 1 (by decide) e, other o ho 2 (by decide) e, other o ho 3 (by decide) e, other o ho 4 (by decide) e, other o ho 5 (by decide) e, other o ho 6 (by decide) e, other o ho 7 (by decide) e, other o ho 8 (by decide) e]
      exact hE o ho
  · by_cases e : o = j
    · subst e; exact ⟨k, hk, n1⟩
    · rw [other o ho 1 (by decide) e]; exact hW.1 o ho
  · by_cases e : o = j
    · subst e
      rcases (show f = 0 ∨ f = 1 by omega) with c | c <;> subst c
      · exact Or.inl n4
      · exact Or.inl n5
    · rw [other o ho (4 + f) (by omega) e]; exact hW.2 o f ho hf
