/-! what looks show of such a state: arenas -/
section AR
variable {B : Nat} {σ : Nat → Nat → Int32}
theorem in_cases (h : Inv σ) {k : Nat} (hk : k < 24) (a : Nat) : (isInB σ (nI k) (nI a) = true ∧ σ 0 k = nI 1 ∧ σ 1 k = nI a) ∨ (isInB σ (nI k) (nI a) = false ∧ ¬ (σ 0 k = nI 1 ∧ σ 1 k = nI a)) := by
  rcases c : isInB σ (nI k) (nI a) with _ | _
  · exact Or.inr ⟨rfl, fun z => by rw [us_in hk z.1 z.2] at c; cases c⟩
  · exact Or.inl ⟨rfl, in_us h hk c⟩
theorem sz_y (h : Inv σ) {k a : Nat} (hk : k < 24) (hi : isInB σ (nI k) (nI a) = true) : nI (szS σ a k) + σ 3 k = nI (szS σ a (k + 1)) := by
  obtain ⟨u1, u2⟩ := in_us h hk hi
  obtain ⟨c, z, d, q, g1, g2, g3, g4, g5, e1, e2, e3, -⟩ := ob_n h hk u1
  rw [szS, if_pos ⟨u1, u2⟩, e3, nI_add, nI_clamp (by omega)]
theorem sz_n (h : Inv σ) {k a : Nat} (hk : k < 24) (hi : isInB σ (nI k) (nI a) = false) : szS σ a (k + 1) = szS σ a k := by
  rw [szS, if_neg (fun z => by rw [us_in hk z.1 z.2] at hi; cases hi), Nat.add_zero]
theorem op8 {k a : Nat} (hk : k < 24) (e : σ 1 k = nI a) : opC σ k 8 = bI (plB (suC σ (nI a)) k) := by
  show bI (metB (suC σ (σ 1 k)) (nI k)) = _
  rw [e, met_pl _ hk]
theorem bI1 {b : Bool} : bI b = nI 1 ↔ b = true := by cases b <;> decide
theorem bI0 {b : Bool} : bI b = nI 0 ↔ b = false := by cases b <;> decide
theorem st_y {k a : Nat} (hk : k < 24) (e : plB (suC σ (nI a)) k = true) : cellsL σ (suC σ (nI a)) k + σ 3 k = cellsL σ (suC σ (nI a)) (k + 1) := cell_t hk e
theorem st_n {k a : Nat} (hk : k < 24) (e : plB (suC σ (nI a)) k = false) : cellsL σ (suC σ (nI a)) k + nI 0 = cellsL σ (suC σ (nI a)) (k + 1) := cell_f hk e
theorem su_no (h : Inv σ) {k a : Nat} (hk : k < 24) (ha : a < 6) (hi : isInB σ (nI k) (nI a) = false) : plB (suC σ (nI a)) k = false := by
  rcases hp : plB (suC σ (nI a)) k with _ | _
  · rfl
  · rw [su_in h.2.2.2.2.2.1 (nI_ne (by omega)) k hk hp] at hi; cases hi
theorem kp_is {k a : Nat} (hk : k < 24) : kpP σ (nI a) k = if plB (suC σ (nI a)) k = false then false else nz (σ 6 k) := by rw [kpP, met_pl _ hk]
theorem kp_s (P : Nat → Bool) {k : Nat} {b : Bool} (h : b = true ∨ (b = anyB P k ∧ P k = false) ) (h2 : b = anyB P k ∨ P k = true) : b = anyB P (k + 1) := by
  rw [any_s]
  rcases h with h | ⟨h, hp⟩
  · subst h
    rcases h2 with h2 | h2
    · rw [← h2, if_pos rfl]
    · rw [h2]; split <;> rfl
  · rw [hp, ← h]
    cases b <;> rfl
theorem ar0 {a : Nat} (ha : a < 6) : apC σ a 0 = bI (nz (σ 8 a)) := by
  show bI (isOpB σ (nI a)) = _
  rw [isOp_nz σ ha]
theorem no_in (h : Inv σ) {a : Nat} (ha : a < 6) (h8 : ¬ σ 8 a = nI 1) {k : Nat} (hk : k < 24) : isInB σ (nI k) (nI a) = false := by
  rcases c : isInB σ (nI k) (nI a) with _ | _
  · rfl
  · obtain ⟨u1, u2⟩ := in_us h hk c
    obtain ⟨b, z, d, q, g1, g2, g3, g4, g5, e1, e2, e3, e4, e5⟩ := ob_n h hk u1
    have : b = a := (nI_eq (by omega) (by omega)).mp (e1.symm.trans u2)
    subst this
    exact absurd e5 h8
theorem ar_shut (h : JJ B σ) {a m : Nat} (ha : a < 6) (hm : m = 24) (h0 : ¬ apC σ a 0 = nI 1) : apC σ a 1 = nI 0 ∧ cn (fun o => isInB σ (nI o) (nI a)) m = 0 := by
  have h8 : ¬ σ 8 a = nI 1 := fun e => h0 (by rw [ar0 ha, e]; rfl)
  have hn : ∀ k, k < 24 → isInB σ (nI k) (nI a) = false := fun k hk => no_in h.1 ha h8 hk
  refine ⟨?_, cn_0 m (fun j hj => hn j (by omega))⟩
  show σ 9 a = nI 0
  rw [h.2.1 a ha (by omega), szS_none 24 (fun j hj z => by have := hn j hj; rw [us_in hj z.1 z.2] at this; cases this)]
theorem ar_le (h : Inv σ) {a : Nat} (ha : a < 6) : apC σ a 1 ≤ nI 64 := by
  obtain ⟨-, q, hq, e, -⟩ := h.2.1 a ha
  show σ 9 a ≤ nI 64
  rw [e]
  exact (nI_leI (by omega) (by decide)).mpr hq
theorem ar_op (h : JJ B σ) (hB : B < 1000000) {a : Nat} (ha : a < 6) : ¬ apC σ a 7 < apC σ a 0 := by
  obtain ⟨P, p1, p2, p3⟩ := h.2.2.2.2.2 a ha
  rw [ar0 ha]
  show ¬ σ 10 a < _
  rw [p2]
  rcases (h.1.2.1 a ha).1 with e | e
  · rw [e]; exact fun z => by have := (nI_ltI (by omega) (show 0 < 2 ^ 31 by decide)).mp z; omega
  · rw [e]; exact fun z => by have := (nI_ltI (by omega) (show 1 < 2 ^ 31 by decide)).mp z; have := p3 e; omega
theorem bst : ∀ n, n ≤ 6 → (bsO σ n).1 = -1 ∨ ∃ a, a < 6 ∧ (bsO σ n).1 = nI a ∧ apC σ a 0 = nI 1 ∧ apC σ a 6 = nI 0
  | 0, _ => Or.inl rfl
  | n + 1, hn => by
    have ih := bst n (by omega)
    rcases c : anyB (cgB σ n) 6 with _ | _
    · rw [bs_f c]; exact ih
    · rw [bs_t c, bsD]
      split
      · exact ih
      · refine Or.inr ⟨n, by omega, rfl, ?_⟩
        obtain ⟨i, hi, ci⟩ := anyB_ex c
        rw [cgB] at ci
        split at ci
        · rename_i e0
          rw [rs_eq] at e0
          split at e0
          · exact absurd e0 (by decide)
          · split at e0
            · exact absurd e0 (by decide)
            · rename_i c1
              split at e0
              · exact absurd e0 (by decide)
              · split at e0
                · exact absurd e0 (by decide)
                · rename_i c2 c3
                  refine ⟨?_, ?_⟩
                  · show bI (isOpB σ (nI n)) = nI 1
                    exact bI1.mpr (by cases hb : isOpB σ (nI n) <;> simp_all)
                  · show bI (keptB σ (suC σ (nI n))) = nI 0
                    exact bI0.mpr (by cases hb : keptB σ (suC σ (nI n)) <;> simp_all)
        · cases ci
end AR
