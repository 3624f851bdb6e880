/-! The model: an arena is freed -/
theorem goS_0 (σ : Nat → Nat → Int32) : goS σ (nI 0) = σ := by
  funext r i
  rw [goS, rw2_e]
  split
  · rename_i e
    rw [e, upd_e]
    split
    · rename_i c; rw [c, add_0]
    · rfl
  · rfl
theorem goS_in (s : Nat → Nat → Int32) (q x a : Int32) : isInB (goS s q) x a = isInB s x a := rfl
theorem fr_none {σ : Nat → Nat → Int32} {a : Int32} : ∀ n, n ≤ 24 → ∀ j, j < n → isInB (freeL σ a n).1 (nI j) a = false
  | 0, _, j, hj => by omega
  | n + 1, hn, j, hj => by
    rw [freeL]
    rcases c : isInB (freeL σ a n).1 (nI n) a with _ | _
    · rw [if_neg (by decide)]
      by_cases e : j = n
      · rw [e]; exact c
      · exact fr_none n (by omega) j (by omega)
    · rw [if_pos rfl]
      show isInB (dropL (freeL σ a n).1 n 24) (nI j) a = false
      rw [isIn_nI _ (by omega), dr_fl _ _ 0 (Or.inl rfl), dr_n _ _ 1 (by decide) (by decide) (by decide) (by decide) (by decide)]
      by_cases e : j = n
      · rw [if_pos e, if_pos rfl]
      · rw [if_neg e, ← isIn_nI _ (show j < 24 by omega)]
        exact fr_none n (by omega) j (by omega)
theorem szS_none {s : Nat → Nat → Int32} {a : Nat} : ∀ n, (∀ j, j < n → ¬ (s 0 j = nI 1 ∧ s 1 j = nI a)) → szS s a n = 0
  | 0, _ => rfl
  | n + 1, h => by rw [szS, szS_none n (fun j hj => h j (by omega)), if_neg (h n (by omega))]
theorem ri_fin {r : (Nat → Nat → Int32) × Int32} {N N' : Nat → Int32} {a : Nat} (hR : RI (goS r.1 r.2) N) (ha : a < 6) (hno : ∀ j, j < 24 → isInB r.1 (nI j) (nI a) = false) (h0 : N' (6 + 3 * a) = nI 0) (h1 : N' (6 + 3 * a + 1) = nI 0) (h5 : N' 5 = N 5 + nI 1) (hn : ∀ i, i < 240 → i ≠ 5 → i ≠ 6 + 3 * a → i ≠ 6 + 3 * a + 1 → N' i = N i) : RI (freeF r a) N' := by
  obtain ⟨⟨hF, hA, hS, hU, hO, hQ, hD⟩, hC, hB, hE, hW⟩ := hR
  have k : ∀ q, q ≠ 8 → q ≠ 9 → q ≠ 12 → freeF r a q = goS r.1 r.2 q := fun q a b c => by rw [freeF, rw2_n _ _ c, rw2_n _ _ c, rw2_n _ _ b, rw2_n _ _ a, goS, rw2_n _ _ c]
  have r0 := k 0 (by decide) (by decide) (by decide)
  have r1 := k 1 (by decide) (by decide) (by decide)
  have r2 := k 2 (by decide) (by decide) (by decide)
  have r3 := k 3 (by decide) (by decide) (by decide)
  have r4 := k 4 (by decide) (by decide) (by decide)
  have r5 := k 5 (by decide) (by decide) (by decide)
  have r6 := k 6 (by decide) (by decide) (by decide)
  have r7 := k 7 (by decide) (by decide) (by decide)
  have r10 := k 10 (by decide) (by decide) (by decide)
  have r11 := k 11 (by decide) (by decide) (by decide)
  have r8 : ∀ i, freeF r a 8 i = if i = a then nI 0 else goS r.1 r.2 8 i := fun i => by rw [freeF, rw2_n _ _ (by decide), rw2_n _ _ (by decide), rw2_n _ _ (by decide), rw2_s, upd_e]; rfl
  have r9 : ∀ i, freeF r a 9 i = if i = a then nI 0 else goS r.1 r.2 9 i := fun i => by rw [freeF, rw2_n _ _ (by decide), rw2_n _ _ (by decide), rw2_s, upd_e]; rfl
  have r12 : ∀ i, freeF r a 12 i = if i = 3 then goS r.1 r.2 12 3 + nI 1 else goS r.1 r.2 12 i := fun i => by
    rw [freeF, rw2_s, goS, rw2_s, upd_e, upd_e (r.1 12) 2 3, if_neg (show ¬ 3 = 2 by decide)]
  have no : ∀ j, j < 24 → ¬ (goS r.1 r.2 0 j = nI 1 ∧ goS r.1 r.2 1 j = nI a) := fun j hj z => by
    have := hno j hj
    rw [← goS_in r.1 r.2, isIn_nI _ hj, z.1, if_neg n10, if_pos z.2] at this
    cases this
  refine ⟨⟨inv_F hF r0 r5 r6, fun b hb => ?_, inv_S hS r11, inv_U hU r0 r4 r5 r6 r7, fun o ho h1 => ?_, inv_R hQ r0 r4, inv_D hD r0 r1 r2⟩, ?_, fun b hb => ?_, rel_O hE r0 r1 r2 r3 r4 r5 r6 r7 (fun i b c => hn i c (by omega) (by omega) (by omega)), rel_W hW (fun o ho => hn _ (by omega) (by omega) (by omega) (by omega)) (fun o f ho hf => hn _ (by omega) (by omega) (by omega) (by omega))⟩
  · rw [r8, r9, szS_eq r0 r1 r3]
    by_cases e : b = a
    · subst e
      rw [if_pos rfl, if_pos rfl, szS_none 24 no]
      exact ⟨Or.inl rfl, 0, by omega, rfl, Nat.le_refl _⟩
    · rw [if_neg e, if_neg e]; exact hA b hb
  · rw [r0] at h1
    obtain ⟨b, z, d, q, g1, g2, g3, g4, g5, e1, e2, e3, e4, e5⟩ := hO o ho h1
    have e : ¬ b = a := fun z => no o ho ⟨h1, by rw [e1, z]⟩
    exact ⟨b, z, d, q, g1, g2, g3, g4, g5, by rw [r1, e1], by rw [r2, e2], by rw [r3, e3], by rw [r9, if_neg e, e4], by rw [r8, if_neg e, e5]⟩
  · obtain ⟨c0, c1, c2, c3, c4, c5⟩ := hC
    rw [RelC, r11, r12, r12, r12, r12, if_neg (by decide), if_neg (by decide), if_neg (by decide), if_pos rfl, h5, hn 0 (by omega) (by decide) (by omega) (by omega), hn 1 (by omega) (by decide) (by omega) (by omega), hn 2 (by omega) (by decide) (by omega) (by omega), hn 3 (by omega) (by decide) (by omega) (by omega), hn 4 (by omega) (by decide) (by omega) (by omega), c5]
    exact ⟨c0, c1, c2, c3, c4, rfl⟩
  · obtain ⟨f1, f2, f3⟩ := hB b hb
    rw [r8, r9, r10, hn (6 + 3 * b + 2) (by omega) (by omega) (by omega) (by omega)]
    by_cases e : b = a
    · subst e
      rw [if_pos rfl, if_pos rfl, h0, h1]
      exact ⟨rfl, rfl, f3⟩
    · rw [if_neg e, if_neg e, hn (6 + 3 * b) (by omega) (by omega) (by omega) (by omega), hn (6 + 3 * b + 1) (by omega) (by omega) (by omega) (by omega)]
      exact ⟨f1, f2, f3⟩
theorem fr_f {σ : Nat → Nat → Int32} {a : Int32} {o : Nat} (h : isInB (goS (freeL σ a o).1 (freeL σ a o).2) (nI o) a = false) : freeL σ a (o + 1) = freeL σ a o := by
  rw [goS_in] at h
  rw [freeL, if_neg (by rw [h]; decide)]
theorem fr_t {σ : Nat → Nat → Int32} {a : Int32} {o : Nat} (h : isInB (goS (freeL σ a o).1 (freeL σ a o).2) (nI o) a = true) : freeL σ a (o + 1) = (dropL (freeL σ a o).1 o 24, (freeL σ a o).2 + 1) := by
  rw [goS_in] at h
  rw [freeL, if_pos h]
theorem cells_0 {σ : Nat → Nat → Int32} {N : Nat → Int32} (hR : RI σ N) {a : Int32} (ha : a ≠ -1) : cellsL σ (suC σ a) 24 ≤ 0 ↔ suC σ a 3 0 ≤ 0 := by
  obtain ⟨⟨q, hq⟩, -⟩ := su_clo hR.1.2.2.2.2.2.1 ha
  have key : ∀ n, n ≤ 24 → ∃ z, cellsL σ (suC σ a) n = nI z ∧ z ≤ 16 * n ∧ (z = 0 ↔ cn (plB (suC σ a)) n = 0) := by
    intro n
    induction n with
    | zero => intro _; exact ⟨0, rfl, by omega, by rw [cn]⟩
    | succ n ih =>
      intro hn
      obtain ⟨z, e, hz, hi⟩ := ih (by omega)
      rcases hp : plB (suC σ a) n with _ | _
      · exact ⟨z, by rw [← cell_f (by omega) hp, e, add_0], by omega, by rw [cn, hp, if_neg (by decide), hi]; omega⟩
      · obtain ⟨k, y, d, t, h1, h2, h3, h4, h5, e1, e2, e3, e4, e5⟩ := hR.1.2.2.2.2.1 n (by omega) (su_use hR ha (by omega) hp).1
        exact ⟨z + y, by rw [← cell_t (by omega) hp, e, e3, nI_add], by omega, by rw [cn, hp, if_pos rfl]; omega⟩
  obtain ⟨z, e, hz, hi⟩ := key 24 (Nat.le_refl _)
  have h24 := hq.1
  rw [e, hq.2.1, le0 (by omega), le0 (by omega), hi, hq.2.2.2.2]
def cloO (σ : Nat → Nat → Int32) (x : Int32) : OC := if isArB x = false then .inr iOE else if isOpB σ x = false then .inr iSE else if suC σ x 3 0 ≤ 0 then rI (freeL σ x 24).2 else .inr iSE
