/-! The model: objects that are gone -/
def GO (μ μ2 : Nat → Nat → Int32) (o q : Nat) : Prop := (∀ j, j ≠ 0 → μ2 j = μ j) ∧ μ2 0 (24 + 9 * o + 0) = nI 0 ∧ μ2 0 4 = μ 0 4 + nI 1 ∧ (∀ i, i < 240 → i ≠ 4 → i ≠ 24 + 9 * o → (∀ y f, y < 24 → f < 2 → i ≠ 24 + 9 * y + (4 + f)) → μ2 0 i = μ 0 i) ∧ ∀ y f, y < 24 → f < 2 → μ2 0 (24 + 9 * y + (4 + f)) = if 2 * y + f < q ∧ μ 0 (24 + 9 * y + (4 + f)) = nI o then -1 else μ 0 (24 + 9 * y + (4 + f))
theorem go_0 (μ : Nat → Nat → Int32) {o : Nat} (ho : o < 24) : GO μ (rw2 μ 0 (upd (upd (μ 0) (24 + 9 * o) (nI 0)) 4 (upd (μ 0) (24 + 9 * o) (nI 0) 4 + nI 1))) o 0 := by
  refine ⟨fun j hj => rw2_n _ _ hj, ?_, ?_, fun i hi h4 h0 hf => ?_, fun y f hy hf => ?_⟩
  · rw [rw2_s, upd_e, if_neg (by omega), upd_e, if_pos (by omega)]
  · rw [rw2_s, upd_e, if_pos rfl, upd_e, if_neg (by omega)]
  · rw [rw2_s, upd_e, if_neg h4, upd_e, if_neg h0]
  · rw [rw2_s, upd_e, if_neg (by omega), upd_e, if_neg (by omega), if_neg (by omega)]
theorem go_at {μ μ2 : Nat → Nat → Int32} {o y f : Nat} (h : GO μ μ2 o (2 * y + f)) (hy : y < 24) (hf : f < 2) : μ2 0 (24 + 9 * y + (4 + f)) = μ 0 (24 + 9 * y + (4 + f)) := by
  rw [h.2.2.2.2 y f hy hf, if_neg (by omega)]
theorem go_n {μ μ2 : Nat → Nat → Int32} {o y f : Nat} (h : GO μ μ2 o (2 * y + f)) (hy : y < 24) (hf : f < 2) (hn : ¬ μ2 0 (24 + 9 * y + (4 + f)) = nI o) : GO μ μ2 o (2 * y + (f + 1)) := by
  refine ⟨h.1, h.2.1, h.2.2.1, h.2.2.2.1, fun z g hz hg => ?_⟩
  rw [h.2.2.2.2 z g hz hg]
  by_cases e : 2 * z + g = 2 * y + f
  · have e1 : z = y := by omega
    have e2 : g = f := by omega
    subst e1
    subst e2
    rw [go_at h hz hg] at hn
    rw [if_neg (by omega), if_neg (fun q => hn q.2)]
  · by_cases c : 2 * z + g < 2 * y + f ∧ μ 0 (24 + 9 * z + (4 + g)) = nI o
    · rw [if_pos c, if_pos ⟨by omega, c.2⟩]
    · rw [if_neg c, if_neg (fun q => c ⟨by omega, q.2⟩)]
theorem go_y {μ μ2 : Nat → Nat → Int32} {o y f : Nat} (h : GO μ μ2 o (2 * y + f)) (ho : o < 24) (hy : y < 24) (hf : f < 2) (hn : μ2 0 (24 + 9 * y + (4 + f)) = nI o) : GO μ (rw2 μ2 0 (upd (μ2 0) (24 + 9 * y + (4 + f)) (-1))) o (2 * y + (f + 1)) := by
  refine ⟨fun j hj => (rw2_n _ _ hj).trans (h.1 j hj), by rw [rw2_s, upd_e, if_neg (by omega)]; exact h.2.1, by rw [rw2_s, upd_e, if_neg (by omega)]; exact h.2.2.1, fun i hi h4 h0 hk => by rw [rw2_s, upd_e, if_neg (hk y f hy hf)]; exact h.2.2.2.1 i hi h4 h0 hk, fun z g hz hg => ?_⟩
  rw [rw2_s, upd_e]
  by_cases e : 24 + 9 * z + (4 + g) = 24 + 9 * y + (4 + f)
  · have e1 : z = y := by omega
    have e2 : g = f := by omega
    subst e1
    subst e2
    rw [go_at h hz hg] at hn
    rw [if_pos rfl, if_pos ⟨by omega, hn⟩]
  · rw [if_neg e, h.2.2.2.2 z g hz hg]
    by_cases c : 2 * z + g < 2 * y + f ∧ μ 0 (24 + 9 * z + (4 + g)) = nI o
    · rw [if_pos c, if_pos ⟨by omega, c.2⟩]
    · rw [if_neg c, if_neg (fun q => c ⟨by omega, q.2⟩)]
section DRP
variable {σ : Nat → Nat → Int32} {j : Nat}
theorem dr_F (σ : Nat → Nat → Int32) (j h f r : Nat) (hr : r ≠ 4) : dropF σ j h f r = σ r := by
  rw [dropF]
  split
  · exact rw2_n _ _ hr
  · split
    · exact rw2_n _ _ hr
    · rfl
theorem dr_o (σ : Nat → Nat → Int32) (j r : Nat) (hr : r ≠ 4) : ∀ n, dropL σ j n r = dropL σ j 0 r
  | 0 => rfl
  | n + 1 => by
    show dropF (dropF (dropL σ j n) j n 0) j n 1 r = dropL σ j 0 r
    rw [dr_F _ _ _ _ _ hr, dr_F _ _ _ _ _ hr, dr_o σ j r hr n]
theorem dr_4F {s : Nat → Nat → Int32} {j h f : Nat} (hh : h < 24) (hf : f < 2) : ∀ i, dropF s j h f 4 i = if i = h * 2 + f ∧ (h = j ∨ s 4 (h * 2 + f) = nI j) then -1 else s 4 i := fun i => by
  rw [dropF, ref_nI s hh hf]
  by_cases e : h = j
  · rw [if_pos e, rfS, rw2_s, upd_e]
    by_cases c : i = h * 2 + f
    · rw [if_pos c, if_pos ⟨c, Or.inl e⟩]
    · rw [if_neg c, if_neg (fun q => c q.1)]
  · rw [if_neg e]
    by_cases e2 : s 4 (h * 2 + f) = nI j
    · rw [if_pos e2, rfS, rw2_s, upd_e]
      by_cases c : i = h * 2 + f
      · rw [if_pos c, if_pos ⟨c, Or.inr e2⟩]
      · rw [if_neg c, if_neg (fun q => c q.1)]
    · rw [if_neg e2, if_neg (fun q => q.2.elim e e2)]
theorem dr_4 (σ : Nat → Nat → Int32) (j : Nat) : ∀ n, n ≤ 24 → ∀ y f, y < 24 → f < 2 → dropL σ j n 4 (y * 2 + f) = if y < n ∧ (y = j ∨ σ 4 (y * 2 + f) = nI j) then -1 else σ 4 (y * 2 + f)
  | 0, _, y, f, hy, hf => by
    rw [if_neg (by omega), dropL, rw2_n _ _ (by decide), rw2_n _ _ (by decide), rw2_n _ _ (by decide), rw2_n _ _ (by decide)]
  | n + 1, hn, y, f, hy, hf => by
    rw [dropL, dr_4F (by omega) (by decide), dr_4F (by omega) (by decide), dr_4F (by omega) (by decide)]
    by_cases e : y = n
    · subst e
      have d0 := dr_4 σ j y (by omega) y 0 hy (by decide)
      have d1 := dr_4 σ j y (by omega) y 1 hy (by decide)
      rw [if_neg (by omega)] at d0 d1
      rw [if_neg (show ¬ (y * 2 + 1 = y * 2 + 0 ∧ _) by omega), d0, d1]
      rcases (show f = 0 ∨ f = 1 by omega) with g | g <;> subst g
      · rw [if_neg (show ¬ (y * 2 + 0 = y * 2 + 1 ∧ _) by omega), d0]
        by_cases c : y = j ∨ σ 4 (y * 2 + 0) = nI j
        · rw [if_pos ⟨rfl, c⟩, if_pos ⟨by omega, c⟩]
        · rw [if_neg (fun q => c q.2), if_neg (fun q => c q.2)]
      · rw [if_neg (show ¬ (y * 2 + 1 = y * 2 + 0 ∧ _) by omega), d1]
        by_cases c : y = j ∨ σ 4 (y * 2 + 1) = nI j
        · rw [if_pos ⟨rfl, c⟩, if_pos ⟨by omega, c⟩]
        · rw [if_neg (fun q => c q.2), if_neg (fun q => c q.2)]
    · rw [if_neg (show ¬ (y * 2 + f = n * 2 + 1 ∧ _) from fun q => by omega), if_neg (show ¬ (y * 2 + f = n * 2 + 0 ∧ _) from fun q => by omega), dr_4 σ j n (by omega) y f hy hf]
      by_cases c : y = j ∨ σ 4 (y * 2 + f) = nI j
      · by_cases l : y < n
        · rw [if_pos ⟨l, c⟩, if_pos ⟨by omega, c⟩]
        · rw [if_neg (fun q => l q.1), if_neg (fun q => by omega)]
      · rw [if_neg (fun q => c q.2), if_neg (fun q => c q.2)]
theorem dr_fl (σ : Nat → Nat → Int32) (j r : Nat) (hr : r = 0 ∨ r = 5 ∨ r = 6 ∨ r = 7) (i : Nat) : dropL σ j 24 r i = if i = j then nI 0 else σ r i := by
  rw [dr_o σ j r (by omega), dropL]
  rcases hr with e | e | e | e <;> subst e
  · rw [rw2_n _ _ (by decide), rw2_n _ _ (by decide), rw2_n _ _ (by decide), rw2_s, upd_e]
  · rw [rw2_n _ _ (by decide), rw2_n _ _ (by decide), rw2_s, upd_e]
  · rw [rw2_n _ _ (by decide), rw2_s, upd_e]
  · rw [rw2_s, upd_e]
theorem dr_n (σ : Nat → Nat → Int32) (j r : Nat) (h0 : r ≠ 0) (h4 : r ≠ 4) (h5 : r ≠ 5) (h6 : r ≠ 6) (h7 : r ≠ 7) : dropL σ j 24 r = σ r := by
  rw [dr_o σ j r h4, dropL, rw2_n _ _ h7, rw2_n _ _ h6, rw2_n _ _ h5, rw2_n _ _ h0]
end DRP
def goS (σ : Nat → Nat → Int32) (q : Int32) : Nat → Nat → Int32 := rw2 σ 12 (upd (σ 12) 2 (σ 12 2 + q))
theorem szS_drop {σ σ' : Nat → Nat → Int32} {j : Nat} (r0 : ∀ i, σ' 0 i = if i = j then nI 0 else σ 0 i) (r1 : σ' 1 = σ 1) (r3 : σ' 3 = σ 3) (a : Nat) : ∀ n, szS σ' a n ≤ szS σ a n
  | 0 => Nat.le_refl _
  | n + 1 => by
    have := szS_drop r0 r1 r3 a n
    rw [szS, szS, r0, r1, r3]
    by_cases e : n = j
    · rw [if_pos e, if_neg (show ¬ (nI 0 = nI 1 ∧ σ 1 n = nI a) from fun q => n01 q.1)]; omega
    · rw [if_neg e]; omega
theorem ri_drop {s μ μ' : Nat → Nat → Int32} {q : Int32} (hR : RI (goS s q) (μ 0)) {j : Nat} (hj : j < 24) (hu : s 0 j = nI 1) (hG : GO μ μ' j 48) : RI (goS (dropL s j 24) (q + 1)) (μ' 0) := by
  obtain ⟨⟨hF, hA, hS, hU, hO, hQ, hD⟩, hC, hB, hE, hW⟩ := hR
  obtain ⟨g1, g2, g3, g4, g5⟩ := hG
  have G : ∀ r, r ≠ 12 → goS s q r = s r := fun r hr => rw2_n _ _ hr
  have G' : ∀ r, r ≠ 12 → goS (dropL s j 24) (q + 1) r = dropL s j 24 r := fun r hr => rw2_n _ _ hr
  have k : ∀ r, r ≠ 0 → r ≠ 4 → r ≠ 5 → r ≠ 6 → r ≠ 7 → r ≠ 12 → goS (dropL s j 24) (q + 1) r = goS s q r := fun r a b c d e f => by rw [G' r f, G r f, dr_n s j r a b c d e]
  have f : ∀ r, (r = 0 ∨ r = 5 ∨ r = 6 ∨ r = 7) → ∀ i, goS (dropL s j 24) (q + 1) r i = if i = j then nI 0 else goS s q r i := fun r hr i => by rw [G' r (by omega), G r (by omega), dr_fl s j r hr]
  have r4 : ∀ y f, y < 24 → f < 2 → goS (dropL s j 24) (q + 1) 4 (y * 2 + f) = if y = j ∨ goS s q 4 (y * 2 + f) = nI j then -1 else goS s q 4 (y * 2 + f) := fun y f hy hf => by
    rw [G' 4 (by decide), G 4 (by decide), dr_4 s j 24 (Nat.le_refl _) y f hy hf]
    by_cases c : y = j ∨ s 4 (y * 2 + f) = nI j
    · rw [if_pos ⟨hy, c⟩, if_pos c]
    · rw [if_neg (fun q => c q.2), if_neg c]
  have r1 := k 1 (by decide) (by decide) (by decide) (by decide) (by decide) (by decide)
  have r2 := k 2 (by decide) (by decide) (by decide) (by decide) (by decide) (by decide)
  have r3 := k 3 (by decide) (by decide) (by decide) (by decide) (by decide) (by decide)
  have r8 := k 8 (by decide) (by decide) (by decide) (by decide) (by decide) (by decide)
  have r9 := k 9 (by decide) (by decide) (by decide) (by decide) (by decide) (by decide)
  have r10 := k 10 (by decide) (by decide) (by decide) (by decide) (by decide) (by decide)
  have r11 := k 11 (by decide) (by decide) (by decide) (by decide) (by decide) (by decide)
  have r0 := f 0 (Or.inl rfl)
  have r5 := f 5 (Or.inr (Or.inl rfl))
  have r6 := f 6 (Or.inr (Or.inr (Or.inl rfl)))
  have r7 := f 7 (Or.inr (Or.inr (Or.inr rfl)))
  have r12 : ∀ i, goS (dropL s j 24) (q + 1) 12 i = if i = 2 then s 12 2 + q + 1 else s 12 i := fun i => by
    rw [goS, rw2_s, upd_e, dr_n s j 12 (by decide) (by decide) (by decide) (by decide) (by decide), Int32.add_assoc]
  have o12 : ∀ i, goS s q 12 i = if i = 2 then s 12 2 + q else s 12 i := fun i => by rw [goS, rw2_s, upd_e]
  have nn : ∀ i, i < 240 → i ≠ 4 → i ≠ 24 + 9 * j → (i < 24 ∨ ∃ o c, i = 24 + 9 * o + c ∧ c < 9 ∧ c ≠ 4 ∧ c ≠ 5) → μ' 0 i = μ 0 i := fun i a b c d => g4 i a b c (fun y f hy hf e => by
    rcases d with d | ⟨o, c2, d1, d2, d3, d4⟩ <;> omega)
  refine ⟨⟨fun o ho => ?_, fun a ha => ?_, inv_S hS r11, fun o ho h0 => ?_, fun o ho h1 => ?_, fun o f ho hf => ?_, fun o i ho hi uo ui ea ed => ?_⟩, ?_, fun a ha => ?_, fun o ho => ?_, fun o ho => ?_, fun o f ho hf => ?_⟩
  · obtain ⟨f1, f2, f3⟩ := hF o ho
    rw [r0, r5, r6]
    split
    · exact ⟨Or.inl rfl, Or.inl rfl, Or.inl rfl⟩
    · exact ⟨f1, f2, f3⟩
  · rw [r8, r9]
    obtain ⟨f1, z, f2, f3, f4⟩ := hA a ha
    exact ⟨f1, z, f2, f3, Nat.le_trans (szS_drop r0 r1 r3 a 24) f4⟩
  · rw [r4 o 0 ho (by decide), r4 o 1 ho (by decide), r5, r6, r7]
    by_cases e : o = j
    · rw [if_pos (Or.inl e), if_pos (Or.inl e), if_pos e, if_pos e, if_pos e]
      exact ⟨rfl, rfl, rfl, rfl, rfl⟩
    · rw [r0, if_neg e] at h0
      obtain ⟨u1, u2, u3, u4, u5⟩ := hU o ho h0
      rw [u1, u2, if_neg (fun z => z.elim e (fun y => nI_ne (by omega) y.symm)), if_neg e, if_neg e, if_neg e]
      exact ⟨rfl, rfl, u3, u4, u5⟩
  · rw [r0] at h1
    by_cases e : o = j
    · rw [if_pos e] at h1; exact absurd h1 n01
    · rw [if_neg e] at h1
      rw [r1, r2, r3, r8, r9]
      exact hO o ho h1
  · rw [r4 o f ho hf]
    by_cases c : o = j ∨ goS s q 4 (o * 2 + f) = nI j
    · rw [if_pos c]; exact Or.inl rfl
    · rw [if_neg c]
      rcases hQ o f ho hf with e | ⟨t, ht, e, u⟩
      · exact Or.inl e
      · refine Or.inr ⟨t, ht, e, ?_⟩
        rw [r0, if_neg (fun z => c (Or.inr (by rw [e, z])))]
        exact u
  · rw [r0] at uo ui
    rw [r1] at ea
    rw [r2] at ed
    by_cases c1 : o = j
    · rw [if_pos c1] at uo; exact absurd uo n01
    · by_cases c2 : i = j
      · rw [if_pos c2] at ui; exact absurd ui n01
      · rw [if_neg c1] at uo
        rw [if_neg c2] at ui
        exact hD o i ho hi uo ui ea ed
  · obtain ⟨c0, c1, c2, c3, c4, c5⟩ := hC
    rw [o12] at c2 c3 c4 c5
    rw [if_neg (by decide)] at c2 c3 c5
    rw [if_pos rfl] at c4
    rw [RelC, r11, r12, r12, r12, r12, if_neg (by decide), if_neg (by decide), if_pos rfl, if_neg (by decide), nn 0 (by omega) (by decide) (by omega) (Or.inl (by omega)), nn 1 (by omega) (by decide) (by omega) (Or.inl (by omega)), nn 2 (by omega) (by decide) (by omega) (Or.inl (by omega)), nn 3 (by omega) (by decide) (by omega) (Or.inl (by omega)), nn 5 (by omega) (by decide) (by omega) (Or.inl (by omega)), g3, c4]
    exact ⟨c0, c1, c2, c3, rfl, c5⟩
  · rw [r8, r9, r10, nn _ (by omega) (by omega) (by omega) (Or.inl (by omega)), nn _ (by omega) (by omega) (by omega) (Or.inl (by omega)), nn _ (by omega) (by omega) (by omega) (Or.inl (by omega))]
    exact hB a ha
  · by_cases e : o = j
    · subst e
      refine ⟨by rw [g2, r0, if_pos rfl], fun h0 => ?_⟩
      rw [r0, if_pos rfl] at h0
      exact absurd h0 n01
    · obtain ⟨e0, ee⟩ := hE o ho
      have ob : ∀ c, c < 9 → c ≠ 4 → c ≠ 5 → μ' 0 (24 + 9 * o + c) = μ 0 (24 + 9 * o + c) := fun c a b d => nn _ (by omega) (by omega) (by omega) (Or.inr ⟨o, c, rfl, a, b, d⟩)
      refine ⟨by rw [ob 0 (by decide) (by decide) (by decide), r0, if_neg e, e0], fun h0 => ?_⟩
      rw [r0, if_neg e] at h0
      obtain ⟨e1, e2, e3, e4, e5, e6, e7, e8⟩ := ee h0
      have f4 : ∀ f, f < 2 → μ 0 (24 + 9 * o + (4 + f)) = goS s q 4 (o * 2 + f) → μ' 0 (24 + 9 * o + (4 + f)) = goS (dropL s j 24) (q + 1) 4 (o * 2 + f) := fun f hf he => by
        rw [g5 o f ho hf, r4 o f ho hf, he]
        by_cases c : goS s q 4 (o * 2 + f) = nI j
        · rw [if_pos ⟨by omega, c⟩, if_pos (Or.inr c)]
        · rw [if_neg (fun z => c z.2), if_neg (fun z => z.elim e c)]
      exact ⟨by rw [ob 1 (by decide) (by decide) (by decide), r1, e1], by rw [ob 2 (by decide) (by decide) (by decide), r2, e2], by rw [ob 3 (by decide) (by decide) (by decide), r3, e3], f4 0 (by decide) e4, f4 1 (by decide) e5, by rw [ob 6 (by decide) (by decide) (by decide), r5, if_neg e, e6], by rw [ob 7 (by decide) (by decide) (by decide), r6, if_neg e, e7], by rw [ob 8 (by decide) (by decide) (by decide), r7, if_neg e, e8]⟩
  · rw [nn _ (by omega) (by omega) (by omega) (Or.inr ⟨o, 1, rfl, by decide, by decide, by decide⟩)]
    exact hW.1 o ho
  · rw [g5 o f ho hf]
    split
    · exact Or.inl rfl
    · exact hW.2 o f ho hf
