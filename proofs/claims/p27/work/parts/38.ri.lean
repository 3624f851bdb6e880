/-! changes keep the relation of class and model -/
theorem szS_eq {σ σ' : Nat → Nat → Int32} (h0 : σ' 0 = σ 0) (h1 : σ' 1 = σ 1) (h3 : σ' 3 = σ 3) (a : Nat) : ∀ n, szS σ' a n = szS σ a n
  | 0 => rfl
  | n + 1 => by rw [szS, szS, szS_eq h0 h1 h3 a n, h0, h1, h3]
theorem inv_F {σ σ' : Nat → Nat → Int32} (h : InvF σ) (h0 : σ' 0 = σ 0) (h5 : σ' 5 = σ 5) (h6 : σ' 6 = σ 6) : InvF σ' := fun o ho => by rw [h0, h5, h6]; exact h o ho
theorem inv_A {σ σ' : Nat → Nat → Int32} (h : InvA σ) (h0 : σ' 0 = σ 0) (h1 : σ' 1 = σ 1) (h3 : σ' 3 = σ 3) (h8 : σ' 8 = σ 8) (h9 : σ' 9 = σ 9) : InvA σ' := fun a ha => by rw [h8, h9, szS_eq h0 h1 h3]; exact h a ha
theorem inv_S {σ σ' : Nat → Nat → Int32} (h : InvS σ) (h11 : σ' 11 = σ 11) : InvS σ' := by rw [InvS, h11]; exact h
theorem inv_U {σ σ' : Nat → Nat → Int32} (h : InvU σ) (h0 : σ' 0 = σ 0) (h4 : σ' 4 = σ 4) (h5 : σ' 5 = σ 5) (h6 : σ' 6 = σ 6) (h7 : σ' 7 = σ 7) : InvU σ' := fun o ho => by rw [h0, h4, h5, h6, h7]; exact h o ho
theorem inv_O {σ σ' : Nat → Nat → Int32} (h : InvO σ) (h0 : σ' 0 = σ 0) (h1 : σ' 1 = σ 1) (h2 : σ' 2 = σ 2) (h3 : σ' 3 = σ 3) (h8 : σ' 8 = σ 8) (h9 : σ' 9 = σ 9) : InvO σ' := fun o ho => by rw [h0, h1, h2, h3, h8, h9]; exact h o ho
theorem inv_R {σ σ' : Nat → Nat → Int32} (h : InvR σ) (h0 : σ' 0 = σ 0) (h4 : σ' 4 = σ 4) : InvR σ' := fun o f ho hf => by rw [h0, h4]; exact h o f ho hf
theorem inv_D {σ σ' : Nat → Nat → Int32} (h : InvD σ) (h0 : σ' 0 = σ 0) (h1 : σ' 1 = σ 1) (h2 : σ' 2 = σ 2) : InvD σ' := fun o j ho hj => by rw [h0, h1, h2]; exact h o j ho hj
theorem rel_W {N N' : Nat → Int32} (h : RelW N) (h1 : ∀ o, o < 24 → N' (24 + 9 * o + 1) = N (24 + 9 * o + 1)) (h2 : ∀ o f, o < 24 → f < 2 → N' (24 + 9 * o + (4 + f)) = N (24 + 9 * o + (4 + f))) : RelW N' := ⟨fun o ho => by rw [h1 o ho]; exact h.1 o ho, fun o f ho hf => by rw [h2 o f ho hf]; exact h.2 o f ho hf⟩
theorem rel_A {σ σ' : Nat → Nat → Int32} {N N' : Nat → Int32} (h : RelA σ N) (h8 : σ' 8 = σ 8) (h9 : σ' 9 = σ 9) (h10 : σ' 10 = σ 10) (hn : ∀ i, 6 ≤ i → i < 24 → N' i = N i) : RelA σ' N' := fun a ha => by rw [h8, h9, h10, hn _ (by omega) (by omega), hn _ (by omega) (by omega), hn _ (by omega) (by omega)]; exact h a ha
theorem rel_C {σ σ' : Nat → Nat → Int32} {N N' : Nat → Int32} (h : RelC σ N) (h11 : σ' 11 = σ 11) (h12 : σ' 12 = σ 12) (hn : ∀ i, i < 6 → N' i = N i) : RelC σ' N' := by rw [RelC, h11, h12, hn 0 (by decide), hn 1 (by decide), hn 2 (by decide), hn 3 (by decide), hn 4 (by decide), hn 5 (by decide)]; exact h
theorem rel_O {σ σ' : Nat → Nat → Int32} {N N' : Nat → Int32} (h : RelO σ N) (h0 : σ' 0 = σ 0) (h1 : σ' 1 = σ 1) (h2 : σ' 2 = σ 2) (h3 : σ' 3 = σ 3) (h4 : σ' 4 = σ 4) (h5 : σ' 5 = σ 5) (h6 : σ' 6 = σ 6) (h7 : σ' 7 = σ 7) (hn : ∀ i, 24 ≤ i → i < 240 → N' i = N i) : RelO σ' N' := fun o ho => by
  rw [h0, h1, h2, h3, h4, h5, h6, h7, hn _ (by omega) (by omega), hn _ (by omega) (by omega), hn _ (by omega) (by omega), hn _ (by omega) (by omega), hn _ (by omega) (by omega), hn _ (by omega) (by omega), hn _ (by omega) (by omega), hn _ (by omega) (by omega), hn _ (by omega) (by omega)]
  exact h o ho
theorem ri_root {σ : Nat → Nat → Int32} {N : Nat → Int32} (hR : RI σ N) {j : Nat} (hj : j < 24) (hu : σ 0 j = nI 1) (b : Bool) : RI (rtS σ j (bI b)) (upd N (24 + 9 * j + 6) (bI b)) := by
  obtain ⟨⟨hF, hA, hS, hU, hO, hQ, hD⟩, hC, hB, hE, hW⟩ := hR
  have r0 : (rtS σ j (bI b)) 0 = σ 0 := rw2_n _ _ (by decide)
  have r1 : (rtS σ j (bI b)) 1 = σ 1 := rw2_n _ _ (by decide)
  have r2 : (rtS σ j (bI b)) 2 = σ 2 := rw2_n _ _ (by decide)
  have r3 : (rtS σ j (bI b)) 3 = σ 3 := rw2_n _ _ (by decide)
  have r4 : (rtS σ j (bI b)) 4 = σ 4 := rw2_n _ _ (by decide)
  have r6 : (rtS σ j (bI b)) 6 = σ 6 := rw2_n _ _ (by decide)
  have r7 : (rtS σ j (bI b)) 7 = σ 7 := rw2_n _ _ (by decide)
  have r8 : (rtS σ j (bI b)) 8 = σ 8 := rw2_n _ _ (by decide)
  have r9 : (rtS σ j (bI b)) 9 = σ 9 := rw2_n _ _ (by decide)
  have r10 : (rtS σ j (bI b)) 10 = σ 10 := rw2_n _ _ (by decide)
  have r11 : (rtS σ j (bI b)) 11 = σ 11 := rw2_n _ _ (by decide)
  have r12 : (rtS σ j (bI b)) 12 = σ 12 := rw2_n _ _ (by decide)
  have rk : ∀ i, (rtS σ j (bI b)) 5 i = if i = j then bI b else σ 5 i := fun i => by rw [rtS, rw2_s, upd_e]
  have eN : ∀ i, upd N (24 + 9 * j + 6) (bI b) i = if i = 24 + 9 * j + 6 then bI b else N i := fun _ => rfl
  have bb : bI b = nI 0 ∨ bI b = nI 1 := by cases b; exact Or.inl rfl; exact Or.inr rfl
  refine ⟨⟨fun o ho => ?_, inv_A hA r0 r1 r3 r8 r9, inv_S hS r11, fun o ho h0 => ?_, inv_O hO r0 r1 r2 r3 r8 r9, inv_R hQ r0 r4, inv_D hD r0 r1 r2⟩, rel_C hC r11 r12 (fun i hi => by rw [eN, if_neg (by omega)]), rel_A hB r8 r9 r10 (fun i h1 h2 => by rw [eN, if_neg (by omega)]), fun o ho => ?_, rel_W hW (fun o ho => by rw [eN, if_neg (by omega)]) (fun o f ho hf => by rw [eN, if_neg (by omega)])⟩
  · obtain ⟨f1, f2, f3⟩ := hF o ho
    rw [r0, r6, rk]
    by_cases e : o = j
    · rw [if_pos e]
      exact ⟨f1, bb, f3⟩
    · rw [if_neg e]; exact ⟨f1, f2, f3⟩
  · rw [r0] at h0
    have e : ¬ o = j := fun e => by rw [e, hu] at h0; exact n10 h0
    rw [r4, r6, r7, rk, if_neg e]
    exact hU o ho h0
  · obtain ⟨g0, gg⟩ := hE o ho
    refine ⟨by rw [eN, if_neg (by omega), r0]; exact g0, fun h0 => ?_⟩
    rw [r0] at h0
    obtain ⟨g1, g2, g3, g4, g5, g6, g7, g8⟩ := gg h0
    exact ⟨by rw [eN, if_neg (by omega), r1]; exact g1, by rw [eN, if_neg (by omega), r2]; exact g2, by rw [eN, if_neg (by omega), r3]; exact g3, by rw [eN, if_neg (by omega), r4]; exact g4, by rw [eN, if_neg (by omega), r4]; exact g5, by rw [eN, rk]; by_cases e : o = j; (rw [if_pos (by omega), if_pos e]); (rw [if_neg (by omega), if_neg e]; exact g6), by rw [eN, if_neg (by omega), r6]; exact g7, by rw [eN, if_neg (by omega), r7]; exact g8⟩
theorem ri_pin {σ : Nat → Nat → Int32} {N : Nat → Int32} (hR : RI σ N) {j : Nat} (hj : j < 24) (hu : σ 0 j = nI 1) (b : Bool) : RI (pnS σ j (bI b)) (upd N (24 + 9 * j + 7) (bI b)) := by
  obtain ⟨⟨hF, hA, hS, hU, hO, hQ, hD⟩, hC, hB, hE, hW⟩ := hR
  have r0 : (pnS σ j (bI b)) 0 = σ 0 := rw2_n _ _ (by decide)
  have r1 : (pnS σ j (bI b)) 1 = σ 1 := rw2_n _ _ (by decide)
  have r2 : (pnS σ j (bI b)) 2 = σ 2 := rw2_n _ _ (by decide)
  have r3 : (pnS σ j (bI b)) 3 = σ 3 := rw2_n _ _ (by decide)
  have r4 : (pnS σ j (bI b)) 4 = σ 4 := rw2_n _ _ (by decide)
  have r5 : (pnS σ j (bI b)) 5 = σ 5 := rw2_n _ _ (by decide)
  have r7 : (pnS σ j (bI b)) 7 = σ 7 := rw2_n _ _ (by decide)
  have r8 : (pnS σ j (bI b)) 8 = σ 8 := rw2_n _ _ (by decide)
  have r9 : (pnS σ j (bI b)) 9 = σ 9 := rw2_n _ _ (by decide)
  have r10 : (pnS σ j (bI b)) 10 = σ 10 := rw2_n _ _ (by decide)
  have r11 : (pnS σ j (bI b)) 11 = σ 11 := rw2_n _ _ (by decide)
  have r12 : (pnS σ j (bI b)) 12 = σ 12 := rw2_n _ _ (by decide)
  have rk : ∀ i, (pnS σ j (bI b)) 6 i = if i = j then bI b else σ 6 i := fun i => by rw [pnS, rw2_s, upd_e]
  have eN : ∀ i, upd N (24 + 9 * j + 7) (bI b) i = if i = 24 + 9 * j + 7 then bI b else N i := fun _ => rfl
  have bb : bI b = nI 0 ∨ bI b = nI 1 := by cases b; exact Or.inl rfl; exact Or.inr rfl
  refine ⟨⟨fun o ho => ?_, inv_A hA r0 r1 r3 r8 r9, inv_S hS r11, fun o ho h0 => ?_, inv_O hO r0 r1 r2 r3 r8 r9, inv_R hQ r0 r4, inv_D hD r0 r1 r2⟩, rel_C hC r11 r12 (fun i hi => by rw [eN, if_neg (by omega)]), rel_A hB r8 r9 r10 (fun i h1 h2 => by rw [eN, if_neg (by omega)]), fun o ho => ?_, rel_W hW (fun o ho => by rw [eN, if_neg (by omega)]) (fun o f ho hf => by rw [eN, if_neg (by omega)])⟩
  · obtain ⟨f1, f2, f3⟩ := hF o ho
    rw [r0, r5, rk]
    by_cases e : o = j
    · rw [if_pos e]
      exact ⟨f1, f2, bb⟩
    · rw [if_neg e]; exact ⟨f1, f2, f3⟩
  · rw [r0] at h0
    have e : ¬ o = j := fun e => by rw [e, hu] at h0; exact n10 h0
    rw [r4, r5, r7, rk, if_neg e]
    exact hU o ho h0
  · obtain ⟨g0, gg⟩ := hE o ho
    refine ⟨by rw [eN, if_neg (by omega), r0]; exact g0, fun h0 => ?_⟩
    rw [r0] at h0
    obtain ⟨g1, g2, g3, g4, g5, g6, g7, g8⟩ := gg h0
    exact ⟨by rw [eN, if_neg (by omega), r1]; exact g1, by rw [eN, if_neg (by omega), r2]; exact g2, by rw [eN, if_neg (by omega), r3]; exact g3, by rw [eN, if_neg (by omega), r4]; exact g4, by rw [eN, if_neg (by omega), r4]; exact g5, by rw [eN, if_neg (by omega), r5]; exact g6, by rw [eN, rk]; by_cases e : o = j; (rw [if_pos (by omega), if_pos e]); (rw [if_neg (by omega), if_neg e]; exact g7), by rw [eN, if_neg (by omega), r7]; exact g8⟩
theorem ri_link {σ : Nat → Nat → Int32} {N : Nat → Int32} (hR : RI σ N) {j f : Nat} (hj : j < 24) (hf : f < 2) (hu : σ 0 j = nI 1) {t : Int32} (ht : t = -1 ∨ ∃ q, q < 24 ∧ t = nI q ∧ σ 0 q = nI 1) : RI (rfS σ j f t) (upd N (24 + 9 * j + (4 + f)) t) := by
  obtain ⟨⟨hF, hA, hS, hU, hO, hQ, hD⟩, hC, hB, hE, hW⟩ := hR
  have r0 : (rfS σ j f t) 0 = σ 0 := rw2_n _ _ (by decide)
  have r1 : (rfS σ j f t) 1 = σ 1 := rw2_n _ _ (by decide)
  have r2 : (rfS σ j f t) 2 = σ 2 := rw2_n _ _ (by decide)
  have r3 : (rfS σ j f t) 3 = σ 3 := rw2_n _ _ (by decide)
  have r5 : (rfS σ j f t) 5 = σ 5 := rw2_n _ _ (by decide)
  have r6 : (rfS σ j f t) 6 = σ 6 := rw2_n _ _ (by decide)
  have r7 : (rfS σ j f t) 7 = σ 7 := rw2_n _ _ (by decide)
  have r8 : (rfS σ j f t) 8 = σ 8 := rw2_n _ _ (by decide)
  have r9 : (rfS σ j f t) 9 = σ 9 := rw2_n _ _ (by decide)
  have r10 : (rfS σ j f t) 10 = σ 10 := rw2_n _ _ (by decide)
  have r11 : (rfS σ j f t) 11 = σ 11 := rw2_n _ _ (by decide)
  have r12 : (rfS σ j f t) 12 = σ 12 := rw2_n _ _ (by decide)
  have rk : ∀ i, (rfS σ j f t) 4 i = if i = j * 2 + f then t else σ 4 i := fun i => by rw [rfS, rw2_s, upd_e]
  have eN : ∀ i, upd N (24 + 9 * j + (4 + f)) t i = if i = 24 + 9 * j + (4 + f) then t else N i := fun _ => rfl
  refine ⟨⟨inv_F hF r0 r5 r6, inv_A hA r0 r1 r3 r8 r9, inv_S hS r11, fun o ho h0 => ?_, inv_O hO r0 r1 r2 r3 r8 r9, fun o g ho hg => ?_, inv_D hD r0 r1 r2⟩, rel_C hC r11 r12 (fun i hi => by rw [eN, if_neg (by omega)]), rel_A hB r8 r9 r10 (fun i h1 h2 => by rw [eN, if_neg (by omega)]), fun o ho => ?_, fun o ho => by rw [eN, if_neg (by omega)]; exact hW.1 o ho, fun o g ho hg => ?_⟩
  · rw [r0] at h0
    have e : ¬ o = j := fun e => by rw [e, hu] at h0; exact n10 h0
    rw [r5, r6, r7, rk, rk, if_neg (by omega), if_neg (by omega)]
    exact hU o ho h0
  · rw [r0, rk]
    by_cases e : o * 2 + g = j * 2 + f
    · rw [if_pos e]; exact ht
    · rw [if_neg e]; exact hQ o g ho hg
  · obtain ⟨g0, gg⟩ := hE o ho
    refine ⟨by rw [eN, if_neg (by omega), r0]; exact g0, fun h0 => ?_⟩
    rw [r0] at h0
    obtain ⟨g1, g2, g3, g4, g5, g6, g7, g8⟩ := gg h0
    exact ⟨by rw [eN, if_neg (by omega), r1]; exact g1, by rw [eN, if_neg (by omega), r2]; exact g2, by rw [eN, if_neg (by omega), r3]; exact g3, by rw [eN, rk]; by_cases e : o = j ∧ f = 0; (rw [if_pos (by omega), if_pos (by omega)]); (rw [if_neg (by omega), if_neg (by omega)]; exact g4), by rw [eN, rk]; by_cases e : o = j ∧ f = 1; (rw [if_pos (by omega), if_pos (by omega)]); (rw [if_neg (by omega), if_neg (by omega)]; exact g5), by rw [eN, if_neg (by omega), r5]; exact g6, by rw [eN, if_neg (by omega), r6]; exact g7, by rw [eN, if_neg (by omega), r7]; exact g8⟩
  · rw [eN]
    by_cases e : 24 + 9 * o + (4 + g) = 24 + 9 * j + (4 + f)
    · rw [if_pos e]
      exact ht.elim Or.inl (fun ⟨q, h1, h2, _⟩ => Or.inr ⟨q, h1, h2⟩)
    · rw [if_neg e]; exact hW.2 o g ho hg
theorem ri_set {σ : Nat → Nat → Int32} {N : Nat → Int32} (hR : RI σ N) {i : Nat} (hi : i < 2) {v : Int32} (hv : (i = 0 ∧ (v = nI 0 ∨ v = nI 1)) ∨ (i = 1 ∧ (v = nI 0 ∨ v = nI 1 ∨ v = nI 2))) : RI (seS σ i v) (upd N i v) := by
  obtain ⟨⟨hF, hA, hS, hU, hO, hQ, hD⟩, hC, hB, hE, hW⟩ := hR
  have r0 : (seS σ i v) 0 = σ 0 := rw2_n _ _ (by decide)
  have r1 : (seS σ i v) 1 = σ 1 := rw2_n _ _ (by decide)
  have r2 : (seS σ i v) 2 = σ 2 := rw2_n _ _ (by decide)
  have r3 : (seS σ i v) 3 = σ 3 := rw2_n _ _ (by decide)
  have r4 : (seS σ i v) 4 = σ 4 := rw2_n _ _ (by decide)
  have r5 : (seS σ i v) 5 = σ 5 := rw2_n _ _ (by decide)
  have r6 : (seS σ i v) 6 = σ 6 := rw2_n _ _ (by decide)
  have r7 : (seS σ i v) 7 = σ 7 := rw2_n _ _ (by decide)
  have r8 : (seS σ i v) 8 = σ 8 := rw2_n _ _ (by decide)
  have r9 : (seS σ i v) 9 = σ 9 := rw2_n _ _ (by decide)
  have r10 : (seS σ i v) 10 = σ 10 := rw2_n _ _ (by decide)
  have r12 : (seS σ i v) 12 = σ 12 := rw2_n _ _ (by decide)
  have rk : ∀ k, (seS σ i v) 11 k = if k = i then v else σ 11 k := fun k => by rw [seS, rw2_s, upd_e]
  have eN : ∀ k, upd N i v k = if k = i then v else N k := fun _ => rfl
  obtain ⟨c0, c1, c2, c3, c4, c5⟩ := hC
  refine ⟨⟨inv_F hF r0 r5 r6, inv_A hA r0 r1 r3 r8 r9, ?_, inv_U hU r0 r4 r5 r6 r7, inv_O hO r0 r1 r2 r3 r8 r9, inv_R hQ r0 r4, inv_D hD r0 r1 r2⟩, ?_, rel_A hB r8 r9 r10 (fun k h1 h2 => by rw [eN, if_neg (by omega)]), rel_O hE r0 r1 r2 r3 r4 r5 r6 r7 (fun k h1 h2 => by rw [eN, if_neg (by omega)]), rel_W hW (fun o ho => by rw [eN, if_neg (by omega)]) (fun o f ho hf => by rw [eN, if_neg (by omega)])⟩
  · rw [InvS, rk, rk]
    rcases hv with ⟨e, h⟩ | ⟨e, h⟩ <;> subst e
    · rw [if_pos rfl, if_neg (by decide)]; exact ⟨h, hS.2⟩
    · rw [if_neg (by decide), if_pos rfl]; exact ⟨hS.1, h⟩
  · rw [RelC, rk, rk, r12, eN, eN, eN, eN, eN, eN, if_neg (show ¬ 2 = i by omega), if_neg (show ¬ 3 = i by omega), if_neg (show ¬ 4 = i by omega), if_neg (show ¬ 5 = i by omega)]
    refine ⟨?_, ?_, c2, c3, c4, c5⟩
    · split
      · rfl
      · exact c0
    · split
      · rfl
      · exact c1
