/-! a picture of the reference's kind for every state; steps and places of what is met -/
def nOf (σ : Nat → Nat → Int32) (i : Nat) : Int32 :=
  if i = 0 then σ 11 0 else if i = 1 then σ 11 1 else if i < 6 then σ 12 (i - 2) else if i < 24 then (if (i - 6) % 3 = 0 then σ 8 ((i - 6) / 3) else if (i - 6) % 3 = 1 then σ 9 ((i - 6) / 3) else σ 10 ((i - 6) / 3))
  else if (i - 24) % 9 = 0 then σ 0 ((i - 24) / 9) else if (i - 24) % 9 = 1 then (if σ 0 ((i - 24) / 9) = nI 1 then σ 1 ((i - 24) / 9) else nI 0) else if (i - 24) % 9 = 2 then σ 2 ((i - 24) / 9) else if (i - 24) % 9 = 3 then σ 3 ((i - 24) / 9)
  else if (i - 24) % 9 = 4 then σ 4 ((i - 24) / 9 * 2 + 0) else if (i - 24) % 9 = 5 then σ 4 ((i - 24) / 9 * 2 + 1) else if (i - 24) % 9 = 6 then σ 5 ((i - 24) / 9) else if (i - 24) % 9 = 7 then σ 6 ((i - 24) / 9) else σ 7 ((i - 24) / 9)
theorem nOf_o (σ : Nat → Nat → Int32) (o c : Nat) (hc : c < 9) : nOf σ (24 + 9 * o + c) = if c = 0 then σ 0 o else if c = 1 then (if σ 0 o = nI 1 then σ 1 o else nI 0) else if c = 2 then σ 2 o else if c = 3 then σ 3 o else if c = 4 then σ 4 (o * 2 + 0) else if c = 5 then σ 4 (o * 2 + 1) else if c = 6 then σ 5 o else if c = 7 then σ 6 o else σ 7 o := by
  have e1 : (24 + 9 * o + c - 24) % 9 = c := by omega
  have e2 : (24 + 9 * o + c - 24) / 9 = o := by omega
  rw [nOf, if_neg (by omega), if_neg (by omega), if_neg (by omega), if_neg (by omega), e1, e2]
theorem nOf_a (σ : Nat → Nat → Int32) (a c : Nat) (ha : a < 6) (hc : c < 3) : nOf σ (6 + 3 * a + c) = if c = 0 then σ 8 a else if c = 1 then σ 9 a else σ 10 a := by
  have e1 : (6 + 3 * a + c - 6) % 3 = c := by omega
  have e2 : (6 + 3 * a + c - 6) / 3 = a := by omega
  rw [nOf, if_neg (by omega), if_neg (by omega), if_neg (by omega), if_pos (by omega), e1, e2]
theorem ri_ex {σ : Nat → Nat → Int32} (h : Inv σ) : RI σ (nOf σ) := by
  refine ⟨h, ⟨rfl, rfl, rfl, rfl, rfl, rfl⟩, fun a ha => ⟨nOf_a σ a 0 ha (by decide), nOf_a σ a 1 ha (by decide), nOf_a σ a 2 ha (by decide)⟩, fun o ho => ⟨nOf_o σ o 0 (by decide), fun hu => ⟨?_, nOf_o σ o 2 (by decide), nOf_o σ o 3 (by decide), nOf_o σ o 4 (by decide), nOf_o σ o 5 (by decide), nOf_o σ o 6 (by decide), nOf_o σ o 7 (by decide), nOf_o σ o 8 (by decide)⟩⟩, fun o ho => ?_, fun o f ho hf => ?_⟩
  · rw [nOf_o σ o 1 (by decide), if_neg (by decide), if_pos rfl, if_pos hu]
  · rw [nOf_o σ o 1 (by decide), if_neg (by decide), if_pos rfl]
    by_cases hu : σ 0 o = nI 1
    · obtain ⟨a, z, d, q, g1, -, -, -, -, e1, -⟩ := h.2.2.2.2.1 o ho hu
      exact ⟨a, g1, by rw [if_pos hu, e1]⟩
    · exact ⟨0, by decide, by rw [if_neg hu]⟩
  · have e : nOf σ (24 + 9 * o + (4 + f)) = σ 4 (o * 2 + f) := by
      rcases (show f = 0 ∨ f = 1 by omega) with rfl | rfl
      · exact nOf_o σ o 4 (by decide)
      · exact nOf_o σ o 5 (by decide)
    rw [e]
    rcases h.2.2.2.2.2.1 o f ho hf with e | ⟨j, hj, e, -⟩
    · exact Or.inl e
    · exact Or.inr ⟨j, hj, e⟩
theorem fm_one {σ μ ρ : Nat → Nat → Int32} {q : Nat} (h : FM σ μ ρ q) {o d : Nat} (ho : o < 24) (hd : d ≤ q) (hs : σ 0 o = nI 1) : ∃ μ' q', q ≤ q' ∧ FM σ μ' (meetR ρ (nI o) (nI d)) q' := by
  by_cases hu : ρ 1 o = -1
  · exact ⟨_, q + 1, by omega, h.meet ho hd hu hs⟩
  · exact ⟨μ, q, Nat.le_refl _, by rw [meet_off _ hu ho]; exact h⟩
theorem has_us {σ : Nat → Nat → Int32} (hF : InvF σ) {o : Nat} (ho : o < 24) : hasB σ (nI o) = true ↔ σ 0 o = nI 1 := by
  rw [has_nI σ ho]
  rcases (hF o ho).1 with e | e
  · rw [e, if_pos rfl]; exact ⟨fun h => (by cases h), fun h => absurd h n01⟩
  · rw [e, if_neg n10]; exact ⟨fun _ => rfl, fun _ => rfl⟩
theorem fm_sar {σ : Nat → Nat → Int32} (hF : InvF σ) (w : Int32) : ∀ n, n ≤ 24 → ∃ μ q, FM σ μ (sarL σ ρ0 w n) q
  | 0, _ => ⟨fun k _ => if k = 11 then -1 else nI 0, 0, fm_0 rfl (fun _ _ => rfl)⟩
  | n + 1, hn => by
    obtain ⟨μ, q, h⟩ := fm_sar hF w n (by omega)
    rw [sarL]
    split
    · exact ⟨μ, q, h⟩
    · split
      · exact ⟨μ, q, h⟩
      · split
        · exact ⟨μ, q, h⟩
        · rename_i c1 c2 c3
          obtain ⟨μ', q', -, h'⟩ := fm_one h (o := n) (d := 0) (by omega) (Nat.zero_le _) ((has_us hF (by omega)).mp (by cases hb : hasB σ (nI n) <;> simp_all))
          exact ⟨μ', q', h'⟩
theorem fm_fol1 {σ μ ρ : Nat → Nat → Int32} {q : Nat} (hI : InvR σ) (h : FM σ μ ρ q) (w : Int32) {j d f : Nat} (hj : j < 24) (hf : f < 2) (hd : d ≤ q) : ∃ μ' q', q ≤ q' ∧ FM σ μ' (fol1 σ (-1) w ρ (nI j) (nI d) f) q' := by
  rcases hI j f hj hf with e | ⟨t, ht, e, u⟩
  · exact ⟨μ, q, Nat.le_refl _, by rw [fol_s1 hj hf e]; exact h⟩
  · by_cases hw : nI t = w
    · exact ⟨μ, q, Nat.le_refl _, by rw [fol_s3 hj hf e hw]; exact h⟩
    · rw [fol_go hj hf e hw]
      exact fm_one h ht hd u
theorem fm_fol {σ : Nat → Nat → Int32} (hI : InvR σ) (w : Int32) : ∀ (n k : Nat) (μ ρ : Nat → Nat → Int32) (q : Nat), k + n ≤ 24 → FM σ μ ρ q → ∃ μ' q', FM σ μ' (folL σ (-1) w n k ρ) q'
  | 0, _, μ, _, q, _, h => ⟨μ, q, h⟩
  | n + 1, k, μ, ρ, q, hk, h => by
    rw [folL]
    split
    · exact ⟨μ, q, h⟩
    · rename_i c
      have hkq : k < q := by
        rw [h.2.1] at c
        have := h.1
        rcases Nat.lt_or_ge k q with z | z
        · exact z
        · exact absurd ((nI_leI (by omega) (by omega)).mpr z) c
      obtain ⟨j, d, hj, hd, e1, e2, e3, e4, e5, e6⟩ := h.2.2.2.1 k hkq
      rw [folJ_2 hj e1 e4, folJ, folJ, folJ]
      obtain ⟨μ1, q1, a1, a2⟩ := fm_fol1 hI h w (f := 0) hj (by decide) (d := d + 1) (by omega)
      obtain ⟨μ2, q2, b1, b2⟩ := fm_fol1 hI a2 w (f := 1) hj (by decide) (d := d + 1) (by omega)
      exact fm_fol hI w n (k + 1) μ2 _ q2 (by omega) b2
theorem tr_FM {σ : Nat → Nat → Int32} (h : Inv σ) (w : Int32) : ∃ μ q, FM σ μ (trC σ w) q := by
  obtain ⟨μ, q, h1⟩ := fm_sar h.1 w 24 (Nat.le_refl _)
  exact fm_fol h.2.2.2.2.2.1 w 24 0 μ _ q (by omega) h1
theorem tr_cnt {σ : Nat → Nat → Int32} (h : Inv σ) (w : Int32) : trC σ w 3 0 = nI (cn (plB (trC σ w)) 24) := by
  obtain ⟨μ, q, h1⟩ := tr_FM h w
  rw [h1.2.1, h1.2.2.2.2.2]
theorem tr_stp {σ : Nat → Nat → Int32} (h : Inv σ) (w : Int32) {j : Nat} (hj : j < 24) : (plB (trC σ w) j = false ∧ stepI (trC σ w) (nI j) = -1) ∨ (plB (trC σ w) j = true ∧ ∃ d, d < 24 ∧ stepI (trC σ w) (nI j) = nI d) := by
  obtain ⟨μ, q, h1⟩ := tr_FM h w
  rw [stepI, if_neg (nI_nlt0 (by omega)), if_neg (nI_nge hj (by decide)), nI_clamp (by omega)]
  rcases h1.2.2.2.2.1 j hj with ⟨e1, e2, -⟩ | ⟨i, hi, e1, e2⟩
  · exact Or.inl ⟨pl_f.mpr e1, e2⟩
  · obtain ⟨k, d, hk, hd, f1, f2, f3, f4, -⟩ := h1.2.2.2.1 i hi
    have hq := h1.1
    have e3 : j = k := (nI_eq (by omega) (by omega)).mp (e2.symm.trans f1)
    subst e3
    exact Or.inr ⟨pl_t.mpr (by rw [e1]; exact nI_ne (by omega)), d, by omega, f4⟩
theorem su_cnt {σ : Nat → Nat → Int32} (hI : InvR σ) {a : Int32} (ha : a ≠ -1) : suC σ a 3 0 = nI (cn (plB (suC σ a)) 24) := by
  obtain ⟨⟨q, h⟩, -⟩ := su_clo hI ha
  rw [h.2.1, h.2.2.2.2]
