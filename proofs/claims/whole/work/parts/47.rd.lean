/-! the class's reading of a part against the model's parts -/
def RDp (τ : Nat → Nat → Int32) (i : Nat) (a b h : Int32) : Int32 × Int32 × Int32 × Int32 := rdL τ (60 - i) i a b h
section RDS
variable {τ : Nat → Nat → Int32} {cd : Nat → Nat} {t : Nat}
theorem rd_step (hτ : RTX τ cd t) {i : Nat} (hi : i < t) (a b h : Int32) : RDp τ i a b h = if cd i = 59 then (nI (i + 1), a, b, h) else if cd i = 114 then RDp τ (i + 1) a (nI 1) h else if cd i = 60 then RDp τ (i + 1) a b (nI 0) else if h = -1 then RDp τ (i + 1) (a * nI 10 + nI (cd i) - nI 48) b h else RDp τ (i + 1) a b (h * nI 10 + nI (cd i) - nI 48) := by
  have ht := hτ.2.1
  obtain ⟨e, c1, c2⟩ := hτ.2.2 i hi
  have c : ¬ τ 1 0 ≤ nI i := by rw [hτ.1, nI_leI (by omega) (by omega)]; omega
  rw [RDp, show 60 - i = (60 - (i + 1)) + 1 by omega, rdL, if_neg c, e]
  simp only [c_eq c2 (show 59 < 200 by decide), c_eq c2 (show 60 < 200 by decide), c_eq c2 (show 114 < 200 by decide), RDp]
theorem rd_end (hτ : RTX τ cd t) (a b h : Int32) : RDp τ t a b h = (nI t, a, b, h) := by
  have ht := hτ.2.1
  rw [RDp]
  rcases Nat.eq_or_lt_of_le ht with e | e
  · rw [show 60 - t = 0 by omega, rdL, hτ.1]
  · rw [show 60 - t = (59 - t) + 1 by omega, rdL, hτ.1, if_pos (i32_le_rf _)]
theorem dg_add (x c : Nat) (hc : 48 ≤ c) : nI x * nI 10 + nI c - nI 48 = nI (10 * x + (c - 48)) := by
  rw [pk_mul, nI_add, pk_sub (by omega)]
  congr 1
  omega
theorem rd_num0 (hτ : RTX τ cd t) {q z q1 : Nat} (h : numN cd t q 49 16 = some (z, q1)) (b : Int32) : RDp τ q (nI 0) b (-1) = RDp τ q1 (nI z) b (-1) := by
  rw [numN] at h
  split at h
  · rename_i c
    have c1 := at_t c
    have s1 : RDp τ q (nI 0) b (-1) = RDp τ (q + 1) (nI (cd q - 48)) b (-1) := by
      rw [rd_step hτ c1.1, if_neg (by omega), if_neg (by omega), if_neg (by omega), if_pos rfl, dg_add 0 _ (by omega)]
      congr 2
      omega
    split at h
    · rename_i c2
      have c3 := at_t c2.2.1
      cases h
      rw [s1, rd_step hτ c3.1, if_neg (by omega), if_neg (by omega), if_neg (by omega), if_pos rfl, dg_add _ _ (by omega)]
      congr 2
      omega
    · cases h
      exact s1
  · cases h
theorem rd_num4 (hτ : RTX τ cd t) {q z q1 : Nat} (h : numN cd t q 48 23 = some (z, q1)) (a b : Int32) : RDp τ q a b (nI 0) = RDp τ q1 a b (nI z) := by
  rw [numN] at h
  split at h
  · rename_i c
    have c1 := at_t c
    have s1 : RDp τ q a b (nI 0) = RDp τ (q + 1) a b (nI (cd q - 48)) := by
      rw [rd_step hτ c1.1, if_neg (by omega), if_neg (by omega), if_neg (by omega), if_neg (by decide), dg_add 0 _ (by omega)]
      congr 2
      omega
    split at h
    · rename_i c2
      have c3 := at_t c2.2.1
      cases h
      rw [s1, rd_step hτ c3.1, if_neg (by omega), if_neg (by omega), if_neg (by omega), if_neg (nI_ne (by omega)), dg_add _ _ (by omega)]
      congr 2
      omega
    · cases h
      exact s1
  · cases h
/-- a part is read -/
theorem rd_part (hτ : RTX τ cd t) {q : Nat} {r : Nat × Nat × Int32 × Nat} (h : ptN cd t q = some r) (he : atD cd t r.2.2.2 59 59 = true ∨ r.2.2.2 = t) : rdR τ q = (nI (sgP cd t r.2.2.2 59), nI r.1, nI r.2.1, r.2.2.1) ∧ (r.2.1 = 0 ∨ r.2.1 = 1) ∧ (r.2.2.1 = -1 ∨ ∃ y, y < 24 ∧ r.2.2.1 = nI y) ∧ 1 ≤ r.1 ∧ r.1 ≤ 16 := by
  have fin : ∀ a b g : Int32, RDp τ r.2.2.2 a b g = (nI (sgP cd t r.2.2.2 59), a, b, g) := fun a b g => by
    rcases he with c | c
    · have c1 := at_t c
      rw [rd_step hτ c1.1, if_pos (by omega), sgP, if_pos c]
    · have : ¬ atD cd t r.2.2.2 59 59 = true := fun z => by have := (at_t z).1; omega
      rw [sgP, if_neg this, c, rd_end hτ]
  have root : ∀ q1, q1 ≤ t → ∀ a : Int32, RDp τ q1 a (nI 0) (-1) = RDp τ (sgP cd t q1 114) a (nI (rtF cd t q1)) (-1) := fun q1 _ a => by
    rw [sgP, rtF]
    rcases c : atD cd t q1 114 114 with _ | _
    · rw [if_neg (by decide), if_neg (by decide)]
    · have c1 := at_t c
      rw [if_pos rfl, if_pos rfl, rd_step hτ c1.1, if_neg (by omega), if_pos (by omega)]
  have rt01 : ∀ q1, rtF cd t q1 = 0 ∨ rtF cd t q1 = 1 := fun q1 => by
    rw [rtF]
    split
    · exact Or.inr rfl
    · exact Or.inl rfl
  rcases e1 : numN cd t q 49 16 with _ | ⟨z, q1⟩
  · rw [(pt_1 e1).1] at h; cases h
  · have b1 := num_bd e1
    have zb : 1 ≤ z ∧ z ≤ 16 := by
      have e2 := e1
      rw [numN] at e2
      split at e2
      · rename_i c
        have c1 := at_t c
        split at e2
        · rename_i c2
          have c3 := at_t c2.2.1
          cases e2
          omega
        · cases e2
          omega
      · cases e2
    rcases c : atD cd t (sgP cd t q1 114) 60 60 with _ | _
    · rw [pt_2 e1 c] at h
      cases h
      refine ⟨?_, rt01 q1, Or.inl rfl, zb.1, zb.2⟩
      rw [← fin]
      exact (rd_num0 hτ e1 _).trans (root q1 b1.2 _)
    · have c1 := at_t c
      rcases e2 : numN cd t (sgP cd t (sgP cd t q1 114) 60) 48 23 with _ | ⟨y, q4⟩
      · rw [(pt_4 e1 c e2).1] at h; cases h
      · obtain ⟨_, _, hy, _⟩ := df_num4 hτ e2
        rw [pt_3 e1 c e2] at h
        cases h
        refine ⟨?_, rt01 q1, Or.inr ⟨y, hy, rfl⟩, zb.1, zb.2⟩
        rw [← fin]
        refine (rd_num0 hτ e1 _).trans ((root q1 b1.2 _).trans ?_)
        rw [rd_step hτ c1.1, if_neg (by omega), if_neg (by omega), if_pos (by omega), ← rd_num4 hτ e2, show sgP cd t (sgP cd t q1 114) 60 = sgP cd t q1 114 + 1 by rw [sgP, if_pos c]]
/-- a complete text: k parts -/
def CT (cd : Nat → Nat) (t k : Nat) : Prop := 0 < k ∧ (∀ i, i < k → (ptN cd t (stN cd t i)).isSome = true) ∧ (∀ i, i + 1 < k → spB cd t i = true) ∧ pE cd t (stN cd t (k - 1)) = t
theorem ct_ex (hτ : RTX τ cd t) (hok : okB (stL τ 60 0 (nI 0)) = true) : ∃ k, CT cd t k := by
  have go : ∀ w k, t - stN cd t k ≤ w → (∀ i, i < k → (ptN cd t (stN cd t i)).isSome = true ∧ spB cd t i = true) → ∃ k, CT cd t k := by
    intro w
    induction w with
    | zero =>
      intro k hw h
      rcases e : ptN cd t (stN cd t k) with _ | r
      · rw [(ch_bad hτ h e).1] at hok; cases hok
      · obtain ⟨s, _, _, b1, b2⟩ := df_part hτ e
        omega
    | succ w ih =>
      intro k hw h
      rcases e : ptN cd t (stN cd t k) with _ | r
      · rw [(ch_bad hτ h e).1] at hok; cases hok
      · obtain ⟨s, _, _, b1, b2⟩ := df_part hτ e
        have hs : (ptN cd t (stN cd t k)).isSome = true := by rw [e]; rfl
        rcases c : spB cd t k with _ | _
        · have en := ch_end hτ h e c
          by_cases g : r.2.2.2 = t
          · exact ⟨k + 1, by omega, fun i hi => by
              by_cases z : i = k
              · rw [z]; exact hs
              · exact (h i (by omega)).1, fun i hi => (h i (by omega)).2, by rw [show k + 1 - 1 = k by omega, pE_some e]; exact g⟩
          · rw [(en.2.2.2 g).1] at hok; cases hok
        · refine ih (k + 1) ?_ (fun i hi => ?_)
          · have := (sg_bd (cd := cd) (x := 59) b2).1
            rw [stN, pE_some e]
            omega
          · by_cases z : i = k
            · rw [z]; exact ⟨hs, c⟩
            · exact h i (by omega)
  exact go t 0 (by omega) (fun i hi => by omega)
/-- where parts begin, and the text's end -/
def stS (cd : Nat → Nat) (t k : Nat) (f : Nat) : Prop := f = t ∨ ∃ i, i < k ∧ f = stN cd t i
theorem ct_part (hτ : RTX τ cd t) {k i : Nat} (h : CT cd t k) (hi : i < k) : ∃ r, ptN cd t (stN cd t i) = some r ∧ (atD cd t r.2.2.2 59 59 = true ∨ r.2.2.2 = t) ∧ sgP cd t r.2.2.2 59 = (if i + 1 < k then stN cd t (i + 1) else t) := by
  obtain ⟨r, hr⟩ := Option.isSome_iff_exists.mp (h.2.1 i hi)
  have e := pE_some hr
  refine ⟨r, hr, ?_, ?_⟩
  · by_cases c : i + 1 < k
    · have := h.2.2.1 i c
      rw [spB, e] at this
      exact Or.inl this
    · have := h.2.2.2
      rw [show k - 1 = i by omega, e] at this
      exact Or.inr this
  · by_cases c : i + 1 < k
    · rw [if_pos c, stN, e]
    · have := h.2.2.2
      rw [show k - 1 = i by omega, e] at this
      rw [if_neg c, this, sgP, if_neg (fun z => by have := (at_t z).1; omega)]
theorem ct_pk (hτ : RTX τ cd t) {k : Nat} (h : CT cd t k) : pkS τ (stS cd t k) := by
  have ht := hτ.2.1
  have bound : ∀ i, i < k → stN cd t i < t := fun i hi => by
    obtain ⟨r, hr, _⟩ := ct_part hτ h hi
    obtain ⟨s, _, _, b1, b2⟩ := df_part hτ hr
    omega
  refine ⟨Or.inr ⟨0, h.1, rfl⟩, fun f hf => ?_⟩
  rcases hf with e | ⟨i, hi, e⟩
  · refine ⟨by omega, fun z => absurd ?_ z⟩
    rw [hτ.1, e]
    exact i32_le_rf _
  · have hb := bound i hi
    refine ⟨by omega, fun _ => ?_⟩
    obtain ⟨r, hr, he, hs⟩ := ct_part hτ h hi
    obtain ⟨e1, e2, e3, e4⟩ := rd_part hτ hr he
    refine ⟨sgP cd t r.2.2.2 59, ?_, ?_, ?_, ?_⟩
    · rw [hs]
      by_cases c : i + 1 < k
      · rw [if_pos c]; exact Or.inr ⟨i + 1, c, rfl⟩
      · rw [if_neg c]; exact Or.inl rfl
    · rw [e, e1]
    · rw [e, e1]
      rcases e2 with g | g
      · exact Or.inl (by dsimp only; rw [g]; rfl)
      · exact Or.inr (by dsimp only; rw [g]; rfl)
    · rw [e, e1]
      exact e3
end RDS
