/-! texts: the stages of the class against the model's parts -/
def RTX (τ : Nat → Nat → Int32) (cd : Nat → Nat) (t : Nat) : Prop := τ 1 0 = nI t ∧ t ≤ 60 ∧ ∀ i, i < t → τ 0 i = nI (cd i) ∧ 33 ≤ cd i ∧ cd i ≤ 126
def bPn (q : Nat) : Int32 := if q = 59 then nI 0 else -1
def bSn (q : Nat) : Int32 := if q = 114 then nI 3 else if q = 60 then nI 4 else bPn q
theorem c_eq {q : Nat} (hq : q ≤ 126) {k : Nat} (hk : k < 200) : nI q = nI k ↔ q = k := nI_eq (by omega) (by omega)
theorem dg_n {q : Nat} (hq : q ≤ 126) {a b : Nat} (ha : a < 200) (hb : b < 200) : digB (nI q) (nI a) (nI b) = true ↔ (a ≤ q ∧ q ≤ b) := by rw [dig_nI (by omega) (by omega) (by omega)]; exact decide_eq_true_iff
theorem behP_n {q : Nat} (hq : q ≤ 126) : behP (nI q) = bPn q := by simp only [behP, bPn, c_eq hq (show 49 < 200 by decide), c_eq hq (show 50 < 200 by decide), c_eq hq (show 59 < 200 by decide), c_eq hq (show 60 < 200 by decide), c_eq hq (show 114 < 200 by decide)]
theorem behS_n {q : Nat} (hq : q ≤ 126) : behS (nI q) = bSn q := by simp only [behS, bSn, behP_n hq, c_eq hq (show 49 < 200 by decide), c_eq hq (show 50 < 200 by decide), c_eq hq (show 59 < 200 by decide), c_eq hq (show 60 < 200 by decide), c_eq hq (show 114 < 200 by decide)]
theorem sg0 {q : Nat} (hq : q ≤ 126) : stgI (nI 0) (nI q) = if q = 49 then nI 1 else if 50 ≤ q ∧ q ≤ 57 then nI 2 else -1 := by rw [stgI, if_pos rfl]; simp only [inH, behP_n hq, behS_n hq, c_eq hq (show 49 < 200 by decide), c_eq hq (show 50 < 200 by decide), c_eq hq (show 59 < 200 by decide), c_eq hq (show 60 < 200 by decide), c_eq hq (show 114 < 200 by decide), dg_n hq (show 50 < 200 by decide) (show 57 < 200 by decide), dg_n hq (show 48 < 200 by decide) (show 54 < 200 by decide), dg_n hq (show 48 < 200 by decide) (show 57 < 200 by decide), dg_n hq (show 48 < 200 by decide) (show 51 < 200 by decide)]
theorem sg1 {q : Nat} (hq : q ≤ 126) : stgI (nI 1) (nI q) = if 48 ≤ q ∧ q ≤ 54 then nI 2 else bSn q := by rw [stgI, if_neg (by decide), if_pos rfl]; simp only [inH, behP_n hq, behS_n hq, c_eq hq (show 49 < 200 by decide), c_eq hq (show 50 < 200 by decide), c_eq hq (show 59 < 200 by decide), c_eq hq (show 60 < 200 by decide), c_eq hq (show 114 < 200 by decide), dg_n hq (show 50 < 200 by decide) (show 57 < 200 by decide), dg_n hq (show 48 < 200 by decide) (show 54 < 200 by decide), dg_n hq (show 48 < 200 by decide) (show 57 < 200 by decide), dg_n hq (show 48 < 200 by decide) (show 51 < 200 by decide)]
theorem sg2 {q : Nat} (hq : q ≤ 126) : stgI (nI 2) (nI q) = bSn q := by rw [stgI, if_neg (by decide), if_neg (by decide), if_pos rfl]; simp only [inH, behP_n hq, behS_n hq, c_eq hq (show 49 < 200 by decide), c_eq hq (show 50 < 200 by decide), c_eq hq (show 59 < 200 by decide), c_eq hq (show 60 < 200 by decide), c_eq hq (show 114 < 200 by decide), dg_n hq (show 50 < 200 by decide) (show 57 < 200 by decide), dg_n hq (show 48 < 200 by decide) (show 54 < 200 by decide), dg_n hq (show 48 < 200 by decide) (show 57 < 200 by decide), dg_n hq (show 48 < 200 by decide) (show 51 < 200 by decide)]
theorem sg3 {q : Nat} (hq : q ≤ 126) : stgI (nI 3) (nI q) = if q = 60 then nI 4 else bPn q := by rw [stgI, if_neg (by decide), if_neg (by decide), if_neg (by decide), if_pos rfl]; simp only [inH, behP_n hq, behS_n hq, c_eq hq (show 49 < 200 by decide), c_eq hq (show 50 < 200 by decide), c_eq hq (show 59 < 200 by decide), c_eq hq (show 60 < 200 by decide), c_eq hq (show 114 < 200 by decide), dg_n hq (show 50 < 200 by decide) (show 57 < 200 by decide), dg_n hq (show 48 < 200 by decide) (show 54 < 200 by decide), dg_n hq (show 48 < 200 by decide) (show 57 < 200 by decide), dg_n hq (show 48 < 200 by decide) (show 51 < 200 by decide)]
theorem sg4 {q : Nat} (hq : q ≤ 126) : stgI (nI 4) (nI q) = if q = 49 then nI 5 else if q = 50 then nI 6 else if 48 ≤ q ∧ q ≤ 57 then nI 7 else -1 := by rw [stgI, if_neg (by decide), if_neg (by decide), if_neg (by decide), if_neg (by decide), if_pos rfl]; simp only [inH, behP_n hq, behS_n hq, c_eq hq (show 49 < 200 by decide), c_eq hq (show 50 < 200 by decide), c_eq hq (show 59 < 200 by decide), c_eq hq (show 60 < 200 by decide), c_eq hq (show 114 < 200 by decide), dg_n hq (show 50 < 200 by decide) (show 57 < 200 by decide), dg_n hq (show 48 < 200 by decide) (show 54 < 200 by decide), dg_n hq (show 48 < 200 by decide) (show 57 < 200 by decide), dg_n hq (show 48 < 200 by decide) (show 51 < 200 by decide)]
theorem sg5 {q : Nat} (hq : q ≤ 126) : stgI (nI 5) (nI q) = if 48 ≤ q ∧ q ≤ 57 then nI 7 else bPn q := by rw [stgI, if_neg (by decide), if_neg (by decide), if_neg (by decide), if_neg (by decide), if_neg (by decide), if_pos rfl]; simp only [inH, behP_n hq, behS_n hq, c_eq hq (show 49 < 200 by decide), c_eq hq (show 50 < 200 by decide), c_eq hq (show 59 < 200 by decide), c_eq hq (show 60 < 200 by decide), c_eq hq (show 114 < 200 by decide), dg_n hq (show 50 < 200 by decide) (show 57 < 200 by decide), dg_n hq (show 48 < 200 by decide) (show 54 < 200 by decide), dg_n hq (show 48 < 200 by decide) (show 57 < 200 by decide), dg_n hq (show 48 < 200 by decide) (show 51 < 200 by decide)]
theorem sg6 {q : Nat} (hq : q ≤ 126) : stgI (nI 6) (nI q) = if 48 ≤ q ∧ q ≤ 51 then nI 7 else bPn q := by rw [stgI, if_neg (by decide), if_neg (by decide), if_neg (by decide), if_neg (by decide), if_neg (by decide), if_neg (by decide), if_pos rfl]; simp only [inH, behP_n hq, behS_n hq, c_eq hq (show 49 < 200 by decide), c_eq hq (show 50 < 200 by decide), c_eq hq (show 59 < 200 by decide), c_eq hq (show 60 < 200 by decide), c_eq hq (show 114 < 200 by decide), dg_n hq (show 50 < 200 by decide) (show 57 < 200 by decide), dg_n hq (show 48 < 200 by decide) (show 54 < 200 by decide), dg_n hq (show 48 < 200 by decide) (show 57 < 200 by decide), dg_n hq (show 48 < 200 by decide) (show 51 < 200 by decide)]
theorem sg7 {q : Nat} (hq : q ≤ 126) : stgI (nI 7) (nI q) = bPn q := by rw [stgI, if_neg (by decide), if_neg (by decide), if_neg (by decide), if_neg (by decide), if_neg (by decide), if_neg (by decide), if_neg (by decide), if_pos rfl]; simp only [inH, behP_n hq, behS_n hq, c_eq hq (show 49 < 200 by decide), c_eq hq (show 50 < 200 by decide), c_eq hq (show 59 < 200 by decide), c_eq hq (show 60 < 200 by decide), c_eq hq (show 114 < 200 by decide), dg_n hq (show 50 < 200 by decide) (show 57 < 200 by decide), dg_n hq (show 48 < 200 by decide) (show 54 < 200 by decide), dg_n hq (show 48 < 200 by decide) (show 57 < 200 by decide), dg_n hq (show 48 < 200 by decide) (show 51 < 200 by decide)]
def DF (τ : Nat → Nat → Int32) (i : Nat) (z : Int32) : Int32 × Int32 := (stL τ (60 - i) i z, errL τ (60 - i) i z)
section DFS
variable {τ : Nat → Nat → Int32} {cd : Nat → Nat} {t : Nat} 
theorem df_step (hτ : RTX τ cd t) {i : Nat} (hi : i < t) {z z' : Int32} (h : stgI z (nI (cd i)) = z') (hz : z' ≠ -1) : DF τ i z = DF τ (i + 1) z' := by
  have ht := hτ.2.1
  have c : ¬ τ 1 0 ≤ nI i := by rw [hτ.1, nI_leI (by omega) (by omega)]; omega
  rw [DF, show 60 - i = (60 - (i + 1)) + 1 by omega, stL, errL, if_neg c, if_neg c, (hτ.2.2 i hi).1, h, if_neg hz]
  rfl
theorem df_end (hτ : RTX τ cd t) (z : Int32) : DF τ t z = (z, nI t) := by
  have ht := hτ.2.1
  rw [DF]
  rcases Nat.eq_or_lt_of_le ht with e | e
  · rw [show 60 - t = 0 by omega, stL, errL, hτ.1]
  · have c : τ 1 0 ≤ nI t := by rw [hτ.1]; exact i32_le_rf _
    rw [show 60 - t = (59 - t) + 1 by omega, stL, errL, if_pos c, if_pos c, hτ.1]
theorem df_bad (hτ : RTX τ cd t) {i : Nat} (hi : i < t) {z : Int32} (h : stgI z (nI (cd i)) = -1) : okB (DF τ i z).1 = false ∧ (DF τ i z).2 = nI i := by
  have ht := hτ.2.1
  have c : ¬ τ 1 0 ≤ nI i := by rw [hτ.1, nI_leI (by omega) (by omega)]; omega
  have st : ∀ n j, stL τ n j (-1) = -1 := by
    intro n
    induction n with
    | zero => intro j; rfl
    | succ n ih =>
      intro j
      rw [stL]
      split
      · rfl
      · rw [stg_out _ (Or.inl (by decide)), ih]
  rw [DF, show 60 - i = (60 - (i + 1)) + 1 by omega, stL, errL, if_neg c, if_neg c, (hτ.2.2 i hi).1, h, if_pos rfl, st]
  exact ⟨by rw [okB, if_pos rfl], rfl⟩
/-- a first number: size -/
theorem df_num0 (hτ : RTX τ cd t) {q z q1 : Nat} (h : numN cd t q 49 16 = some (z, q1)) : ∃ s, DF τ q (nI 0) = DF τ q1 s ∧ (s = nI 2 ∨ (s = nI 1 ∧ ¬ (q1 < t ∧ 48 ≤ cd q1 ∧ cd q1 ≤ 54))) := by
  rw [numN] at h
  split at h
  · rename_i c
    have c1 := at_t c
    have b1 := (hτ.2.2 q c1.1).2
    split at h
    · rename_i c2
      have c3 := at_t c2.2.1
      have b2 := (hτ.2.2 (q + 1) c3.1).2
      cases h
      have e : cd q = 49 := by omega
      refine ⟨nI 2, ?_, Or.inl rfl⟩
      rw [df_step hτ c1.1 (z' := nI 1) (by rw [sg0 b1.2, if_pos e]) (by decide), df_step hτ c3.1 (z' := nI 2) (by rw [sg1 b2.2, if_pos (by omega)]) (by decide)]
    · rename_i c2
      cases h
      by_cases e : cd q = 49
      · refine ⟨nI 1, df_step hτ c1.1 (by rw [sg0 b1.2, if_pos e]) (by decide), Or.inr ⟨rfl, fun z => c2 ⟨by omega, decide_eq_true ⟨z.1, by omega⟩, by omega⟩⟩⟩
      · exact ⟨nI 2, df_step hτ c1.1 (by rw [sg0 b1.2, if_neg e, if_pos (by omega)]) (by decide), Or.inl rfl⟩
  · cases h
theorem df_num0_n (hτ : RTX τ cd t) {q : Nat} (hq : q ≤ t) (h : numN cd t q 49 16 = none) : okB (DF τ q (nI 0)).1 = false ∧ (DF τ q (nI 0)).2 = nI q := by
  rcases Nat.eq_or_lt_of_le hq with e | e
  · subst e
    rw [df_end hτ]
    exact ⟨(by decide : okB (nI 0) = false), rfl⟩
  · have b := (hτ.2.2 q e).2
    have c : ¬ (49 ≤ cd q ∧ cd q ≤ 57) := fun z => by
      rw [numN, if_pos (show atD cd t q 49 57 = true from decide_eq_true ⟨e, z⟩)] at h
      split at h <;> cases h
    exact df_bad hτ e (by rw [sg0 b.2, if_neg (by omega), if_neg (by omega)])
/-- a second number: holder -/
theorem df_num4 (hτ : RTX τ cd t) {q z q1 : Nat} (h : numN cd t q 48 23 = some (z, q1)) : ∃ s, DF τ q (nI 4) = DF τ q1 s ∧ z < 24 ∧ (s = nI 7 ∨ (s = nI 5 ∧ ¬ (q1 < t ∧ 48 ≤ cd q1 ∧ cd q1 ≤ 57)) ∨ (s = nI 6 ∧ ¬ (q1 < t ∧ 48 ≤ cd q1 ∧ cd q1 ≤ 51))) := by
  rw [numN] at h
  split at h
  · rename_i c
    have c1 := at_t c
    have b1 := (hτ.2.2 q c1.1).2
    split at h
    · rename_i c2
      have c3 := at_t c2.2.1
      have b2 := (hτ.2.2 (q + 1) c3.1).2
      cases h
      refine ⟨nI 7, ?_, by omega, Or.inl rfl⟩
      by_cases e : cd q = 49
      · rw [df_step hτ c1.1 (z' := nI 5) (by rw [sg4 b1.2, if_pos e]) (by decide), df_step hτ c3.1 (z' := nI 7) (by rw [sg5 b2.2, if_pos (by omega)]) (by decide)]
      · rw [df_step hτ c1.1 (z' := nI 6) (by rw [sg4 b1.2, if_neg e, if_pos (by omega)]) (by decide), df_step hτ c3.1 (z' := nI 7) (by rw [sg6 b2.2, if_pos (by omega)]) (by decide)]
    · rename_i c2
      cases h
      by_cases e : cd q = 49
      · exact ⟨nI 5, df_step hτ c1.1 (by rw [sg4 b1.2, if_pos e]) (by decide), by omega, Or.inr (Or.inl ⟨rfl, fun z => c2 ⟨by omega, decide_eq_true ⟨z.1, by omega⟩, by omega⟩⟩)⟩
      · by_cases e2 : cd q = 50
        · exact ⟨nI 6, df_step hτ c1.1 (by rw [sg4 b1.2, if_neg e, if_pos e2]) (by decide), by omega, Or.inr (Or.inr ⟨rfl, fun z => c2 ⟨by omega, decide_eq_true ⟨z.1, by omega⟩, by omega⟩⟩)⟩
        · exact ⟨nI 7, df_step hτ c1.1 (by rw [sg4 b1.2, if_neg e, if_neg e2, if_pos (by omega)]) (by decide), by omega, Or.inl rfl⟩
  · cases h
theorem df_num4_n (hτ : RTX τ cd t) {q : Nat} (hq : q ≤ t) (h : numN cd t q 48 23 = none) : okB (DF τ q (nI 4)).1 = false ∧ (DF τ q (nI 4)).2 = nI q := by
  rcases Nat.eq_or_lt_of_le hq with e | e
  · subst e
    rw [df_end hτ]
    exact ⟨(by decide : okB (nI 4) = false), rfl⟩
  · have b := (hτ.2.2 q e).2
    have c : ¬ (48 ≤ cd q ∧ cd q ≤ 57) := fun z => by
      rw [numN, if_pos (show atD cd t q 48 57 = true from decide_eq_true ⟨e, z⟩)] at h
      split at h <;> cases h
    exact df_bad hτ e (by rw [sg4 b.2, if_neg (by omega), if_neg (by omega), if_neg (by omega)])
theorem at_f {q x : Nat} (h : atD cd t q x x = false) : ¬ (q < t ∧ cd q = x) := fun z => by
  have := of_decide_eq_false h
  exact this ⟨z.1, by omega, by omega⟩
/-- behind a part: a text's end, a ';', or nothing that can stand there -/
def EN (τ : Nat → Nat → Int32) (cd : Nat → Nat) (t q' : Nat) (s : Int32) : Prop := okB s = true ∧ (q' < t → cd q' = 59 → DF τ q' s = DF τ (q' + 1) (nI 0)) ∧ (q' < t → ¬ cd q' = 59 → stgI s (nI (cd q')) = -1)
theorem df_part (hτ : RTX τ cd t) {q : Nat} {r : Nat × Nat × Int32 × Nat} (h : ptN cd t q = some r) : ∃ s, DF τ q (nI 0) = DF τ r.2.2.2 s ∧ EN τ cd t r.2.2.2 s ∧ q < r.2.2.2 ∧ r.2.2.2 ≤ t := by
  rcases e1 : numN cd t q 49 16 with _ | ⟨z, q1⟩
  · rw [(pt_1 e1).1] at h; cases h
  · obtain ⟨s, d1, hs⟩ := df_num0 hτ e1
    have b1 := num_bd e1
    have b2 := sg_bd (cd := cd) (x := 114) b1.2
    -- a root's sign
    have hr : ∃ s2, DF τ q (nI 0) = DF τ (sgP cd t q1 114) s2 ∧ ((s2 = nI 3) ∨ (∀ y, y ≤ 126 → sgP cd t q1 114 < t → cd (sgP cd t q1 114) = y → y ≠ 114 ∧ stgI s2 (nI y) = bSn y) ∧ okB s2 = true) := by
      rcases c : atD cd t q1 114 114 with _ | _
      · rw [sgP, if_neg (by rw [c]; decide)]
        refine ⟨s, d1, Or.inr ⟨fun y hy hl he => ?_, ?_⟩⟩
        · have : y ≠ 114 := fun e => at_f c ⟨hl, by omega⟩
          rcases hs with hs | ⟨hs, hn⟩
          · exact ⟨this, by rw [hs, sg2 hy]⟩
          · exact ⟨this, by rw [hs, sg1 hy, if_neg (fun z => hn ⟨hl, by omega⟩)]⟩
        · rcases hs with hs | ⟨hs, hn⟩ <;> rw [hs] <;> decide
      · have c1 := at_t c
        have b := (hτ.2.2 q1 c1.1).2
        rw [sgP, if_pos c]
        refine ⟨nI 3, ?_, Or.inl rfl⟩
        rw [d1]
        rcases hs with hs | ⟨hs, hn⟩
        · exact df_step hτ c1.1 (by rw [hs, sg2 b.2, bSn, if_pos (by omega)]) (by decide)
        · exact df_step hτ c1.1 (by rw [hs, sg1 b.2, if_neg (fun z => hn ⟨c1.1, z⟩), bSn, if_pos (by omega)]) (by decide)
    obtain ⟨s2, d2, h2⟩ := hr
    rcases c : atD cd t (sgP cd t q1 114) 60 60 with _ | _
    · rw [pt_2 e1 c] at h
      cases h
      have n60 := at_f c
      refine ⟨s2, d2, ⟨?_, fun hl he => ?_, fun hl he => ?_⟩, by dsimp only; omega, b2.2⟩
      · rcases h2 with h2 | h2
        · rw [h2]; decide
        · exact h2.2
      · refine df_step hτ hl ?_ (by decide)
        rcases h2 with h2 | h2
        · rw [h2, sg3 (hτ.2.2 _ hl).2.2, if_neg (fun z => n60 ⟨hl, z⟩), bPn, if_pos he]
        · rw [(h2.1 _ (hτ.2.2 _ hl).2.2 hl rfl).2, bSn, if_neg (by omega), if_neg (by omega), bPn, if_pos he]
      · rcases h2 with h2 | h2
        · rw [h2, sg3 (hτ.2.2 _ hl).2.2, if_neg (fun z => n60 ⟨hl, z⟩), bPn, if_neg he]
        · have w := h2.1 _ (hτ.2.2 _ hl).2.2 hl rfl
          rw [w.2, bSn, if_neg w.1, if_neg (fun z => n60 ⟨hl, z⟩), bPn, if_neg he]
    · have c1 := at_t c
      have b := (hτ.2.2 _ c1.1).2
      have e60 : cd (sgP cd t q1 114) = 60 := by omega
      have d3 : DF τ q (nI 0) = DF τ (sgP cd t (sgP cd t q1 114) 60) (nI 4) := by
        rw [d2, show sgP cd t (sgP cd t q1 114) 60 = sgP cd t q1 114 + 1 by rw [sgP, if_pos c]]
        refine df_step hτ c1.1 ?_ (by decide)
        rcases h2 with h2 | h2
        · rw [h2, sg3 b.2, if_pos e60]
        · rw [(h2.1 _ b.2 c1.1 rfl).2, bSn, if_neg (by omega), if_pos e60]
      have b3 := sg_bd (cd := cd) (x := 60) b2.2
      rcases e2 : numN cd t (sgP cd t (sgP cd t q1 114) 60) 48 23 with _ | ⟨y, q4⟩
      · rw [(pt_4 e1 c e2).1] at h; cases h
      · rw [pt_3 e1 c e2] at h
        cases h
        obtain ⟨s4, d4, hy, hs4⟩ := df_num4 hτ e2
        have b4 := num_bd e2
        refine ⟨s4, d3.trans d4, ⟨?_, fun hl he => ?_, fun hl he => ?_⟩, by dsimp only; omega, b4.2⟩
        · rcases hs4 with e | ⟨e, _⟩ | ⟨e, _⟩ <;> rw [e] <;> decide
        · refine df_step hτ hl ?_ (by decide)
          dsimp only at hl he
          have bb := (hτ.2.2 _ hl).2.2
          rcases hs4 with e | ⟨e, n⟩ | ⟨e, n⟩
          · rw [e, sg7 bb, bPn, if_pos he]
          · rw [e, sg5 bb, if_neg (by omega), bPn, if_pos he]
          · rw [e, sg6 bb, if_neg (by omega), bPn, if_pos he]
        · dsimp only at hl he ⊢
          have bb := (hτ.2.2 _ hl).2.2
          rcases hs4 with e | ⟨e, n⟩ | ⟨e, n⟩
          · rw [e, sg7 bb, bPn, if_neg he]
          · rw [e, sg5 bb, if_neg (fun z => n ⟨hl, z⟩), bPn, if_neg he]
          · rw [e, sg6 bb, if_neg (fun z => n ⟨hl, z⟩), bPn, if_neg he]
theorem df_part_n (hτ : RTX τ cd t) {q : Nat} (hq : q ≤ t) (h : ptN cd t q = none) : okB (DF τ q (nI 0)).1 = false ∧ (DF τ q (nI 0)).2 = nI (ptF cd t q) ∧ ptF cd t q ≤ t := by
  rcases e1 : numN cd t q 49 16 with _ | ⟨z, q1⟩
  · rw [(pt_1 e1).2]
    exact ⟨(df_num0_n hτ hq e1).1, (df_num0_n hτ hq e1).2, hq⟩
  · have b1 := num_bd e1
    have b2 := sg_bd (cd := cd) (x := 114) b1.2
    have b3 := sg_bd (cd := cd) (x := 60) b2.2
    rcases c : atD cd t (sgP cd t q1 114) 60 60 with _ | _
    · rw [pt_2 e1 c] at h; cases h
    · rcases e2 : numN cd t (sgP cd t (sgP cd t q1 114) 60) 48 23 with _ | ⟨y, q4⟩
      · obtain ⟨s, d1, hs⟩ := df_num0 hτ e1
        have c1 := at_t c
        have b := (hτ.2.2 _ c1.1).2
        have e60 : cd (sgP cd t q1 114) = 60 := by omega
        have d3 : DF τ q (nI 0) = DF τ (sgP cd t (sgP cd t q1 114) 60) (nI 4) := by
          rw [d1, show sgP cd t (sgP cd t q1 114) 60 = sgP cd t q1 114 + 1 by rw [sgP, if_pos c]]
          rcases c2 : atD cd t q1 114 114 with _ | _
          · rw [sgP, if_neg (by rw [c2]; decide)] at c1 b e60 ⊢
            refine df_step hτ c1.1 ?_ (by decide)
            rcases hs with hs | ⟨hs, hn⟩
            · rw [hs, sg2 b.2, bSn, if_neg (by omega), if_pos e60]
            · rw [hs, sg1 b.2, if_neg (by omega), bSn, if_neg (by omega), if_pos e60]
          · have c3 := at_t c2
            have b0 := (hτ.2.2 _ c3.1).2
            rw [sgP, if_pos c2] at c1 b e60 ⊢
            have d2 : DF τ q1 s = DF τ (q1 + 1) (nI 3) := by
              refine df_step hτ c3.1 ?_ (by decide)
              rcases hs with hs | ⟨hs, hn⟩
              · rw [hs, sg2 b0.2, bSn, if_pos (by omega)]
              · rw [hs, sg1 b0.2, if_neg (by omega), bSn, if_pos (by omega)]
            rw [d2]
            exact df_step hτ c1.1 (by rw [sg3 b.2, if_pos e60]) (by decide)
        rw [d3, (pt_4 e1 c e2).2]
        exact ⟨(df_num4_n hτ b3.2 e2).1, (df_num4_n hτ b3.2 e2).2, b3.2⟩
      · rw [pt_3 e1 c e2] at h; cases h
end DFS
