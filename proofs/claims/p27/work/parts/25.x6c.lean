/-! The model: who survives -/
def rm1 (μ : Nat → Nat → Int32) (o j : Nat) : Bool := if μ 0 (24 + 9 * j + 0) = nI 1 then (if μ 0 (24 + 9 * j + 4) = nI o then true else if μ 0 (24 + 9 * j + 5) = nI o then true else false) else false
def rmB (μ : Nat → Nat → Int32) (o j : Nat) : Bool := if rm1 μ o j = false then false else if μ 0 (24 + 9 * j + 1) = μ 0 (24 + 9 * o + 1) then (if μ 14 j = 0 then false else true) else true
theorem anyB_ex {p : Nat → Bool} {n : Nat} (h : anyB p n = true) : ∃ k, k < n ∧ p k = true := by
  rcases lowI_cases p n with ⟨_, h2⟩ | ⟨k, hk, _, h3, _⟩
  · rw [anyB_none h2] at h; cases h
  · exact ⟨k, hk, h3⟩
theorem anyB_of {p : Nat → Bool} {n k : Nat} (hk : k < n) (h : p k = true) : anyB p n = true := by
  rcases lowI_cases p n with ⟨_, h2⟩ | ⟨k2, hk2, _, h3, h4⟩
  · rw [h2 k hk] at h; cases h
  · exact anyB_found h4 hk2 h3
theorem rm1_iff {σ μ : Nat → Nat → Int32} (hR : RI σ (μ 0)) {o j : Nat} (hj : j < 24) : rm1 μ o j = true ↔ σ 0 j = nI 1 ∧ ∃ f, f < 2 ∧ σ 4 (j * 2 + f) = nI o := by
  rw [rm1, hR.used hj]
  by_cases hu : σ 0 j = nI 1
  · have e0 := hR.fld hj (f := 0) (by decide) hu
    have e1 := hR.fld hj (f := 1) (by decide) hu
    rw [if_pos hu, show (24 + 9 * j + 4) = 24 + 9 * j + (4 + 0) from rfl, show (24 + 9 * j + 5) = 24 + 9 * j + (4 + 1) from rfl, e0, e1]
    by_cases c0 : σ 4 (j * 2 + 0) = nI o
    · rw [if_pos c0]
      exact ⟨fun _ => ⟨hu, 0, by decide, c0⟩, fun _ => rfl⟩
    · rw [if_neg c0]
      by_cases c1 : σ 4 (j * 2 + 1) = nI o
      · rw [if_pos c1]
        exact ⟨fun _ => ⟨hu, 1, by decide, c1⟩, fun _ => rfl⟩
      · rw [if_neg c1]
        refine ⟨fun h => (by cases h), fun ⟨_, f, hf, e⟩ => ?_⟩
        rcases (show f = 0 ∨ f = 1 by omega) with rfl | rfl
        · exact absurd e c0
        · exact absurd e c1
  · rw [if_neg hu]
    exact ⟨fun h => (by cases h), fun h => absurd h.1 hu⟩
def l0 (σ : Nat → Nat → Int32) (a : Int32) (j : Nat) : Bool := if isInB σ (nI j) a = false then false else plB (trC σ (-1)) j
theorem l0_iff {σ : Nat → Nat → Int32} {a : Int32} {j : Nat} : l0 σ a j = true ↔ isInB σ (nI j) a = true ∧ plB (trC σ (-1)) j = true := by
  rw [l0]
  cases isInB σ (nI j) a <;> simp
/-- the model's lives, on their way -/
def WL (σ : Nat → Nat → Int32) (a : Int32) (μ : Nat → Nat → Int32) : Prop := (∀ j, j < 24 → μ 14 j = nI 0 ∨ μ 14 j = nI 1) ∧ (∀ j, j < 24 → l0 σ a j = true → μ 14 j = nI 1) ∧ ∀ j, j < 24 → μ 14 j = nI 1 → plB (suC σ a) j = true ∧ isInB σ (nI j) a = true
def LQP (σ μ μ' : Nat → Nat → Int32) : Prop := scr μ μ' ∧ ∃ q, FM σ μ' (trC σ (-1)) q
def LV (μ ρ : Nat → Nat → Int32) : Prop := ∀ j, j < 24 → μ 14 j = bI (plB ρ j)
theorem LQP.up {σ μ μ' : Nat → Nat → Int32} (h : LQP σ μ μ') (f : Nat → Int32) : LQP σ μ (rw2 μ' 14 f) := ⟨fun k hk => (rw2_n _ _ (by omega)).trans (h.1 k hk), h.2.elim fun q hq => ⟨q, hq⟩⟩
section SVS
variable {σ μ : Nat → Nat → Int32} {a : Int32}
theorem wl_add (hR : RI σ (μ 0)) (ha : a ≠ -1) (h : WL σ a μ) (hs : σ 11 0 = nI 1) {o : Nat} (ho : o < 24) (hi : isInB σ (nI o) a = true) (hr : anyB (rmB μ o) 24 = true) : WL σ a (rw2 μ 14 (upd (μ 14) o (nI 1))) := by
  have e : ∀ j, rw2 μ 14 (upd (μ 14) o (nI 1)) 14 j = if j = o then nI 1 else μ 14 j := fun j => by rw [rw2_s, upd_e]
  refine ⟨fun j hj => ?_, fun j hj hl => ?_, fun j hj hl => ?_⟩
  · rw [e]
    split
    · exact Or.inr rfl
    · exact h.1 j hj
  · rw [e]
    split
    · rfl
    · exact h.2.1 j hj hl
  · rw [e] at hl
    by_cases c : j = o
    · subst c
      refine ⟨?_, hi⟩
      obtain ⟨k, hk, hb⟩ := anyB_ex hr
      rw [rmB] at hb
      rcases c1 : rm1 μ j k with _ | _
      · rw [c1, if_pos rfl] at hb; cases hb
      · rw [c1, if_neg (by decide)] at hb
        obtain ⟨hu, f, hf, ef⟩ := (rm1_iff hR hk).mp c1
        have ui := in_used hR ho hi
        rw [(hR.at hk hu).1, (hR.at ho ui.1).1] at hb
        obtain ⟨-, -, s3, s4, -⟩ := su_clo hR.1.2.2.2.2.2.1 ha
        by_cases c2 : σ 1 k = σ 1 j
        · rw [if_pos c2] at hb
          have hl1 : μ 14 k = nI 1 := by
            rcases h.1 k hk with z | z
            · rw [z, if_pos (by decide)] at hb; cases hb
            · exact z
          exact s4 k f j hk hf ho (h.2.2 k hk hl1).1 ef hi
        · exact s3 hs k f j hk hf ho (by rw [isIn_nI σ hk, hu, if_neg n10, if_neg (fun z => c2 (z.trans ui.2.symm))]) ef hi
    · rw [if_neg c] at hl
      exact h.2.2 j hj hl
theorem wl_fix (hR : RI σ (μ 0)) (ha : a ≠ -1) (h : WL σ a μ) (hc : ∀ j, j < 24 → isInB σ (nI j) a = true → anyB (rmB μ j) 24 = true → μ 14 j = nI 1) : LV μ (suC σ a) := by
  intro j hj
  obtain ⟨-, -, -, -, s5⟩ := su_clo hR.1.2.2.2.2.2.1 ha
  have key : plB (suC σ a) j = true → μ 14 j = nI 1 := by
    refine s5 (fun j => μ 14 j = nI 1) (fun j hj h1 h2 => h.2.1 j hj (l0_iff.mpr ⟨h1, h2⟩)) (fun hs k f t hk hf ht h1 h2 h3 => hc t ht h3 (anyB_of hk ?_)) (fun k f t hk hf ht h1 h2 h3 => hc t ht h3 (anyB_of hk ?_)) j hj
    · have hu : σ 0 k = nI 1 := by
        rcases hR.flag hk with z | z
        · exact absurd (h2.symm.trans (hR.unf hk hf z)) (nI_ne (by omega))
        · exact z
      have ut := in_used hR ht h3
      rw [rmB, (rm1_iff hR hk).mpr ⟨hu, f, hf, h2⟩, if_neg (by decide), (hR.at hk hu).1, (hR.at ht ut.1).1, if_neg]
      intro z
      rw [isIn_nI σ hk, hu, if_neg n10, if_pos (z.trans ut.2)] at h1
      cases h1
    · have hu := (in_used hR hk (h.2.2 k hk h1).2).1
      rw [rmB, (rm1_iff hR hk).mpr ⟨hu, f, hf, h2⟩, if_neg (by decide), h1]
      split <;> rfl
  rcases h.1 j hj with z | z
  · rcases hp : plB (suC σ a) j with _ | _
    · exact z
    · exact key hp
  · rw [z, (h.2.2 j hj z).1]; rfl
theorem l0_su (hR : RI σ (μ 0)) (ha : a ≠ -1) (hs : ¬ σ 11 0 = nI 1) {j : Nat} (hj : j < 24) : l0 σ a j = plB (suC σ a) j := by
  obtain ⟨-, s2, -, -, s5⟩ := su_clo hR.1.2.2.2.2.2.1 ha
  obtain ⟨-, -, t3⟩ := tr_clo hR.1.2.2.2.2.2.1 (-1)
  rcases hp : plB (suC σ a) j with _ | _
  · rcases hl : l0 σ a j with _ | _
    · rfl
    · rw [s2 j hj (l0_iff.mp hl).1 (l0_iff.mp hl).2] at hp; cases hp
  · exact s5 (fun j => l0 σ a j = true) (fun j hj h1 h2 => l0_iff.mpr ⟨h1, h2⟩) (fun z => absurd z hs) (fun k f t hk hf ht h1 h2 h3 => l0_iff.mpr ⟨h3, t3 k f t hk hf ht (l0_iff.mp h1).2 ⟨h2, nI_ne (by omega), Or.inl rfl⟩⟩) j hj hp
theorem wl_0 (ha : a ≠ -1) (hR : RI σ (μ 0)) (h : ∀ j, j < 24 → μ 14 j = bI (l0 σ a j)) : WL σ a μ := by
  refine ⟨fun j hj => ?_, fun j hj hl => by rw [h j hj, hl]; rfl, fun j hj hl => ?_⟩
  · rw [h j hj]
    cases l0 σ a j
    · exact Or.inl rfl
    · exact Or.inr rfl
  · rw [h j hj] at hl
    rcases c : l0 σ a j with _ | _
    · rw [c] at hl; exact absurd hl n01
    · obtain ⟨-, s2, -⟩ := su_clo hR.1.2.2.2.2.2.1 ha
      exact ⟨s2 j hj (l0_iff.mp c).1 (l0_iff.mp c).2, (l0_iff.mp c).1⟩
def ddB (μ : Nat → Nat → Int32) (j : Nat) : Bool := if μ 14 j = nI 0 then true else false
theorem dd_lt {o : Nat} (ho : o < 24) (h : μ 14 o = nI 0) : cn (ddB (rw2 μ 14 (upd (μ 14) o (nI 1)))) 24 < cn (ddB μ) 24 := by
  have := cn_up (P := ddB (rw2 μ 14 (upd (μ 14) o (nI 1)))) (Q := ddB μ) (j := o) (by rw [ddB, rw2_s, upd_e, if_pos rfl, if_neg n10]) (if_pos h) (fun i hi => by rw [ddB, ddB, rw2_s, upd_e, if_neg hi]) 24 ho
  omega
end SVS
theorem LQP.RI {σ μ μ' : Nat → Nat → Int32} (h : LQP σ μ μ') (hR : RI σ (μ 0)) : RI σ (μ' 0) := h.1.RI hR
