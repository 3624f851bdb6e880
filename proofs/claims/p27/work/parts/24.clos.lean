/-! what following reaches: closure -/
def GR (ρ : Nat → Nat → Int32) (q : Nat) : Prop := q ≤ 24 ∧ ρ 3 0 = nI q ∧ (∀ i, i < q → ∃ j, j < 24 ∧ ρ 0 i = nI j ∧ ρ 1 j = nI i) ∧ (∀ j, j < 24 → ρ 1 j = -1 ∨ ∃ i, i < q ∧ ρ 1 j = nI i ∧ ρ 0 i = nI j) ∧ cn (plB ρ) 24 = q
theorem FM.gr {σ μ ρ : Nat → Nat → Int32} {q : Nat} (h : FM σ μ ρ q) : GR ρ q :=
  ⟨h.1, h.2.1, fun i hi => by obtain ⟨j, d, hj, _, e1, _, e2, _⟩ := h.2.2.2.1 i hi; exact ⟨j, hj, e1, e2⟩, fun j hj => (h.2.2.2.2.1 j hj).elim (fun e => Or.inl e.1) Or.inr, h.2.2.2.2.2⟩
theorem pl_f {ρ : Nat → Nat → Int32} {j : Nat} : plB ρ j = false ↔ ρ 1 j = -1 := by
  rw [plB]
  split
  · exact ⟨fun _ => by assumption, fun _ => rfl⟩
  · exact ⟨fun h => (by cases h), fun h => absurd h (by assumption)⟩
theorem pl_t {ρ : Nat → Nat → Int32} {j : Nat} : plB ρ j = true ↔ ¬ ρ 1 j = -1 := by
  rw [← pl_f]
  cases plB ρ j <;> simp
theorem met_pl (ρ : Nat → Nat → Int32) {j : Nat} (hj : j < 24) : metB ρ (nI j) = plB ρ j := by
  rw [metB, if_neg (nI_nlt0 (by omega)), if_neg (nI_nge hj (by decide)), nI_clamp (by omega)]
  rfl
section GRS
variable {σ ρ : Nat → Nat → Int32} {q : Nat}
theorem GR.lt (h : GR ρ q) {j : Nat} (hj : j < 24) (hu : ρ 1 j = -1) : q < 24 := by
  rw [← h.2.2.2.2]
  exact cn_lt (P := plB ρ) (pl_f.mpr hu) 24 hj
theorem GR.meet (h : GR ρ q) {o : Nat} (ho : o < 24) (s : Int32) : ∃ q', q ≤ q' ∧ GR (meetR ρ (nI o) s) q' ∧ (∀ j, j < 24 → (plB (meetR ρ (nI o) s) j = true ↔ plB ρ j = true ∨ j = o)) ∧ ∀ i, i < q → meetR ρ (nI o) s 0 i = ρ 0 i := by
  by_cases hu : ρ 1 o = -1
  · have hq := h.lt ho hu
    obtain ⟨-, h3, hm, hc, hn⟩ := h
    have w : meetR ρ (nI o) s = meetW ρ (nI o) s := by rw [meet_on ho _ hq h3, if_pos hu]
    have cq : (nI q).toNatClampNeg = q := nI_clamp (by omega)
    have co : (nI o).toNatClampNeg = o := nI_clamp (by omega)
    have r3 : meetR ρ (nI o) s 3 0 = nI (q + 1) := by rw [w, meetW, rw2_s, h3, nI_add]
    have r0 : ∀ i, meetR ρ (nI o) s 0 i = if i = q then nI o else ρ 0 i := fun i => by
      rw [w, meetW, rw2_n _ _ (by decide), rw2_n _ _ (by decide), rw2_n _ _ (by decide), rw2_s, h3, cq, upd_e]
    have r1 : ∀ j, meetR ρ (nI o) s 1 j = if j = o then nI q else ρ 1 j := fun j => by
      rw [w, meetW, rw2_n _ _ (by decide), rw2_n _ _ (by decide), rw2_s, h3, co, upd_e]
    refine ⟨q + 1, by omega, ⟨by omega, r3, fun i hi => ?_, fun j hj => ?_, ?_⟩, fun j hj => ?_, fun i hi => by rw [r0, if_neg (by omega)]⟩
    · by_cases e : i = q
      · subst e
        exact ⟨o, ho, by rw [r0, if_pos rfl], by rw [r1, if_pos rfl]⟩
      · obtain ⟨j, hj, e1, e2⟩ := hm i (by omega)
        have hjo : ¬ j = o := fun e => by
          rw [e, hu] at e2
          exact nI_ne (by omega) e2.symm
        exact ⟨j, hj, by rw [r0, if_neg e, e1], by rw [r1, if_neg hjo, e2]⟩
    · by_cases e : j = o
      · subst e
        exact Or.inr ⟨q, by omega, by rw [r1, if_pos rfl], by rw [r0, if_pos rfl]⟩
      · rcases hc j hj with e1 | ⟨i, hi, e1, e2⟩
        · exact Or.inl (by rw [r1, if_neg e, e1])
        · exact Or.inr ⟨i, by omega, by rw [r1, if_neg e, e1], by rw [r0, if_neg (by omega), e2]⟩
    · rw [cn_up (P := plB ρ) (Q := plB (meetR ρ (nI o) s)) (j := o) (pl_f.mpr hu) (by rw [plB, r1, if_pos rfl, if_neg (nI_ne (by omega))]) (fun i hi => by rw [plB, plB, r1, if_neg hi]) 24 ho, hn]
    · rw [pl_t, pl_t, r1]
      by_cases e : j = o
      · rw [if_pos e]
        exact ⟨fun _ => Or.inr e, fun _ => nI_ne (by omega)⟩
      · rw [if_neg e]
        exact ⟨Or.inl, fun h => h.elim id (fun z => absurd z e)⟩
  · rw [meet_off s hu ho]
    exact ⟨q, Nat.le_refl _, h, fun j hj => ⟨Or.inl, fun z => z.elim id (fun e => by rw [e]; exact pl_t.mpr hu)⟩, fun _ _ => rfl⟩
/-- t is where a follower of j's field f goes -/
def tgt (σ : Nat → Nat → Int32) (a w : Int32) (j f t : Nat) : Prop := σ 4 (j * 2 + f) = nI t ∧ ¬ nI t = w ∧ (a = -1 ∨ isInB σ (nI t) a = true)
theorem isIn_m1 (σ : Nat → Nat → Int32) (a : Int32) : isInB σ (-1) a = false := by rw [isInB, if_pos (by decide)]
theorem meet_m1 (ρ : Nat → Nat → Int32) (s : Int32) : meetR ρ (-1) s = ρ := by rw [meetR, if_pos (by decide)]
theorem gr_fol1 (hI : InvR σ) (h : GR ρ q) (a w s : Int32) {j f : Nat} (hj : j < 24) (hf : f < 2) : ∃ q', q ≤ q' ∧ GR (fol1 σ a w ρ (nI j) s f) q' ∧ (∀ t, t < 24 → (plB (fol1 σ a w ρ (nI j) s f) t = true ↔ plB ρ t = true ∨ tgt σ a w j f t)) ∧ ∀ i, i < q → fol1 σ a w ρ (nI j) s f 0 i = ρ 0 i := by
  have keep : ∀ ρ', fol1 σ a w ρ (nI j) s f = ρ' → ρ' = ρ → (∀ t, t < 24 → ¬ tgt σ a w j f t) → ∃ q', q ≤ q' ∧ GR (fol1 σ a w ρ (nI j) s f) q' ∧ (∀ t, t < 24 → (plB (fol1 σ a w ρ (nI j) s f) t = true ↔ plB ρ t = true ∨ tgt σ a w j f t)) ∧ ∀ i, i < q → fol1 σ a w ρ (nI j) s f 0 i = ρ 0 i := by
    intro ρ' e1 e2 hn
    rw [e1, e2]
    exact ⟨q, Nat.le_refl _, h, fun t ht => ⟨Or.inl, fun z => z.elim id (fun e => absurd e (hn t ht))⟩, fun _ _ => rfl⟩
  have e0 : fol1 σ a w ρ (nI j) s f = if σ 4 (j * 2 + f) = w then ρ else if a = -1 then meetR ρ (σ 4 (j * 2 + f)) s else if isInB σ (σ 4 (j * 2 + f)) a = false then ρ else meetR ρ (σ 4 (j * 2 + f)) s := by
    rw [fol1, ref_nI σ hj hf]
  rcases hI j f hj hf with e | ⟨t, ht, e, u⟩
  · refine keep ρ ?_ rfl (fun t ht z => nI_ne (by omega) (z.1.symm.trans e))
    rw [e0, e, meet_m1, isIn_m1, if_pos rfl]
    split
    · rfl
    · split <;> rfl
  · by_cases hw : nI t = w
    · refine keep ρ (by rw [e0, e, if_pos hw]) rfl (fun t2 ht2 z => z.2.1 ?_)
      rw [← hw, ← e, z.1]
    · by_cases ha : a = -1 ∨ isInB σ (nI t) a = true
      · have e1 : fol1 σ a w ρ (nI j) s f = meetR ρ (nI t) s := by
          rw [e0, e, if_neg hw]
          rcases ha with ha | ha
          · rw [if_pos ha]
          · split
            · rfl
            · rw [if_neg (by rw [ha]; decide)]
        rw [e1]
        obtain ⟨q', h1, h2, h3, h4⟩ := h.meet ht s
        refine ⟨q', h1, h2, fun t2 ht2 => ?_, h4⟩
        rw [h3 t2 ht2]
        constructor
        · rintro (z | z)
          · exact Or.inl z
          · subst z; exact Or.inr ⟨e, hw, ha⟩
        · rintro (z | z)
          · exact Or.inl z
          · exact Or.inr ((nI_eq (by omega) (by omega)).mp (z.1.symm.trans e))
      · refine keep ρ ?_ rfl (fun t2 ht2 z => ?_)
        · rw [e0, e, if_neg hw, if_neg (fun z => ha (Or.inl z))]
          rcases hb : isInB σ (nI t) a with _ | _
          · rw [if_pos rfl]
          · exact absurd (Or.inr hb) ha
        · have e2 : t2 = t := (nI_eq (by omega) (by omega)).mp (z.1.symm.trans e)
          rw [e2] at z
          exact ha z.2.2
theorem gr_folS (hI : InvR σ) (h : GR ρ q) (a w : Int32) {k j : Nat} (hj : j < 24) (hk : ρ 0 k = nI j) : ∃ q', q ≤ q' ∧ GR (folS σ a w ρ k) q' ∧ (∀ t, t < 24 → (plB (folS σ a w ρ k) t = true ↔ plB ρ t = true ∨ ∃ f, f < 2 ∧ tgt σ a w j f t)) ∧ ∀ i, i < q → folS σ a w ρ k 0 i = ρ 0 i := by
  rw [folS, hk]
  obtain ⟨q1, a1, a2, a3, a4⟩ := gr_fol1 hI h a w (stepI ρ (nI j) + nI 1) hj (f := 0) (by decide)
  obtain ⟨q2, b1, b2, b3, b4⟩ := gr_fol1 hI a2 a w (stepI ρ (nI j) + nI 1) hj (f := 1) (by decide)
  refine ⟨q2, by omega, b2, fun t ht => ?_, fun i hi => by rw [b4 i (by omega), a4 i hi]⟩
  rw [b3 t ht, a3 t ht]
  constructor
  · rintro ((z | z) | z)
    · exact Or.inl z
    · exact Or.inr ⟨0, by decide, z⟩
    · exact Or.inr ⟨1, by decide, z⟩
  · rintro (z | ⟨f, hf, z⟩)
    · exact Or.inl (Or.inl z)
    · rcases (show f = 0 ∨ f = 1 by omega) with rfl | rfl
      · exact Or.inl (Or.inr z)
      · exact Or.inr z
end GRS
theorem gr_fol {σ : Nat → Nat → Int32} (hI : InvR σ) (a w : Int32) : ∀ (n k : Nat) {ρ : Nat → Nat → Int32} {q : Nat}, k + n = 24 → GR ρ q → (∀ i, i < k → i < q → ∀ j f t, j < 24 → f < 2 → t < 24 → ρ 0 i = nI j → tgt σ a w j f t → plB ρ t = true) →
    (∃ q', GR (folL σ a w n k ρ) q') ∧ (∀ t, t < 24 → plB ρ t = true → plB (folL σ a w n k ρ) t = true) ∧ (∀ j f t, j < 24 → f < 2 → t < 24 → plB (folL σ a w n k ρ) j = true → tgt σ a w j f t → plB (folL σ a w n k ρ) t = true) ∧
    ∀ T : Nat → Prop, (∀ t, t < 24 → plB ρ t = true → T t) → (∀ j f t, j < 24 → f < 2 → t < 24 → T j → tgt σ a w j f t → T t) → ∀ t, t < 24 → plB (folL σ a w n k ρ) t = true → T t := by
  have fin : ∀ (k : Nat) {ρ : Nat → Nat → Int32} {q : Nat}, q ≤ k → GR ρ q → (∀ i, i < k → i < q → ∀ j f t, j < 24 → f < 2 → t < 24 → ρ 0 i = nI j → tgt σ a w j f t → plB ρ t = true) →
    (∃ q', GR ρ q') ∧ (∀ t, t < 24 → plB ρ t = true → plB ρ t = true) ∧ (∀ j f t, j < 24 → f < 2 → t < 24 → plB ρ j = true → tgt σ a w j f t → plB ρ t = true) ∧
    ∀ T : Nat → Prop, (∀ t, t < 24 → plB ρ t = true → T t) → (∀ j f t, j < 24 → f < 2 → t < 24 → T j → tgt σ a w j f t → T t) → ∀ t, t < 24 → plB ρ t = true → T t := by
    intro k ρ q hq h hc
    refine ⟨⟨q, h⟩, fun _ _ z => z, fun j f t hj hf ht hp hg => ?_, fun T h0 _ => h0⟩
    rcases h.2.2.2.1 j hj with e | ⟨i, hi, e1, e2⟩
    · exact absurd e (pl_t.mp hp)
    · exact hc i (by omega) hi j f t hj hf ht e2 hg
  intro n
  induction n with
  | zero =>
    intro k ρ q hk h hc
    exact fin k (by have := h.1; omega) h hc
  | succ n ih =>
    intro k ρ q hk h hc
    rw [folL]
    by_cases c : ρ 3 0 ≤ nI k
    · rw [if_pos c]
      rw [h.2.1, nI_leI (by have := h.1; omega) (by omega)] at c
      exact fin k c h hc
    · rw [if_neg c]
      have hkq : k < q := by
        rw [h.2.1] at c
        rcases Nat.lt_or_ge k q with z | z
        · exact z
        · exact absurd ((nI_leI (by have := h.1; omega) (by omega)).mpr z) c
      obtain ⟨j, hj, e1, e2⟩ := h.2.2.1 k hkq
      obtain ⟨q1, b1, b2, b3, b4⟩ := gr_folS hI h a w hj e1
      obtain ⟨i1, i2, i3, i4⟩ := ih (k + 1) (ρ := folS σ a w ρ k) (q := q1) (by omega) b2 (fun i hi hiq j2 f t hj2 hf ht ho hg => by
        rw [b3 t ht]
        by_cases e : i = k
        · subst e
          rw [b4 i hkq, e1] at ho
          have : j = j2 := (nI_eq (by omega) (by omega)).mp ho
          subst this
          exact Or.inr ⟨f, hf, hg⟩
        · rw [b4 i (by omega)] at ho
          exact Or.inl (hc i (by omega) (by omega) j2 f t hj2 hf ht ho hg))
      refine ⟨i1, fun t ht hp => i2 t ht ((b3 t ht).mpr (Or.inl hp)), i3, fun T h0 h1 => i4 T (fun t ht hp => ?_) h1⟩
      rcases (b3 t ht).mp hp with z | ⟨f, hf, z⟩
      · exact h0 t ht z
      · exact h1 j f t hj hf ht (h0 j hj (pl_t.mpr (by rw [e2]; exact nI_ne (by have := h.1; omega)))) z
theorem cn_0 {P : Nat → Bool} : ∀ n, (∀ j, j < n → P j = false) → cn P n = 0
  | 0, _ => rfl
  | n + 1, h => by rw [cn, cn_0 n (fun j hj => h j (by omega)), h n (by omega)]; rfl
theorem gf_0 (ρ : Nat → Nat → Int32) : GR (forgetL ρ 24) 0 ∧ ∀ j, j < 24 → plB (forgetL ρ 24) j = false := by
  have h := forget_at ρ 24
  have hf : ∀ j, j < 24 → plB (forgetL ρ 24) j = false := fun j hj => pl_f.mpr (h.2 j hj).1
  exact ⟨⟨by decide, h.1, fun i hi => by omega, fun j hj => Or.inl (h.2 j hj).1, cn_0 24 hf⟩, hf⟩
theorem gr_sar (σ ρ : Nat → Nat → Int32) (w : Int32) : ∀ n, n ≤ 24 → ∃ q, GR (sarL σ ρ w n) q ∧ ∀ j, j < 24 → (plB (sarL σ ρ w n) j = true ↔ j < n ∧ ¬ nI j = w ∧ hasB σ (nI j) = true ∧ ¬ σ 5 j = 0)
  | 0, _ => ⟨0, (gf_0 ρ).1, fun j hj => ⟨fun h => (by rw [sarL, (gf_0 ρ).2 j hj] at h; cases h), fun h => by omega⟩⟩
  | n + 1, hn => by
    obtain ⟨q, h1, h2⟩ := gr_sar σ ρ w n (by omega)
    have keep : sarL σ ρ w (n + 1) = sarL σ ρ w n → ¬ (¬ nI n = w ∧ hasB σ (nI n) = true ∧ ¬ σ 5 n = 0) → ∃ q, GR (sarL σ ρ w (n + 1)) q ∧ ∀ j, j < 24 → (plB (sarL σ ρ w (n + 1)) j = true ↔ j < n + 1 ∧ ¬ nI j = w ∧ hasB σ (nI j) = true ∧ ¬ σ 5 j = 0) := by
      intro e hc
      rw [e]
      refine ⟨q, h1, fun j hj => (h2 j hj).trans ⟨fun z => ⟨by omega, z.2⟩, fun z => ⟨?_, z.2⟩⟩⟩
      by_cases e2 : j = n
      · exact absurd (e2 ▸ z.2) hc
      · omega
    by_cases c1 : nI n = w
    · exact keep (by rw [sarL, if_pos c1]) (fun z => z.1 c1)
    · rcases c2 : hasB σ (nI n) with _ | _
      · exact keep (by rw [sarL, if_neg c1, c2, if_pos rfl]) (fun z => by rw [c2] at z; cases z.2.1)
      · by_cases c3 : σ 5 n = 0
        · exact keep (by rw [sarL, if_neg c1, c2, if_neg (by decide), if_pos c3]) (fun z => z.2.2 c3)
        · rw [show sarL σ ρ w (n + 1) = meetR (sarL σ ρ w n) (nI n) (nI 0) by rw [sarL, if_neg c1, c2, if_neg (by decide), if_neg c3]]
          obtain ⟨q', -, g2, g3, -⟩ := h1.meet (o := n) (by omega) (nI 0)
          refine ⟨q', g2, fun j hj => (g3 j hj).trans ?_⟩
          rw [h2 j hj]
          constructor
          · rintro (z | z)
            · exact ⟨by omega, z.2⟩
            · subst z; exact ⟨by omega, c1, c2, c3⟩
          · intro z
            by_cases e2 : j = n
            · exact Or.inr e2
            · exact Or.inl ⟨by omega, z.2⟩
theorem gr_surA (σ ρl ρs : Nat → Nat → Int32) (a : Int32) : ∀ n, n ≤ 24 → ∃ q, GR (surA σ ρl ρs a n) q ∧ ∀ j, j < 24 → (plB (surA σ ρl ρs a n) j = true ↔ j < n ∧ isInB σ (nI j) a = true ∧ plB ρl j = true)
  | 0, _ => ⟨0, (gf_0 ρs).1, fun j hj => ⟨fun h => (by rw [surA, (gf_0 ρs).2 j hj] at h; cases h), fun h => by omega⟩⟩
  | n + 1, hn => by
    obtain ⟨q, h1, h2⟩ := gr_surA σ ρl ρs a n (by omega)
    have keep : surA σ ρl ρs a (n + 1) = surA σ ρl ρs a n → ¬ (isInB σ (nI n) a = true ∧ plB ρl n = true) → ∃ q, GR (surA σ ρl ρs a (n + 1)) q ∧ ∀ j, j < 24 → (plB (surA σ ρl ρs a (n + 1)) j = true ↔ j < n + 1 ∧ isInB σ (nI j) a = true ∧ plB ρl j = true) := by
      intro e hc
      rw [e]
      refine ⟨q, h1, fun j hj => (h2 j hj).trans ⟨fun z => ⟨by omega, z.2⟩, fun z => ⟨?_, z.2⟩⟩⟩
      by_cases e2 : j = n
      · exact absurd (e2 ▸ z.2) hc
      · omega
    rcases c1 : isInB σ (nI n) a with _ | _
    · exact keep (by rw [surA, c1, if_pos rfl]) (fun z => by rw [c1] at z; cases z.1)
    · rcases c2 : plB ρl n with _ | _
      · exact keep (by rw [surA, c1, if_neg (by decide), met_pl ρl (by omega), c2, if_pos rfl]) (fun z => by rw [c2] at z; cases z.2)
      · rw [show surA σ ρl ρs a (n + 1) = meetR (surA σ ρl ρs a n) (nI n) (nI 0) by rw [surA, c1, if_neg (by decide), met_pl ρl (by omega), c2, if_neg (by decide)]]
        obtain ⟨q', -, g2, g3, -⟩ := h1.meet (o := n) (by omega) (nI 0)
        refine ⟨q', g2, fun j hj => (g3 j hj).trans ?_⟩
        rw [h2 j hj]
        constructor
        · rintro (z | z)
          · exact ⟨by omega, z.2⟩
          · subst z; exact ⟨by omega, c1, c2⟩
        · intro z
          by_cases e2 : j = n
          · exact Or.inr e2
          · exact Or.inl ⟨by omega, z.2⟩
theorem gr_rem1 {σ ρ : Nat → Nat → Int32} {q : Nat} (hI : InvR σ) (h : GR ρ q) (a : Int32) {k f : Nat} (hk : k < 24) (hf : f < 2) : ∃ q', GR (rem1 σ a ρ k f) q' ∧ ∀ j, j < 24 → (plB (rem1 σ a ρ k f) j = true ↔ plB ρ j = true ∨ (σ 4 (k * 2 + f) = nI j ∧ isInB σ (nI j) a = true)) := by
  rw [rem1, ref_nI σ hk hf]
  rcases hI k f hk hf with e | ⟨t, ht, e, u⟩
  · rw [e, isIn_m1, if_pos rfl]
    exact ⟨q, h, fun j hj => ⟨Or.inl, fun z => z.elim id (fun z => absurd z.1.symm (nI_ne (by omega)))⟩⟩
  · rw [e]
    rcases c : isInB σ (nI t) a with _ | _
    · rw [if_pos rfl]
      refine ⟨q, h, fun j hj => ⟨Or.inl, fun z => z.elim id (fun z => ?_)⟩⟩
      have : t = j := (nI_eq (by omega) (by omega)).mp z.1
      rw [← this, c] at z
      cases z.2
    · rw [if_neg (by decide)]
      obtain ⟨q', -, g2, g3, -⟩ := h.meet ht (nI 0)
      refine ⟨q', g2, fun j hj => (g3 j hj).trans ⟨?_, ?_⟩⟩
      · rintro (z | z)
        · exact Or.inl z
        · subst z; exact Or.inr ⟨rfl, c⟩
      · rintro (z | z)
        · exact Or.inl z
        · exact Or.inr ((nI_eq (by omega) (by omega)).mp z.1.symm)
theorem gr_remL {σ ρ : Nat → Nat → Int32} {q : Nat} (hI : InvR σ) (h : GR ρ q) (a : Int32) : ∀ n, n ≤ 24 → ∃ q', GR (remL σ a ρ n) q' ∧ ∀ j, j < 24 → (plB (remL σ a ρ n) j = true ↔ plB ρ j = true ∨ ∃ k f, k < n ∧ f < 2 ∧ isInB σ (nI k) a = false ∧ σ 4 (k * 2 + f) = nI j ∧ isInB σ (nI j) a = true)
  | 0, _ => ⟨q, h, fun j hj => ⟨Or.inl, fun z => z.elim id (fun ⟨k, f, hk, _⟩ => by omega)⟩⟩
  | n + 1, hn => by
    obtain ⟨q1, h1, h2⟩ := gr_remL hI h a n (by omega)
    rw [remL, remS]
    rcases c : isInB σ (nI n) a with _ | _
    · rw [if_neg (by decide)]
      obtain ⟨q2, h3, h4⟩ := gr_rem1 hI h1 a (k := n) (f := 0) (by omega) (by decide)
      obtain ⟨q3, h5, h6⟩ := gr_rem1 hI h3 a (k := n) (f := 1) (by omega) (by decide)
      refine ⟨q3, h5, fun j hj => ?_⟩
      rw [h6 j hj, h4 j hj, h2 j hj]
      constructor
      · rintro (((z | ⟨k, f, g1, g2, g3⟩) | z) | z)
        · exact Or.inl z
        · exact Or.inr ⟨k, f, by omega, g2, g3⟩
        · exact Or.inr ⟨n, 0, by omega, by decide, c, z⟩
        · exact Or.inr ⟨n, 1, by omega, by decide, c, z⟩
      · rintro (z | ⟨k, f, g1, g2, g3, g4⟩)
        · exact Or.inl (Or.inl (Or.inl z))
        · by_cases e : k = n
          · subst e
            rcases (show f = 0 ∨ f = 1 by omega) with rfl | rfl
            · exact Or.inl (Or.inr g4)
            · exact Or.inr g4
          · exact Or.inl (Or.inl (Or.inr ⟨k, f, by omega, g2, g3, g4⟩))
    · rw [if_pos rfl]
      refine ⟨q1, h1, fun j hj => (h2 j hj).trans ⟨?_, ?_⟩⟩
      · rintro (z | ⟨k, f, g1, g2⟩)
        · exact Or.inl z
        · exact Or.inr ⟨k, f, by omega, g2⟩
      · rintro (z | ⟨k, f, g1, g2, g3, g4⟩)
        · exact Or.inl z
        · refine Or.inr ⟨k, f, ?_, g2, g3, g4⟩
          by_cases e : k = n
          · subst e; rw [c] at g3; cases g3
          · omega
/-- who lives by roots -/
theorem tr_clo {σ : Nat → Nat → Int32} (hI : InvR σ) (w : Int32) : (∃ q, GR (trC σ w) q) ∧ (∀ j, j < 24 → ¬ nI j = w → hasB σ (nI j) = true → ¬ σ 5 j = 0 → plB (trC σ w) j = true) ∧ (∀ j f t, j < 24 → f < 2 → t < 24 → plB (trC σ w) j = true → tgt σ (-1) w j f t → plB (trC σ w) t = true) := by
  obtain ⟨q, h1, h2⟩ := gr_sar σ ρ0 w 24 (Nat.le_refl _)
  obtain ⟨i1, i2, i3, i4⟩ := gr_fol hI (-1) w 24 0 (ρ := sarL σ ρ0 w 24) rfl h1 (fun i hi => by omega)
  exact ⟨i1, fun j hj e1 e2 e3 => i2 j hj ((h2 j hj).mpr ⟨hj, e1, e2, e3⟩), i3⟩
theorem tr_used {σ : Nat → Nat → Int32} (hI : InvR σ) (w : Int32) : ∀ t, t < 24 → plB (trC σ w) t = true → hasB σ (nI t) = true := by
  obtain ⟨q, h1, h2⟩ := gr_sar σ ρ0 w 24 (Nat.le_refl _)
  obtain ⟨i1, i2, i3, i4⟩ := gr_fol hI (-1) w 24 0 (ρ := sarL σ ρ0 w 24) rfl h1 (fun i hi => by omega)
  refine i4 (fun t => hasB σ (nI t) = true) (fun t ht hp => ((h2 t ht).mp hp).2.2.1) (fun j f t hj hf ht _ hg => ?_)
  rcases hI j f hj hf with e | ⟨k, hk, e, u⟩
  · exact absurd (hg.1.symm.trans e) (nI_ne (by omega))
  · have : t = k := (nI_eq (by omega) (by omega)).mp (hg.1.symm.trans e)
    subst this
    rw [has_nI σ ht, u]
    rfl
/-- who survives: the first ones, the remembered ones, what these lead to inside, and no others -/
theorem su_clo {σ : Nat → Nat → Int32} (hI : InvR σ) {a : Int32} (ha : a ≠ -1) : (∃ q, GR (suC σ a) q) ∧ (∀ j, j < 24 → isInB σ (nI j) a = true → plB (trC σ (-1)) j = true → plB (suC σ a) j = true) ∧
    (σ 11 0 = nI 1 → ∀ k f j, k < 24 → f < 2 → j < 24 → isInB σ (nI k) a = false → σ 4 (k * 2 + f) = nI j → isInB σ (nI j) a = true → plB (suC σ a) j = true) ∧
    (∀ j f t, j < 24 → f < 2 → t < 24 → plB (suC σ a) j = true → σ 4 (j * 2 + f) = nI t → isInB σ (nI t) a = true → plB (suC σ a) t = true) ∧
    ∀ T : Nat → Prop, (∀ j, j < 24 → isInB σ (nI j) a = true → plB (trC σ (-1)) j = true → T j) → (σ 11 0 = nI 1 → ∀ k f j, k < 24 → f < 2 → j < 24 → isInB σ (nI k) a = false → σ 4 (k * 2 + f) = nI j → isInB σ (nI j) a = true → T j) → (∀ j f t, j < 24 → f < 2 → t < 24 → T j → σ 4 (j * 2 + f) = nI t → isInB σ (nI t) a = true → T t) → ∀ t, t < 24 → plB (suC σ a) t = true → T t := by
  obtain ⟨q, h1, h2⟩ := gr_surA σ (livR σ ρ0) ρ0 a 24 (Nat.le_refl _)
  have hb : ∃ q, GR (surB σ (livR σ ρ0) ρ0 a) q ∧ ∀ j, j < 24 → (plB (surB σ (livR σ ρ0) ρ0 a) j = true ↔ (isInB σ (nI j) a = true ∧ plB (trC σ (-1)) j = true) ∨ (σ 11 0 = nI 1 ∧ ∃ k f, k < 24 ∧ f < 2 ∧ isInB σ (nI k) a = false ∧ σ 4 (k * 2 + f) = nI j ∧ isInB σ (nI j) a = true)) := by
    rw [surB]
    by_cases c : σ 11 0 = nI 1
    · rw [if_pos c]
      obtain ⟨q', g1, g2⟩ := gr_remL hI h1 a 24 (Nat.le_refl _)
      refine ⟨q', g1, fun j hj => ?_⟩
      rw [g2 j hj, h2 j hj]
      exact ⟨fun z => z.elim (fun z => Or.inl z.2) (fun z => Or.inr ⟨c, z⟩), fun z => z.elim (fun z => Or.inl ⟨hj, z⟩) (fun z => Or.inr z.2)⟩
    · rw [if_neg c]
      refine ⟨q, h1, fun j hj => ?_⟩
      rw [h2 j hj]
      exact ⟨fun z => Or.inl z.2, fun z => z.elim (fun z => ⟨hj, z⟩) (fun z => absurd z.1 c)⟩
  obtain ⟨q2, b1, b2⟩ := hb
  obtain ⟨i1, i2, i3, i4⟩ := gr_fol hI a (-1) 24 0 (ρ := surB σ (livR σ ρ0) ρ0 a) rfl b1 (fun i hi => by omega)
  refine ⟨i1, fun j hj e1 e2 => i2 j hj ((b2 j hj).mpr (Or.inl ⟨e1, e2⟩)), fun c k f j hk hf hj e1 e2 e3 => i2 j hj ((b2 j hj).mpr (Or.inr ⟨c, k, f, hk, hf, e1, e2, e3⟩)), fun j f t hj hf ht e1 e2 e3 => i3 j f t hj hf ht e1 ⟨e2, nI_ne (by omega), Or.inr e3⟩, fun T h0 hr hc => i4 T (fun t ht hp => ?_) (fun j f t hj hf ht hT hg => ?_)⟩
  · rcases (b2 t ht).mp hp with z | ⟨c, k, f, hk, hf, e1, e2, e3⟩
    · exact h0 t ht z.1 z.2
    · exact hr c k f t hk hf ht e1 e2 e3
  · rcases hg.2.2 with e | e
    · exact absurd e ha
    · exact hc j f t hj hf ht hT hg.1 e
