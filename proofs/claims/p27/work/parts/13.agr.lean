/-! what a Reach answers doesn't depend on what it held before -/
theorem nat_i32 {x y : Int32} : x = y ↔ x.toInt = y.toInt := ⟨fun h => by rw [h], fun h => Int32.toInt_inj.mp h⟩
theorem nlt_le {x y : Int32} : ¬ x ≤ y ↔ y < x := by rw [Int32.le_iff_toInt_le, Int32.lt_iff_toInt_lt]; omega
theorem rw2_e {α : Type} (μ : Nat → α) (k j : Nat) (f : α) : rw2 μ k f j = if j = k then f else μ j := by
  by_cases h : j = k
  · rw [if_pos h, h, rw2_s]
  · rw [if_neg h, rw2_n _ _ h]
theorem upd_e (f : Nat → Int32) (k j : Nat) (x : Int32) : upd f k x j = if j = k then x else f j := rfl
def Agr (ρ ρ' : Nat → Nat → Int32) : Prop := ρ 3 0 = ρ' 3 0 ∧ (∀ j, j < 24 → ρ 1 j = ρ' 1 j ∧ ρ 2 j = ρ' 2 j) ∧ ∀ i : Nat, i < 24 → nI i < ρ 3 0 → ρ 0 i = ρ' 0 i
theorem Agr.refl (ρ : Nat → Nat → Int32) : Agr ρ ρ := ⟨rfl, fun _ _ => ⟨rfl, rfl⟩, fun _ _ _ => rfl⟩
theorem forget_at (ρ : Nat → Nat → Int32) : ∀ n : Nat, forgetL ρ n 3 0 = nI 0 ∧ ∀ j, j < n → forgetL ρ n 1 j = -1 ∧ forgetL ρ n 2 j = -1
  | 0 => ⟨rfl, fun j hj => absurd hj (Nat.not_lt_zero j)⟩
  | n + 1 => by
    obtain ⟨h1, h2⟩ := forget_at ρ n
    refine ⟨by rw [forgetL]; simp only [rw2_e]; exact h1, fun j hj => ?_⟩
    rw [forgetL]
    simp only [rw2_e, upd_e]
    by_cases e : j = n
    · simp [e, upd_e]
    · have := h2 j (by omega)
      simp [e, upd_e, this.1, this.2]
theorem forget_agr (ρ ρ' : Nat → Nat → Int32) : Agr (forgetL ρ 24) (forgetL ρ' 24) := by
  obtain ⟨h1, h2⟩ := forget_at ρ 24
  obtain ⟨h3, h4⟩ := forget_at ρ' 24
  refine ⟨h1.trans h3.symm, fun j hj => ⟨(h2 j hj).1.trans (h4 j hj).1.symm, (h2 j hj).2.trans (h4 j hj).2.symm⟩, fun i hi h => ?_⟩
  rw [h1] at h
  have := (nI_ltI (by omega) (by decide)).mp h
  omega
theorem cl_lt {x : Int32} {n : Nat} (hn : n < 2 ^ 31) (h0 : ¬ x < 0) (h1 : ¬ nI n ≤ x) : x.toNatClampNeg < n := by
  obtain ⟨j, hj, rfl⟩ := ix_of hn h0 h1
  rw [nI_clamp (by omega)]
  exact hj
theorem meet_agr {ρ ρ' : Nat → Nat → Int32} (h : Agr ρ ρ') (x q : Int32) : Agr (meetR ρ x q) (meetR ρ' x q) := by
  obtain ⟨h1, h2, h3⟩ := h
  unfold meetR
  by_cases c1 : x < 0
  · rw [if_pos c1, if_pos c1]; exact ⟨h1, h2, h3⟩
  · by_cases c2 : nI 24 ≤ x
    · rw [if_neg c1, if_neg c1, if_pos c2, if_pos c2]; exact ⟨h1, h2, h3⟩
    · obtain ⟨j, hj, rfl⟩ := ix_of (n := 24) (by decide) c1 c2
      rw [if_neg c1, if_neg c1, if_neg c2, if_neg c2, ← h1, nI_clamp (by omega), ← (h2 j hj).1]
      by_cases c3 : ρ 3 0 < 0
      · rw [if_pos c3, if_pos c3]; exact ⟨h1, h2, h3⟩
      · by_cases c4 : ρ 3 0 < nI 24
        · rw [if_neg c3, if_neg c3, if_pos c4, if_pos c4]
          by_cases c5 : ρ 1 j = -1
          · rw [if_pos c5, if_pos c5]
            obtain ⟨k, hk, hk2⟩ := ix_lt (n := 24) (by decide) c3 c4
            unfold meetW
            rw [← h1, hk2, nI_clamp (show j < 2 ^ 31 by omega), nI_clamp (show k < 2 ^ 31 by omega)]
            refine ⟨rfl, fun i hi => ?_, fun i hi hlt => ?_⟩
            · simp only [rw2_e, upd_e]
              by_cases e : i = j
              · simp [e, upd_e]
              · have := h2 i hi
                simp [e, upd_e, this.1, this.2]
            · have hlt2 : nI i < nI k + nI 1 := hlt
              rw [nI_add] at hlt2
              have hik := (nI_ltI (by omega) (by omega)).mp hlt2
              show upd (ρ 0) k (nI j) i = upd (ρ' 0) k (nI j) i
              by_cases e : i = k
              · simp [e, upd_e]
              · simp only [e, upd_e, if_false]
                exact h3 i hi (by rw [hk2]; exact (nI_ltI (by omega) (by omega)).mpr (by omega))
          · rw [if_neg c5, if_neg c5]; exact ⟨h1, h2, h3⟩
        · rw [if_neg c3, if_neg c3, if_neg c4, if_neg c4]; exact ⟨h1, h2, h3⟩
theorem met_agr {ρ ρ' : Nat → Nat → Int32} (h : Agr ρ ρ') (x : Int32) : metB ρ x = metB ρ' x := by
  unfold metB
  by_cases c1 : x < 0
  · rw [if_pos c1, if_pos c1]
  · by_cases c2 : nI 24 ≤ x
    · rw [if_neg c1, if_neg c1, if_pos c2, if_pos c2]
    · rw [if_neg c1, if_neg c1, if_neg c2, if_neg c2, (h.2.1 _ (cl_lt (by decide) c1 c2)).1]
theorem pl_agr {ρ ρ' : Nat → Nat → Int32} (h : Agr ρ ρ') (x : Int32) : plI ρ x = plI ρ' x := by
  unfold plI
  by_cases c1 : x < 0
  · rw [if_pos c1, if_pos c1]
  · by_cases c2 : nI 24 ≤ x
    · rw [if_neg c1, if_neg c1, if_pos c2, if_pos c2]
    · rw [if_neg c1, if_neg c1, if_neg c2, if_neg c2, (h.2.1 _ (cl_lt (by decide) c1 c2)).1]
theorem step_agr {ρ ρ' : Nat → Nat → Int32} (h : Agr ρ ρ') (x : Int32) : stepI ρ x = stepI ρ' x := by
  unfold stepI
  by_cases c1 : x < 0
  · rw [if_pos c1, if_pos c1]
  · by_cases c2 : nI 24 ≤ x
    · rw [if_neg c1, if_neg c1, if_pos c2, if_pos c2]
    · rw [if_neg c1, if_neg c1, if_neg c2, if_neg c2, (h.2.1 _ (cl_lt (by decide) c1 c2)).2]
theorem sar_agr (σ ρ ρ' : Nat → Nat → Int32) (w : Int32) : ∀ n : Nat, Agr (sarL σ ρ w n) (sarL σ ρ' w n)
  | 0 => forget_agr ρ ρ'
  | n + 1 => by
    have ih := sar_agr σ ρ ρ' w n
    rw [sarL, sarL]
    repeat' split
    all_goals first | exact ih | exact meet_agr ih _ _
theorem fol1_agr {σ ρ ρ' : Nat → Nat → Int32} (a w : Int32) (h : Agr ρ ρ') (x q : Int32) (f : Nat) : Agr (fol1 σ a w ρ x q f) (fol1 σ a w ρ' x q f) := by
  unfold fol1
  repeat' split
  all_goals first | exact h | exact meet_agr h _ _
theorem folS_agr {σ ρ ρ' : Nat → Nat → Int32} (a w : Int32) (h : Agr ρ ρ') {i : Nat} (hi : i < 24) (hm : nI i < ρ 3 0) : Agr (folS σ a w ρ i) (folS σ a w ρ' i) := by
  unfold folS
  rw [← h.2.2 i hi hm, ← step_agr h]
  exact fol1_agr a w (fol1_agr a w h _ _ _) _ _ _
theorem fol_agr {σ : Nat → Nat → Int32} (a w : Int32) : ∀ (n i : Nat) {ρ ρ' : Nat → Nat → Int32}, i + n ≤ 24 → Agr ρ ρ' → Agr (folL σ a w n i ρ) (folL σ a w n i ρ')
  | 0, _, _, _, _, h => h
  | n + 1, i, ρ, ρ', hn, h => by
    rw [folL, folL, ← h.1]
    by_cases c : ρ 3 0 ≤ nI i
    · rw [if_pos c, if_pos c]; exact h
    · rw [if_neg c, if_neg c]
      exact fol_agr a w n (i + 1) (by omega) (folS_agr a w h (by omega) (nlt_le.mp c))
/-- a table without anything in it -/
def ρ0 : Nat → Nat → Int32 := fun _ _ => 0
def trR (σ ρ : Nat → Nat → Int32) (w : Int32) : Nat → Nat → Int32 := folL σ (-1) w 24 0 (sarL σ ρ w 24)
theorem livR_tr (σ ρ : Nat → Nat → Int32) : livR σ ρ = trR σ ρ (-1) := rfl
theorem tr_agr (σ ρ ρ' : Nat → Nat → Int32) (w : Int32) : Agr (trR σ ρ w) (trR σ ρ' w) := fol_agr _ _ 24 0 (by omega) (sar_agr σ ρ ρ' w 24)
theorem surA_agr (σ ρl ρl' ρs ρs' : Nat → Nat → Int32) (a : Int32) (hl : Agr ρl ρl') : ∀ n : Nat, Agr (surA σ ρl ρs a n) (surA σ ρl' ρs' a n)
  | 0 => forget_agr ρs ρs'
  | n + 1 => by
    have ih := surA_agr σ ρl ρl' ρs ρs' a hl n
    rw [surA, surA, met_agr hl]
    repeat' split
    all_goals first | exact ih | exact meet_agr ih _ _
theorem rem1_agr {σ ρ ρ' : Nat → Nat → Int32} (a : Int32) (h : Agr ρ ρ') (x f : Nat) : Agr (rem1 σ a ρ x f) (rem1 σ a ρ' x f) := by
  unfold rem1
  split
  · exact h
  · exact meet_agr h _ _
theorem remL_agr {σ ρ ρ' : Nat → Nat → Int32} (a : Int32) (h : Agr ρ ρ') : ∀ n : Nat, Agr (remL σ a ρ n) (remL σ a ρ' n)
  | 0 => h
  | n + 1 => by
    rw [remL, remL]
    unfold remS
    split
    · exact remL_agr a h n
    · exact rem1_agr a (rem1_agr a (remL_agr a h n) _ _) _ _
theorem surv_agr (σ ρl ρl' ρs ρs' : Nat → Nat → Int32) (a : Int32) : Agr (survR σ ρl ρs a) (survR σ ρl' ρs' a) := by
  have hA := surA_agr σ (livR σ ρl) (livR σ ρl') ρs ρs' a (tr_agr σ ρl ρl' (-1)) 24
  unfold survR surB
  refine fol_agr _ _ 24 0 (by omega) ?_
  split
  · exact remL_agr a hA 24
  · exact hA
theorem cells_agr {σ ρ ρ' : Nat → Nat → Int32} (h : Agr ρ ρ') : ∀ n : Nat, cellsL σ ρ n = cellsL σ ρ' n
  | 0 => rfl
  | n + 1 => by rw [cellsL, cellsL, met_agr h, cells_agr h n]
theorem kept_agr {σ ρ ρ' : Nat → Nat → Int32} (h : Agr ρ ρ') : keptB σ ρ = keptB σ ρ' := by
  unfold keptB
  congr 1
  funext o
  rw [met_agr h]
theorem rank_agr {σ ρ ρ' : Nat → Nat → Int32} (h : Agr ρ ρ') (x : Int32) : rankI σ ρ x = rankI σ ρ' x := by
  unfold rankI
  rw [met_agr h, pl_agr h]
theorem landL_agr {σ ρl ρl' ρs ρs' : Nat → Nat → Int32} (hl : Agr ρl ρl') (hs : Agr ρs ρs') (r b : Int32) : ∀ n : Nat, landL σ ρl ρs r b n = landL σ ρl' ρs' r b n
  | 0 => rfl
  | n + 1 => by rw [landL, landL, met_agr hs, rank_agr hl, landL_agr hl hs r b n]
theorem land_agr {σ ρl ρl' ρs ρs' : Nat → Nat → Int32} (hl : Agr ρl ρl') (hs : Agr ρs ρs') (x b : Int32) : landI σ ρl ρs x b = landI σ ρl' ρs' x b := by
  unfold landI
  rw [rank_agr hl, landL_agr hl hs]
/-! the answers, out of the state alone -/
abbrev trC (σ : Nat → Nat → Int32) (w : Int32) : Nat → Nat → Int32 := trR σ ρ0 w
abbrev suC (σ : Nat → Nat → Int32) (a : Int32) : Nat → Nat → Int32 := survR σ ρ0 ρ0 a
def rsC (σ : Nat → Nat → Int32) (a b : Int32) : Int32 := rsI σ ρ0 ρ0 a b
theorem rsC_of (σ ρl ρs : Nat → Nat → Int32) (a b : Int32) : rsI σ ρl ρs a b = rsC σ a b := by
  have h := surv_agr σ ρl ρ0 ρs ρ0 a
  unfold rsC rsI
  rw [kept_agr h, cells_agr h]
def gvC (σ : Nat → Nat → Int32) (x b : Int32) : Int32 := if ¬ rsC σ (agI σ x) b = 0 then -1 else if metB (suC σ (agI σ x)) x = true then landI σ (trC σ (-1)) (suC σ (agI σ x)) x b else -1
theorem rsN_of {σ ρl ρs : Nat → Nat → Int32} {a b : Int32} (h : rsI σ ρl ρs a b = 0) : rsN σ a b = false := by
  unfold rsI at h
  unfold rsN
  split at h
  · exact absurd h (by decide)
  · rename_i c1
    rw [if_neg c1]
    split at h
    · exact absurd h (by decide)
    · rename_i c2
      rw [if_neg c2]
      split at h
      · exact absurd h (by decide)
      · rename_i c3
        rw [if_neg c3]
theorem gvC_of (σ ρl ρs : Nat → Nat → Int32) (x b : Int32) : givI σ ρl ρs x b = gvC σ x b := by
  unfold givI gvC
  rw [rsC_of]
  by_cases c : ¬ rsC σ (agI σ x) b = 0
  · rw [if_pos c, if_pos c]
  · rw [if_neg c, if_neg c]
    have hn : rsN σ (agI σ x) b = false := rsN_of (ρl := ρ0) (ρs := ρ0) (Decidable.of_not_not c)
    have e1 : rsL σ ρl (agI σ x) b = livR σ ρl := by rw [rsL, hn, if_neg Bool.false_ne_true]
    have e2 : rsS σ ρl ρs (agI σ x) b = survR σ ρl ρs (agI σ x) := by rw [rsS, hn, if_neg Bool.false_ne_true]
    have h := surv_agr σ ρl ρ0 ρs ρ0 (agI σ x)
    have hl : Agr (livR σ ρl) (trC σ (-1)) := by rw [livR_tr]; exact tr_agr σ ρl ρ0 (-1)
    rw [e1, e2, met_agr h, land_agr hl h]
