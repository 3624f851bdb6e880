/-! survivors are laid: the class's state afterwards, pointwise; it is kept in relation -/
def SNn (P : Nat → Bool) (s : Nat → Int32) : Nat → Nat
  | 0 => 0
  | n + 1 => SNn P s n + if P n = true then (s n).toNatClampNeg else 0
theorem sumI_SN {P : Nat → Bool} {s : Nat → Int32} : ∀ n, (∀ j, j < n → P j = true → ∃ z, z < 2 ^ 31 ∧ s j = nI z) → sumI P s n = nI (SNn P s n)
  | 0, _ => rfl
  | n + 1, h => by
    rw [sumI, SNn, sumI_SN n (fun j hj => h j (by omega))]
    rcases hp : P n with _ | _
    · rw [if_neg (by decide), if_neg (by decide), Nat.add_zero]
    · obtain ⟨z, hz, e⟩ := h n (by omega) hp
      rw [if_pos rfl, if_pos rfl, e, nI_add, nI_clamp hz]
theorem SN_le {P Q : Nat → Bool} {s : Nat → Int32} : ∀ n, (∀ j, j < n → P j = true → Q j = true) → SNn P s n ≤ SNn Q s n
  | 0, _ => Nat.le_refl _
  | n + 1, h => by
    have := SN_le (P := P) (Q := Q) (s := s) n (fun j hj => h j (by omega))
    rw [SNn, SNn]
    rcases hp : P n with _ | _
    · rw [if_neg (by decide)]; omega
    · rw [if_pos rfl, if_pos (h n (by omega) hp)]; omega
theorem SN_lt {P Q : Nat → Bool} {s : Nat → Int32} {o : Nat} (hp : P o = false) (hq : Q o = true) : ∀ n, o < n → (∀ j, j < n → P j = true → Q j = true) → SNn P s n + (s o).toNatClampNeg ≤ SNn Q s n
  | 0, h, _ => by omega
  | n + 1, ho, h => by
    rw [SNn, SNn]
    by_cases e : o = n
    · subst e
      have := SN_le (P := P) (Q := Q) (s := s) o (fun j hj => h j (by omega))
      rw [hp, hq, if_neg (by decide), if_pos rfl]
      omega
    · have := SN_lt (s := s) hp hq n (by omega) (fun j hj => h j (by omega))
      rcases hp2 : P n with _ | _
      · rw [if_neg (by decide)]; omega
      · rw [if_pos rfl, if_pos (h n (by omega) hp2)]; omega
theorem cy_rows (σ : Nat → Nat → Int32) (a : Int32) (k : Nat) : ∀ n, n ≤ 24 → (∀ r, r ≠ 1 → r ≠ 2 → r ≠ 7 → r ≠ 9 → r ≠ 12 → cyC σ a k n r = σ r) ∧ (∀ i, cyC σ a k n 1 i = if i < n ∧ plB (suC σ a) i = true then nI k else σ 1 i) ∧ (∀ i, cyC σ a k n 2 i = if i < n ∧ plB (suC σ a) i = true then landI σ (trC σ (-1)) (suC σ a) (nI i) (nI k) else σ 2 i) ∧ (∀ i, cyC σ a k n 7 i = if i < n ∧ plB (suC σ a) i = true then σ 7 i + nI 1 else σ 7 i) ∧ (∀ i, cyC σ a k n 9 i = if i = k then σ 9 k + sumI (plB (suC σ a)) (σ 3) n else σ 9 i) ∧ ∀ i, cyC σ a k n 12 i = if i = 1 then σ 12 1 + sumI (plB (suC σ a)) (fun _ => nI 1) n else σ 12 i
  | 0, _ => ⟨fun _ _ _ _ _ _ => rfl, fun i => by rw [if_neg (by omega)]; rfl, fun i => by rw [if_neg (by omega)]; rfl, fun i => by rw [if_neg (by omega)]; rfl, fun i => by
      rw [sumI, add_0]
      by_cases e : i = k
      · rw [if_pos e, e]; rfl
      · rw [if_neg e]; rfl, fun i => by
      rw [sumI, add_0]
      by_cases e : i = 1
      · rw [if_pos e, e]; rfl
      · rw [if_neg e]; rfl⟩
  | n + 1, h => by
    obtain ⟨h0, h1, h2, h7, h9, h12⟩ := cy_rows σ a k n (by omega)
    rw [cyC, met_pl _ (by omega), sumI, sumI]
    rcases hp : plB (suC σ a) n with _ | _
    · rw [if_pos rfl, if_neg (by decide), if_neg (by decide)]
      have st : ∀ i, (i < n ∧ plB (suC σ a) i = true) ↔ (i < n + 1 ∧ plB (suC σ a) i = true) := fun i => ⟨fun z => ⟨by omega, z.2⟩, fun z => ⟨by
        rcases Nat.lt_or_ge i n with g | g
        · exact g
        · exact absurd z.2 (by rw [show i = n by omega, hp]; decide), z.2⟩⟩
      exact ⟨h0, fun i => by rw [h1]; simp only [st], fun i => by rw [h2]; simp only [st], fun i => by rw [h7]; simp only [st], h9, h12⟩
    · rw [if_neg (by decide), if_pos rfl, if_pos rfl]
      have b : ∀ (i : Nat) (x y z : Int32), z = (if i < n ∧ plB (suC σ a) i = true then x else y) → ¬ i = n → z = (if i < n + 1 ∧ plB (suC σ a) i = true then x else y) := fun i x y z e ne => by
        rw [e]
        by_cases g : i < n ∧ plB (suC σ a) i = true
        · rw [if_pos g, if_pos ⟨by omega, g.2⟩]
        · rw [if_neg g, if_neg (fun w => g ⟨by omega, w.2⟩)]
      refine ⟨fun r a1 a2 a7 a9 a12 => ?_, fun i => ?_, fun i => ?_, fun i => ?_, fun i => ?_, fun i => ?_⟩
      · rw [layS, rw2_n _ _ a12, rw2_n _ _ a9, rw2_n _ _ a7, rw2_n _ _ a2, rw2_n _ _ a1]
        exact h0 r a1 a2 a7 a9 a12
      · rw [layS, rw2_n _ _ (by decide), rw2_n _ _ (by decide), rw2_n _ _ (by decide), rw2_n _ _ (by decide), rw2_s, upd_e]
        by_cases e : i = n
        · rw [if_pos e, if_pos ⟨by omega, by rw [e]; exact hp⟩]
        · rw [if_neg e]; exact b i _ _ _ (h1 i) e
      · rw [layS, rw2_n _ _ (by decide), rw2_n _ _ (by decide), rw2_n _ _ (by decide), rw2_s, upd_e]
        by_cases e : i = n
        · rw [if_pos e, if_pos ⟨by omega, by rw [e]; exact hp⟩, e]
        · rw [if_neg e]; exact b i _ _ _ (h2 i) e
      · rw [layS, rw2_n _ _ (by decide), rw2_n _ _ (by decide), rw2_s, upd_e]
        by_cases e : i = n
        · rw [if_pos e, if_pos ⟨by omega, by rw [e]; exact hp⟩, h7, if_neg (by omega), e]
        · rw [if_neg e]; exact b i _ _ _ (h7 i) e
      · rw [layS, rw2_n _ _ (by decide), rw2_s, upd_e, h9, h9, if_pos rfl, h0 3 (by decide) (by decide) (by decide) (by decide) (by decide), Int32.add_assoc]
        by_cases e : i = k
        · rw [if_pos e, if_pos e]
        · rw [if_neg e, if_neg e, if_neg e]
      · rw [layS, rw2_s, upd_e, h12, h12, if_pos rfl, Int32.add_assoc]
        by_cases e : i = 1
        · rw [if_pos e, if_pos e]
        · rw [if_neg e, if_neg e, if_neg e]
theorem cn_ub {P Q : Nat → Bool} {j : Nat} (hp : P j = false) (hq : Q j = true) : ∀ n, j < n → (∀ i, i < n → i ≠ j → P i = Q i) → cn Q n = cn P n + 1
  | 0, hn, _ => by omega
  | n + 1, hn, h => by
    rw [cn, cn]
    by_cases e : j = n
    · subst e
      rw [hp, hq, cn_eq (P := P) (Q := Q) j (fun i hi => h i (by omega) (by omega))]
      rfl
    · rw [cn_ub hp hq n (by omega) (fun i hi hne => h i (by omega) hne), h n (by omega) (by omega)]
      omega
theorem cn_os {σ ρ μ : Nat → Nat → Int32} {n : Nat} (hO : OS σ ρ μ 24 n) : ∀ i, i ≤ n → ∀ x, (∀ y j, y < i → j < 24 → μ 15 y = nI j → rkN σ j < x) → (∀ y j, i ≤ y → y < n → j < 24 → μ 15 y = nI j → ¬ rkN σ j < x) → cn (blB σ ρ x) 24 = i
  | 0, _, x, _, h2 => cn_0 24 (fun j hj => by
    rw [blB]
    rcases hp : plB ρ j with _ | _
    · rw [if_neg (by decide)]
    · rw [if_pos rfl]
      obtain ⟨y, hy, e⟩ := hO.2.2.2.1 j hj hp
      exact decide_eq_false (h2 y j (by omega) hy hj e))
  | k + 1, hk, x, h1, h2 => by
    obtain ⟨j, hj, e, hp⟩ := hO.2.2.1 k (by omega)
    have base := cn_os hO k (by omega) (rkN σ j) (fun i j2 a c d => hO.2.2.2.2 i k j2 j a (by omega) c hj d e) (fun i j2 a c d f => by
      by_cases g : i = k
      · subst g
        rw [(nI_eq (by omega) (by omega)).mp (f.symm.trans e)]
        omega
      · have := hO.2.2.2.2 k i j j2 (by omega) c hj d e f
        omega)
    rw [← base]
    refine cn_ub (P := blB σ ρ (rkN σ j)) (Q := blB σ ρ x) (j := j) (by rw [blB, hp, if_pos rfl]; exact decide_eq_false (by omega)) (by rw [blB, hp, if_pos rfl]; exact decide_eq_true (h1 k j (by omega) hj e)) 24 hj ?_
    intro i hi hne
    rw [blB, blB]
    rcases hq : plB ρ i with _ | _
    · rw [if_neg (by decide), if_neg (by decide)]
    · rw [if_pos rfl, if_pos rfl]
      obtain ⟨y, hy, ey⟩ := hO.2.2.2.1 i hi hq
      rcases Nat.lt_trichotomy y k with g | g | g
      · rw [decide_eq_true (hO.2.2.2.2 y k i j g (by omega) hi hj ey e), decide_eq_true (h1 y i (by omega) hi ey)]
      · subst g
        exact absurd ((nI_eq (by omega) (by omega)).mp (ey.symm.trans e)) hne
      · rw [decide_eq_false (by have := hO.2.2.2.2 k y j i g hy hj hi e ey; omega), decide_eq_false (h2 y i (by omega) hy hi ey)]
