/-! The model: given, lost, canGo -/
def sumI (P : Nat → Bool) (s : Nat → Int32) : Nat → Int32
  | 0 => nI 0
  | n + 1 => if P n = true then sumI P s n + s n else sumI P s n
theorem sumI_eq {P Q : Nat → Bool} {s : Nat → Int32} : ∀ n, (∀ i, i < n → P i = Q i) → sumI P s n = sumI Q s n
  | 0, _ => rfl
  | n + 1, h => by rw [sumI, sumI, sumI_eq n (fun i hi => h i (by omega)), h n (by omega)]
theorem add_sw (x y z : Int32) : x + y + z = x + z + y := by rw [Int32.add_assoc, Int32.add_comm y z, ← Int32.add_assoc]
theorem sumI_up {P Q : Nat → Bool} {s : Nat → Int32} {j : Nat} (hp : P j = false) (hq : Q j = true) : ∀ n, n ≤ 24 → j < n → (∀ i, i < n → i ≠ j → P i = Q i) → sumI Q s n = sumI P s n + s j
  | 0, _, hn, _ => by omega
  | n + 1, h24, hn, h => by
    rw [sumI, sumI]
    by_cases e : j = n
    · subst e
      rw [hp, hq, if_pos rfl, if_neg (by decide), sumI_eq (P := Q) (Q := P) j (fun i hi => (h i (by omega) (by omega)).symm)]
    · rw [sumI_up hp hq n (by omega) (by omega) (fun i hi hne => h i (by omega) hne), h n (by omega) (by omega)]
      split
      · exact add_sw _ _ _
      · rfl
theorem sumI_0 {P : Nat → Bool} {s : Nat → Int32} : ∀ n, (∀ i, i < n → P i = false) → sumI P s n = nI 0
  | 0, _ => rfl
  | n + 1, h => by rw [sumI, h n (by omega), if_neg (by decide), sumI_0 n (fun i hi => h i (by omega))]
theorem cells_sum (σ ρ : Nat → Nat → Int32) : ∀ n, n ≤ 24 → cellsL σ ρ n = sumI (plB ρ) (σ 3) n
  | 0, _ => rfl
  | n + 1, h => by
    rw [sumI, ← cells_sum σ ρ n (by omega)]
    rcases hp : plB ρ n with _ | _
    · rw [← cell_f (by omega) hp, add_0, if_neg (by decide)]
    · rw [← cell_t (by omega) hp, if_pos rfl]
def blB (σ ρ : Nat → Nat → Int32) (x j : Nat) : Bool := if plB ρ j = true then decide (rkN σ j < x) else false
theorem land_sum {σ μ : Nat → Nat → Int32} {N : Nat → Int32} {q : Nat} {a : Int32} (hR : RI σ N) (ha : a ≠ -1) (hF : FM σ μ (trC σ (-1)) q) {x : Nat} (hx : x < 2 ^ 31) (b : Int32) : ∀ n, n ≤ 24 → landL σ (trC σ (-1)) (suC σ a) (nI x) b n = b + sumI (blB σ (suC σ a) x) (σ 3) n
  | 0, _ => (add_0 b).symm
  | n + 1, h => by
    rw [landL, sumI, land_sum hR ha hF hx b n (by omega), met_pl _ (by omega), blB]
    rcases hp : plB (suC σ a) n with _ | _
    · rw [if_pos rfl, if_neg Bool.false_ne_true, if_neg Bool.false_ne_true]
    · have hr := rk_nI hR hF (o := n) (by omega) (su_use hR ha (by omega) hp).1
      rw [if_neg (by decide), if_pos rfl, hr.1]
      by_cases c : rkN σ n < x
      · rw [if_neg (fun e => by have := (nI_leI hx (by omega)).mp e; omega), if_pos (decide_eq_true c), Int32.add_assoc]
      · rw [if_pos ((nI_leI hx (by omega)).mpr (by omega)), if_neg (by rw [decide_eq_false c]; decide)]
theorem rs_bd (σ : Nat → Nat → Int32) (a b : Int32) : rsC σ a b = 0 ∨ ∃ k, 0 < k ∧ k < 5 ∧ rsC σ a b = nI k := by
  rw [rs_eq]
  repeat' split
  · exact Or.inr ⟨1, by decide, by decide, rfl⟩
  · exact Or.inr ⟨2, by decide, by decide, rfl⟩
  · exact Or.inr ⟨2, by decide, by decide, rfl⟩
  · exact Or.inr ⟨3, by decide, by decide, rfl⟩
  · exact Or.inr ⟨4, by decide, by decide, rfl⟩
  · exact Or.inl rfl
theorem rs_le {σ : Nat → Nat → Int32} {a b : Int32} : rsC σ a b ≤ 0 ↔ rsC σ a b = 0 := by
  rcases rs_bd σ a b with e | ⟨k, h1, h2, e⟩
  · rw [e]; decide
  · rw [e, le0 (by omega)]
    exact ⟨fun z => by omega, fun z => by
      have := (nI_eq (a := k) (b := 0) (by omega) (by decide)).mp z
      exact this⟩
theorem gv_eq {σ : Nat → Nat → Int32} {o a : Nat} (ho : o < 24) (hu : σ 0 o = nI 1) (e : σ 1 o = nI a) (b : Int32) : gvC σ (nI o) b = if ¬ rsC σ (nI a) b = 0 then -1 else if plB (suC σ (nI a)) o = true then landL σ (trC σ (-1)) (suC σ (nI a)) (rankI σ (trC σ (-1)) (nI o)) (baseI σ b) 24 else -1 := by
  have h1 : agI σ (nI o) = nI a := by rw [agI, has_nI σ ho, hu, if_neg n10, if_neg (by decide), nI_clamp (by omega), e]
  rw [gvC, h1, met_pl _ ho]
  rfl
theorem base_nI (σ : Nat → Nat → Int32) {b : Nat} (hb : b < 6) : baseI σ (nI b) = σ 9 b := by
  rw [baseI, isArB_nI hb, if_neg (by decide), nI_clamp (by omega)]
/-- what has been added up before the k-th of the order -/
def ZS (σ ρ μ : Nat → Nat → Int32) (n k : Nat) (b z : Int32) : Prop := ∀ x, (∀ i j, i < k → j < 24 → μ 15 i = nI j → rkN σ j < x) → (∀ i j, k ≤ i → i < n → j < 24 → μ 15 i = nI j → ¬ rkN σ j < x) → b + sumI (blB σ ρ x) (σ 3) 24 = z
theorem zs_0 {σ ρ μ : Nat → Nat → Int32} {n : Nat} (hO : OS σ ρ μ 24 n) (b : Int32) : ZS σ ρ μ n 0 b b := fun x _ h => by
  rw [sumI_0 24, add_0]
  intro j hj
  rw [blB]
  rcases hp : plB ρ j with _ | _
  · rw [if_neg (by decide)]
  · rw [if_pos rfl]
    obtain ⟨i, hi, e⟩ := hO.2.2.2.1 j hj hp
    exact decide_eq_false (h i j (by omega) hi hj e)
theorem zs_s {σ ρ μ : Nat → Nat → Int32} {n k j : Nat} {b z : Int32} (hO : OS σ ρ μ 24 n) (hk : k < n) (hj : j < 24) (hp : plB ρ j = true) (e : μ 15 k = nI j) (h : ZS σ ρ μ n k b z) : ZS σ ρ μ n (k + 1) b (z + σ 3 j) := by
  intro x h1 h2
  have base := h (rkN σ j) (fun i j2 a c d => hO.2.2.2.2 i k j2 j (by omega) hk c hj d e) (fun i j2 a c d f => by
    by_cases g : i = k
    · subst g
      rw [(nI_eq (by omega) (by omega)).mp (f.symm.trans e)]
      omega
    · have := hO.2.2.2.2 k i j j2 (by omega) c hj d e f
      omega)
  rw [← base, sumI_up (P := blB σ ρ (rkN σ j)) (Q := blB σ ρ x) (j := j) (by rw [blB, hp, if_pos rfl]; exact decide_eq_false (by omega)) (by rw [blB, hp, if_pos rfl]; exact decide_eq_true (h1 k j (by omega) hj e)) 24 (Nat.le_refl _) hj (fun i hi hne => ?_), Int32.add_assoc]
  rw [blB, blB]
  rcases hq : plB ρ i with _ | _
  · rw [if_neg (by decide), if_neg (by decide)]
  · rw [if_pos rfl, if_pos rfl]
    obtain ⟨y, hy, ey⟩ := hO.2.2.2.1 i hi hq
    rcases Nat.lt_trichotomy y k with g | g | g
    · rw [decide_eq_true (hO.2.2.2.2 y k i j g hk hi hj ey e), decide_eq_true (h1 y i (by omega) hi ey)]
    · subst g
      exact absurd ((nI_eq (by omega) (by omega)).mp (ey.symm.trans e)) hne
    · rw [decide_eq_false (by have := hO.2.2.2.2 k y j i g hy hj hi e ey; omega), decide_eq_false (h2 y i (by omega) hy hi ey)]
theorem zs_at {σ μ μ' : Nat → Nat → Int32} {N : Nat → Int32} {n k o q : Nat} {a b z : Int32} (hR : RI σ N) (ha : a ≠ -1) (hF : FM σ μ' (trC σ (-1)) q) (hO : OS σ (suC σ a) μ 24 n) (hk : k < n) (ho : o < 24) (e : μ 15 k = nI o) (h : ZS σ (suC σ a) μ n k b z) : plB (suC σ a) o = true ∧ landL σ (trC σ (-1)) (suC σ a) (rankI σ (trC σ (-1)) (nI o)) b 24 = z := by
  obtain ⟨j, hj, e2, hp⟩ := hO.2.2.1 k hk
  have : o = j := (nI_eq (by omega) (by omega)).mp (e.symm.trans e2)
  subst this
  have hr := rk_nI hR hF ho (su_use hR ha ho hp).1
  refine ⟨hp, ?_⟩
  rw [hr.1, land_sum hR ha hF (by omega) b 24 (Nat.le_refl _)]
  refine h (rkN σ o) (fun i j2 a c d => hO.2.2.2.2 i k j2 o (by omega) hk c ho d e) (fun i j2 a c d f => ?_)
  by_cases g : i = k
  · subst g
    rw [(nI_eq (by omega) (by omega)).mp (f.symm.trans e)]
    omega
  · have := hO.2.2.2.2 k i o j2 (by omega) c ho d e f
    omega
def cgB (σ : Nat → Nat → Int32) (a i : Nat) : Bool := if rsC σ (nI a) (nI i) = 0 then true else false
