/-! The model: cells, kept ones, reasons, ranks -/
theorem add_0 (x : Int32) : x + nI 0 = x := by
  rw [show (nI 0 : Int32) = 0 from rfl]
  exact Int32.add_zero x
theorem any_s (P : Nat → Bool) (n : Nat) : anyB P (n + 1) = if anyB P n = true then true else P n := by
  rcases h : anyB P n with _ | _
  · rw [if_neg (by decide)]
    rcases hp : P n with _ | _
    · refine anyB_none (fun j hj => ?_)
      by_cases e : j = n
      · rw [e]; exact hp
      · rcases hq : P j with _ | _
        · rfl
        · rw [anyB_of (k := j) (by omega) hq] at h; cases h
    · exact anyB_of (k := n) (by omega) hp
  · rw [if_pos rfl]
    obtain ⟨k, hk, hp⟩ := anyB_ex h
    exact anyB_of (k := k) (by omega) hp
section MX
variable {σ μ : Nat → Nat → Int32} {a : Int32}
theorem su_in (hI : InvR σ) (ha : a ≠ -1) : ∀ j, j < 24 → plB (suC σ a) j = true → isInB σ (nI j) a = true :=
  (su_clo hI ha).2.2.2.2 (fun j => isInB σ (nI j) a = true) (fun _ _ h _ => h) (fun _ _ _ _ _ _ _ _ _ h => h) (fun _ _ _ _ _ _ _ _ h => h)
theorem lv_f {ρ : Nat → Nat → Int32} (h : LV μ ρ) {j : Nat} (hj : j < 24) (e : μ 14 j = 0) : plB ρ j = false := by
  have := h j hj
  rcases c : plB ρ j with _ | _
  · rfl
  · rw [c, e] at this; exact absurd this (by decide)
theorem lv_t {ρ : Nat → Nat → Int32} (h : LV μ ρ) {j : Nat} (hj : j < 24) (e : ¬ μ 14 j = 0) : plB ρ j = true := by
  have := h j hj
  rcases c : plB ρ j with _ | _
  · rw [c] at this; exact absurd this e
  · rfl
theorem cell_f {ρ : Nat → Nat → Int32} {j : Nat} (hj : j < 24) (h : plB ρ j = false) : cellsL σ ρ j + nI 0 = cellsL σ ρ (j + 1) := by
  rw [cellsL, met_pl ρ hj, h, if_pos rfl, add_0]
theorem cell_t {ρ : Nat → Nat → Int32} {j : Nat} (hj : j < 24) (h : plB ρ j = true) : cellsL σ ρ j + σ 3 j = cellsL σ ρ (j + 1) := by
  rw [cellsL, met_pl ρ hj, h, if_neg (by decide)]
theorem su_use {N : Nat → Int32} (hR : RI σ N) (ha : a ≠ -1) {j : Nat} (hj : j < 24) (h : plB (suC σ a) j = true) : σ 0 j = nI 1 ∧ σ 1 j = a := in_used hR hj (su_in hR.1.2.2.2.2.2.1 ha j hj h)
theorem cells_bd {N : Nat → Int32} (hR : RI σ N) (ha : a ≠ -1) : ∀ n, n ≤ 24 → ∃ z, z ≤ 16 * n ∧ cellsL σ (suC σ a) n = nI z
  | 0, _ => ⟨0, by omega, rfl⟩
  | n + 1, hn => by
    obtain ⟨z, hz, e⟩ := cells_bd hR ha n (by omega)
    rcases hp : plB (suC σ a) n with _ | _
    · exact ⟨z, by omega, by rw [← cell_f (by omega) hp, e, add_0]⟩
    · obtain ⟨k, y, d, q, h1, h2, h3, h4, h5, e1, e2, e3, e4, e5⟩ := hR.1.2.2.2.2.1 n (by omega) (su_use hR ha (by omega) hp).1
      exact ⟨z + y, by omega, by rw [← cell_t (by omega) hp, e, e3, nI_add]⟩
def kpP (σ : Nat → Nat → Int32) (a : Int32) (o : Nat) : Bool := if metB (suC σ a) (nI o) = false then false else nz (σ 6 o)
theorem kp_f {j : Nat} (hj : j < 24) (h : plB (suC σ a) j = false) : kpP σ a j = false := by rw [kpP, met_pl _ hj, h, if_pos rfl]
theorem kp_t {N : Nat → Int32} (hR : RI σ N) (ha : a ≠ -1) {j : Nat} (hj : j < 24) (h : plB (suC σ a) j = true) : kpP σ a j = if N (24 + 9 * j + 7) = nI 1 then true else false := by
  rw [kpP, met_pl _ hj, h, if_neg (by decide), (hR.at hj (su_use hR ha hj h).1).2.2.2.2.2.2.1]
  rcases (hR.1.1 j hj).2.2 with e | e <;> rw [e] <;> rfl
theorem nI_nm1 {j : Nat} (h : j < 2 ^ 31) : nI j ≠ -1 := nI_ne h
end MX
theorem rs_eq (σ : Nat → Nat → Int32) (a b : Int32) : rsC σ a b = if a = b then nI 1 else if isOpB σ a = false then nI 2 else if isOpB σ b = false then nI 2 else if keptB σ (suC σ a) = true then nI 3 else if roomB σ b (cellsL σ (suC σ a) 24) = false then nI 4 else nI 0 := rfl
