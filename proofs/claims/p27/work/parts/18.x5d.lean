/-! MarkArenas: parts of a text -/
def lfA (σ : Nat → Nat → Int32) : Int32 := lowI (fun o => !nz (σ 8 o)) 6
def lfN (σ : Nat → Nat → Int32) : Int32 := lowI (fun o => !nz (σ 0 o)) 24
theorem ffst_spec {p : Nat → Bool} : ∀ (n i : Nat), ffst p n i < i + n → p (ffst p n i) = true
  | 0, i, h => by rw [ffst] at h; omega
  | n + 1, i, h => by
    rw [ffst] at h ⊢
    by_cases hp : p i = true
    · rw [if_pos hp]; exact hp
    · rw [if_neg hp] at h ⊢; exact ffst_spec n (i + 1) (by omega)
theorem ffst_before {p : Nat → Bool} : ∀ (n i j : Nat), i ≤ j → j < ffst p n i → p j = false
  | 0, i, j, h1, h2 => by rw [ffst] at h2; omega
  | n + 1, i, j, h1, h2 => by
    rw [ffst] at h2
    by_cases hp : p i = true
    · rw [if_pos hp] at h2; omega
    · rw [if_neg hp] at h2
      by_cases e : i = j
      · subst e; simpa using hp
      · exact ffst_before n (i + 1) j (by omega) h2
theorem lowI_cases (p : Nat → Bool) (n : Nat) : (lowI p n = -1 ∧ ∀ j, j < n → p j = false) ∨ ∃ k, k < n ∧ lowI p n = nI k ∧ p k = true ∧ ∀ j, j < k → p j = false := by
  have h := ffst_le p n 0
  by_cases e : ffst p n 0 = n
  · exact Or.inl ⟨by rw [lowI, if_pos e], fun j hj => ffst_before n 0 j (Nat.zero_le _) (by omega)⟩
  · exact Or.inr ⟨ffst p n 0, by omega, by rw [lowI, if_neg e], ffst_spec n 0 (by omega), fun j hj => ffst_before n 0 j (Nat.zero_le _) hj⟩
theorem nI_ne {k : Nat} (h : k < 2 ^ 31) : nI k ≠ -1 := fun e => by
  have h1 := nI_pos h
  rw [e] at h1
  exact h1 (by decide)
def rtS (σ : Nat → Nat → Int32) (j : Nat) (b : Int32) : Nat → Nat → Int32 := rw2 σ 5 (upd (σ 5) j b)
def digB (q a b : Int32) : Bool := if q < a then false else if b < q then false else true
