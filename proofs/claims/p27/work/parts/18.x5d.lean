/-! MarkArenas: parts of a text -/
def lfA (σ : Nat → Nat → Int32) : Int32 := lowI (fun o => !nz (σ 8 o)) 6
def lfN (σ : Nat → Nat → Int32) : Int32 := lowI (fun o => !nz (σ 0 o)) 24
theorem ffst_spec {p : Nat → Bool} : ∀ (n i : Nat), ffst p n i < i + n → p (ffst p n i) = true
  | 0, i, h => by rw [ffst] at h; omega
  | n + 1, i, h => by
    rw [ffst] at h ⊢
    by_cases hp : p i = true
    · rw [if_pos hp]; exact hp
    · rw [if_neg hp] at h ⊢; exact ffst_spec n (i + 1) (by omega)
theorem ffst_before {p : Nat → Bool} : ∀ (n i j : Nat), i ≤ j → j < ffst p n i → p j = false
  | 0, i, j, h1, h2 => by rw [ffst] at h2; omega
  | n + 1, i, j, h1, h2 => by
    rw [ffst] at h2
    by_cases hp : p i = true
    · rw [if_pos hp] at h2; omega
    · rw [if_neg hp] at h2
      by_cases e : i = j
      · subst e; simpa using hp
      · exact ffst_before n (i + 1) j (by omega) h2
theorem lowI_cases (p : Nat → Bool) (n : Nat) : (lowI p n = -1 ∧ ∀ j, j < n → p j = false) ∨ ∃ k, k < n ∧ lowI p n = nI k ∧ p k = true ∧ ∀ j, j < k → p j = false := by
  have h := ffst_le p n 0
  by_cases e : ffst p n 0 = n
  · exact Or.inl ⟨by rw [lowI, if_pos e], fun j hj => ffst_before n 0 j (Nat.zero_le _) (by omega)⟩
  · exact Or.inr ⟨ffst p n 0, by omega, by rw [lowI, if_neg e], ffst_spec n 0 (by omega), fun j hj => ffst_before n 0 j (Nat.zero_le _) hj⟩
theorem nI_ne {k : Nat} (h : k < 2 ^ 31) : nI k ≠ -1 := fun e => by
  have h1 := nI_pos h
  rw [e] at h1
  exact h1 (by decide)
def rtS (σ : Nat → Nat → Int32) (j : Nat) (b : Int32) : Nat → Nat → Int32 := rw2 σ 5 (upd (σ 5) j b)
def mpB (σ τ : Nat → Nat → Int32) (k : Nat) : Bool := if lfN σ = -1 then false else if roomB σ (nI k) (τ 1 1) = false then false else if τ 1 3 = -1 then true else if τ 1 3 = lfN σ then true else hasB σ (τ 1 3)
def mpA (σ τ : Nat → Nat → Int32) (k n : Nat) : Nat → Nat → Int32 := rtS (addS σ n k (τ 1 1)) n (τ 1 2)
def mpS (σ τ : Nat → Nat → Int32) (k : Nat) : Nat → Nat → Int32 := if mpB σ τ k = false then σ else if τ 1 3 = -1 then mpA σ τ k (lfN σ).toNatClampNeg else rfS (mpA σ τ k (lfN σ).toNatClampNeg) (τ 1 3).toNatClampNeg 0 (lfN σ)
theorem mp1 {σ τ : Nat → Nat → Int32} {k : Nat} (h1 : lfN σ = -1) : mpB σ τ k = false := by rw [mpB, if_pos h1]
theorem mp2 {σ τ : Nat → Nat → Int32} {k n : Nat} (h1 : lfN σ = nI n) (hn : n < 24) (h2 : roomB σ (nI k) (τ 1 1) = false) : mpB σ τ k = false := by rw [mpB, h1, if_neg (nI_ne (by omega)), if_pos h2]
theorem mp3 {σ τ : Nat → Nat → Int32} {k n : Nat} (h1 : lfN σ = nI n) (hn : n < 24) (h2 : roomB σ (nI k) (τ 1 1) = true) (h3 : τ 1 3 = -1) : mpB σ τ k = true ∧ mpS σ τ k = mpA σ τ k n := by
  have e : mpB σ τ k = true := by rw [mpB, h1, if_neg (nI_ne (by omega)), if_neg (by rw [h2]; decide), if_pos h3]
  exact ⟨e, by rw [mpS, e, if_neg (by decide), if_pos h3, h1, nI_clamp (by omega)]⟩
theorem mp4 {σ τ : Nat → Nat → Int32} {k n h : Nat} (h1 : lfN σ = nI n) (hn : n < 24) (h2 : roomB σ (nI k) (τ 1 1) = true) (h3 : τ 1 3 = nI h) (hh : h < 24) (h4 : h = n ∨ hasB σ (nI h) = true) : mpB σ τ k = true ∧ mpS σ τ k = rfS (mpA σ τ k n) h 0 (nI n) := by
  have e : mpB σ τ k = true := by
    rw [mpB, h1, h3, if_neg (nI_ne (by omega)), if_neg (by rw [h2]; decide), if_neg (nI_ne (by omega))]
    rcases h4 with h4 | h4
    · rw [h4, if_pos rfl]
    · split
      · rfl
      · exact h4
  exact ⟨e, by rw [mpS, e, h3, if_neg (by decide), if_neg (nI_ne (by omega)), h1, nI_clamp (by omega), nI_clamp (by omega)]⟩
theorem mp5 {σ τ : Nat → Nat → Int32} {k n h : Nat} (h1 : lfN σ = nI n) (hn : n < 24) (h2 : roomB σ (nI k) (τ 1 1) = true) (h3 : τ 1 3 = nI h) (hh : h < 24) (h4 : ¬ h = n) (h5 : hasB σ (nI h) = false) : mpB σ τ k = false := by
  rw [mpB, h1, h3, if_neg (nI_ne (by omega)), if_neg (by rw [h2]; decide), if_neg (nI_ne (by omega)), if_neg (fun e => h4 ((nI_eq (by omega) (by omega)).mp e)), h5]
theorem mpf {σ τ : Nat → Nat → Int32} {k : Nat} (h : mpB σ τ k = false) : mpS σ τ k = σ := by rw [mpS, if_pos h]
-- X5_makePart: not in this claim
theorem rdL_of {τ τ' : Nat → Nat → Int32} (h0 : τ' 0 = τ 0) (h1 : τ' 1 0 = τ 1 0) : ∀ (n i : Nat) (a b h : Int32), rdL τ' n i a b h = rdL τ n i a b h
  | 0, i, a, b, h => by rw [rdL, rdL, h1]
  | n + 1, i, a, b, h => by rw [rdL, rdL, h0, h1, rdL_of h0 h1 n, rdL_of h0 h1 n, rdL_of h0 h1 n, rdL_of h0 h1 n]
theorem rdR_of {τ τ' : Nat → Nat → Int32} (h0 : τ' 0 = τ 0) (h1 : τ' 1 0 = τ 1 0) (f : Nat) : rdR τ' f = rdR τ f := rdL_of h0 h1 _ _ _ _ _
theorem rdT_0 (τ : Nat → Nat → Int32) (r : Int32 × Int32 × Int32 × Int32) : rdT τ r 0 = τ 0 := rfl
theorem rdT_1 (τ : Nat → Nat → Int32) (r : Int32 × Int32 × Int32 × Int32) : rdT τ r 1 0 = τ 1 0 := rfl
/-- what a part's reading gives, wherever one begins -/
def pkF (τ : Nat → Nat → Int32) (S : Nat → Prop) (f q : Nat) : Prop := S q ∧ (rdR τ f).1 = nI q ∧ ((rdR τ f).2.2.1 = 0 ∨ (rdR τ f).2.2.1 = 1) ∧ ((rdR τ f).2.2.2 = -1 ∨ ∃ h, h < 24 ∧ (rdR τ f).2.2.2 = nI h)
def pkS (τ : Nat → Nat → Int32) (S : Nat → Prop) : Prop := S 0 ∧ ∀ f, S f → f ≤ 60 ∧ (¬ τ 1 0 ≤ nI f → ∃ q, pkF τ S f q)
def mkP (k : Nat) : Nat → (Nat → Nat → Int32) → (Nat → Nat → Int32) → Nat → Nat → (Nat → Nat → Int32) × (Nat → Nat → Int32) × Nat
  | 0, σ, τ, _, j => (σ, τ, j)
  | n + 1, σ, τ, f, j => if τ 1 0 ≤ nI f then (σ, τ, j) else if mpB σ (rdT τ (rdR τ f)) k = true then mkP k n (mpS σ (rdT τ (rdR τ f)) k) (rdT τ (rdR τ f)) (rdR τ f).1.toNatClampNeg (j + 1) else (σ, rdT τ (rdR τ f), j)
-- X5_makeParts: not in this claim
