/-! MarkArenas: the digest, the buffer -/
def okD (d : UInt64) : Prop := d = 0 ∨ ∃ v k : Nat, v < 4503599627370496 ∧ k ≤ 60 ∧ d = dB v k
theorem sh52 : ∀ k, k < 61 → lN (1023 - k) <<< ((nI 52).toInt64 &&& 63) = lN ((1023 - k) * 4503599627370496) := by decide +kernel
theorem bits_sum {v k : Nat} (hk : k ≤ 60) : lN (1023 - k) <<< ((nI 52).toInt64 &&& 63) + lN v = (dB v k).toInt64 := by
  rw [sh52 k (by omega), lN_add]
  rfl
-- X5_bitsOf: not in this claim
-- X5_bitsOf: not in this claim
def woL (σ : Nat → Nat → Int32) (j : Nat) (h : Int64) : Nat → Int64
  | 0 => 31 * h + (nI j).toInt64
  | w + 1 => 31 * woL σ j h w + (opC σ j w).toInt64
def woC (σ : Nat → Nat → Int32) (j : Nat) (h : Int64) : Int64 := 31 * (31 * woL σ j h 12 + (gvC σ (nI j) (nI 0)).toInt64) + (lostC σ (nI j)).toInt64
def waL (σ : Nat → Nat → Int32) (k : Nat) (h : Int64) : Nat → Int64
  | 0 => h
  | w + 1 => 31 * waL σ k h w + (apC σ k w).toInt64
def waC (σ : Nat → Nat → Int32) (k : Nat) (h : Int64) : Int64 := 31 * waL σ k h 8 + (rsC σ (nI k) (nI 1)).toInt64
def dg1 (σ η : Nat → Nat → Int32) : Nat → Int64
  | 0 => 2741
  | w + 1 => 31 * dg1 σ η w + (ctC σ η w).toInt64
def dg2 (σ : Nat → Nat → Int32) (h : Int64) : Nat → Int64
  | 0 => h
  | w + 1 => 31 * dg2 σ h w + (σ 11 w).toInt64
def dg3 (σ : Nat → Nat → Int32) (h : Int64) : Nat → Int64
  | 0 => h
  | j + 1 => if hasB σ (nI j) = true then woC σ j (dg3 σ h j) else dg3 σ h j
def dg4 (σ : Nat → Nat → Int32) (h : Int64) : Nat → Int64
  | 0 => h
  | k + 1 => waC σ k (dg4 σ h k)
def dgS (σ η : Nat → Nat → Int32) : Int64 := 31 * (31 * dg4 σ (dg3 σ (dg2 σ (dg1 σ η 11) 2) 24) 6 + (bsO σ 6).1.toInt64) + (shC σ).toInt64
def dgC (σ τ η : Nat → Nat → Int32) : Int64 := lcL τ 60 0 (31 * dgS σ η + (τ 1 0).toInt64)
-- X5_withObject: not in this claim
-- X5_withArena: not in this claim
-- X5_digest: not in this claim
-- X5_clearBuffer: not in this claim
-- X5_firstError: not in this claim
