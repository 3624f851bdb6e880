/-! The model: states -/
def szS (σ : Nat → Nat → Int32) (a : Nat) : Nat → Nat
  | 0 => 0
  | n + 1 => szS σ a n + if σ 0 n = nI 1 ∧ σ 1 n = nI a then (σ 3 n).toNatClampNeg else 0
def InvF (σ : Nat → Nat → Int32) : Prop := ∀ o, o < 24 → (σ 0 o = nI 0 ∨ σ 0 o = nI 1) ∧ (σ 5 o = nI 0 ∨ σ 5 o = nI 1) ∧ (σ 6 o = nI 0 ∨ σ 6 o = nI 1)
def InvA (σ : Nat → Nat → Int32) : Prop := ∀ a, a < 6 → (σ 8 a = nI 0 ∨ σ 8 a = nI 1) ∧ ∃ q, q ≤ 64 ∧ σ 9 a = nI q ∧ szS σ a 24 ≤ q
def InvS (σ : Nat → Nat → Int32) : Prop := (σ 11 0 = nI 0 ∨ σ 11 0 = nI 1) ∧ (σ 11 1 = nI 0 ∨ σ 11 1 = nI 1 ∨ σ 11 1 = nI 2)
def InvU (σ : Nat → Nat → Int32) : Prop := ∀ o, o < 24 → σ 0 o = nI 0 → σ 4 (o * 2 + 0) = -1 ∧ σ 4 (o * 2 + 1) = -1 ∧ σ 5 o = nI 0 ∧ σ 6 o = nI 0 ∧ σ 7 o = nI 0
def InvO (σ : Nat → Nat → Int32) : Prop := ∀ o, o < 24 → σ 0 o = nI 1 → ∃ a z d q, a < 6 ∧ 1 ≤ z ∧ z ≤ 16 ∧ d + z ≤ q ∧ q ≤ 64 ∧ σ 1 o = nI a ∧ σ 2 o = nI d ∧ σ 3 o = nI z ∧ σ 9 a = nI q ∧ σ 8 a = nI 1
def InvR (σ : Nat → Nat → Int32) : Prop := ∀ o f, o < 24 → f < 2 → σ 4 (o * 2 + f) = -1 ∨ ∃ j, j < 24 ∧ σ 4 (o * 2 + f) = nI j ∧ σ 0 j = nI 1
def InvD (σ : Nat → Nat → Int32) : Prop := ∀ o j, o < 24 → j < 24 → σ 0 o = nI 1 → σ 0 j = nI 1 → σ 1 o = σ 1 j → σ 2 o = σ 2 j → o = j
def Inv (σ : Nat → Nat → Int32) : Prop := InvF σ ∧ InvA σ ∧ InvS σ ∧ InvU σ ∧ InvO σ ∧ InvR σ ∧ InvD σ
def RelA (σ : Nat → Nat → Int32) (N : Nat → Int32) : Prop := ∀ a, a < 6 → N (6 + 3 * a) = σ 8 a ∧ N (6 + 3 * a + 1) = σ 9 a ∧ N (6 + 3 * a + 2) = σ 10 a
def RelC (σ : Nat → Nat → Int32) (N : Nat → Int32) : Prop := N 0 = σ 11 0 ∧ N 1 = σ 11 1 ∧ N 2 = σ 12 0 ∧ N 3 = σ 12 1 ∧ N 4 = σ 12 2 ∧ N 5 = σ 12 3
def RelO (σ : Nat → Nat → Int32) (N : Nat → Int32) : Prop := ∀ o, o < 24 → N (24 + 9 * o + 0) = σ 0 o ∧ (σ 0 o = nI 1 → N (24 + 9 * o + 1) = σ 1 o ∧ N (24 + 9 * o + 2) = σ 2 o ∧ N (24 + 9 * o + 3) = σ 3 o ∧ N (24 + 9 * o + 4) = σ 4 (o * 2 + 0) ∧ N (24 + 9 * o + 5) = σ 4 (o * 2 + 1) ∧ N (24 + 9 * o + 6) = σ 5 o ∧ N (24 + 9 * o + 7) = σ 6 o ∧ N (24 + 9 * o + 8) = σ 7 o)
def RelW (N : Nat → Int32) : Prop := (∀ o, o < 24 → ∃ a, a < 6 ∧ N (24 + 9 * o + 1) = nI a) ∧ ∀ o f, o < 24 → f < 2 → N (24 + 9 * o + (4 + f)) = -1 ∨ ∃ j, j < 24 ∧ N (24 + 9 * o + (4 + f)) = nI j
/-- the model's numbers N are a state σ of the class -/
def RI (σ : Nat → Nat → Int32) (N : Nat → Int32) : Prop := Inv σ ∧ RelC σ N ∧ RelA σ N ∧ RelO σ N ∧ RelW N
section RIS
variable {σ : Nat → Nat → Int32} {N : Nat → Int32}
theorem RI.inv (h : RI σ N) : Inv σ := h.1
theorem RI.flag (h : RI σ N) {o : Nat} (ho : o < 24) : σ 0 o = nI 0 ∨ σ 0 o = nI 1 := (h.1.1 o ho).1
theorem RI.used (h : RI σ N) {o : Nat} (ho : o < 24) : N (24 + 9 * o + 0) = σ 0 o := (h.2.2.2.1 o ho).1
theorem RI.at (h : RI σ N) {o : Nat} (ho : o < 24) (hu : σ 0 o = nI 1) : N (24 + 9 * o + 1) = σ 1 o ∧ N (24 + 9 * o + 2) = σ 2 o ∧ N (24 + 9 * o + 3) = σ 3 o ∧ N (24 + 9 * o + 4) = σ 4 (o * 2 + 0) ∧ N (24 + 9 * o + 5) = σ 4 (o * 2 + 1) ∧ N (24 + 9 * o + 6) = σ 5 o ∧ N (24 + 9 * o + 7) = σ 6 o ∧ N (24 + 9 * o + 8) = σ 7 o := (h.2.2.2.1 o ho).2 hu
theorem n10 : ¬ (nI 1 : Int32) = nI 0 := by decide
theorem n01 : ¬ (nI 0 : Int32) = nI 1 := by decide
theorem nI_nlt0 {j : Nat} (h : j < 2 ^ 31) : ¬ nI j < 0 := nI_pos h
theorem nI_nge {j n : Nat} (hj : j < n) (h : n < 2 ^ 31) : ¬ nI n ≤ nI j := fun e => by have := (nI_leI h (by omega)).mp e; omega
theorem isIn_nI (σ : Nat → Nat → Int32) {o : Nat} (ho : o < 24) (a : Int32) : isInB σ (nI o) a = if σ 0 o = nI 0 then false else if σ 1 o = a then true else false := by
  rw [isInB, if_neg (nI_nlt0 (by omega)), if_neg (nI_nge ho (by decide)), nI_clamp (by omega)]
  rfl
theorem has_nI (σ : Nat → Nat → Int32) {o : Nat} (ho : o < 24) : hasB σ (nI o) = if σ 0 o = nI 0 then false else true := by
  rw [hasB, if_neg (nI_nlt0 (by omega)), if_neg (nI_nge ho (by decide)), nI_clamp (by omega)]
  rfl
theorem isOp_nI (σ : Nat → Nat → Int32) {a : Nat} (ha : a < 6) : isOpB σ (nI a) = if σ 8 a = nI 0 then false else true := by
  rw [isOpB, isArB_nI ha, if_neg (by decide), nI_clamp (by omega)]
  rfl
theorem ref_nI (σ : Nat → Nat → Int32) {o f : Nat} (ho : o < 24) (hf : f < 2) : refI σ (nI o) (nI f) = σ 4 (o * 2 + f) := by
  rw [refI, if_neg (nI_nlt0 (by omega)), if_neg (nI_nge ho (by decide)), if_neg (nI_nlt0 (by omega)), if_pos ((nI_ltI (by omega) (by decide)).mpr hf), nI_clamp (by omega), nI_clamp (by omega)]
/-- a flag's two values -/
theorem RI.two (h : RI σ N) {o : Nat} (ho : o < 24) {P : Prop} (h0 : σ 0 o = nI 0 → N (24 + 9 * o + 0) = nI 0 → P) (h1 : σ 0 o = nI 1 → N (24 + 9 * o + 0) = nI 1 → P) : P := by
  have e := h.used ho
  rcases h.flag ho with hz | hz
  · exact h0 hz (e.trans hz)
  · exact h1 hz (e.trans hz)
theorem RI.isIn (h : RI σ N) {o : Nat} (ho : o < 24) (a : Int32) : isInB σ (nI o) a = if N (24 + 9 * o + 0) = nI 1 then (if N (24 + 9 * o + 1) = a then true else false) else false := by
  rw [isIn_nI σ ho]
  refine h.two ho (fun h0 h1 => ?_) (fun h0 h1 => ?_)
  · rw [h0, h1, if_pos rfl, if_neg n01]
  · rw [h0, h1, if_neg n10, if_pos rfl, (h.at ho h0).1]
theorem RI.isOp (h : RI σ N) {a : Nat} (ha : a < 6) : isOpB σ (nI a) = if N (6 + 3 * a) = nI 1 then true else false := by
  rw [isOp_nI σ ha, (h.2.2.1 a ha).1]
  rcases (h.1.2.1 a ha).1 with e | e
  · rw [e, if_pos rfl, if_neg n01]
  · rw [e, if_neg n10, if_pos rfl]
theorem dig_cases (x : Int32) (n : Nat) (hn : n < 2 ^ 31) : (digB x (nI 0) (nI n) = true ∧ ∃ j, j ≤ n ∧ x = nI j) ∨ (digB x (nI 0) (nI n) = false ∧ ∀ j, j ≤ n → x ≠ nI j) := by
  unfold digB
  by_cases h0 : x < nI 0
  · rw [if_pos h0]
    refine Or.inr ⟨rfl, fun j hj e => ?_⟩
    rw [e, nI_ltI (by omega) (by decide)] at h0
    omega
  · rw [if_neg h0]
    by_cases h1 : nI n < x
    · rw [if_pos h1]
      refine Or.inr ⟨rfl, fun j hj e => ?_⟩
      rw [e, nI_ltI hn (by omega)] at h1
      omega
    · rw [if_neg h1]
      refine Or.inl ⟨rfl, x.toNatClampNeg, ?_, ?_⟩
      · rw [Int32.lt_iff_toInt_lt, nI_toInt hn] at h1
        have : x.toInt.toNat = x.toNatClampNeg := rfl
        omega
      · rw [Int32.lt_iff_toInt_lt, nI_toInt (by decide)] at h0
        rw [Int32.lt_iff_toInt_lt, nI_toInt hn] at h1
        have : x.toInt.toNat = x.toNatClampNeg := rfl
        exact Int32.toInt_inj.mp (by rw [nI_toInt (by omega)]; omega)
theorem isAr_dig (x : Int32) : isArB x = digB x (nI 0) (nI 5) := by
  rcases dig_cases x 5 (by decide) with ⟨e, j, hj, rfl⟩ | ⟨e, h⟩
  · rw [e, isArB_nI (by omega)]
  · rw [e]
    rcases hx : isArB x with _ | _
    · rfl
    · obtain ⟨j, hj, rfl⟩ := isArB_ex hx
      exact absurd rfl (h j (by omega))
theorem isSe_dig (x : Int32) : isSeB x = digB x (nI 0) (nI 1) := by
  rcases dig_cases x 1 (by decide) with ⟨e, j, hj, rfl⟩ | ⟨e, h⟩
  · rw [e, isSeB, if_neg (nI_nlt0 (by omega)), if_pos ((nI_ltI (by omega) (by decide)).mpr (by omega))]
  · rw [e]
    rcases hx : isSeB x with _ | _
    · rfl
    · obtain ⟨j, hj, rfl⟩ := isSeB_ex hx
      exact absurd rfl (h j (by omega))
theorem has_dig (σ : Nat → Nat → Int32) (x : Int32) (h : digB x (nI 0) (nI 23) = false) : hasB σ x = false := by
  rcases hx : hasB σ x with _ | _
  · rfl
  · obtain ⟨j, hj, rfl⟩ := vp_in_of (hasB_in hx) (by decide)
    rcases dig_cases (nI j) 23 (by decide) with ⟨e, _⟩ | ⟨e, h2⟩
    · rw [e] at h; cases h
    · exact absurd rfl (h2 j (by omega))
theorem RI.has (h : RI σ N) {o : Nat} (ho : o < 24) : hasB σ (nI o) = if N (24 + 9 * o + 0) = nI 1 then true else false := by
  rw [has_nI σ ho]
  refine h.two ho (fun h0 h1 => ?_) (fun h0 h1 => ?_)
  · rw [h0, h1, if_pos rfl, if_neg n01]
  · rw [h0, h1, if_neg n10, if_pos rfl]
end RIS
theorem dig_ex {x : Int32} {n : Nat} (hn : n < 2 ^ 31) (h : digB x (nI 0) (nI n) = true) : ∃ j, j < n + 1 ∧ x = nI j := by
  rcases dig_cases x n hn with ⟨_, j, hj, e⟩ | ⟨e, _⟩
  · exact ⟨j, by omega, e⟩
  · rw [e] at h; cases h
theorem cnt_f {P : Nat → Bool} {n : Nat} (h : P n = false) : cntI P n + nI 0 = cntI P (n + 1) := by rw [cntI, h]; rfl
theorem cnt_t {P : Nat → Bool} {n : Nat} (h : P n = true) : cntI P n + nI 1 = cntI P (n + 1) := by rw [cntI, h]; rfl
theorem cnt_v {P : Nat → Bool} {n : Nat} {v : Int32} (h : v = bI (P n)) : cntI P n + v = cntI P (n + 1) := by rw [cntI, h]
theorem bI_nz {x : Int32} (h : x = nI 0 ∨ x = nI 1) : x = bI (nz x) := by rcases h with h | h <;> rw [h] <;> rfl
section RIT
variable {σ : Nat → Nat → Int32} {N : Nat → Int32}
theorem in_used (hR : RI σ N) {o : Nat} (ho : o < 24) {a : Int32} (h : isInB σ (nI o) a = true) : σ 0 o = nI 1 ∧ σ 1 o = a := by
  rw [isIn_nI σ ho] at h
  rcases hR.flag ho with e | e
  · rw [e, if_pos rfl] at h; cases h
  · refine ⟨e, ?_⟩
    rw [e, if_neg n10] at h
    split at h
    · assumption
    · cases h
theorem RI.pin7 (hR : RI σ N) {o : Nat} (ho : o < 24) {a : Int32} (h : isInB σ (nI o) a = true) : N (24 + 9 * o + 7) = bI (nz (σ 6 o)) := by
  rw [(hR.at ho (in_used hR ho h).1).2.2.2.2.2.2.1]
  exact bI_nz (hR.1.1 o ho).2.2
theorem isOp_nz (σ : Nat → Nat → Int32) {a : Nat} (ha : a < 6) : isOpB σ (nI a) = nz (σ 8 a) := by rw [isOp_nI σ ha]; rfl
theorem RI.atp (hR : RI σ N) {o : Nat} (ho : o < 24) {a : Int32} (h : isInB σ (nI o) a = true) (q : Int32) : atP σ a q o = digB q (N (24 + 9 * o + 2)) (N (24 + 9 * o + 2) + N (24 + 9 * o + 3) - nI 1) := by
  have hu := in_used hR ho h
  obtain ⟨k, z, d, t, h1, h2, h3, h4, h5, e1, e2, e3, e4, e5⟩ := hR.1.2.2.2.2.1 o ho hu.1
  obtain ⟨f1, f2, f3, -⟩ := hR.at ho hu.1
  rw [atP, if_neg (by rw [h]; decide), f2, f3, e2, e3, nI_add, pk_sub (by omega), digB]
  by_cases c1 : q < nI d
  · rw [if_pos c1, if_pos c1]
  · rw [if_neg c1, if_neg c1]
    have hq : (nI (d + z) ≤ q) ↔ nI (d + z - 1) < q := by
      rw [Int32.le_iff_toInt_le, Int32.lt_iff_toInt_lt, nI_toInt (by omega), nI_toInt (by omega)]
      omega
    by_cases c2 : nI (d + z) ≤ q
    · rw [if_pos c2, if_pos (hq.mp c2)]
    · rw [if_neg c2, if_neg (fun e => c2 (hq.mpr e))]
theorem RI.fld (hR : RI σ N) {o f : Nat} (ho : o < 24) (hf : f < 2) (hu : σ 0 o = nI 1) : N (24 + 9 * o + (4 + f)) = σ 4 (o * 2 + f) := by
  obtain ⟨-, -, -, f4, f5, -⟩ := hR.at ho hu
  rcases (show f = 0 ∨ f = 1 by omega) with rfl | rfl
  · exact f4
  · exact f5
theorem RI.unf (hR : RI σ N) {o f : Nat} (ho : o < 24) (hf : f < 2) (hu : σ 0 o = nI 0) : σ 4 (o * 2 + f) = -1 := by
  obtain ⟨g0, g1, -⟩ := hR.1.2.2.2.1 o ho hu
  rcases (show f = 0 ∨ f = 1 by omega) with rfl | rfl
  · exact g0
  · exact g1
theorem has_m1 (σ : Nat → Nat → Int32) : hasB σ (-1) = false := by rw [hasB, if_pos (by decide)]
theorem RI.ref0 (hR : RI σ N) {o f : Nat} (ho : o < 24) (hf : f < 2) {b : Bool} (h : ¬ N (24 + 9 * o + 0) = nI 1) : refP σ b o f = false := by
  rw [refP, ref_nI σ ho hf, hR.unf ho hf (hR.two ho (fun a _ => a) (fun _ a => absurd a h)), has_m1, if_pos rfl]
theorem RI.ref1 (hR : RI σ N) {o f : Nat} (ho : o < 24) (hf : f < 2) {b : Bool} (h : N (24 + 9 * o + 0) = nI 1) (h1 : N (24 + 9 * o + (4 + f)) = -1) : refP σ b o f = false := by
  rw [refP, ref_nI σ ho hf, ← hR.fld ho hf ((hR.used ho).symm.trans h), h1, has_m1, if_pos rfl]
theorem RI.to (hR : RI σ N) {o f : Nat} (ho : o < 24) (hf : f < 2) (h : N (24 + 9 * o + 0) = nI 1) (h1 : ¬ N (24 + 9 * o + (4 + f)) = -1) : ∃ j, j < 24 ∧ N (24 + 9 * o + (4 + f)) = nI j ∧ σ 4 (o * 2 + f) = nI j ∧ σ 0 j = nI 1 := by
  rw [hR.fld ho hf ((hR.used ho).symm.trans h)] at h1 ⊢
  rcases hR.1.2.2.2.2.2.1 o f ho hf with e | ⟨j, hj, e, u⟩
  · exact absurd e h1
  · exact ⟨j, hj, e, e, u⟩
theorem RI.ref2 (hR : RI σ N) {o f : Nat} (ho : o < 24) (hf : f < 2) {b : Bool} (h : N (24 + 9 * o + 0) = nI 1) (h1 : ¬ N (24 + 9 * o + (4 + f)) = -1) {j : Nat} (hj : N (24 + 9 * o + (4 + f)) = nI j) (hj2 : j < 24) : refP σ b o f = if b = false then true else if N (24 + 9 * j + 1) = N (24 + 9 * o + 1) then false else true := by
  obtain ⟨k, hk, e1, e2, u⟩ := hR.to ho hf h h1
  have e3 : j = k := (nI_eq (by omega) (by omega)).mp (hj.symm.trans e1)
  subst e3
  rw [refP, ref_nI σ ho hf, e2, has_nI σ hj2, u, if_neg n10, if_neg (by decide), nI_clamp (by omega), (hR.at hj2 u).1, (hR.at ho ((hR.used ho).symm.trans h)).1]
theorem RI.rto (hR : RI σ N) {o f : Nat} (ho : o < 24) (hf : f < 2) {j : Nat} (hj : j < 24) : (if refI σ (nI o) (nI f) = nI j then true else false) = if N (24 + 9 * o + 0) = nI 1 then (if N (24 + 9 * o + (4 + f)) = nI j then true else false) else false := by
  rw [ref_nI σ ho hf]
  refine hR.two ho (fun h0 h1 => ?_) (fun h0 h1 => ?_)
  · rw [h1, if_neg n01, hR.unf ho hf h0, if_neg (fun e => nI_ne (by omega) e.symm)]
  · rw [h1, if_pos rfl, hR.fld ho hf h0]
theorem RI.cell (hR : RI σ N) {a : Nat} (ha : a < 6) {z : Nat} (hz : z ≤ 1000) : roomB σ (nI a) (nI z) = if nI 64 < N (6 + 3 * a + 1) + nI z then false else true := by
  obtain ⟨-, q, hq, e, -⟩ := hR.1.2.1 a ha
  rw [roomB, isArB_nI ha, if_neg (by decide), nI_clamp (by omega), (hR.2.2.1 a ha).2.1, e, pk_sub hq, nI_add]
  have h1 : (nI (64 - q) < nI z) ↔ nI 64 < nI (q + z) := by
    rw [nI_ltI (by omega) (by omega), nI_ltI (by omega) (by omega)]
    omega
  by_cases c : nI 64 < nI (q + z)
  · rw [if_pos c, if_pos (h1.mpr c)]
  · rw [if_neg c, if_neg (fun e => c (h1.mp e))]
theorem not_t {b : Bool} (h : b = false) : (!b) = true := by rw [h]; rfl
theorem not_f {b : Bool} (h : b = true) : (!b) = false := by rw [h]; rfl
theorem nz_t {x : Int32} (h : ¬ x = nI 0) : nz x = true := if_neg h
theorem nz_f {x : Int32} (h : x = nI 0) : nz x = false := if_pos h
theorem RI.nzu (hR : RI σ N) {o : Nat} (ho : o < 24) : nz (σ 0 o) = if N (24 + 9 * o + 0) = nI 1 then true else false := by
  refine hR.two ho (fun h0 h1 => ?_) (fun h0 h1 => ?_)
  · rw [h0, h1]; rfl
  · rw [h0, h1]; rfl
theorem RI.nzr (hR : RI σ N) {o : Nat} (ho : o < 24) : nz (σ 5 o) = if N (24 + 9 * o + 0) = nI 1 then (if N (24 + 9 * o + 6) = nI 1 then true else false) else false := by
  refine hR.two ho (fun h0 h1 => ?_) (fun h0 h1 => ?_)
  · rw [h1, (hR.1.2.2.2.1 o ho h0).2.2.1]; rfl
  · rw [h1, if_pos rfl, (hR.at ho h0).2.2.2.2.2.1]
    rcases (hR.1.1 o ho).2.1 with e | e <;> rw [e] <;> rfl
end RIT
def frN (σ : Nat → Nat → Int32) : Nat := ffst (fun o => !nz (σ 0 o)) 24 0
theorem lfN_fr (σ : Nat → Nat → Int32) : lfN σ = if frN σ = 24 then -1 else nI (frN σ) := rfl
theorem fr_le (σ : Nat → Nat → Int32) : frN σ ≤ 24 := by have := (ffst_le (fun o => !nz (σ 0 o)) 24 0).2; rw [Nat.zero_add] at this; exact this
def mmB (σ : Nat → Nat → Int32) (a : Nat) (z : Int32) : Bool := if isOpB σ (nI a) = false then false else if roomB σ (nI a) z = false then false else if frN σ = 24 then false else true
def thP (σ : Nat → Nat → Int32) (w o : Nat) : Bool := if w = 0 then nz (σ 0 o) else nz (σ 5 o)
theorem RI.th {σ : Nat → Nat → Int32} {N : Nat → Int32} (hR : RI σ N) {w : Nat} (hw : w = 0 ∨ w = 6) {o : Nat} (ho : o < 24) : thP σ w o = if N (24 + 9 * o + 0) = nI 1 then (if w = 0 then true else if N (24 + 9 * o + w) = nI 1 then true else false) else false := by
  rcases hw with rfl | rfl
  · rw [thP, if_pos rfl, hR.nzu ho, if_pos rfl]
  · rw [thP, if_neg (show ¬ (6 : Nat) = 0 by decide), hR.nzr ho, if_neg (show ¬ (6 : Nat) = 0 by decide)]
theorem s2_v {P : Nat → Nat → Bool} {n : Nat} {a b : Int32} (ha : a = bI (P n 0)) (hb : b = bI (P n 1)) : sum2 P n + a + b = sum2 P (n + 1) := by rw [sum2, ha, hb]
def s2I (P : Nat → Nat → Bool) (n : Nat) : Nat → Int32
  | 0 => sum2 P n
  | f + 1 => s2I P n f + bI (P n f)
theorem s2_f {P : Nat → Nat → Bool} {n f : Nat} (h : P n f = false) : s2I P n f + nI 0 = s2I P n (f + 1) := by rw [s2I, h]; rfl
theorem s2_t {P : Nat → Nat → Bool} {n f : Nat} (h : P n f = true) : s2I P n f + nI 1 = s2I P n (f + 1) := by rw [s2I, h]; rfl
