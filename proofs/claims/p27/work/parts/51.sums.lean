/-! what looks show of such a state: references add up from both ends -/
def s2N (P : Nat → Nat → Bool) : Nat → Nat
  | 0 => 0
  | n + 1 => s2N P n + (if P n 0 = true then 1 else 0) + (if P n 1 = true then 1 else 0)
theorem s2_nI (P : Nat → Nat → Bool) : ∀ n, sum2 P n = nI (s2N P n)
  | 0 => rfl
  | n + 1 => by
    rw [sum2, s2N, s2_nI P n]
    cases P n 0 <;> cases P n 1 <;> simp only [bI_t, bI_f, nI_add] <;> rfl
theorem s2N_eq {P Q : Nat → Nat → Bool} : ∀ n, (∀ h f, h < n → f < 2 → P h f = Q h f) → s2N P n = s2N Q n
  | 0, _ => rfl
  | n + 1, h => by rw [s2N, s2N, s2N_eq n (fun a b c d => h a b (by omega) d), h n 0 (by omega) (by decide), h n 1 (by omega) (by decide)]
theorem if_imp {a b : Bool} (h : a = true → b = true) : (if a = true then 1 else 0) ≤ (if b = true then (1 : Nat) else 0) := by
  cases a
  · simp
  · rw [h rfl]; simp
theorem s2N_sub {P Q : Nat → Nat → Bool} : ∀ n, (∀ h f, h < n → f < 2 → P h f = true → Q h f = true) → s2N P n ≤ s2N Q n
  | 0, _ => Nat.le_refl _
  | n + 1, h => by
    rw [s2N, s2N]
    have h1 := s2N_sub n (fun a b c d => h a b (by omega) d)
    have h2 := if_imp (h n 0 (by omega) (by decide))
    have h3 := if_imp (h n 1 (by omega) (by decide))
    omega
theorem s2N_le (P : Nat → Nat → Bool) : ∀ n, s2N P n ≤ 2 * n
  | 0 => Nat.le_refl _
  | n + 1 => by
    rw [s2N]
    have := s2N_le P n
    split <;> split <;> omega
theorem s2N_or {P Q R : Nat → Nat → Bool} : ∀ n, (∀ h f, h < n → f < 2 → (R h f = true ↔ P h f = true ∨ Q h f = true) ∧ ¬ (P h f = true ∧ Q h f = true)) → s2N R n = s2N P n + s2N Q n
  | 0, _ => rfl
  | n + 1, h => by
    have key : ∀ f, f < 2 → (if R n f = true then 1 else 0) = (if P n f = true then 1 else 0) + (if Q n f = true then (1 : Nat) else 0) := fun f hf => by
      obtain ⟨h1, h2⟩ := h n f (by omega) hf
      rcases hp : P n f with _ | _ <;> rcases hq : Q n f with _ | _ <;> rw [hp, hq] at h1 h2
      · rw [if_neg (fun z => by have := h1.mp z; simp at this)]; simp
      · rw [if_pos (h1.mpr (Or.inr rfl))]; simp
      · rw [if_pos (h1.mpr (Or.inl rfl))]; simp
      · exact absurd ⟨rfl, rfl⟩ h2
    rw [s2N, s2N, s2N, s2N_or n (fun a b c d => h a b (by omega) d), key 0 (by decide), key 1 (by decide)]
    omega
section SU
variable {B : Nat} {σ : Nat → Nat → Int32}
def nnP (σ : Nat → Nat → Int32) (h f : Nat) : Bool := if σ 4 (h * 2 + f) = -1 then false else true
def toP (σ : Nat → Nat → Int32) : Nat → Nat → Nat → Bool
  | 0, _, _ => false
  | k + 1, h, f => if σ 0 k = nI 1 ∧ σ 4 (h * 2 + f) = nI k then true else toP σ k h f
theorem toP_iff {h f : Nat} : ∀ n, toP σ n h f = true ↔ ∃ k, k < n ∧ σ 0 k = nI 1 ∧ σ 4 (h * 2 + f) = nI k
  | 0 => ⟨fun z => (by cases z), fun ⟨k, hk, _⟩ => by omega⟩
  | n + 1 => by
    rw [toP]
    by_cases c : σ 0 n = nI 1 ∧ σ 4 (h * 2 + f) = nI n
    · rw [if_pos c]; exact ⟨fun _ => ⟨n, by omega, c⟩, fun _ => rfl⟩
    · rw [if_neg c, toP_iff n]
      constructor
      · rintro ⟨k, hk, g⟩; exact ⟨k, by omega, g⟩
      · rintro ⟨k, hk, g⟩
        by_cases e : k = n
        · subst e; exact absurd g c
        · exact ⟨k, by omega, g⟩
theorem rf_y {k m : Nat} (hk : k < 24) (hu : σ 0 k = nI 1) (hm : m = 24) : nI (s2N (toP σ k) m) + sum2 (fun h f => if refI σ (nI h) (nI f) = nI k then true else false) m = nI (s2N (toP σ (k + 1)) m) := by
  rw [s2_nI, nI_add, ← s2N_or m (R := toP σ (k + 1)) (fun h f hh hf => ⟨?_, ?_⟩)]
  · rw [ref_nI σ (by omega) hf, toP]
    by_cases c : σ 4 (h * 2 + f) = nI k
    · rw [if_pos ⟨hu, c⟩, if_pos c]; exact ⟨fun _ => Or.inr rfl, fun _ => rfl⟩
    · rw [if_neg (fun z => c z.2), if_neg c]; exact ⟨Or.inl, fun z => z.elim id (fun z => by cases z)⟩
  · rw [ref_nI σ (by omega) hf]
    rintro ⟨a, b⟩
    obtain ⟨j, hj, _, e⟩ := (toP_iff k).mp a
    split at b
    · rename_i c
      have := (nI_eq (by omega) (by omega)).mp (e.symm.trans c)
      omega
    · cases b
theorem rf_n {k : Nat} (hu : ¬ σ 0 k = nI 1) (m : Nat) : s2N (toP σ (k + 1)) m = s2N (toP σ k) m := s2N_eq m (fun h f _ _ => by rw [toP, if_neg (fun z => hu z.1)])
theorem rf_0 (m : Nat) : s2N (toP σ 0) m = 0 := by
  have := s2N_sub (P := toP σ 0) (Q := fun _ _ => false) m (fun _ _ _ _ z => z)
  have e : ∀ n, s2N (fun _ _ => false) n = 0 := fun n => by
    induction n with
    | zero => rfl
    | succ n ih => rw [s2N, ih]; rfl
  rw [e] at this
  omega
theorem fld_t (h : Inv σ) {o f : Nat} (ho : o < 24) (hf : f < 2) : (σ 4 (o * 2 + f) = -1 ∧ nnP σ o f = false) ∨ (nnP σ o f = true ∧ ¬ σ 4 (o * 2 + f) = -1 ∧ ∃ t, t < 24 ∧ σ 4 (o * 2 + f) = nI t ∧ σ 0 t = nI 1) := by
  rcases h.2.2.2.2.2.1 o f ho hf with e | ⟨t, ht, e, u⟩
  · exact Or.inl ⟨e, if_pos e⟩
  · have n : ¬ σ 4 (o * 2 + f) = -1 := by rw [e]; exact nI_ne (by omega)
    exact Or.inr ⟨if_neg n, n, t, ht, e, u⟩
theorem un_nn (h : Inv σ) {o f : Nat} (ho : o < 24) (hf : f < 2) (hu : ¬ σ 0 o = nI 1) : nnP σ o f = false := by
  have e : σ 0 o = nI 0 := by
    rcases (h.1 o ho).1 with e | e
    · exact e
    · exact absurd e hu
  have g := h.2.2.2.1 o ho e
  rcases (show f = 0 ∨ f = 1 by omega) with rfl | rfl
  · exact if_pos g.1
  · exact if_pos g.2.1
theorem to_nn (h : Inv σ) {m : Nat} (hm : m = 24) : s2N (toP σ m) m = s2N (nnP σ) m := s2N_eq m (fun o f ho hf => by
  rcases fld_t h (o := o) (f := f) (by omega) hf with ⟨e, n⟩ | ⟨n, n1, t, ht, e, u⟩
  · rw [n]
    rcases hp : toP σ m o f with _ | _
    · rfl
    · obtain ⟨k, hk, _, e2⟩ := (toP_iff m).mp hp
      exact absurd (e2.symm.trans e) (nI_ne (by omega))
  · rw [n]
    exact (toP_iff m).mpr ⟨t, by omega, u, e⟩)
theorem rp_nn (h : Inv σ) {o f : Nat} (ho : o < 24) (hf : f < 2) : refP σ false o f = nnP σ o f := by
  rw [refP, ref_nI σ ho hf]
  rcases fld_t h ho hf with ⟨e, n⟩ | ⟨n, n1, t, ht, e, u⟩
  · rw [e, n, has_m1, if_pos rfl]
  · rw [e, n, (has_us h.1 ht).mpr u, if_neg (by decide), if_pos rfl]
theorem ct4 (h : Inv σ) {m : Nat} (hm : m = 24) : sum2 (fun a b => refP σ false a b) m = nI (s2N (nnP σ) m) := by
  rw [s2_nI]
  congr 1
  exact s2N_eq m (fun o f ho hf => rp_nn h (by omega) hf)
theorem ct5 (h : Inv σ) {m : Nat} (hm : m = 24) : sum2 (fun a b => refP σ true a b) m ≤ nI (s2N (nnP σ) m) := by
  rw [s2_nI]
  refine (nI_leI (by have := s2N_le (fun a b => refP σ true a b) m; omega) (by have := s2N_le (nnP σ) m; omega)).mpr (s2N_sub m (fun o f ho hf z => ?_))
  rw [← rp_nn h (by omega) hf]
  rw [refP] at z ⊢
  split
  · rename_i c; rw [if_pos c] at z; exact z
  · rfl
/-- how many references objects below k hold, and of k the first g fields -/
def ldN (σ : Nat → Nat → Int32) (k g : Nat) : Nat := s2N (nnP σ) k + cn (nnP σ k) g
theorem ld_0 (k : Nat) : ldN σ k 0 = s2N (nnP σ) k := rfl
theorem ld_2 (k : Nat) : ldN σ k 2 = s2N (nnP σ) (k + 1) := by
  rw [ldN, s2N, cn, cn, cn]
  cases nnP σ k 0 <;> cases nnP σ k 1 <;> simp
theorem ld_y {k g : Nat} (e : ¬ σ 4 (k * 2 + g) = -1) : nI (ldN σ k g) + nI 1 = nI (ldN σ k (g + 1)) := by
  rw [ldN, ldN, cn, nnP, if_neg e, if_pos rfl, nI_add, Nat.add_assoc]
theorem ld_n {k g : Nat} (e : σ 4 (k * 2 + g) = -1) : nI (ldN σ k g) + nI 0 = nI (ldN σ k (g + 1)) := by
  rw [ldN, ldN, cn, nnP, if_pos e, if_neg (by decide), nI_add, Nat.add_zero, Nat.add_zero]
theorem ld_u (h : Inv σ) {k : Nat} (hk : k < 24) (hu : ¬ σ 0 k = nI 1) : s2N (nnP σ) (k + 1) = s2N (nnP σ) k := by
  rw [s2N, un_nn h hk (by decide) hu, un_nn h hk (by decide) hu]
  rfl
theorem op_f {k g : Nat} (hk : k < 24) (hg : g < 2) : opC σ k (g + 3) = σ 4 (k * 2 + g) := by
  rcases (show g = 0 ∨ g = 1 by omega) with rfl | rfl
  · exact ref_nI σ hk (by decide)
  · exact ref_nI σ hk (by decide)
/-! counts -/
theorem cn_u {P : Nat → Bool} {k : Nat} (h : P k = false) : cn P (k + 1) = cn P k := by rw [cn, h]; rfl
theorem cn_t {P : Nat → Bool} {k : Nat} (h : P k = true) : cn P (k + 1) = cn P k + 1 := by rw [cn, h]; rfl
theorem cn_b (P : Nat → Bool) (k : Nat) : nI (cn P k) + bI (P k) = nI (cn P (k + 1)) := by
  rcases h : P k with _ | _
  · rw [cn_u h]; exact nI_add _ 0
  · rw [cn_t h]; exact nI_add _ 1
theorem un_rt (h : Inv σ) {k : Nat} (hk : k < 24) (hu : ¬ σ 0 k = nI 1) : nz (σ 5 k) = false := by
  rcases (h.1 k hk).1 with e | e
  · rw [(h.2.2.2.1 k hk e).2.2.1]; rfl
  · exact absurd e hu
theorem un_nz (h : Inv σ) {k : Nat} (hk : k < 24) (hu : ¬ σ 0 k = nI 1) : nz (σ 0 k) = false := by
  rcases (h.1 k hk).1 with e | e
  · rw [e]; rfl
  · exact absurd e hu
theorem ct1 (h : Inv σ) {m : Nat} (hm : m = 24) : ∃ x, trC σ (-1) 3 0 = nI x ∧ x ≤ cn (fun o => nz (σ 0 o)) m ∧ cn (fun o => nz (σ 5 o)) m ≤ x := by
  subst hm
  exact ⟨_, tr_cnt h (-1), cn_sub 24 (fun i hi => lv_us h hi), cn_sub 24 (fun i hi => rt_lv h hi)⟩
theorem ct6 (h : JJ B σ) {m : Nat} (hm : m = 24) : σ 12 0 = nI (cn (fun o => nz (σ 0 o)) m) + σ 12 2 := by
  subst hm
  obtain ⟨M, G, m1, m2, m3, m4⟩ := h.2.2.2.2.1
  rw [m2, m3, nI_add, m4, cuN, Nat.add_zero]
end SU
