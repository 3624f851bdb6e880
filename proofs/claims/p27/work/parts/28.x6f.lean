/-! The model: the order in which survivors are laid -/
def OS (σ ρ μ : Nat → Nat → Int32) (t n : Nat) : Prop := n ≤ t ∧ μ 16 0 = nI n ∧ (∀ i, i < n → ∃ j, j < t ∧ μ 15 i = nI j ∧ plB ρ j = true) ∧ (∀ j, j < t → plB ρ j = true → ∃ i, i < n ∧ μ 15 i = nI j) ∧ ∀ i k j j', i < k → k < n → j < 24 → j' < 24 → μ 15 i = nI j → μ 15 k = nI j' → rkN σ j < rkN σ j'
theorem le0 {k : Nat} (hk : k < 2 ^ 31) : nI k ≤ 0 ↔ k = 0 := by
  rw [show (0 : Int32) = nI 0 from rfl, nI_leI hk (by decide)]
  omega
/-- the array while o's place is sought -/
def MV (σ μ μ' : Nat → Nat → Int32) (n k o : Nat) : Prop := (∀ i, i < k → μ' 15 i = μ 15 i) ∧ ∀ i, k ≤ i → i < n → μ' 15 (i + 1) = μ 15 i ∧ ∀ j, j < 24 → μ 15 i = nI j → rkN σ o < rkN σ j
theorem mv_step {σ μ μ' : Nat → Nat → Int32} {n k o j : Nat} (h : MV σ μ μ' n k o) (hk : 0 < k) (hkn : k ≤ n) (hj : j < 24) (e : μ 15 (k - 1) = nI j) (hr : rkN σ o < rkN σ j) (v : Int32) (hv : v = nI j) : MV σ μ (rw2 μ' 15 (upd (μ' 15) k v)) n (k - 1) o := by
  refine ⟨fun i hi => by rw [rw2_s, upd_e, if_neg (by omega)]; exact h.1 i (by omega), fun i h1 h2 => ?_⟩
  by_cases c : i = k - 1
  · subst c
    refine ⟨by rw [rw2_s, upd_e, if_pos (by omega), hv, e], fun j2 hj2 e2 => ?_⟩
    rw [(nI_eq (by omega) (by omega)).mp (e2.symm.trans e)]
    exact hr
  · rw [rw2_s, upd_e, if_neg (by omega)]
    exact h.2 i (by omega) h2
theorem os_ins {σ ρ μ μ' : Nat → Nat → Int32} {n k o : Nat} (h : OS σ ρ μ o n) (ho : o < 24) (hp : plB ρ o = true) (hm : MV σ μ μ' n k o) (hk : k ≤ n) (hinj : ∀ j, j < o → plB ρ j = true → rkN σ j ≠ rkN σ o) (he : k = 0 ∨ ∃ j, j < 24 ∧ μ 15 (k - 1) = nI j ∧ ¬ rkN σ o < rkN σ j) (f : Nat → Int32) (hf : ∀ i, f i = if i = k then nI o else μ' 15 i) (g : Nat → Int32) (hg : g 0 = nI (n + 1)) : OS σ ρ (rw2 (rw2 μ' 15 f) 16 g) (o + 1) (n + 1) := by
  obtain ⟨h1, h2, h3, h4, h5⟩ := h
  have A : ∀ i, rw2 (rw2 μ' 15 f) 16 g 15 i = if i = k then nI o else μ' 15 i := fun i => by rw [rw2_n _ _ (by decide), rw2_s]; exact hf i
  have lo : ∀ i, i < k → rw2 (rw2 μ' 15 f) 16 g 15 i = μ 15 i := fun i hi => by rw [A, if_neg (by omega)]; exact hm.1 i hi
  have hi : ∀ i, k ≤ i → i < n → rw2 (rw2 μ' 15 f) 16 g 15 (i + 1) = μ 15 i := fun i a b => by rw [A, if_neg (by omega)]; exact (hm.2 i a b).1
  have at_ : rw2 (rw2 μ' 15 f) 16 g 15 k = nI o := by rw [A, if_pos rfl]
  have below : ∀ i j, i < k → j < 24 → μ 15 i = nI j → rkN σ j < rkN σ o := by
    intro i j a b c
    rcases he with z | ⟨j2, hj2, e2, r2⟩
    · omega
    · have lt : rkN σ j2 < rkN σ o := by
        obtain ⟨j3, hj3, e3, p3⟩ := h3 (k - 1) (by omega)
        have : j2 = j3 := (nI_eq (by omega) (by omega)).mp (e2.symm.trans e3)
        subst this
        have := hinj j2 hj3 p3
        omega
      by_cases z : i = k - 1
      · subst z
        rw [(nI_eq (by omega) (by omega)).mp (c.symm.trans e2)]
        exact lt
      · have := h5 i (k - 1) j j2 (by omega) (by omega) b hj2 c e2
        omega
  refine ⟨by omega, by rw [rw2_s]; exact hg, fun i a => ?_, fun j a b => ?_, fun i k2 j j2 a b c d e f2 => ?_⟩
  · rcases Nat.lt_trichotomy i k with z | z | z
    · obtain ⟨j, q1, q2, q3⟩ := h3 i (by omega)
      exact ⟨j, by omega, by rw [lo i z, q2], q3⟩
    · subst z; exact ⟨o, by omega, at_, hp⟩
    · obtain ⟨j, q1, q2, q3⟩ := h3 (i - 1) (by omega)
      exact ⟨j, by omega, by rw [show i = (i - 1) + 1 by omega, hi (i - 1) (by omega) (by omega), q2], q3⟩
  · by_cases z : j = o
    · subst z; exact ⟨k, by omega, at_⟩
    · obtain ⟨i, q1, q2⟩ := h4 j (by omega) b
      by_cases y : i < k
      · exact ⟨i, by omega, by rw [lo i y, q2]⟩
      · exact ⟨i + 1, by omega, by rw [hi i (by omega) q1, q2]⟩
  · rcases Nat.lt_trichotomy i k with z | z | z
    · rw [lo i z] at e
      rcases Nat.lt_trichotomy k2 k with y | y | y
      · rw [lo k2 y] at f2
        exact h5 i k2 j j2 a (by omega) c d e f2
      · subst y
        rw [at_] at f2
        rw [← (nI_eq (by omega) (by omega)).mp f2]
        exact below i j z c e
      · rw [show k2 = (k2 - 1) + 1 by omega, hi (k2 - 1) (by omega) (by omega)] at f2
        exact h5 i (k2 - 1) j j2 (by omega) (by omega) c d e f2
    · subst z
      rw [at_] at e
      rw [show k2 = (k2 - 1) + 1 by omega, hi (k2 - 1) (by omega) (by omega)] at f2
      rw [← (nI_eq (by omega) (by omega)).mp e]
      exact (hm.2 (k2 - 1) (by omega) (by omega)).2 j2 d f2
    · rw [show i = (i - 1) + 1 by omega, hi (i - 1) (by omega) (by omega)] at e
      rw [show k2 = (k2 - 1) + 1 by omega, hi (k2 - 1) (by omega) (by omega)] at f2
      exact h5 (i - 1) (k2 - 1) j j2 (by omega) (by omega) c d e f2
theorem os_no {σ ρ μ : Nat → Nat → Int32} {n o : Nat} (h : OS σ ρ μ o n) (hp : plB ρ o = false) : OS σ ρ μ (o + 1) n := by
  obtain ⟨h1, h2, h3, h4, h5⟩ := h
  refine ⟨by omega, h2, fun i hi => by obtain ⟨j, a, b, c⟩ := h3 i hi; exact ⟨j, by omega, b, c⟩, fun j hj hq => h4 j ?_ hq, h5⟩
  by_cases e : j = o
  · subst e; rw [hp] at hq; cases hq
  · omega
def OP (σ μ μ' : Nat → Nat → Int32) (a : Int32) : Prop := LQP σ μ μ' ∧ LV μ' (suC σ a)
theorem OP.up {σ μ μ' : Nat → Nat → Int32} {a : Int32} (h : OP σ μ μ' a) (f : Nat → Int32) : OP σ μ (rw2 μ' 15 f) a := ⟨⟨fun k hk => (rw2_n _ _ (by omega)).trans (h.1.1 k hk), h.1.2.elim fun q hq => ⟨q, hq⟩⟩, fun j hj => by rw [rw2_n _ _ (by decide)]; exact h.2 j hj⟩
theorem OP.up2 {σ μ μ' : Nat → Nat → Int32} {a : Int32} (h : OP σ μ μ' a) (f : Nat → Int32) : OP σ μ (rw2 μ' 16 f) a := ⟨⟨fun k hk => (rw2_n _ _ (by omega)).trans (h.1.1 k hk), h.1.2.elim fun q hq => ⟨q, hq⟩⟩, fun j hj => by rw [rw2_n _ _ (by decide)]; exact h.2 j hj⟩
