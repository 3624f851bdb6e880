/-! what looks show of such a state: cells -/
theorem nI_sb {a b : Nat} (h : b ≤ a) : nI a - nI b = nI (a - b) := by
  have e : nI a = nI (a - b) + nI b := by rw [nI_add, show a - b + b = a by omega]
  rw [e, Int32.add_sub_cancel]
theorem i32_rf (x : Int32) : x ≤ x := i32_le_rf x
theorem bI_le1 (b : Bool) : bI b = nI 0 ∨ bI b = nI 1 := by cases b <;> decide
theorem cnt_cn (P : Nat → Bool) : ∀ n, cntI P n = nI (cn P n)
  | 0 => rfl
  | n + 1 => by
    rw [cntI, cn, cnt_cn P n]
    rcases h : P n with _ | _
    · rw [if_neg (by decide)]; exact nI_add _ 0
    · rw [if_pos rfl]; exact nI_add _ 1
theorem cn_sub {P Q : Nat → Bool} : ∀ n, (∀ i, i < n → P i = true → Q i = true) → cn P n ≤ cn Q n
  | 0, _ => Nat.le_refl _
  | n + 1, h => by
    rw [cn, cn]
    have := cn_sub n (fun i hi => h i (by omega))
    rcases hp : P n with _ | _
    · rw [if_neg (by decide)]; omega
    · rw [if_pos rfl, if_pos (h n (by omega) hp)]; omega
theorem cn_sub1 {P Q : Nat → Bool} {j : Nat} (hp : P j = false) (hq : Q j = true) : ∀ n, j < n → (∀ i, i < n → P i = true → Q i = true) → cn P n + 1 ≤ cn Q n
  | 0, h, _ => by omega
  | n + 1, h, hs => by
    rw [cn, cn]
    by_cases e : j = n
    · subst e
      rw [hp, hq, if_neg (by decide), if_pos rfl]
      have := cn_sub (P := P) (Q := Q) j (fun i hi => hs i (by omega))
      omega
    · have := cn_sub1 hp hq n (by omega) (fun i hi => hs i (by omega))
      rcases hp : P n with _ | _
      · rw [if_neg (by decide)]; omega
      · rw [if_pos rfl, if_pos (hs n (by omega) hp)]; omega
theorem cn_or {P Q R : Nat → Bool} : ∀ n, (∀ i, i < n → (R i = true ↔ P i = true ∨ Q i = true) ∧ ¬ (P i = true ∧ Q i = true)) → cn R n = cn P n + cn Q n
  | 0, _ => rfl
  | n + 1, h => by
    rw [cn, cn, cn, cn_or n (fun i hi => h i (by omega))]
    obtain ⟨h1, h2⟩ := h n (by omega)
    rcases hp : P n with _ | _ <;> rcases hq : Q n with _ | _ <;> rw [hp, hq] at h1 h2
    · rw [if_neg (fun z => by have := h1.mp z; simp at this)]; simp
    · rw [if_pos (h1.mpr (Or.inr rfl))]; simp; omega
    · rw [if_pos (h1.mpr (Or.inl rfl))]; simp; omega
    · exact absurd ⟨rfl, rfl⟩ h2
theorem cn_iv (d z : Nat) : ∀ n, cn (fun c => decide (d ≤ c ∧ c < d + z)) n = (if n ≤ d then 0 else if n ≤ d + z then n - d else z)
  | 0 => by rw [if_pos (Nat.zero_le _)]; rfl
  | n + 1 => by
    rw [cn, cn_iv d z n]
    by_cases c : d ≤ n ∧ n < d + z
    · have e : (if decide (d ≤ n ∧ n < d + z) = true then 1 else 0) = (1 : Nat) := if_pos (decide_eq_true c)
      rw [e, if_neg (show ¬ n + 1 ≤ d by omega), if_pos (show n + 1 ≤ d + z by omega)]
      by_cases c1 : n ≤ d
      · rw [if_pos c1]; omega
      · rw [if_neg c1, if_pos (show n ≤ d + z by omega)]; omega
    · have e : (if decide (d ≤ n ∧ n < d + z) = true then 1 else 0) = (0 : Nat) := if_neg (by rw [decide_eq_false c]; decide)
      rw [e]
      by_cases c1 : n + 1 ≤ d
      · rw [if_pos c1, if_pos (show n ≤ d by omega)]
      · rw [if_neg c1]
        by_cases c2 : n ≤ d
        · rw [if_pos c2, show d = n by omega, show z = 0 by omega, if_neg (by omega)]
        · rw [if_neg c2, if_neg (show ¬ n + 1 ≤ d + z by omega)]
          by_cases c3 : n ≤ d + z
          · rw [if_pos c3]; omega
          · rw [if_neg c3, Nat.add_zero]
section LK
variable {B : Nat} {σ : Nat → Nat → Int32}
/-- what stands of an object that there is -/
theorem ob_n (h : Inv σ) {o : Nat} (ho : o < 24) (hu : σ 0 o = nI 1) : ∃ a z d q, a < 6 ∧ 1 ≤ z ∧ z ≤ 16 ∧ d + z ≤ q ∧ q ≤ 64 ∧ σ 1 o = nI a ∧ σ 2 o = nI d ∧ σ 3 o = nI z ∧ σ 9 a = nI q ∧ σ 8 a = nI 1 := h.2.2.2.2.1 o ho hu
theorem us_in {o a : Nat} (ho : o < 24) (hu : σ 0 o = nI 1) (e : σ 1 o = nI a) : isInB σ (nI o) (nI a) = true := by
  rw [isIn_nI σ ho, hu, if_neg n10, if_pos e]
theorem in_us (h : Inv σ) {o a : Nat} (ho : o < 24) (e : isInB σ (nI o) (nI a) = true) : σ 0 o = nI 1 ∧ σ 1 o = nI a := in_used (ri_ex h) ho e
theorem at_n (h : Inv σ) {o a c : Nat} (ho : o < 24) (hc : c < 64) : atP σ (nI a) (nI c) o = true ↔ isInB σ (nI o) (nI a) = true ∧ (σ 2 o).toNatClampNeg ≤ c ∧ c < (σ 2 o).toNatClampNeg + (σ 3 o).toNatClampNeg := by
  rw [atP]
  rcases hi : isInB σ (nI o) (nI a) with _ | _
  · rw [if_pos rfl]
    exact ⟨fun z => (by cases z), fun z => (by cases z.1)⟩
  · rw [if_neg (by decide)]
    obtain ⟨k, z, d, q, g1, g2, g3, g4, g5, e1, e2, e3, e4, e5⟩ := ob_n h ho (in_us h ho hi).1
    rw [e2, e3, nI_clamp (by omega), nI_clamp (by omega), nI_add]
    by_cases c1 : c < d
    · rw [if_pos ((nI_ltI (by omega) (by omega)).mpr c1)]
      exact ⟨fun z => (by cases z), fun z => by omega⟩
    · rw [if_neg (fun z => c1 ((nI_ltI (by omega) (by omega)).mp z))]
      by_cases c2 : d + z ≤ c
      · rw [if_pos ((nI_leI (by omega) (by omega)).mpr c2)]
        exact ⟨fun z => (by cases z), fun z => by omega⟩
      · rw [if_neg (fun z => c2 ((nI_leI (by omega) (by omega)).mp z))]
        exact ⟨fun _ => ⟨rfl, by omega, by omega⟩, fun _ => rfl⟩
theorem at_hit (h : JJ B σ) {k a c : Nat} (hk : k < 24) (hi : isInB σ (nI k) (nI a) = true) (h1 : (σ 2 k).toNatClampNeg ≤ c) (h2 : c < (σ 2 k).toNatClampNeg + (σ 3 k).toNatClampNeg) (hc : c < 64) : lowI (fun o => atP σ (nI a) (nI c) o) 24 = nI k := by
  refine lowI_found (fun j hj => ?_) hk ((at_n h.1 hk hc).mpr ⟨hi, h1, h2⟩)
  rcases hp : atP σ (nI a) (nI c) j with _ | _
  · rfl
  · obtain ⟨g1, g2, g3⟩ := (at_n h.1 (by omega) hc).mp hp
    obtain ⟨u1, u2⟩ := in_us h.1 (show j < 24 by omega) g1
    obtain ⟨v1, v2⟩ := in_us h.1 hk hi
    have := h.2.2.1 j k (by omega) hk (by omega) u1 v1 (u2.trans v2.symm)
    omega
def occ (σ : Nat → Nat → Int32) (a : Nat) : Nat → Nat → Bool
  | 0, _ => false
  | n + 1, c => if isInB σ (nI n) (nI a) = true then (if decide ((σ 2 n).toNatClampNeg ≤ c ∧ c < (σ 2 n).toNatClampNeg + (σ 3 n).toNatClampNeg) = true then true else occ σ a n c) else occ σ a n c
theorem occ_iff {a c : Nat} : ∀ n, occ σ a n c = true ↔ ∃ o, o < n ∧ isInB σ (nI o) (nI a) = true ∧ (σ 2 o).toNatClampNeg ≤ c ∧ c < (σ 2 o).toNatClampNeg + (σ 3 o).toNatClampNeg
  | 0 => ⟨fun h => (by cases h), fun ⟨o, ho, _⟩ => by omega⟩
  | n + 1 => by
    rw [occ]
    by_cases c1 : isInB σ (nI n) (nI a) = true
    · rw [if_pos c1]
      by_cases c2 : (σ 2 n).toNatClampNeg ≤ c ∧ c < (σ 2 n).toNatClampNeg + (σ 3 n).toNatClampNeg
      · rw [if_pos (decide_eq_true c2)]
        exact ⟨fun _ => ⟨n, by omega, c1, c2⟩, fun _ => rfl⟩
      · rw [if_neg (by rw [decide_eq_false c2]; decide), occ_iff n]
        constructor
        · rintro ⟨o, ho, g⟩; exact ⟨o, by omega, g⟩
        · rintro ⟨o, ho, g⟩
          by_cases e : o = n
          · subst e; exact absurd g.2 c2
          · exact ⟨o, by omega, g⟩
    · rw [if_neg c1, occ_iff n]
      constructor
      · rintro ⟨o, ho, g⟩; exact ⟨o, by omega, g⟩
      · rintro ⟨o, ho, g⟩
        by_cases e : o = n
        · subst e; exact absurd g.1 c1
        · exact ⟨o, by omega, g⟩
theorem occ_cn (h : JJ B σ) {a m : Nat} (ha : a < 6) (hm : m = 64) : ∀ n, n ≤ 24 → cn (occ σ a n) m = szS σ a n
  | 0, _ => by
    have : ∀ n, cn (occ σ a 0) n = 0 := fun n => cn_0 n (fun _ _ => rfl)
    rw [this]; rfl
  | n + 1, hn => by
    have ih := occ_cn h ha hm n (by omega)
    rw [szS, ← ih]
    rcases hi : isInB σ (nI n) (nI a) with _ | _
    · rw [if_neg (fun z => by rw [us_in (by omega) z.1 z.2] at hi; cases hi)]
      exact cn_eq m (fun c _ => by rw [occ, hi, if_neg (by decide)])
    · have u := in_us h.1 (by omega) hi
      obtain ⟨k, z, d, q, g1, g2, g3, g4, g5, e1, e2, e3, e4, e5⟩ := ob_n h.1 (by omega) u.1
      rw [if_pos u]
      have hiv := cn_iv (σ 2 n).toNatClampNeg (σ 3 n).toNatClampNeg m
      have e2' : (σ 2 n).toNatClampNeg = d := by rw [e2, nI_clamp (by omega)]
      have e3' : (σ 3 n).toNatClampNeg = z := by rw [e3, nI_clamp (by omega)]
      have hz : cn (fun c => decide ((σ 2 n).toNatClampNeg ≤ c ∧ c < (σ 2 n).toNatClampNeg + (σ 3 n).toNatClampNeg)) m = (σ 3 n).toNatClampNeg := by
        rw [hiv, if_neg (by omega)]
        split
        · omega
        · rfl
      have := cn_or (P := occ σ a n) (Q := fun c => decide ((σ 2 n).toNatClampNeg ≤ c ∧ c < (σ 2 n).toNatClampNeg + (σ 3 n).toNatClampNeg)) (R := occ σ a (n + 1)) m (fun c hc => ⟨by
          rw [occ, hi, if_pos rfl]
          split
          · rename_i c2; exact ⟨fun _ => Or.inr c2, fun _ => rfl⟩
          · rename_i c2; exact ⟨Or.inl, fun z => z.elim id (fun z => absurd z c2)⟩, fun z => by
          obtain ⟨o, ho, g1, g2, g3⟩ := (occ_iff n).mp z.1
          have g4 := of_decide_eq_true z.2
          obtain ⟨v1, v2⟩ := in_us h.1 (show o < 24 by omega) g1
          have := h.2.2.1 o n (by omega) (by omega) (by omega) v1 u.1 (v2.trans u.2.symm)
          omega⟩)
      rw [this, hz]
/-- is there an object in the cell -/
def atB (σ : Nat → Nat → Int32) (a c : Nat) : Bool := if lowI (fun o => atP σ (nI a) (nI c) o) 24 = -1 then false else true
theorem atB_occ (h : JJ B σ) {a c : Nat} (hc : c < 64) : atB σ a c = occ σ a 24 c := by
  rw [atB]
  rcases ho : occ σ a 24 c with _ | _
  · rw [if_pos (lowI_none (fun j hj => ?_))]
    rcases hp : atP σ (nI a) (nI c) j with _ | _
    · rfl
    · have := (occ_iff 24).mpr ⟨j, hj, (at_n h.1 hj hc).mp hp⟩
      rw [ho] at this; cases this
  · obtain ⟨o, ho, g1, g2, g3⟩ := (occ_iff 24).mp ho
    rw [at_hit h ho g1 g2 g3 hc, if_neg (nI_ne (by omega))]
theorem cells_at (h : JJ B σ) {a m : Nat} (ha : a < 6) (hm : m = 64) : nI (cn (atB σ a) m) = σ 9 a := by
  rw [show cn (atB σ a) m = cn (occ σ a 24) m from cn_eq m (fun c hc => atB_occ h (by omega)), occ_cn h ha hm 24 (Nat.le_refl _), h.2.1 a ha (by omega)]
/-! who lives -/
def LV1 (σ : Nat → Nat → Int32) (j : Nat) : Bool := plB (trC σ (-1)) j
theorem tr_min (hI : InvR σ) (w : Int32) (T : Nat → Prop) (h0 : ∀ t, t < 24 → ¬ nI t = w → hasB σ (nI t) = true → ¬ σ 5 t = 0 → T t) (h1 : ∀ j f t, j < 24 → f < 2 → t < 24 → T j → tgt σ (-1) w j f t → T t) : ∀ t, t < 24 → plB (trC σ w) t = true → T t := by
  obtain ⟨q, g1, g2⟩ := gr_sar σ ρ0 w 24 (Nat.le_refl _)
  obtain ⟨i1, i2, i3, i4⟩ := gr_fol hI (-1) w 24 0 (ρ := sarL σ ρ0 w 24) rfl g1 (fun i hi => by omega)
  exact i4 T (fun t ht hp => by obtain ⟨-, a, b, c⟩ := (g2 t ht).mp hp; exact h0 t ht a b c) h1
theorem met_1 {w : Int32} {j : Nat} (hj : j < 24) : metB (trC σ w) (nI j) = plB (trC σ w) j := met_pl _ hj
theorem lost_n (h : Inv σ) {k : Nat} (hk : k < 24) : ∃ x, x ≤ cn (plB (trC σ (-1))) 24 ∧ lostC σ (nI k) = nI x ∧ (plB (trC σ (-1)) k = true → 1 ≤ x) ∧ (plB (trC σ (-1)) k = false → x = 0) := by
  have hI := h.2.2.2.2.2.1
  have nk : plB (trC σ (nI k)) k = false := by
    rcases hp : plB (trC σ (nI k)) k with _ | _
    · rfl
    · exact absurd rfl (tr_min hI (nI k) (fun t => t ≠ k) (fun t ht a _ _ e => a (by rw [e])) (fun j f t _ _ _ _ g e => g.2.1 (by rw [e])) k hk hp)
  have sub : ∀ t, t < 24 → plB (trC σ (nI k)) t = true → plB (trC σ (-1)) t = true := tr_min hI (nI k) (fun t => plB (trC σ (-1)) t = true) (fun t ht _ a b => (tr_clo hI (-1)).2.1 t ht (nI_ne (by omega)) a b) (fun j f t hj hf ht a g => (tr_clo hI (-1)).2.2 j f t hj hf ht a ⟨g.1, nI_ne (by omega), Or.inl rfl⟩)
  rw [lostC, tr_cnt h, tr_cnt h, nI_sb (cn_sub 24 sub)]
  refine ⟨_, Nat.sub_le _ _, rfl, fun hp => ?_, fun hp => ?_⟩
  · have := cn_sub1 nk hp 24 hk sub
    omega
  · have sup : ∀ t, t < 24 → plB (trC σ (-1)) t = true → plB (trC σ (-1)) t = true ∧ plB (trC σ (nI k)) t = true := tr_min hI (-1) (fun t => plB (trC σ (-1)) t = true ∧ plB (trC σ (nI k)) t = true) (fun t ht a b c => by
        have a1 := (tr_clo hI (-1)).2.1 t ht a b c
        refine ⟨a1, (tr_clo hI (nI k)).2.1 t ht (fun e => ?_) b c⟩
        rw [(nI_eq (by omega) (by omega)).mp e, hp] at a1
        cases a1) (fun j f t hj hf ht a g => by
        have a1 := (tr_clo hI (-1)).2.2 j f t hj hf ht a.1 g
        refine ⟨a1, (tr_clo hI (nI k)).2.2 j f t hj hf ht a.2 ⟨g.1, fun e => ?_, Or.inl rfl⟩⟩
        rw [(nI_eq (by omega) (by omega)).mp e, hp] at a1
        cases a1)
    have := cn_sub (P := plB (trC σ (-1))) (Q := plB (trC σ (nI k))) 24 (fun t ht z => (sup t ht z).2)
    omega
theorem lv_sv (h : Inv σ) {k : Nat} (hk : k < 24) (hu : σ 0 k = nI 1) (hp : plB (trC σ (-1)) k = true) : plB (suC σ (σ 1 k)) k = true := by
  obtain ⟨a, z, d, q, g1, g2, g3, g4, g5, e1, -⟩ := ob_n h hk hu
  rw [e1]
  exact (su_clo h.2.2.2.2.2.1 (nI_ne (by omega))).2.1 k hk (us_in hk hu e1) hp
theorem sv_lv (h : Inv σ) (hs : ¬ σ 11 0 = nI 1) {k : Nat} (hk : k < 24) (hu : σ 0 k = nI 1) (hp : plB (suC σ (σ 1 k)) k = true) : plB (trC σ (-1)) k = true := by
  obtain ⟨a, z, d, q, g1, g2, g3, g4, g5, e1, -⟩ := ob_n h hk hu
  rw [e1] at hp
  exact (su_clo h.2.2.2.2.2.1 (nI_ne (by omega))).2.2.2.2 (fun t => plB (trC σ (-1)) t = true) (fun j hj _ b => b) (fun z => absurd z hs) (fun j f t hj hf ht a b _ => (tr_clo h.2.2.2.2.2.1 (-1)).2.2 j f t hj hf ht a ⟨b, nI_ne (by omega), Or.inl rfl⟩) k hk hp
theorem lv_us (h : Inv σ) {k : Nat} (hk : k < 24) (hp : plB (trC σ (-1)) k = true) : nz (σ 0 k) = true := by
  have := (has_us h.1 hk).mp (tr_used h.2.2.2.2.2.1 (-1) k hk hp)
  rw [this]; rfl
theorem rt_lv (h : Inv σ) {k : Nat} (hk : k < 24) (hp : nz (σ 5 k) = true) : plB (trC σ (-1)) k = true := by
  have h5 : ¬ σ 5 k = 0 := fun e => by rw [e] at hp; cases hp
  have hu : σ 0 k = nI 1 := by
    rcases (h.1 k hk).1 with e | e
    · exact absurd ((h.2.2.2.1 k hk e).2.2.1) h5
    · exact e
  exact (tr_clo h.2.2.2.2.2.1 (-1)).2.1 k hk (nI_ne (by omega)) ((has_us h.1 hk).mpr hu) h5
end LK
