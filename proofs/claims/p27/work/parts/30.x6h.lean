/-! The model: best, share, properties, counts -/
theorem cells_le {σ : Nat → Nat → Int32} {N : Nat → Int32} (hR : RI σ N) {a : Nat} (ha : a < 6) : ∀ n, n ≤ 24 → ∃ z, z ≤ szS σ a n ∧ cellsL σ (suC σ (nI a)) n = nI z
  | 0, _ => ⟨0, Nat.le_refl _, rfl⟩
  | n + 1, hn => by
    obtain ⟨z, hz, e⟩ := cells_le hR ha n (by omega)
    rcases hp : plB (suC σ (nI a)) n with _ | _
    · exact ⟨z, by rw [szS]; omega, by rw [← cell_f (by omega) hp, e, add_0]⟩
    · have hu := su_use hR (nI_nm1 (by omega)) (by omega) hp
      obtain ⟨k, y, d, q, h1, h2, h3, h4, h5, e1, e2, e3, e4, e5⟩ := hR.1.2.2.2.2.1 n (by omega) hu.1
      refine ⟨z + y, ?_, by rw [← cell_t (by omega) hp, e, e3, nI_add]⟩
      rw [szS, if_pos ⟨hu.1, hu.2⟩, e3, nI_clamp (by omega)]
      omega
theorem dead_nI (σ ρ : Nat → Nat → Int32) {a : Nat} (ha : a < 6) : deadI σ ρ (nI a) = σ 9 a - cellsL σ ρ 24 := by rw [deadI, isArB_nI ha, if_neg (by decide), nI_clamp (by omega)]
theorem dead_bd {σ : Nat → Nat → Int32} {N : Nat → Int32} (hR : RI σ N) {a : Nat} (ha : a < 6) : ∃ y, y ≤ 64 ∧ deadI σ (suC σ (nI a)) (nI a) = nI y := by
  obtain ⟨z, hz, e⟩ := cells_le hR ha 24 (Nat.le_refl _)
  obtain ⟨-, q, hq, e2, hs⟩ := hR.1.2.1 a ha
  exact ⟨q - z, by omega, by rw [dead_nI σ _ ha, e, e2, pk_sub (by omega)]⟩
def bsD (σ : Nat → Nat → Int32) (a : Nat) (r : Int32 × Int32) : Int32 × Int32 := if deadI σ (suC σ (nI a)) (nI a) ≤ r.2 then r else (nI a, deadI σ (suC σ (nI a)) (nI a))
theorem i32_le_rf (x : Int32) : x ≤ x := by rw [Int32.le_iff_toInt_le]; omega
theorem bsD_2 (σ : Nat → Nat → Int32) (a : Nat) (r : Int32 × Int32) : bsD σ a (bsD σ a r) = bsD σ a r := by
  rw [bsD, bsD]
  by_cases c : deadI σ (suC σ (nI a)) (nI a) ≤ r.2
  · rw [if_pos c, if_pos c]
  · rw [if_neg c, if_pos (i32_le_rf _)]
theorem bs_any (σ : Nat → Nat → Int32) (a : Nat) (r : Int32 × Int32) : ∀ n, bsI σ a r n = if anyB (cgB σ a) n = true then bsD σ a r else r
  | 0 => rfl
  | n + 1 => by
    have e : ∀ s, bs1 σ a n s = if cgB σ a n = true then bsD σ a s else s := fun s => by
      rw [bs1, cgB, bsD]
      by_cases c : rsC σ (nI a) (nI n) = 0
      · rw [if_pos c, if_pos c, if_pos rfl]
      · rw [if_neg c, if_neg c, if_neg Bool.false_ne_true]
    rw [bsI, bs_any σ a r n, any_s, e]
    rcases c1 : anyB (cgB σ a) n with _ | _
    · rw [if_neg Bool.false_ne_true, if_neg Bool.false_ne_true]
    · rw [if_pos rfl, if_pos rfl, if_pos rfl, bsD_2]
      split <;> rfl
theorem bs_f {σ : Nat → Nat → Int32} {a : Nat} (h : anyB (cgB σ a) 6 = false) : bsO σ (a + 1) = bsO σ a := by rw [bsO, bs_any, h, if_neg Bool.false_ne_true]
theorem bs_t {σ : Nat → Nat → Int32} {a : Nat} (h : anyB (cgB σ a) 6 = true) : bsO σ (a + 1) = bsD σ a (bsO σ a) := by rw [bsO, bs_any, h, if_pos rfl]
def BM (σ : Nat → Nat → Int32) (a : Nat) (t : Int32) : Prop := ((bsO σ a).1 = -1 ∧ (bsO σ a).2 = -1 ∧ t = nI 0) ∨ ∃ k y, k < a ∧ (bsO σ a).1 = nI k ∧ (bsO σ a).2 = nI y ∧ y ≤ 64 ∧ t = nI y
theorem nle_m1 {y : Nat} (h : y < 2 ^ 31) : ¬ nI y ≤ -1 := fun e => by
  rw [Int32.le_iff_toInt_le, nI_toInt h] at e
  have : (-1 : Int32).toInt = -1 := by decide
  omega
theorem bm_new {σ : Nat → Nat → Int32} {a y : Nat} {t : Int32} (ha : a < 6) (hb : BM σ a t) (h : anyB (cgB σ a) 6 = true) (hy : y ≤ 64) (e : deadI σ (suC σ (nI a)) (nI a) = nI y) (hc : (bsO σ a).1 = -1 ∨ ¬ nI y ≤ t) : bsO σ (a + 1) = (nI a, nI y) := by
  rw [bs_t h, bsD, e, if_neg]
  rcases hb with ⟨e1, e2, e3⟩ | ⟨k, z, h1, e1, e2, h2, e3⟩
  · rw [e2]; exact nle_m1 (by omega)
  · rcases hc with hc | hc
    · exact absurd (e1.symm.trans hc) (nI_ne (by omega))
    · rw [e2, ← e3]; exact hc
theorem bm_old {σ : Nat → Nat → Int32} {a y : Nat} {t : Int32} (ha : a < 6) (hb : BM σ a t) (h : anyB (cgB σ a) 6 = true) (e : deadI σ (suC σ (nI a)) (nI a) = nI y) (hc : ¬ (bsO σ a).1 = -1) (hl : nI y ≤ t) : bsO σ (a + 1) = bsO σ a := by
  rw [bs_t h, bsD, e, if_pos]
  rcases hb with ⟨e1, e2, e3⟩ | ⟨k, z, h1, e1, e2, h2, e3⟩
  · exact absurd e1 hc
  · rw [e2, ← e3]; exact hl
theorem bm_k {σ : Nat → Nat → Int32} {a : Nat} {t : Int32} (ha : a < 6) (hb : BM σ a t) : ¬ (bsO σ a).1 = nI a := fun e => by
  rcases hb with ⟨e1, e2, e3⟩ | ⟨k, z, h1, e1, e2, h2, e3⟩
  · exact nI_ne (by omega) (e.symm.trans e1)
  · have := (nI_eq (by omega) (by omega)).mp (e1.symm.trans e)
    omega
theorem BM.mono {σ : Nat → Nat → Int32} {a : Nat} {t : Int32} (hb : BM σ a t) (e : bsO σ (a + 1) = bsO σ a) : BM σ (a + 1) t := by
  rw [BM, e]
  exact hb.elim Or.inl (fun ⟨k, y, h1, h2⟩ => Or.inr ⟨k, y, by omega, h2⟩)
theorem BM.new {σ : Nat → Nat → Int32} {a y : Nat} (hy : y ≤ 64) (e : bsO σ (a + 1) = (nI a, nI y)) : BM σ (a + 1) (nI y) := Or.inr ⟨a, y, by omega, by rw [e], by rw [e], hy, rfl⟩
def plK (ρ : Nat → Nat → Int32) (k j : Nat) : Bool := if plB ρ j = true then decide ((ρ 1 j).toNatClampNeg < k) else false
theorem plK_0 (ρ : Nat → Nat → Int32) (s : Nat → Int32) : sumI (plK ρ 0) s 24 = nI 0 := sumI_0 24 (fun j _ => by
  rw [plK]
  split
  · exact decide_eq_false (by omega)
  · rfl)
theorem plK_s {σ μ ρ : Nat → Nat → Int32} {q k j d : Nat} (hF : FM σ μ ρ q) (hk : k < q) (hj : j < 24) (e : ρ 0 k = nI j) (e1 : ρ 1 j = nI k) (s : Nat → Int32) : sumI (plK ρ (k + 1)) s 24 = sumI (plK ρ k) s 24 + s j := by
  have hq := hF.1
  have hp : plB ρ j = true := pl_t.mpr (by rw [e1]; exact nI_ne (by omega))
  refine sumI_up (by rw [plK, hp, if_pos rfl, e1, nI_clamp (by omega)]; exact decide_eq_false (by omega)) (by rw [plK, hp, if_pos rfl, e1, nI_clamp (by omega)]; exact decide_eq_true (by omega)) 24 (Nat.le_refl _) hj (fun i hi hne => ?_)
  rw [plK, plK]
  rcases hq2 : plB ρ i with _ | _
  · rw [if_neg (by decide), if_neg (by decide)]
  · rw [if_pos rfl, if_pos rfl]
    rcases hF.2.2.2.2.1 i hi with z | ⟨y, hy, y1, y2⟩
    · exact absurd z.1 (pl_t.mp hq2)
    · rw [y1, nI_clamp (by omega)]
      have : y ≠ k := fun z => by
        subst z
        exact hne ((nI_eq (by omega) (by omega)).mp (y2.symm.trans e))
      by_cases c : y < k
      · rw [decide_eq_true c, decide_eq_true (show y < k + 1 by omega)]
      · rw [decide_eq_false c, decide_eq_false (show ¬ y < k + 1 by omega)]
theorem plK_q {σ μ ρ : Nat → Nat → Int32} {q : Nat} (hF : FM σ μ ρ q) (s : Nat → Int32) : sumI (plK ρ q) s 24 = sumI (plB ρ) s 24 := sumI_eq 24 (fun i hi => by
  have hq := hF.1
  rw [plK]
  rcases hq2 : plB ρ i with _ | _
  · rfl
  · rw [if_pos rfl]
    rcases hF.2.2.2.2.1 i hi with z | ⟨y, hy, y1, y2⟩
    · exact absurd z.1 (pl_t.mp hq2)
    · rw [y1, nI_clamp (by omega)]; exact decide_eq_true hy)
theorem mk_bd {σ : Nat → Nat → Int32} {N : Nat → Int32} (hR : RI σ N) : ∀ n, n ≤ 6 → ∃ z, z ≤ 64 * n ∧ mkL σ n = nI z
  | 0, _ => ⟨0, by omega, rfl⟩
  | n + 1, h => by
    obtain ⟨z, hz, e⟩ := mk_bd hR n (by omega)
    obtain ⟨-, q, hq, e2, -⟩ := hR.1.2.1 n (by omega)
    exact ⟨z + q, by omega, by rw [mkL, e, e2, nI_add]⟩
