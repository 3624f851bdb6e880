/-! what heap asks of one object, of all -/
section HP
variable {B : Nat} {σ η : Nat → Nat → Int32} {k : Nat}
def obI (σ : Nat → Nat → Int32) (j w : Nat) : Int32 := if hasB σ (nI j) = true then opC σ j w else -4
theorem is_lt (h : Inv σ) (hk : k < 24) (c : obI σ k 0 < 0) : hasB σ (nI k) = false := by
  rcases hb : hasB σ (nI k) with _ | _
  · rfl
  · obtain ⟨a, z, d, q, g1, g2, g3, g4, g5, e1, -⟩ := ob_n h hk ((has_us h.1 hk).mp hb)
    rw [obI, if_pos hb, show opC σ k 0 = nI a from e1] at c
    exact absurd c (nI_pos (by omega))
theorem is_ge (c : ¬ obI σ k 0 < 0) : hasB σ (nI k) = true := by
  rcases hb : hasB σ (nI k) with _ | _
  · rw [obI, hb, if_neg (by decide)] at c
    exact absurd (by decide) c
  · rfl
theorem has_no (h : Inv σ) (hk : k < 24) (c : hasB σ (nI k) = false) : ¬ σ 0 k = nI 1 := fun e => by rw [(has_us h.1 hk).mpr e] at c; cases c
theorem ar_1 {a : Nat} (ha : a < 6) (e : σ 8 a = nI 1) : apC σ a 0 = nI 1 := by rw [ar0 ha, e]; rfl
theorem fld_to (h : Inv σ) {g : Nat} (hk : k < 24) (hg : g < 2) (c : ¬ σ 4 (k * 2 + g) = -1) : ∃ t, t < 24 ∧ σ 4 (k * 2 + g) = nI t ∧ σ 0 t = nI 1 := by
  rcases h.2.2.2.2.2.1 k g hk hg with e | e
  · exact absurd e c
  · exact e
theorem op7 (hk : k < 24) : opC σ k 7 = bI (plB (trC σ (-1)) k) := by
  show bI (metB (trC σ (-1)) (nI k)) = _
  rw [met_pl _ hk]
theorem lv_y (hk : k < 24) (c : opC σ k 7 = nI 1) : plB (trC σ (-1)) k = true := by rw [op7 hk] at c; exact bI1.mp c
theorem lv_n (hk : k < 24) (c : ¬ opC σ k 7 = nI 1) : plB (trC σ (-1)) k = false := by
  rw [op7 hk] at c
  rcases hb : plB (trC σ (-1)) k with _ | _
  · rfl
  · exact absurd (by rw [hb]; rfl) c
theorem step_ge (h : Inv σ) (hk : k < 24) (c : opC σ k 7 = nI 1) : ¬ opC σ k 11 < 0 := by
  rcases tr_stp h (-1) hk with ⟨e, -⟩ | ⟨e, d, hd, e2⟩
  · rw [lv_y hk c] at e; cases e
  · show ¬ stepI (trC σ (-1)) (nI k) < 0
    rw [e2]
    exact nI_pos (by omega)
theorem step_lt (h : Inv σ) (hk : k < 24) (c : ¬ opC σ k 7 = nI 1) : opC σ k 11 < 0 := by
  rcases tr_stp h (-1) hk with ⟨e, e2⟩ | ⟨e, -⟩
  · show stepI (trC σ (-1)) (nI k) < 0
    rw [e2]
    decide
  · rw [lv_n hk c] at e; cases e
theorem bI_lt {a b : Bool} (h : b = true → a = true) : ¬ bI a < bI b := by
  cases b
  · cases a <;> decide
  · rw [h rfl]; decide
theorem op8' (hk : k < 24) : opC σ k 8 = bI (plB (suC σ (σ 1 k)) k) := by
  show bI (metB (suC σ (σ 1 k)) (nI k)) = _
  rw [met_pl _ hk]
theorem sv_ge (h : Inv σ) (hk : k < 24) (hu : σ 0 k = nI 1) : ¬ opC σ k 8 < opC σ k 7 := by
  rw [op8' hk, op7 hk]
  exact bI_lt (lv_sv h hk hu)
theorem sv_eq (h : Inv σ) (hk : k < 24) (hu : σ 0 k = nI 1) (hs : ¬ σ 11 0 = nI 1) : opC σ k 8 = opC σ k 7 := by
  rw [op8' hk, op7 hk]
  rcases hp : plB (trC σ (-1)) k with _ | _
  · rcases hq : plB (suC σ (σ 1 k)) k with _ | _
    · rfl
    · rw [sv_lv h hs hk hu hq] at hp; cases hp
  · rw [lv_sv h hk hu hp]
theorem laid_le (h : JJ B σ) (hB : B < 1000000) (hk : k < 24) : ¬ ctC σ η 7 < opC σ k 9 := by
  obtain ⟨L, l1, l2, l3⟩ := h.2.2.2.1
  obtain ⟨n, n1, n2⟩ := l3 k hk
  show ¬ σ 12 1 < σ 7 k
  rw [l2, n2]
  exact fun z => by have := (nI_ltI (by omega) (by omega)).mp z; omega
theorem lost_ge (h : Inv σ) (hk : k < 24) : ¬ lostC σ (nI k) < opC σ k 7 := by
  obtain ⟨x, x1, x2, x3, x4⟩ := lost_n h hk
  have := cn_le (plB (trC σ (-1))) 24
  rw [x2, op7 hk]
  rcases hp : plB (trC σ (-1)) k with _ | _
  · exact fun z => by have := (nI_ltI (by omega) (show 0 < 2 ^ 31 by decide)).mp z; omega
  · exact fun z => by have := (nI_ltI (by omega) (show 1 < 2 ^ 31 by decide)).mp z; have := x3 hp; omega
theorem lost_le (h : Inv σ) (hk : k < 24) : ¬ ctC σ η 1 < lostC σ (nI k) := by
  obtain ⟨x, x1, x2, -⟩ := lost_n h hk
  have := cn_le (plB (trC σ (-1))) 24
  show ¬ trC σ (-1) 3 0 < _
  rw [x2, tr_cnt h]
  exact fun z => by have := (nI_ltI (by omega) (by omega)).mp z; omega
theorem lost_0 (h : Inv σ) (hk : k < 24) (c : ¬ opC σ k 7 = nI 1) : lostC σ (nI k) = 0 := by
  obtain ⟨x, x1, x2, x3, x4⟩ := lost_n h hk
  rw [x2, x4 (lv_n hk c)]
  rfl
theorem rf_yo {m : Nat} (hm : m = 24) (hk : k < 24) (hu : σ 0 k = nI 1) : nI (s2N (toP σ k) m) + opC σ k 10 = nI (s2N (toP σ (k + 1)) m) := by
  have := rf_y (σ := σ) hk hu hm
  subst hm
  exact this
theorem rt_o : nI (cn (fun o => nz (σ 5 o)) k) + opC σ k 5 = nI (cn (fun o => nz (σ 5 o)) (k + 1)) := cn_b (fun o => nz (σ 5 o)) k
theorem ob_t (hu : σ 0 k = nI 1) : cn (fun o => nz (σ 0 o)) k + 1 = cn (fun o => nz (σ 0 o)) (k + 1) := (cn_t (P := fun o => nz (σ 0 o)) (by show nz (σ 0 k) = true; rw [hu]; rfl)).symm
theorem ob_u (h : Inv σ) (hk : k < 24) (hu : ¬ σ 0 k = nI 1) : cn (fun o => nz (σ 0 o)) k = cn (fun o => nz (σ 0 o)) (k + 1) := (cn_u (P := fun o => nz (σ 0 o)) (un_nz h hk hu)).symm
theorem rt_u (h : Inv σ) (hk : k < 24) (hu : ¬ σ 0 k = nI 1) : cn (fun o => nz (σ 5 o)) k = cn (fun o => nz (σ 5 o)) (k + 1) := (cn_u (P := fun o => nz (σ 5 o)) (un_rt h hk hu)).symm
theorem fin_0 {m : Nat} (hm : m = 24) : nI (cn (fun o => nz (σ 0 o)) m) = ctC σ η 0 := by subst hm; exact (cnt_cn _ 24).symm
theorem fin_3 {m : Nat} (hm : m = 24) : nI (cn (fun o => nz (σ 5 o)) m) = ctC σ η 3 := by subst hm; exact (cnt_cn _ 24).symm
theorem fin_4 (h : Inv σ) {m : Nat} (hm : m = 24) : nI (s2N (toP σ m) 24) = ctC σ η 4 := by
  have e1 := ct4 h hm
  have e2 := to_nn h hm
  subst hm
  rw [e2]
  exact e1.symm
theorem fin_l (h : Inv σ) {m : Nat} (hm : m = 24) : s2N (nnP σ) m = s2N (toP σ m) 24 := by
  have e2 := to_nn h hm
  subst hm
  exact e2.symm
theorem fin_5 (h : Inv σ) {m : Nat} (hm : m = 24) : ¬ nI (s2N (toP σ m) 24) < ctC σ η 5 := by
  have e1 := ct5 h hm
  have e2 := to_nn h hm
  subst hm
  rw [e2]
  have e3 : ctC σ η 5 ≤ nI (s2N (nnP σ) 24) := e1
  rw [Int32.le_iff_toInt_le] at e3
  rw [Int32.lt_iff_toInt_lt]
  omega
theorem fin_6 (h : JJ B σ) {m : Nat} (hm : m = 24) : ctC σ η 6 = nI (cn (fun o => nz (σ 0 o)) m) + ctC σ η 8 := ct6 h hm
theorem fin_1 (h : Inv σ) {m : Nat} (hm : m = 24) : ¬ nI (cn (fun o => nz (σ 0 o)) m) < ctC σ η 1 ∧ ¬ ctC σ η 1 < nI (cn (fun o => nz (σ 5 o)) m) := by
  obtain ⟨x, x1, x2, x3⟩ := ct1 h hm
  have := cn_le (fun o => nz (σ 0 o)) m
  have := cn_le (fun o => nz (σ 5 o)) m
  have e : ctC σ η 1 = nI x := x1
  rw [e]
  exact ⟨fun z => by have := (nI_ltI (by omega) (by omega)).mp z; omega, fun z => by have := (nI_ltI (by omega) (by omega)).mp z; omega⟩
end HP
