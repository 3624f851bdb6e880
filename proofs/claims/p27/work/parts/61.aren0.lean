/-! what arenas asks of one arena, of all -/
section AQ0
variable {B : Nat} {σ η : Nat → Nat → Int32} {k a : Nat}
theorem nm4 {a : Nat} (ha : a < 6) : ¬ (-4 : Int32) = nI a := fun e => by
  have := nI_pos (n := a) (by omega)
  rw [← e] at this
  exact this (by decide)
theorem ob_y (h : Inv σ) (hk : k < 24) (ha : a < 6) (c : obI σ k 0 = nI a) : isInB σ (nI k) (nI a) = true := by
  rw [obI] at c
  split at c
  · rename_i hb
    exact us_in hk ((has_us h.1 hk).mp hb) c
  · exact absurd c (nm4 ha)
theorem ob_n2 (h : Inv σ) (hk : k < 24) (c : ¬ obI σ k 0 = nI a) : isInB σ (nI k) (nI a) = false := by
  rcases hi : isInB σ (nI k) (nI a) with _ | _
  · rfl
  · obtain ⟨u1, u2⟩ := in_us h hk hi
    exact absurd (by rw [obI, if_pos ((has_us h.1 hk).mpr u1)]; exact u2) c
theorem sz_o (h : Inv σ) (hk : k < 24) (hi : isInB σ (nI k) (nI a) = true) : nI (szS σ a k) + opC σ k 2 = nI (szS σ a (k + 1)) := sz_y h hk hi
theorem sv_1 (hk : k < 24) (e : σ 1 k = nI a) (c : opC σ k 8 = nI 1) : plB (suC σ (nI a)) k = true := by rw [op8 hk e] at c; exact bI1.mp c
theorem sv_0 (hk : k < 24) (e : σ 1 k = nI a) (c : ¬ opC σ k 8 = nI 1) : plB (suC σ (nI a)) k = false := by
  rw [op8 hk e] at c
  rcases hb : plB (suC σ (nI a)) k with _ | _
  · rfl
  · exact absurd (by rw [hb]; rfl) c
theorem st_o (hk : k < 24) (e : σ 1 k = nI a) (c : opC σ k 8 = nI 1) : cellsL σ (suC σ (nI a)) k + opC σ k 2 = cellsL σ (suC σ (nI a)) (k + 1) := st_y hk (sv_1 hk e c)
theorem st_o0 (hk : k < 24) (e : σ 1 k = nI a) (c : ¬ opC σ k 8 = nI 1) : cellsL σ (suC σ (nI a)) k + nI 0 = cellsL σ (suC σ (nI a)) (k + 1) := st_n hk (sv_0 hk e c)
theorem st_no (h : Inv σ) (hk : k < 24) (ha : a < 6) (hi : isInB σ (nI k) (nI a) = false) : cellsL σ (suC σ (nI a)) k = cellsL σ (suC σ (nI a)) (k + 1) := by
  rw [cellsL, met_pl _ hk, su_no h hk ha hi, if_pos rfl]
def pnP (σ : Nat → Nat → Int32) (a o : Nat) : Bool := if isInB σ (nI o) (nI a) = false then false else nz (σ 6 o)
theorem pn_o (hi : isInB σ (nI k) (nI a) = true) : cntI (pnP σ a) k + opC σ k 6 = cntI (pnP σ a) (k + 1) := by
  rw [cntI, pnP, hi, if_neg (by decide)]
  rfl
theorem pn_no (hi : isInB σ (nI k) (nI a) = false) : cntI (pnP σ a) k = cntI (pnP σ a) (k + 1) := by
  rw [cntI, pnP, hi, if_pos rfl]
  exact (add_0 _).symm
theorem ky_1 {P : Nat → Bool} (c : anyB P k = true) : anyB P (k + 1) = true := by rw [any_s, if_pos c]
theorem ky_0 {P : Nat → Bool} (c : anyB P k = false) (h : P k = false) : anyB P (k + 1) = false := by rw [any_s, c, if_neg (by decide), h]
theorem ky_2 {P : Nat → Bool} (h : P k = true) : anyB P (k + 1) = true := by rw [any_s]; split <;> first | rfl | exact h
theorem ky_n {P : Nat → Bool} (h : P k = false) : anyB P k = anyB P (k + 1) := by
  rw [any_s, h]
  rcases c : anyB P k with _ | _ <;> rfl
theorem kq_1 (hk : k < 24) (e : σ 1 k = nI a) (c6 : opC σ k 6 = nI 1) (c8 : opC σ k 8 = nI 1) : kpP σ (nI a) k = true := by
  rw [kp_is hk, sv_1 hk e c8, if_neg (by decide)]
  exact bI1.mp c6
theorem kq_6 (hk : k < 24) (c6 : ¬ opC σ k 6 = nI 1) : kpP σ (nI a) k = false := by
  rw [kp_is hk]
  split
  · rfl
  · rcases hb : nz (σ 6 k) with _ | _
    · rfl
    · exact absurd (bI1.mpr hb) c6
theorem kq_8 (hk : k < 24) (e : σ 1 k = nI a) (c8 : ¬ opC σ k 8 = nI 1) : kpP σ (nI a) k = false := by rw [kp_is hk, sv_0 hk e c8, if_pos rfl]
theorem kq_n (h : Inv σ) (hk : k < 24) (ha : a < 6) (hi : isInB σ (nI k) (nI a) = false) : kpP σ (nI a) k = false := by rw [kp_is hk, su_no h hk ha hi, if_pos rfl]
theorem mn_t (hi : isInB σ (nI k) (nI a) = true) : cn (fun o => isInB σ (nI o) (nI a)) k + 1 = cn (fun o => isInB σ (nI o) (nI a)) (k + 1) := (cn_t (P := fun o => isInB σ (nI o) (nI a)) hi).symm
theorem mn_u (hi : isInB σ (nI k) (nI a) = false) : cn (fun o => isInB σ (nI o) (nI a)) k = cn (fun o => isInB σ (nI o) (nI a)) (k + 1) := (cn_u (P := fun o => isInB σ (nI o) (nI a)) hi).symm
theorem ac_1 {q : Nat} (c : ¬ lowI (fun o => atP σ (nI a) (nI q) o) 24 = -1) : cn (atB σ a) q + 1 = cn (atB σ a) (q + 1) := (cn_t (P := atB σ a) (by rw [atB, if_neg c])).symm
theorem ac_0 {q : Nat} (c : lowI (fun o => atP σ (nI a) (nI q) o) 24 = -1) : cn (atB σ a) q + 0 = cn (atB σ a) (q + 1) := (cn_u (P := atB σ a) (by rw [atB, if_pos c])).symm
theorem cells_eq (h : JJ B σ) (ha : a < 6) {q : Nat} (hq : q = 64) (hk : k = 24) : cn (atB σ a) q = szS σ a k := by
  subst hk
  rw [← occ_cn h ha hq 24 (Nat.le_refl _)]
  exact cn_eq q (fun c hc => atB_occ h (by omega))
theorem fa_2 (hk : k = 24) : apC σ a 2 = nI (cn (fun o => isInB σ (nI o) (nI a)) k) := by subst hk; exact cnt_cn _ 24
theorem fa_3 (hk : k = 24) : apC σ a 3 = cellsL σ (suC σ (nI a)) k := by subst hk; rfl
theorem fa_4 (ha : a < 6) (hk : k = 24) : apC σ a 4 = apC σ a 1 - cellsL σ (suC σ (nI a)) k := by subst hk; exact dead_nI σ _ ha
theorem fa_1 (h : JJ B σ) (ha : a < 6) (hk : k = 24) : apC σ a 1 = nI (szS σ a k) := by subst hk; exact h.2.1 a ha (by omega)
theorem fa_5 (hk : k = 24) : apC σ a 5 = cntI (pnP σ a) k := by subst hk; rfl
theorem fa_6 (hk : k = 24) : apC σ a 6 = bI (anyB (kpP σ (nI a)) k) := by subst hk; rfl
theorem op_b (ha : a < 6) : nI (cn (fun o => nz (σ 8 o)) a) + apC σ a 0 = nI (cn (fun o => nz (σ 8 o)) (a + 1)) := by
  rw [ar0 ha]
  exact cn_b (fun o => nz (σ 8 o)) a
theorem fin_a (ha : a = 6) : nI (cn (fun o => nz (σ 8 o)) a) = ctC σ η 2 := by subst ha; exact (cnt_cn _ 6).symm
theorem ar_le' (h : Inv σ) (ha : a < 6) : ¬ nI 64 < apC σ a 1 := by
  have := ar_le h ha
  rw [Int32.le_iff_toInt_le] at this
  rw [Int32.lt_iff_toInt_lt]
  omega
theorem szS_bd (h : Inv σ) (hk : k ≤ 24) : szS σ a k < 2 ^ 31 := by
  have := szS_le h.2.2.2.2.1 a k hk
  omega
end AQ0
