/-! doubles of 0 to 1: the bits by doubling are the double's own bits -/
theorem b64_t : FP.Core.b64.tails = 4503599627370496 := by decide +kernel
theorem b64_x : FP.Core.b64.exps = 2048 := by decide +kernel
theorem b64_qm : FP.Core.b64.qmin = -1074 := by decide +kernel
theorem b64_qx : FP.Core.b64.qmax = 971 := by decide +kernel
theorem dec_n (E v : Nat) (hE : 0 < E) (hE2 : E < 2047) (hv : v < 4503599627370496) : FP.Core.decode FP.Core.b64 (E * 4503599627370496 + v) = .fin false (4503599627370496 + v) (-1074 + ((E : Int) - 1)) := by
  have e1 : FP.Core.fieldE FP.Core.b64 (E * 4503599627370496 + v) = E := by unfold FP.Core.fieldE; rw [b64_t, b64_x]; omega
  have e2 : FP.Core.fieldT FP.Core.b64 (E * 4503599627370496 + v) = v := by unfold FP.Core.fieldT; rw [b64_t]; omega
  have e3 : FP.Core.fieldS FP.Core.b64 (E * 4503599627370496 + v) = false := by
    unfold FP.Core.fieldS
    rw [b64_t, b64_x, show (E * 4503599627370496 + v) / 4503599627370496 / 2048 % 2 = 0 by omega]
    rfl
  unfold FP.Core.decode
  rw [e1, e2, e3, b64_t, b64_x, b64_qm, if_neg (by omega), if_neg (by omega)]
theorem enc_n (q : Int) (v : Nat) : FP.Core.encode FP.Core.b64 (.fin false (4503599627370496 + v) q) = ((q + 1074).toNat + 1) * 4503599627370496 + v := by
  unfold FP.Core.encode
  dsimp only
  rw [b64_t, b64_qm, if_neg (by omega)]
  unfold FP.Core.assemble
  rw [b64_t, b64_x, show q - -1074 = q + 1074 by omega, show 4503599627370496 + v - 4503599627370496 = v by omega]
  simp
theorem lg2 {n k : Nat} (h1 : 2 ^ k ≤ n) (h2 : n < 2 ^ (k + 1)) : n.log2 = k := (Nat.log2_eq_iff (by have := Nat.two_pow_pos k; omega)).mpr ⟨h1, h2⟩
theorem near_ex {a d : Nat} (hd : 0 < d) : FP.Core.nearest (a * d) d = a := by
  unfold FP.Core.nearest
  rw [Nat.mul_mod_left, if_pos (by omega), Nat.mul_div_cancel _ hd]
/-- what is written with 53 digits stays itself -/
theorem rr_ex (v j : Nat) (e : Int) (hv : v < 4503599627370496) (he : -1074 ≤ e + j) (he2 : e + j ≤ 971) (hj : j ≤ 60) : FP.Core.roundRatio FP.Core.b64 false ((4503599627370496 + v) * 2 ^ j) 1 e = .fin false (4503599627370496 + v) (e + j) := by
  have pj : 0 < 2 ^ j := Nat.two_pow_pos j
  have hlog : ((4503599627370496 + v) * 2 ^ j).log2 = 52 + j := by
    refine lg2 ?_ ?_
    · rw [Nat.pow_add]; exact Nat.mul_le_mul_right _ (by omega)
    · rw [show 52 + j + 1 = 53 + j by omega, Nat.pow_add]; exact Nat.mul_lt_mul_of_pos_right (by omega) pj
  have hlead : FP.Core.leading ((4503599627370496 + v) * 2 ^ j) 1 = 52 + (j : Int) := by
    unfold FP.Core.leading
    rw [hlog, show Nat.log2 1 = 0 from by decide +kernel]
    dsimp only
    rw [show (((52 + j : Nat) : Int) - ((0 : Nat) : Int)) = ((52 + j : Nat) : Int) by omega, if_pos]
    · omega
    · rw [show (-((52 + j : Nat) : Int)).toNat = 0 by omega, show (((52 + j : Nat) : Int)).toNat = 52 + j by omega, Nat.pow_zero, Nat.mul_one, Nat.one_mul, Nat.pow_add]
      exact Nat.mul_le_mul_right _ (by omega)
  have hq : FP.Core.quantum FP.Core.b64 ((4503599627370496 + v) * 2 ^ j) 1 e = e + j := by
    unfold FP.Core.quantum
    rw [hlead, b64_qm, show ((FP.Core.b64.p : Int) - 1) = 52 from rfl]
    omega
  unfold FP.Core.roundRatio
  rw [if_neg (by have := Nat.mul_pos (show 0 < 4503599627370496 + v by omega) pj; omega), hq]
  unfold FP.Core.roundAt FP.Core.unitsNum FP.Core.unitsDen
  rw [show (e - (e + (j : Int))).toNat = 0 by omega, show ((e + (j : Int)) - e).toNat = j by omega, Nat.pow_zero, Nat.mul_one, Nat.one_mul, near_ex pj]
  unfold FP.Core.settle FP.Core.bound
  rw [if_pos (show 4503599627370496 + v < 2 ^ FP.Core.b64.p from by show 4503599627370496 + v < 2 ^ 53; omega), if_pos (by rw [b64_qx]; exact he2)]
def dB (v k : Nat) : UInt64 := UInt64.ofNat ((1023 - k) * 4503599627370496 + v)
theorem dB_nat {v k : Nat} (hv : v < 4503599627370496) : (dB v k).toNat = (1023 - k) * 4503599627370496 + v := by
  unfold dB
  rw [UInt64.toNat_ofNat']
  exact Nat.mod_eq_of_lt (by omega)
theorem dB_dec {v k : Nat} (hv : v < 4503599627370496) (hk : k ≤ 1000) : FP.Core.decode FP.Core.b64 (dB v k).toNat = .fin false (4503599627370496 + v) (-52 - (k : Int)) := by
  rw [dB_nat hv, dec_n _ _ (by omega) (by omega) hv, show -1074 + (((1023 - k : Nat) : Int) - 1) = -52 - (k : Int) by omega]
theorem enc_dB {v : Nat} {q : Int} (k : Nat) (hk : k ≤ 1000) (hq : q = -52 - (k : Int)) : UInt64.ofNat (FP.Core.encode FP.Core.b64 (.fin false (4503599627370496 + v) q)) = dB v k := by
  rw [enc_n, hq]
  unfold dB
  rw [show (-52 - (k : Int) + 1074).toNat + 1 = 1023 - k by omega]
theorem two_dec : FP.Core.decode FP.Core.b64 (4611686018427387904 : UInt64).toNat = .fin false 4503599627370496 (-51) := by decide +kernel
theorem one_dec : FP.Core.decode FP.Core.b64 FP.dconst1.toNat = .fin false 4503599627370496 (-52) := by decide +kernel
theorem big_dec : FP.Core.decode FP.Core.b64 (4841369599423283200 : UInt64).toNat = .fin false 4503599627370496 0 := by decide +kernel
theorem zero_dec : FP.Core.decode FP.Core.b64 FP.dconst0.toNat = .fin false 0 (-1074) := by decide +kernel
theorem dB_two {v k : Nat} (hv : v < 4503599627370496) (hk : k + 1 ≤ 1000) : FP.dmul (dB v (k + 1)) 4611686018427387904 = dB v k := by
  show UInt64.ofNat (FP.Core.mul FP.Core.b64 (dB v (k + 1)).toNat (4611686018427387904 : UInt64).toNat) = _
  unfold FP.Core.mul
  rw [dB_dec hv hk, two_dec]
  show UInt64.ofNat (FP.Core.encode FP.Core.b64 (FP.Core.roundRatio FP.Core.b64 false ((4503599627370496 + v) * 2 ^ 52) 1 (-52 - ((k + 1 : Nat) : Int) + -51))) = _
  rw [rr_ex v 52 _ hv (by omega) (by omega) (by decide)]
  exact enc_dB k (by omega) (by omega)
theorem dB_nan {v k : Nat} (hv : v < 4503599627370496) : vf_n64 (dB v k) := by
  unfold vf_n64
  rw [UInt64.le_iff_toNat_le, UInt64.toNat_and, dB_nat hv]
  refine Nat.le_trans Nat.and_le_left ?_
  show (1023 - k) * 4503599627370496 + v ≤ 9218868437227405312
  omega
theorem cmp_int (a b : Int) : compare a b = if a < b then Ordering.lt else if a = b then Ordering.eq else Ordering.gt := rfl
theorem dB_one {v k : Nat} (hv : v < 4503599627370496) (hk : k ≤ 1000) : FP.dcmp (dB v k) FP.dconst1 = some (compare (((4503599627370496 + v) * 2 ^ ((-52 - (k : Int)) - (-52 - (k : Int))).toNat : Nat) : Int) ((4503599627370496 * 2 ^ ((-52 : Int) - (-52 - (k : Int))).toNat : Nat) : Int)) := by
  show FP.Core.order (FP.Core.decode FP.Core.b64 (dB v k).toNat) (FP.Core.decode FP.Core.b64 FP.dconst1.toNat) = _
  rw [dB_dec hv hk, one_dec]
  show some (compare (FP.Core.signed false (FP.Core.inUnits _ _ _)) (FP.Core.signed false (FP.Core.inUnits _ _ _))) = _
  rw [show min (-52 - (k : Int)) (-52) = -52 - (k : Int) by omega]
  rfl
theorem dB_lt1 {v k : Nat} (hv : v < 4503599627370496) (hk : k ≤ 1000) (h1 : 1 ≤ k) : Op.cmpValue (FP.dcmp (dB v k) FP.dconst1) .g = -1 := by
  rw [dB_one hv hk, cmp_int, if_pos]
  · rfl
  · rw [show ((-52 - (k : Int)) - (-52 - (k : Int))).toNat = 0 by omega, show ((-52 : Int) - (-52 - (k : Int))).toNat = k by omega]
    have h2 : 2 ^ 1 ≤ 2 ^ k := Nat.pow_le_pow_right (by decide) h1
    have h3 : 4503599627370496 * 2 ^ 1 ≤ 4503599627370496 * 2 ^ k := Nat.mul_le_mul_left _ h2
    exact Int.ofNat_lt.mpr (by omega)
theorem dB_ge1 {v : Nat} (hv : v < 4503599627370496) : 0 ≤ Op.cmpValue (FP.dcmp (dB v 0) FP.dconst1) .g := by
  rw [dB_one hv (by omega), cmp_int, if_neg]
  · split <;> decide
  · show ¬ (((4503599627370496 + v) * 1 : Nat) : Int) < ((4503599627370496 * 1 : Nat) : Int)
    omega
theorem dB_pos {v k : Nat} (hv : v < 4503599627370496) (hk : k ≤ 1000) : 0 < Op.cmpValue (FP.dcmp (dB v k) FP.dconst0) .g := by
  show 0 < Op.cmpValue (FP.Core.order (FP.Core.decode FP.Core.b64 (dB v k).toNat) (FP.Core.decode FP.Core.b64 FP.dconst0.toNat)) .g
  rw [dB_dec hv hk, zero_dec]
  show 0 < Op.cmpValue (some (compare (FP.Core.signed false (FP.Core.inUnits (4503599627370496 + v) _ _)) (FP.Core.signed false (FP.Core.inUnits 0 _ _)))) .g
  rw [cmp_int]
  have h0 : FP.Core.signed false (FP.Core.inUnits 0 (-1074) (min (-52 - (k : Int)) (-1074))) = 0 := by
    show ((0 * 2 ^ _ : Nat) : Int) = 0
    rw [Nat.zero_mul]
    rfl
  have h1 : 0 < FP.Core.signed false (FP.Core.inUnits (4503599627370496 + v) (-52 - (k : Int)) (min (-52 - (k : Int)) (-1074))) := by
    show (0 : Int) < (((4503599627370496 + v) * 2 ^ _ : Nat) : Int)
    exact Int.ofNat_lt.mpr (Nat.mul_pos (by omega) (Nat.two_pow_pos _))
  rw [h0, if_neg (by omega), if_neg (by omega)]
  decide
/-- a whole number of fewer digits, rounded -/
theorem rr_small (v w L : Nat) (e : Int) (hL : v.log2 = L) (hL2 : L ≤ 51) (hw : v * 2 ^ (52 - L) = 4503599627370496 + w) (he : -900 ≤ e) (he2 : e ≤ 900) (hv : 0 < v) : FP.Core.roundRatio FP.Core.b64 false v 1 e = .fin false (4503599627370496 + w) (e + L - 52) := by
  have hw2 : w < 4503599627370496 := by
    have h1 : v < 2 ^ (L + 1) := by rw [← hL]; exact Nat.lt_log2_self
    have h2 : v * 2 ^ (52 - L) < 2 ^ (L + 1) * 2 ^ (52 - L) := Nat.mul_lt_mul_of_pos_right h1 (Nat.two_pow_pos _)
    rw [← Nat.pow_add, show L + 1 + (52 - L) = 53 by omega] at h2
    omega
  have hlead : FP.Core.leading v 1 = (L : Int) := by
    unfold FP.Core.leading
    rw [hL, show Nat.log2 1 = 0 from by decide +kernel]
    dsimp only
    rw [show ((L : Int) - ((0 : Nat) : Int)) = (L : Int) by omega, if_pos]
    rw [show (-(L : Int)).toNat = 0 by omega, show ((L : Int)).toNat = L by omega, Nat.pow_zero, Nat.mul_one, Nat.one_mul, ← hL]
    exact Nat.log2_self_le (by omega)
  have hq : FP.Core.quantum FP.Core.b64 v 1 e = e + L - 52 := by
    unfold FP.Core.quantum
    rw [hlead, b64_qm, show ((FP.Core.b64.p : Int) - 1) = 52 from rfl]
    omega
  unfold FP.Core.roundRatio
  rw [if_neg (by omega), hq]
  unfold FP.Core.roundAt FP.Core.unitsNum FP.Core.unitsDen
  rw [show (e - (e + (L : Int) - 52)).toNat = 52 - L by omega, show ((e + (L : Int) - 52) - e).toNat = 0 by omega, hw, Nat.pow_zero, Nat.mul_one, show FP.Core.nearest (4503599627370496 + w) 1 = 4503599627370496 + w from by have := near_ex (a := 4503599627370496 + w) (d := 1) (by decide); rwa [Nat.mul_one] at this]
  unfold FP.Core.settle FP.Core.bound
  rw [if_pos (show 4503599627370496 + w < 2 ^ FP.Core.b64.p from by show 4503599627370496 + w < 2 ^ 53; omega), if_pos (by rw [b64_qx]; omega)]
theorem norm_of {v : Nat} (hv : 0 < v) (h2 : v < 4503599627370496) : ∃ L w : Nat, v.log2 = L ∧ L ≤ 51 ∧ v * 2 ^ (52 - L) = 4503599627370496 + w ∧ w < 4503599627370496 := by
  have h1 : v < 2 ^ (v.log2 + 1) := Nat.lt_log2_self
  have h0 : 2 ^ v.log2 ≤ v := Nat.log2_self_le (by omega)
  have hL : v.log2 ≤ 51 := by
    rcases Nat.lt_or_ge 51 v.log2 with h | h
    · have h5 : 2 ^ 52 ≤ 2 ^ v.log2 := Nat.pow_le_pow_right (by decide) h
      omega
    · exact h
  have h3 : v * 2 ^ (52 - v.log2) < 2 ^ (v.log2 + 1) * 2 ^ (52 - v.log2) := Nat.mul_lt_mul_of_pos_right h1 (Nat.two_pow_pos _)
  have h4 : 2 ^ v.log2 * 2 ^ (52 - v.log2) ≤ v * 2 ^ (52 - v.log2) := Nat.mul_le_mul_right _ h0
  rw [← Nat.pow_add, show v.log2 + 1 + (52 - v.log2) = 53 by omega] at h3
  rw [← Nat.pow_add, show v.log2 + (52 - v.log2) = 52 by omega] at h4
  exact ⟨v.log2, v * 2 ^ (52 - v.log2) - 4503599627370496, rfl, hL, by omega, by omega⟩
theorem sub_one {v : Nat} (hv : v < 4503599627370496) : FP.dsub (dB v 0) FP.dconst1 = UInt64.ofNat (FP.Core.encode FP.Core.b64 (FP.Core.roundRatio FP.Core.b64 false v 1 (-52))) := by
  show UInt64.ofNat (FP.Core.sub FP.Core.b64 (dB v 0).toNat FP.dconst1.toNat) = _
  unfold FP.Core.sub
  rw [dB_dec hv (by omega), one_dec]
  have e1 : FP.Core.exactSum (.fin false (4503599627370496 + v) (-52 - ((0 : Nat) : Int))) (FP.Core.negate (.fin false 4503599627370496 (-52))) = .fin false v (-52) := by
    have hu : FP.Core.sumUnits false (4503599627370496 + v) (-52) true 4503599627370496 (-52) (-52) = (v : Int) := by
      show (((4503599627370496 + v) * 1 : Nat) : Int) + -((4503599627370496 * 1 : Nat) : Int) = (v : Int)
      omega
    show FP.Core.Datum.fin (FP.Core.sumSign false true (FP.Core.sumUnits false (4503599627370496 + v) (-52) true 4503599627370496 (-52) (-52))) (FP.Core.sumUnits false (4503599627370496 + v) (-52) true 4503599627370496 (-52) (-52)).natAbs (-52) = _
    rw [hu]
    have hs : FP.Core.sumSign false true (v : Int) = false := by
      unfold FP.Core.sumSign
      split
      · rfl
      · exact decide_eq_false (by omega)
    rw [hs]
    rfl
  rw [e1]
  rfl
theorem i64_of {n : Nat} : Int64.ofInt (n : Int) = lN n := rfl
/-- the fraction's digits -/
theorem frac_of {v : Nat} (hv : v < 4503599627370496) : vf_n64 (FP.dsub (dB v 0) FP.dconst1) ∧ vf_n64 (FP.dmul (FP.dsub (dB v 0) FP.dconst1) 4841369599423283200) ∧ FP.d2l (FP.dmul (FP.dsub (dB v 0) FP.dconst1) 4841369599423283200) = lN v := by
  by_cases h0 : v = 0
  · subst h0
    decide +kernel
  · obtain ⟨L, w, h1, h2, h3, h4⟩ := norm_of (by omega) hv
    have e1 : FP.dsub (dB v 0) FP.dconst1 = dB w (52 - L) := by
      rw [sub_one hv, rr_small v w L (-52) h1 h2 h3 (by decide) (by decide) (by omega)]
      exact enc_dB _ (by omega) (by omega)
    have e2 : FP.dmul (dB w (52 - L)) 4841369599423283200 = UInt64.ofNat ((1023 + L) * 4503599627370496 + w) := by
      show UInt64.ofNat (FP.Core.mul FP.Core.b64 (dB w (52 - L)).toNat (4841369599423283200 : UInt64).toNat) = _
      unfold FP.Core.mul
      rw [dB_dec h4 (by omega), big_dec]
      show UInt64.ofNat (FP.Core.encode FP.Core.b64 (FP.Core.roundRatio FP.Core.b64 false ((4503599627370496 + w) * 2 ^ 52) 1 (-52 - ((52 - L : Nat) : Int) + 0))) = _
      rw [rr_ex w 52 _ h4 (by omega) (by omega) (by decide), enc_n, show (-52 - ((52 - L : Nat) : Int) + 0 + ((52 : Nat) : Int) + 1074).toNat + 1 = 1023 + L by omega]
    have e3 : (UInt64.ofNat ((1023 + L) * 4503599627370496 + w)).toNat = (1023 + L) * 4503599627370496 + w := by
      rw [UInt64.toNat_ofNat']
      exact Nat.mod_eq_of_lt (by omega)
    rw [e1, e2]
    refine ⟨dB_nan h4, ?_, ?_⟩
    · unfold vf_n64
      rw [UInt64.le_iff_toNat_le, UInt64.toNat_and, e3]
      refine Nat.le_trans Nat.and_le_left ?_
      show (1023 + L) * 4503599627370496 + w ≤ 9218868437227405312
      omega
    · show FP.Core.toL (FP.Core.decode FP.Core.b64 (UInt64.ofNat ((1023 + L) * 4503599627370496 + w)).toNat) = lN v
      rw [e3, dec_n _ _ (by omega) (by omega) h4]
      show Int64.ofInt (max (-2 ^ 63) (min (2 ^ 63 - 1) (FP.Core.truncate false (4503599627370496 + w) (-1074 + (((1023 + L : Nat) : Int) - 1))))) = lN v
      have ht : FP.Core.truncate false (4503599627370496 + w) (-1074 + (((1023 + L : Nat) : Int) - 1)) = (v : Int) := by
        unfold FP.Core.truncate
        rw [show (-1074 + (((1023 + L : Nat) : Int) - 1)).toNat = 0 by omega, show (-(-1074 + (((1023 + L : Nat) : Int) - 1))).toNat = 52 - L by omega, ← h3, Nat.pow_zero, Nat.mul_one, Nat.mul_div_cancel _ (Nat.two_pow_pos _)]
        rfl
      rw [ht, show max (-2 ^ 63) (min (2 ^ 63 - 1) (v : Int)) = (v : Int) by omega]
      exact i64_of
