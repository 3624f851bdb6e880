/-! doubles of 0 to 1: the bits by doubling are the double's own bits -/
theorem b64_t : FP.Core.b64.tails = 4503599627370496 := by decide +kernel
theorem b64_x : FP.Core.b64.exps = 2048 := by decide +kernel
theorem b64_qm : FP.Core.b64.qmin = -1074 := by decide +kernel
theorem b64_qx : FP.Core.b64.qmax = 971 := by decide +kernel
theorem dec_n (E v : Nat) (hE : 0 < E) (hE2 : E < 2047) (hv : v < 4503599627370496) : FP.Core.decode FP.Core.b64 (E * 4503599627370496 + v) = .fin false (4503599627370496 + v) (-1074 + ((E : Int) - 1)) := by
  have e1 : FP.Core.fieldE FP.Core.b64 (E * 4503599627370496 + v) = E := by unfold FP.Core.fieldE; rw [b64_t, b64_x]; omega
  have e2 : FP.Core.fieldT FP.Core.b64 (E * 4503599627370496 + v) = v := by unfold FP.Core.fieldT; rw [b64_t]; omega
  have e3 : FP.Core.fieldS FP.Core.b64 (E * 4503599627370496 + v) = false := by
    unfold FP.Core.fieldS
    rw [b64_t, b64_x, show (E * 4503599627370496 + v) / 4503599627370496 / 2048 % 2 = 0 by omega]
    rfl
  unfold FP.Core.decode
  rw [e1, e2, e3, b64_t, b64_x, b64_qm, if_neg (by omega), if_neg (by omega)]
theorem enc_n (q : Int) (v : Nat) : FP.Core.encode FP.Core.b64 (.fin false (4503599627370496 + v) q) = ((q + 1074).toNat + 1) * 4503599627370496 + v := by
  unfold FP.Core.encode
  dsimp only
  rw [b64_t, b64_qm, if_neg (by omega)]
  unfold FP.Core.assemble
  rw [b64_t, b64_x, show q - -1074 = q + 1074 by omega, show 4503599627370496 + v - 4503599627370496 = v by omega]
  simp
theorem lg2 {n k : Nat} (h1 : 2 ^ k ≤ n) (h2 : n < 2 ^ (k + 1)) : n.log2 = k := (Nat.log2_eq_iff (by have := Nat.two_pow_pos k; omega)).mpr ⟨h1, h2⟩
theorem near_ex {a d : Nat} (hd : 0 < d) : FP.Core.nearest (a * d) d = a := by
  unfold FP.Core.nearest
  rw [Nat.mul_mod_left, if_pos (by omega), Nat.mul_div_cancel _ hd]
/-- what is written with 53 digits stays itself -/
theorem rr_ex (v j : Nat) (e : Int) (hv : v < 4503599627370496) (he : -1074 ≤ e + j) (he2 : e + j ≤ 971) (hj : j ≤ 60) : FP.Core.roundRatio FP.Core.b64 false ((4503599627370496 + v) * 2 ^ j) 1 e = .fin false (4503599627370496 + v) (e + j) := by
  have pj : 0 < 2 ^ j := Nat.two_pow_pos j
  have hlog : ((4503599627370496 + v) * 2 ^ j).log2 = 52 + j := by
    refine lg2 ?_ ?_
    · rw [Nat.pow_add]; exact Nat.mul_le_mul_right _ (by omega)
    · rw [show 52 + j + 1 = 53 + j by omega, Nat.pow_add]; exact Nat.mul_lt_mul_of_pos_right (by omega) pj
  have hlead : FP.Core.leading ((4503599627370496 + v) * 2 ^ j) 1 = 52 + (j : Int) := by
    unfold FP.Core.leading
    rw [hlog, show Nat.log2 1 = 0 from by decide +kernel]
    dsimp only
    rw [show (((52 + j : Nat) : Int) - ((0 : Nat) : Int)) = ((52 + j : Nat) : Int) by omega, if_pos]
    · omega
    · rw [show (-((52 + j : Nat) : Int)).toNat = 0 by omega, show (((52 + j : Nat) : Int)).toNat = 52 + j by omega, Nat.pow_zero, Nat.mul_one, Nat.one_mul, Nat.pow_add]
      exact Nat.mul_le_mul_right _ (by omega)
  have hq : FP.Core.quantum FP.Core.b64 ((4503599627370496 + v) * 2 ^ j) 1 e = e + j := by
    unfold FP.Core.quantum
    rw [hlead, b64_qm, show ((FP.Core.b64.p : Int) - 1) = 52 from rfl]
    omega
  unfold FP.Core.roundRatio
  rw [if_neg (by have := Nat.mul_pos (show 0 < 4503599627370496 + v by omega) pj; omega), hq]
  unfold FP.Core.roundAt FP.Core.unitsNum FP.Core.unitsDen
  rw [show (e - (e + (j : Int))).toNat = 0 by omega, show ((e + (j : Int)) - e).toNat = j by omega, Nat.pow_zero, Nat.mul_one, Nat.one_mul, near_ex pj]
  unfold FP.Core.settle FP.Core.bound
  rw [if_pos (show 4503599627370496 + v < 2 ^ FP.Core.b64.p from by show 4503599627370496 + v < 2 ^ 53; omega), if_pos (by rw [b64_qx]; exact he2)]
def dB (v k : Nat) : UInt64 := UInt64.ofNat ((1023 - k) * 4503599627370496 + v)
theorem dB_nat {v k : Nat} (hv : v < 4503599627370496) : (dB v k).toNat = (1023 - k) * 4503599627370496 + v := by
  unfold dB
  rw [UInt64.toNat_ofNat']
  exact Nat.mod_eq_of_lt (by omega)
theorem dB_dec {v k : Nat} (hv : v < 4503599627370496) (hk : k ≤ 1000) : FP.Core.decode FP.Core.b64 (dB v k).toNat = .fin false (4503599627370496 + v) (-52 - (k : Int)) := by
  rw [dB_nat hv, dec_n _ _ (by omega) (by omega) hv, show -1074 + (((1023 - k : Nat) : Int) - 1) = -52 - (k : Int) by omega]
theorem enc_dB {v : Nat} {q : Int} (k : Nat) (hk : k ≤ 1000) (hq : q = -52 - (k : Int)) : UInt64.ofNat (FP.Core.encode FP.Core.b64 (.fin false (4503599627370496 + v) q)) = dB v k := by
  rw [enc_n, hq]
  unfold dB
  rw [show (-52 - (k : Int) + 1074).toNat + 1 = 1023 - k by omega]
theorem two_dec : FP.Core.decode FP.Core.b64 (4611686018427387904 : UInt64).toNat = .fin false 4503599627370496 (-51) := by decide +kernel
theorem one_dec : FP.Core.decode FP.Core.b64 FP.dconst1.toNat = .fin false 4503599627370496 (-52) := by decide +kernel
theorem big_dec : FP.Core.decode FP.Core.b64 (4841369599423283200 : UInt64).toNat = .fin false 4503599627370496 0 := by decide +kernel
theorem zero_dec : FP.Core.decode FP.Core.b64 FP.dconst0.toNat = .fin false 0 (-1074) := by decide +kernel
theorem dB_two {v k : Nat} (hv : v < 4503599627370496) (hk : k + 1 ≤ 1000) : FP.dmul (dB v (k + 1)) 4611686018427387904 = dB v k := by
  show UInt64.ofNat (FP.Core.mul FP.Core.b64 (dB v (k + 1)).toNat (4611686018427387904 : UInt64).toNat) = _
  unfold FP.Core.mul
  rw [dB_dec hv hk, two_dec]
  show UInt64.ofNat (FP.Core.encode FP.Core.b64 (FP.Core.roundRatio FP.Core.b64 false ((4503599627370496 + v) * 2 ^ 52) 1 (-52 - ((k + 1 : Nat) : Int) + -51))) = _
  rw [rr_ex v 52 _ hv (by omega) (by omega) (by decide)]
  exact enc_dB k (by omega) (by omega)
theorem dB_nan {v k : Nat} (hv : v < 4503599627370496) : vf_n64 (dB v k) := by
  unfold vf_n64
  rw [UInt64.le_iff_toNat_le, UInt64.toNat_and, dB_nat hv]
  refine Nat.le_trans Nat.and_le_left ?_
  show (1023 - k) * 4503599627370496 + v ≤ 9218868437227405312
  omega
theorem cmp_int (a b : Int) : compare a b = if a < b then Ordering.lt else if a = b then Ordering.eq else Ordering.gt := rfl
theorem dB_one {v k : Nat} (hv : v < 4503599627370496) (hk : k ≤ 1000) : FP.dcmp (dB v k) FP.dconst1 = some (compare (((4503599627370496 + v) * 2 ^ ((-52 - (k : Int)) - (-52 - (k : Int))).toNat : Nat) : Int) ((4503599627370496 * 2 ^ ((-52 : Int) - (-52 - (k : Int))).toNat : Nat) : Int)) := by
  show FP.Core.order (FP.Core.decode FP.Core.b64 (dB v k).toNat) (FP.Core.decode FP.Core.b64 FP.dconst1.toNat) = _
  rw [dB_dec hv hk, one_dec]
  show some (compare (FP.Core.signed false (FP.Core.inUnits _ _ _)) (FP.Core.signed false (FP.Core.inUnits _ _ _))) = _
  rw [show min (-52 - (k : Int)) (-52) = -52 - (k : Int) by omega]
  rfl
theorem dB_lt1 {v k : Nat} (hv : v < 4503599627370496) (hk : k ≤ 1000) (h1 : 1 ≤ k) : Op.cmpValue (FP.dcmp (dB v k) FP.dconst1) .g = -1 := by
  rw [dB_one hv hk, cmp_int, if_pos]
  · rfl
  · rw [show ((-52 - (k : Int)) - (-52 - (k : Int))).toNat = 0 by omega, show ((-52 : Int) - (-52 - (k : Int))).toNat = k by omega]
    have h2 : 2 ^ 1 ≤ 2 ^ k := Nat.pow_le_pow_right (by decide) h1
    have h3 : 4503599627370496 * 2 ^ 1 ≤ 4503599627370496 * 2 ^ k := Nat.mul_le_mul_left _ h2
    exact Int.ofNat_lt.mpr (by omega)
theorem dB_ge1 {v : Nat} (hv : v < 4503599627370496) : 0 ≤ Op.cmpValue (FP.dcmp (dB v 0) FP.dconst1) .g := by
  rw [dB_one hv (by omega), cmp_int, if_neg]
  · split <;> decide
  · show ¬ (((4503599627370496 + v) * 1 : Nat) : Int) < ((4503599627370496 * 1 : Nat) : Int)
    omega
theorem dB_pos {v k : Nat} (hv : v < 4503599627370496) (hk : k ≤ 1000) : 0 < Op.cmpValue (FP.dcmp (dB v k) FP.dconst0) .g := by
  show 0 < Op.cmpValue (FP.Core.order (FP.Core.decode FP.Core.b64 (dB v k).toNat) (FP.Core.decode FP.Core.b64 FP.dconst0.toNat)) .g
  rw [dB_dec hv hk, zero_dec]
  show 0 < Op.cmpValue (some (compare (FP.Core.signed false (FP.Core.inUnits (4503599627370496 + v) _ _)) (FP.Core.signed false (FP.Core.inUnits 0 _ _)))) .g
  rw [cmp_int]
  have h0 : FP.Core.signed false (FP.Core.inUnits 0 (-1074) (min (-52 - (k : Int)) (-1074))) = 0 := by
    show ((0 * 2 ^ _ : Nat) : Int) = 0
    rw [Nat.zero_mul]
    rfl
  have h1 : 0 < FP.Core.signed false (FP.Core.inUnits (4503599627370496 + v) (-52 - (k : Int)) (min (-52 - (k : Int)) (-1074))) := by
    show (0 : Int) < (((4503599627370496 + v) * 2 ^ _ : Nat) : Int)
    exact Int.ofNat_lt.mpr (Nat.mul_pos (by omega) (Nat.two_pow_pos _))
  rw [h0, if_neg (by omega), if_neg (by omega)]
  decide
/-- a whole number of fewer digits, rounded -/
theorem rr_small (v w L : Nat) (e : Int) (hL : v.log2 = L) (hL2 : L ≤ 51) (hw : v * 2 ^ (52 - L) = 4503599627370496 + w) (he : -900 ≤ e) (he2 : e ≤ 900) (hv : 0 < v) : FP.Core.roundRatio FP.Core.b64 false v 1 e = .fin false (4503599627370496 + w) (e + L - 52) := by
  have hw2 : w < 4503599627370496 := by
    have h1 : v < 2 ^ (L + 1) := by rw [← hL]; exact Nat.lt_log2_self
    have h2 : v * 2 ^ (52 - L) < 2 ^ (L + 1) * 2 ^ (52 - L) := Nat.mul_lt_mul_of_pos_right h1 (Nat.two_pow_pos _)
    rw [← Nat.pow_add, show L + 1 + (52 - L) = 53 by omega] at h2
    omega
  have hlead : FP.Core.leading v 1 = (L : Int) := by
    unfold FP.Core.leading
    rw [hL, show Nat.log2 1 = 0 from by decide +kernel]
    dsimp only
    rw [show ((L : Int) - ((0 : Nat) : Int)) = (L : Int) by omega, if_pos]
    rw [show (-(L : Int)).toNat = 0 by omega, show ((L : Int)).toNat = L by omega, Nat.pow_zero, Nat.mul_one, Nat.one_mul, ← hL]
    exact Nat.log2_self_le (by omega)
  have hq : FP.Core.quantum FP.Core.b64 v 1 e = e + L - 52 := by
    unfold FP.Core.quantum
    rw [hlead, b64_qm, show ((FP.Core.b64.p : Int) - 1) = 52 from rfl]
    omega
  unfold FP.Core.roundRatio
  rw [if_neg (by omega), hq]
  unfold FP.Core.roundAt FP.Core.unitsNum FP.Core.unitsDen
  rw [show (e - (e + (L : Int) - 52)).toNat = 52 - L by omega, show ((e + (L : Int) - 52) - e).toNat = 0 by omega, hw, Nat.pow_zero, Nat.mul_one, show FP.Core.nearest (4503599627370496 + w) 1 = 4503599627370496 + w from by have := near_ex (a := 4503599627370496 + w) (d := 1) (by decide); rwa [Nat.mul_one] at this]
  unfold FP.Core.settle FP.Core.bound
  rw [if_pos (show 4503599627370496 + w < 2 ^ FP.Core.b64.p from by show 4503599627370496 + w < 2 ^ 53; omega), if_pos (by rw [b64_qx]; omega)]
theorem norm_of {v : Nat} (hv : 0 < v) (h2 : v < 4503599627370496) : ∃ L w : Nat, v.log2 = L ∧ L ≤ 51 ∧ v * 2 ^ (52 - L) = 4503599627370496 + w ∧ w < 4503599627370496 := by
  have h1 : v < 2 ^ (v.log2 + 1) := Nat.lt_log2_self
  have h0 : 2 ^ v.log2 ≤ v := Nat.log2_self_le (by omega)
  have hL : v.log2 ≤ 51 := by
    rcases Nat.lt_or_ge 51 v.log2 with h | h
    · have h5 : 2 ^ 52 ≤ 2 ^ v.log2 := Nat.pow_le_pow_right (by decide) h
      omega
    · exact h
  have h3 : v * 2 ^ (52 - v.log2) < 2 ^ (v.log2 + 1) * 2 ^ (52 - v.log2) := Nat.mul_lt_mul_of_pos_right h1 (Nat.two_pow_pos _)
  have h4 : 2 ^ v.log2 * 2 ^ (52 - v.log2) ≤ v * 2 ^ (52 - v.log2) := Nat.mul_le_mul_right _ h0
  rw [← Nat.pow_add, show v.log2 + 1 + (52 - v.log2) = 53 by omega] at h3
  rw [← Nat.pow_add, show v.log2 + (52 - v.log2) = 52 by omega] at h4
  exact ⟨v.log2, v * 2 ^ (52 - v.log2) - 4503599627370496, rfl, hL, by omega, by omega⟩
theorem sub_one {v : Nat} (hv : v < 4503599627370496) : FP.dsub (dB v 0) FP.dconst1 = UInt64.ofNat (FP.Core.encode FP.Core.b64 (FP.Core.roundRatio FP.Core.b64 false v 1 (-52))) := by
  show UInt64.ofNat (FP.Core.sub FP.Core.b64 (dB v 0).toNat FP.dconst1.toNat) = _
  unfold FP.Core.sub
  rw [dB_dec hv (by omega), one_dec]
  have e1 : FP.Core.exactSum (.fin false (4503599627370496 + v) (-52 - ((0 : Nat) : Int))) (FP.Core.negate (.fin false 4503599627370496 (-52))) = .fin false v (-52) := by
    have hu : FP.Core.sumUnits false (4503599627370496 + v) (-52) true 4503599627370496 (-52) (-52) = (v : Int) := by
      show (((4503599627370496 + v) * 1 : Nat) : Int) + -((4503599627370496 * 1 : Nat) : Int) = (v : Int)
      omega
    show FP.Core.Datum.fin (FP.Core.sumSign false true (FP.Core.sumUnits false (4503599627370496 + v) (-52) true 4503599627370496 (-52) (-52))) (FP.Core.sumUnits false (4503599627370496 + v) (-52) true 4503599627370496 (-52) (-52)).natAbs (-52) = _
    rw [hu]
    have hs : FP.Core.sumSign false true (v : Int) = false := by
      unfold FP.Core.sumSign
      split
      · rfl
      · exact decide_eq_false (by omega)
    rw [hs]
    rfl
  rw [e1]
  rfl
theorem i64_of {n : Nat} : Int64.ofInt (n : Int) = lN n := rfl
/-- the fraction's digits -/
theorem frac_of {v : Nat} (hv : v < 4503599627370496) : vf_n64 (FP.dsub (dB v 0) FP.dconst1) ∧ vf_n64 (FP.dmul (FP.dsub (dB v 0) FP.dconst1) 4841369599423283200) ∧ FP.d2l (FP.dmul (FP.dsub (dB v 0) FP.dconst1) 4841369599423283200) = lN v := by
  by_cases h0 : v = 0
  · subst h0
    refine ⟨?_, ?_, ?_⟩
    · unfold vf_n64; decide +kernel
    · unfold vf_n64; decide +kernel
    · decide +kernel
  · obtain ⟨L, w, h1, h2, h3, h4⟩ := norm_of (by omega) hv
    have e1 : FP.dsub (dB v 0) FP.dconst1 = dB w (52 - L) := by
      rw [sub_one hv, rr_small v w L (-52) h1 h2 h3 (by decide) (by decide) (by omega)]
      exact enc_dB _ (by omega) (by omega)
    have e2 : FP.dmul (dB w (52 - L)) 4841369599423283200 = UInt64.ofNat ((1023 + L) * 4503599627370496 + w) := by
      show UInt64.ofNat (FP.Core.mul FP.Core.b64 (dB w (52 - L)).toNat (4841369599423283200 : UInt64).toNat) = _
      unfold FP.Core.mul
      rw [dB_dec h4 (by omega), big_dec]
      show UInt64.ofNat (FP.Core.encode FP.Core.b64 (FP.Core.roundRatio FP.Core.b64 false ((4503599627370496 + w) * 2 ^ 52) 1 (-52 - ((52 - L : Nat) : Int) + 0))) = _
      rw [rr_ex w 52 _ h4 (by omega) (by omega) (by decide), enc_n, show (-52 - ((52 - L : Nat) : Int) + 0 + ((52 : Nat) : Int) + 1074).toNat + 1 = 1023 + L by omega]
    have e3 : (UInt64.ofNat ((1023 + L) * 4503599627370496 + w)).toNat = (1023 + L) * 4503599627370496 + w := by
      rw [UInt64.toNat_ofNat']
      exact Nat.mod_eq_of_lt (by omega)
    rw [e1, e2]
    refine ⟨dB_nan h4, ?_, ?_⟩
    · unfold vf_n64
      rw [UInt64.le_iff_toNat_le, UInt64.toNat_and, e3]
      refine Nat.le_trans Nat.and_le_left ?_
      show (1023 + L) * 4503599627370496 + w ≤ 9218868437227405312
      omega
    · show FP.Core.toL (FP.Core.decode FP.Core.b64 (UInt64.ofNat ((1023 + L) * 4503599627370496 + w)).toNat) = lN v
      rw [e3, dec_n _ _ (by omega) (by omega) h4]
      show Int64.ofInt (max (-2 ^ 63) (min (2 ^ 63 - 1) (FP.Core.truncate false (4503599627370496 + w) (-1074 + (((1023 + L : Nat) : Int) - 1))))) = lN v
      have ht : FP.Core.truncate false (4503599627370496 + w) (-1074 + (((1023 + L : Nat) : Int) - 1)) = (v : Int) := by
        unfold FP.Core.truncate
        rw [show (-1074 + (((1023 + L : Nat) : Int) - 1)).toNat = 0 by omega, show (-(-1074 + (((1023 + L : Nat) : Int) - 1))).toNat = 52 - L by omega, ← h3, Nat.pow_zero, Nat.mul_one, Nat.mul_div_cancel _ (Nat.two_pow_pos _)]
        rfl
      rw [ht, show max (-2 ^ 63) (min (2 ^ 63 - 1) (v : Int)) = (v : Int) by omega]
      exact i64_of

/-- nearest is between what the quotient is between -/
theorem near_ge {n d lo : Nat} (hd : 0 < d) (h : d * lo ≤ n) : lo ≤ FP.Core.nearest n d := by
  have h1 : lo ≤ n / d := (Nat.le_div_iff_mul_le hd).mpr (by rw [Nat.mul_comm]; exact h)
  unfold FP.Core.nearest
  split
  · exact h1
  · split <;> omega
theorem near_le {n d hi : Nat} (hd : 0 < d) (h : n ≤ d * hi) : FP.Core.nearest n d ≤ hi := by
  have h1 : n / d ≤ hi := Nat.div_le_of_le_mul h
  have h2 : d * (n / d) + n % d = n := Nat.div_add_mod n d
  rcases Nat.lt_or_ge (n / d) hi with h3 | h3
  · unfold FP.Core.nearest
    split
    · omega
    · split <;> omega
  · have h4 : n / d = hi := by omega
    rw [h4] at h2
    unfold FP.Core.nearest
    rw [if_pos (by omega)]
    omega
/-- a whole number as a double -/
theorem i2d_dec {a L w : Nat} (ha : 0 < a) (ha2 : a < 1048576) (hL : a.log2 = L) (hL2 : L ≤ 51) (hw : a * 2 ^ (52 - L) = 4503599627370496 + w) (hw2 : w < 4503599627370496) : FP.Core.decode FP.Core.b64 (FP.i2d (nI a)).toNat = .fin false (4503599627370496 + w) ((L : Int) - 52) := by
  have e1 : (nI a).toInt = (a : Int) := nI_toInt (by omega)
  have e2 : FP.Core.ofInt (a : Int) = .fin false a 0 := by
    unfold FP.Core.ofInt
    rw [show decide ((a : Int) < 0) = false from decide_eq_false (by omega)]
    rfl
  show FP.Core.decode FP.Core.b64 (UInt64.ofNat (FP.Core.fromInt FP.Core.b64 (nI a).toInt)).toNat = _
  rw [e1]
  have e3 : FP.Core.fromInt FP.Core.b64 (a : Int) = (1023 + L) * 4503599627370496 + w := by
    show FP.Core.encode FP.Core.b64 (FP.Core.round FP.Core.b64 (FP.Core.ofInt (a : Int))) = _
    rw [e2]
    show FP.Core.encode FP.Core.b64 (FP.Core.roundRatio FP.Core.b64 false a 1 0) = _
    rw [rr_small a w L 0 hL hL2 hw (by decide) (by decide) ha, enc_n, show ((0 : Int) + (L : Int) - 52 + 1074).toNat + 1 = 1023 + L by omega]
  rw [e3, UInt64.toNat_ofNat', Nat.mod_eq_of_lt (by omega), dec_n _ _ (by omega) (by omega) hw2]
  rw [show -1074 + (((1023 + L : Nat) : Int) - 1) = (L : Int) - 52 by omega]
/-- a share is a double of 0 to 1 -/
theorem share_dB {a b : Nat} (ha : 0 < a) (hab : a ≤ b) (hb : b < 1048576) : ∃ v k : Nat, v < 4503599627370496 ∧ k ≤ 60 ∧ FP.ddiv (FP.i2d (nI a)) (FP.i2d (nI b)) = dB v k := by
  obtain ⟨La, wa, a1, a2, a3, a4⟩ := norm_of (v := a) ha (by omega)
  obtain ⟨Lb, wb, b1, b2, b3, b4⟩ := norm_of (v := b) (by omega) (by omega)
  have hLL : La ≤ Lb := by
    rcases Nat.lt_or_ge Lb La with h | h
    · have h1 : b < 2 ^ (Lb + 1) := by rw [← b1]; exact Nat.lt_log2_self
      have h2 : 2 ^ La ≤ a := by rw [← a1]; exact Nat.log2_self_le (by omega)
      have h3 : 2 ^ (Lb + 1) ≤ 2 ^ La := Nat.pow_le_pow_right (by decide) h
      omega
    · exact h
  have key : FP.Core.div FP.Core.b64 (FP.i2d (nI a)).toNat (FP.i2d (nI b)).toNat = FP.Core.encode FP.Core.b64 (FP.Core.roundRatio FP.Core.b64 false (4503599627370496 + wa) (4503599627370496 + wb) ((La : Int) - 52 - ((Lb : Int) - 52))) := by
    unfold FP.Core.div
    rw [i2d_dec ha (by omega) a1 a2 a3 a4, i2d_dec (by omega) hb b1 b2 b3 b4]
    show FP.Core.encode FP.Core.b64 (if 4503599627370496 + wb = 0 then _ else FP.Core.roundRatio FP.Core.b64 false (4503599627370496 + wa) (4503599627370496 + wb) ((La : Int) - 52 - ((Lb : Int) - 52))) = _
    rw [if_neg (by omega)]
  have key2 : FP.ddiv (FP.i2d (nI a)) (FP.i2d (nI b)) = UInt64.ofNat (FP.Core.encode FP.Core.b64 (FP.Core.roundRatio FP.Core.b64 false (4503599627370496 + wa) (4503599627370496 + wb) ((La : Int) - 52 - ((Lb : Int) - 52)))) := by
    show UInt64.ofNat (FP.Core.div FP.Core.b64 (FP.i2d (nI a)).toNat (FP.i2d (nI b)).toNat) = _
    rw [key]
  rw [key2]
  have la : (4503599627370496 + wa).log2 = 52 := lg2 (show 4503599627370496 ≤ _ by omega) (show _ < 9007199254740992 by omega)
  have lb : (4503599627370496 + wb).log2 = 52 := lg2 (show 4503599627370496 ≤ _ by omega) (show _ < 9007199254740992 by omega)
  by_cases hc : 4503599627370496 + wb ≤ 4503599627370496 + wa
  · have hlead : FP.Core.leading (4503599627370496 + wa) (4503599627370496 + wb) = 0 := by
      unfold FP.Core.leading
      rw [la, lb]
      dsimp only
      rw [show ((52 : Nat) : Int) - ((52 : Nat) : Int) = 0 by omega, if_pos]
      show (4503599627370496 + wb) * 1 ≤ (4503599627370496 + wa) * 1
      omega
    have hq : FP.Core.quantum FP.Core.b64 (4503599627370496 + wa) (4503599627370496 + wb) ((La : Int) - 52 - ((Lb : Int) - 52)) = (La : Int) - (Lb : Int) - 52 := by
      unfold FP.Core.quantum
      rw [hlead, b64_qm, show ((FP.Core.b64.p : Int) - 1) = 52 from rfl]
      omega
    have hN1 : 4503599627370496 ≤ FP.Core.nearest ((4503599627370496 + wa) * 4503599627370496) (4503599627370496 + wb) := near_ge (by omega) (by omega)
    have hN2 : FP.Core.nearest ((4503599627370496 + wa) * 4503599627370496) (4503599627370496 + wb) ≤ 9007199254740992 := near_le (by omega) (by omega)
    have hN3 : La = Lb → FP.Core.nearest ((4503599627370496 + wa) * 4503599627370496) (4503599627370496 + wb) = 4503599627370496 := by
      intro h
      have h1 : a * 2 ^ (52 - La) ≤ b * 2 ^ (52 - La) := Nat.mul_le_mul_right _ hab
      rw [a3, h, b3] at h1
      have h2 : wa = wb := by omega
      rw [h2, Nat.mul_comm]
      exact near_ex (by omega)
    have hr : FP.Core.roundRatio FP.Core.b64 false (4503599627370496 + wa) (4503599627370496 + wb) ((La : Int) - 52 - ((Lb : Int) - 52)) = FP.Core.settle FP.Core.b64 false (FP.Core.nearest ((4503599627370496 + wa) * 4503599627370496) (4503599627370496 + wb)) ((La : Int) - (Lb : Int) - 52) := by
      unfold FP.Core.roundRatio
      rw [if_neg (by omega), hq]
      unfold FP.Core.roundAt FP.Core.unitsNum FP.Core.unitsDen
      rw [show ((La : Int) - 52 - ((Lb : Int) - 52) - ((La : Int) - (Lb : Int) - 52)).toNat = 52 by omega, show ((La : Int) - (Lb : Int) - 52 - ((La : Int) - 52 - ((Lb : Int) - 52))).toNat = 0 by omega, Nat.pow_zero, Nat.mul_one]
    rw [hr]
    generalize FP.Core.nearest ((4503599627370496 + wa) * 4503599627370496) (4503599627370496 + wb) = N at hN1 hN2 hN3 ⊢
    unfold FP.Core.settle FP.Core.bound
    by_cases hN : N < 9007199254740992
    · rw [if_pos (show N < 2 ^ FP.Core.b64.p from hN), if_pos (by rw [b64_qx]; omega)]
      refine ⟨N - 4503599627370496, Lb - La, by omega, by omega, ?_⟩
      have := enc_dB (v := N - 4503599627370496) (q := (La : Int) - (Lb : Int) - 52) (Lb - La) (by omega) (by omega)
      rwa [show 4503599627370496 + (N - 4503599627370496) = N by omega] at this
    · rw [if_neg (show ¬ N < 2 ^ FP.Core.b64.p from hN), if_pos (by rw [b64_qx]; omega), b64_t]
      have hne : La ≠ Lb := fun h => by have := hN3 h; omega
      exact ⟨0, Lb - La - 1, by omega, by omega, enc_dB (v := 0) (Lb - La - 1) (by omega) (by omega)⟩
  · have hlead : FP.Core.leading (4503599627370496 + wa) (4503599627370496 + wb) = -1 := by
      unfold FP.Core.leading
      rw [la, lb]
      dsimp only
      rw [show ((52 : Nat) : Int) - ((52 : Nat) : Int) = 0 by omega, if_neg]
      · rfl
      · show ¬ (4503599627370496 + wb) * 1 ≤ (4503599627370496 + wa) * 1
        omega
    have hq : FP.Core.quantum FP.Core.b64 (4503599627370496 + wa) (4503599627370496 + wb) ((La : Int) - 52 - ((Lb : Int) - 52)) = (La : Int) - (Lb : Int) - 53 := by
      unfold FP.Core.quantum
      rw [hlead, b64_qm, show ((FP.Core.b64.p : Int) - 1) = 52 from rfl]
      omega
    have hN1 : 4503599627370496 ≤ FP.Core.nearest ((4503599627370496 + wa) * 9007199254740992) (4503599627370496 + wb) := near_ge (by omega) (by omega)
    have hN2 : FP.Core.nearest ((4503599627370496 + wa) * 9007199254740992) (4503599627370496 + wb) ≤ 9007199254740992 := near_le (by omega) (by omega)
    have hr : FP.Core.roundRatio FP.Core.b64 false (4503599627370496 + wa) (4503599627370496 + wb) ((La : Int) - 52 - ((Lb : Int) - 52)) = FP.Core.settle FP.Core.b64 false (FP.Core.nearest ((4503599627370496 + wa) * 9007199254740992) (4503599627370496 + wb)) ((La : Int) - (Lb : Int) - 53) := by
      unfold FP.Core.roundRatio
      rw [if_neg (by omega), hq]
      unfold FP.Core.roundAt FP.Core.unitsNum FP.Core.unitsDen
      rw [show ((La : Int) - 52 - ((Lb : Int) - 52) - ((La : Int) - (Lb : Int) - 53)).toNat = 53 by omega, show ((La : Int) - (Lb : Int) - 53 - ((La : Int) - 52 - ((Lb : Int) - 52))).toNat = 0 by omega, Nat.pow_zero, Nat.mul_one]
    rw [hr]
    generalize FP.Core.nearest ((4503599627370496 + wa) * 9007199254740992) (4503599627370496 + wb) = N at hN1 hN2 ⊢
    unfold FP.Core.settle FP.Core.bound
    by_cases hN : N < 9007199254740992
    · rw [if_pos (show N < 2 ^ FP.Core.b64.p from hN), if_pos (by rw [b64_qx]; omega)]
      refine ⟨N - 4503599627370496, Lb - La + 1, by omega, by omega, ?_⟩
      have := enc_dB (v := N - 4503599627370496) (q := (La : Int) - (Lb : Int) - 53) (Lb - La + 1) (by omega) (by omega)
      rwa [show 4503599627370496 + (N - 4503599627370496) = N by omega] at this
    · rw [if_neg (show ¬ N < 2 ^ FP.Core.b64.p from hN), if_pos (by rw [b64_qx]; omega), b64_t]
      exact ⟨0, Lb - La, by omega, by omega, enc_dB (v := 0) (Lb - La) (by omega) (by omega)⟩
theorem share_0 {b : Nat} (hb0 : 0 < b) (hb : b < 1048576) : FP.ddiv (FP.i2d (nI 0)) (FP.i2d (nI b)) = 0 := by
  obtain ⟨Lb, wb, b1, b2, b3, b4⟩ := norm_of (v := b) hb0 (by omega)
  show UInt64.ofNat (FP.Core.div FP.Core.b64 (FP.i2d (nI 0)).toNat (FP.i2d (nI b)).toNat) = _
  unfold FP.Core.div
  rw [i2d_dec hb0 hb b1 b2 b3 b4, show FP.Core.decode FP.Core.b64 (FP.i2d (nI 0)).toNat = .fin false 0 (-1074) from by decide +kernel]
  show UInt64.ofNat (FP.Core.encode FP.Core.b64 (if 4503599627370496 + wb = 0 then _ else FP.Core.roundRatio FP.Core.b64 false 0 (4503599627370496 + wb) _)) = _
  rw [if_neg (by omega)]
  unfold FP.Core.roundRatio
  rw [if_pos rfl]
  decide +kernel
theorem one_dB : FP.dconst1 = dB 0 0 := by decide +kernel
