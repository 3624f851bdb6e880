/-! doubles of 0 to 1: the bits by doubling are the double's own bits -/
theorem b64_t : FP.Core.b64.tails = 4503599627370496 := by decide +kernel
theorem b64_x : FP.Core.b64.exps = 2048 := by decide +kernel
theorem b64_qm : FP.Core.b64.qmin = -1074 := by decide +kernel
theorem b64_qx : FP.Core.b64.qmax = 971 := by decide +kernel
theorem dec_n (E v : Nat) (hE : 0 < E) (hE2 : E < 2047) (hv : v < 4503599627370496) : FP.Core.decode FP.Core.b64 (E * 4503599627370496 + v) = .fin false (4503599627370496 + v) (-1074 + ((E : Int) - 1)) := by
  have e1 : FP.Core.fieldE FP.Core.b64 (E * 4503599627370496 + v) = E := by unfold FP.Core.fieldE; rw [b64_t, b64_x]; omega
  have e2 : FP.Core.fieldT FP.Core.b64 (E * 4503599627370496 + v) = v := by unfold FP.Core.fieldT; rw [b64_t]; omega
  have e3 : FP.Core.fieldS FP.Core.b64 (E * 4503599627370496 + v) = false := by
    unfold FP.Core.fieldS
    rw [b64_t, b64_x, show (E * 4503599627370496 + v) / 4503599627370496 / 2048 % 2 = 0 by omega]
    rfl
  unfold FP.Core.decode
  rw [e1, e2, e3, b64_t, b64_x, b64_qm, if_neg (by omega), if_neg (by omega)]
theorem enc_n (q : Int) (v : Nat) : FP.Core.encode FP.Core.b64 (.fin false (4503599627370496 + v) q) = ((q + 1074).toNat + 1) * 4503599627370496 + v := by
  unfold FP.Core.encode
  dsimp only
  rw [b64_t, b64_qm, if_neg (by omega)]
  unfold FP.Core.assemble
  rw [b64_t, b64_x, show q - -1074 = q + 1074 by omega, show 4503599627370496 + v - 4503599627370496 = v by omega]
  simp
theorem lg2 {n k : Nat} (h1 : 2 ^ k ≤ n) (h2 : n < 2 ^ (k + 1)) : n.log2 = k := (Nat.log2_eq_iff (by have := Nat.two_pow_pos k; omega)).mpr ⟨h1, h2⟩
theorem near_ex {a d : Nat} (hd : 0 < d) : FP.Core.nearest (a * d) d = a := by
  unfold FP.Core.nearest
  rw [Nat.mul_mod_left, if_pos (by omega), Nat.mul_div_cancel _ hd]
/-- what is written with 53 digits stays itself -/
theorem rr_ex (v j : Nat) (e : Int) (hv : v < 4503599627370496) (he : -1074 ≤ e + j) (he2 : e + j ≤ 971) (hj : j ≤ 60) : FP.Core.roundRatio FP.Core.b64 false ((4503599627370496 + v) * 2 ^ j) 1 e = .fin false (4503599627370496 + v) (e + j) := by
  have pj : 0 < 2 ^ j := Nat.two_pow_pos j
  have hlog : ((4503599627370496 + v) * 2 ^ j).log2 = 52 + j := by
    refine lg2 ?_ ?_
    · rw [Nat.pow_add]; exact Nat.mul_le_mul_right _ (by omega)
    · rw [show 52 + j + 1 = 53 + j by omega, Nat.pow_add]; exact Nat.mul_lt_mul_of_pos_right (by omega) pj
  have hlead : FP.Core.leading ((4503599627370496 + v) * 2 ^ j) 1 = 52 + (j : Int) := by
    unfold FP.Core.leading
    rw [hlog, show Nat.log2 1 = 0 from by decide +kernel]
    dsimp only
    rw [show (((52 + j : Nat) : Int) - ((0 : Nat) : Int)) = ((52 + j : Nat) : Int) by omega, if_pos]
    · omega
    · rw [show (-((52 + j : Nat) : Int)).toNat = 0 by omega, show (((52 + j : Nat) : Int)).toNat = 52 + j by omega, Nat.pow_zero, Nat.mul_one, Nat.one_mul, Nat.pow_add]
      exact Nat.mul_le_mul_right _ (by omega)
  have hq : FP.Core.quantum FP.Core.b64 ((4503599627370496 + v) * 2 ^ j) 1 e = e + j := by
    unfold FP.Core.quantum
    rw [hlead, b64_qm, show ((FP.Core.b64.p : Int) - 1) = 52 from rfl]
    omega
  unfold FP.Core.roundRatio
  rw [if_neg (by have := Nat.mul_pos (show 0 < 4503599627370496 + v by omega) pj; omega), hq]
  unfold FP.Core.roundAt FP.Core.unitsNum FP.Core.unitsDen
  rw [show (e - (e + (j : Int))).toNat = 0 by omega, show ((e + (j : Int)) - e).toNat = j by omega, Nat.pow_zero, Nat.mul_one, Nat.one_mul, near_ex pj]
  unfold FP.Core.settle FP.Core.bound
  rw [if_pos (show 4503599627370496 + v < 2 ^ FP.Core.b64.p from by show 4503599627370496 + v < 2 ^ 53; omega), if_pos (by rw [b64_qx]; exact he2)]
def dB (v k : Nat) : UInt64 := UInt64.ofNat ((1023 - k) * 4503599627370496 + v)
theorem dB_nat {v k : Nat} (hv : v < 4503599627370496) : (dB v k).toNat = (1023 - k) * 4503599627370496 + v := by
  unfold dB
  rw [UInt64.toNat_ofNat']
  exact Nat.mod_eq_of_lt (by omega)
theorem dB_dec {v k : Nat} (hv : v < 4503599627370496) (hk : k ≤ 1000) : FP.Core.decode FP.Core.b64 (dB v k).toNat = .fin false (4503599627370496 + v) (-52 - (k : Int)) := by
  rw [dB_nat hv, dec_n _ _ (by omega) (by omega) hv, show -1074 + (((1023 - k : Nat) : Int) - 1) = -52 - (k : Int) by omega]
theorem enc_dB {v : Nat} {q : Int} (k : Nat) (hk : k ≤ 1000) (hq : q = -52 - (k : Int)) : UInt64.ofNat (FP.Core.encode FP.Core.b64 (.fin false (4503599627370496 + v) q)) = dB v k := by
  rw [enc_n, hq]
  unfold dB
  rw [show (-52 - (k : Int) + 1074).toNat + 1 = 1023 - k by omega]
theorem two_dec : FP.Core.decode FP.Core.b64 (4611686018427387904 : UInt64).toNat = .fin false 4503599627370496 (-51) := by decide +kernel
theorem one_dec : FP.Core.decode FP.Core.b64 FP.dconst1.toNat = .fin false 4503599627370496 (-52) := by decide +kernel
theorem big_dec : FP.Core.decode FP.Core.b64 (4841369599423283200 : UInt64).toNat = .fin false 4503599627370496 0 := by decide +kernel
theorem zero_dec : FP.Core.decode FP.Core.b64 FP.dconst0.toNat = .fin false 0 (-1074) := by decide +kernel
theorem dB_two {v k : Nat} (hv : v < 4503599627370496) (hk : k + 1 ≤ 1000) : FP.dmul (dB v (k + 1)) 4611686018427387904 = dB v k := by
  show UInt64.ofNat (FP.Core.mul FP.Core.b64 (dB v (k + 1)).toNat (4611686018427387904 : UInt64).toNat) = _
  unfold FP.Core.mul
  rw [dB_dec hv hk, two_dec]
  show UInt64.ofNat (FP.Core.encode FP.Core.b64 (FP.Core.roundRatio FP.Core.b64 false ((4503599627370496 + v) * 2 ^ 52) 1 (-52 - ((k + 1 : Nat) : Int) + -51))) = _
  rw [rr_ex v 52 _ hv (by omega) (by omega) (by decide)]
  exact enc_dB k (by omega) (by omega)
theorem dB_nan {v k : Nat} (hv : v < 4503599627370496) : vf_n64 (dB v k) := by
  unfold vf_n64
  rw [UInt64.le_iff_toNat_le, UInt64.toNat_and, dB_nat hv]
  refine Nat.le_trans Nat.and_le_left ?_
  show (1023 - k) * 4503599627370496 + v ≤ 9218868437227405312
  omega
theorem dB_ge {v : Nat} (hv : v < 4503599627370496) : 0 ≤ Op.cmpValue (FP.dcmp (dB v 0) FP.dconst1) .g := by
  show 0 ≤ Op.cmpValue (FP.Core.cmp FP.Core.b64 (dB v 0).toNat FP.dconst1.toNat) .g
  unfold FP.Core.cmp
  rw [dB_dec hv (by omega), one_dec]
  sorry
