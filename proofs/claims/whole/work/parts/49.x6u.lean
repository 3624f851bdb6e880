/-! Double.doubleToLongBits, the model: digest -/
theorem ii_JD : Cond.initialized "java/lang/Double" ∈ TW := tw 76 (by decide +kernel) (by decide +kernel)
theorem cs_Jxe99ae_doubleToLongBits_ccdee : CSt yJxe99ae_doubleToLongBits_ccdee cJxe99ae_doubleToLongBits_ccdee 2 (some .long) 1 := ⟨by decide +kernel, tw 1194 (by decide +kernel) (by decide +kernel), ii_JD, tw 1195 (by decide +kernel) (by decide +kernel)⟩
theorem mk_JD_122 : Cond.methodLink RJxe99ae 122 yJxe99ae_isNaN_b9ae7 ∈ TW := tw 1196 (by decide +kernel) (by decide +kernel)
theorem cs_JN : CSt yJxe99ae_isNaN_b9ae7 cJxe99ae_isNaN_b9ae7 2 (some .boolean) 1 := ⟨by decide +kernel, tw 1197 (by decide +kernel) (by decide +kernel), ii_JD, tw 1198 (by decide +kernel) (by decide +kernel)⟩
theorem mk_JD_134 : Cond.methodLink RJxe99ae 134 ⟨"java/lang/Double", "doubleToRawLongBits", "(D)J"⟩ ∈ TW := tw 1199 (by decide +kernel) (by decide +kernel)
theorem st_JD : Cond.static ⟨"java/lang/Double", "doubleToRawLongBits", "(D)J"⟩ ∈ TW := tw 1200 (by decide +kernel) (by decide +kernel)
theorem na_JD : Cond.native ⟨"java/lang/Double", "doubleToRawLongBits", "(D)J"⟩ ∈ TW := tw 1201 (by decide +kernel) (by decide +kernel)
theorem okD_self {d : UInt64} (h : okD d) : FP.dcmp d d = some .eq := by
  rcases h with h | ⟨v, k, hv, hk, h⟩
  · rw [h]; decide +kernel
  · subst h
    show FP.Core.order (FP.Core.decode FP.Core.b64 (dB v k).toNat) (FP.Core.decode FP.Core.b64 (dB v k).toNat) = some .eq
    rw [dB_dec hv (by omega)]
    show some (compare (FP.Core.signed false (FP.Core.inUnits (4503599627370496 + v) _ _)) (FP.Core.signed false (FP.Core.inUnits (4503599627370496 + v) _ _))) = some .eq
    exact congrArg some (Std.ReflCmp.compare_self (cmp := compare))
theorem m_JN (l : Launch) (g : GG) (x : UInt64) (h : okD x) : MRO l g yJxe99ae_isNaN_b9ae7 cJxe99ae_isNaN_b9ae7 2 (some .boolean) 0 [.double x] [] (some (.int (nI 0))) := by
  refine mk_ro (by decide +kernel) (Nat.le_of_ble_eq_true rfl) (fun p e s m below meth c X => ?_)
  refine w_dload_n X 0 rfl dJxe99ae_isNaN_b9ae7_0 ?_
  refine w_dload_n X 0 rfl dJxe99ae_isNaN_b9ae7_1 ?_
  refine w_dcmp X dJxe99ae_isNaN_b9ae7_2 ?_
  refine w_if_eq X 10 dJxe99ae_isNaN_b9ae7_3 (by decide) (fun c3 => ?_) (fun c3 => ?_)
  · refine w_iconst X (nI 0) dJxe99ae_isNaN_b9ae7_10 (by decide +kernel) ?_
    exact w_zret_ro X rfl (by decide +kernel) dJxe99ae_isNaN_b9ae7_11
  · exfalso
    refine c3 ?_
    rw [okD_self h]
    decide +kernel
theorem m_JB (l : Launch) (g : GG) (x : UInt64) (h : okD x) : MRO l g yJxe99ae_doubleToLongBits_ccdee cJxe99ae_doubleToLongBits_ccdee 2 (some .long) 1 [.double x] [] (some (.long x.toInt64)) := by
  refine mk_ro (by decide +kernel) (Nat.le_of_ble_eq_true rfl) (fun p e s m below meth c X => ?_)
  refine w_dload_n X 0 rfl dJxe99ae_doubleToLongBits_ccdee_0 ?_
  refine w_roS X [] (m_JN l g x h) cs_JN mk_JD_122 rfl rfl ⟨Nat.le_of_ble_eq_true rfl, Nat.le_of_ble_eq_true rfl⟩ (Nat.le_of_ble_eq_true rfl) ⟨Nat.le_of_ble_eq_true rfl, Nat.le_of_ble_eq_true rfl⟩ dJxe99ae_doubleToLongBits_ccdee_1 rfl ?_
  refine w_if_ne X 12 dJxe99ae_doubleToLongBits_ccdee_4 (by decide) (fun c4 => absurd rfl c4) (fun c4 => ?_)
  refine w_dload_n X 0 rfl dJxe99ae_doubleToLongBits_ccdee_7 ?_
  intro H locs ls hP hD hS hl
  refine vn_d2l X.1.1 X.1.2.1 (X.1.2.2.1.trans hl.1.symm) X.1.2.2.2.1 (X.1.2.2.2.2 _ mk_JD_134) (X.1.2.2.2.2 _ na_JD) (X.1.2.2.2.2 _ st_JD) (X.1.2.2.2.2 _ ii_JD) (Nat.le_of_ble_eq_true rfl) (Nat.le_of_ble_eq_true rfl) dJxe99ae_doubleToLongBits_ccdee_8 ?_
  exact w_lret_ro X rfl dJxe99ae_doubleToLongBits_ccdee_11 H locs ls hP hD hS hl
theorem lk_RI {σ μ μ' : Nat → Nat → Int32} {q : Nat} (h : lk μ μ' q) (hR : RI σ (μ 0)) : RI σ (μ' 0) := by rw [h.1 0 (by decide)]; exact hR
theorem lk_t {μ μ' μ2 : Nat → Nat → Int32} {q : Nat} (h : lk μ μ' q) (h2 : scr μ' μ2) : lk μ μ2 q := ⟨fun j hj => (h2 j (by omega)).trans (h.1 j hj), by rw [h2 5 (by decide)]; exact h.2⟩
theorem of_has {σ : Nat → Nat → Int32} {N : Nat → Int32} (hR : RI σ N) {o : Nat} (ho : o < 24) : (N (24 + 9 * o + 0) = nI 1 → hasB σ (nI o) = true ∧ σ 0 o = nI 1) ∧ (¬ N (24 + 9 * o + 0) = nI 1 → hasB σ (nI o) = false) := by
  rw [hR.used ho, has_nI σ ho]
  refine ⟨fun h => ⟨by rw [if_neg (by rw [h]; exact n10)], h⟩, fun h => ?_⟩
  rcases hR.flag ho with f | f
  · rw [if_pos f]
  · exact absurd f h
theorem dg3_y {σ : Nat → Nat → Int32} {h : Int64} {j : Nat} (e : hasB σ (nI j) = true) : woC σ j (dg3 σ h j) = dg3 σ h (j + 1) := by rw [dg3, if_pos e]
theorem dg3_n {σ : Nat → Nat → Int32} {h : Int64} {j : Nat} (e : hasB σ (nI j) = false) : dg3 σ h j = dg3 σ h (j + 1) := by rw [dg3, if_neg (by rw [e]; decide)]
theorem lc_end {τ : Nat → Nat → Int32} {cd : Nat → Nat} {t : Nat} {z : Int64} (h : RTX τ cd t) : lcL τ (60 - t) t z = z := by
  rcases e : 60 - t with _ | n
  · rw [lcL]
  · rw [lcL, h.1, if_pos ((nI_leI (by have := h.2.1; omega) (by have := h.2.1; omega)).mpr (Nat.le_refl _))]
set_option maxRecDepth 100000 in
set_option maxHeartbeats 4000000 in
theorem m_X6_digest (l : Launch) (g : GG) (ad : Nat → Nat) (μ : Nat → Nat → Int32) (σ : Nat → Nat → Int32) (η : Nat → Nat → Int32) (τ : Nat → Nat → Int32) (cd : Nat → Nat) (t : Nat) (hR : RI σ (μ 0)) (hN : 0 < mkL σ 6 → vf_n64 (FP.ddiv (FP.i2d (cellsL σ (trC σ (-1)) 24)) (FP.i2d (mkL σ 6)))) (hD : okD (shC σ)) (hK : μ 2 0 = η 2 0) (hT : TXM μ cd t) (hτ : RTX τ cd t) : MME (U := {μ' : Nat → Nat → Int32 // lk μ μ' 0}) l g yX6_digest cX6_digest 5 (some .long) 9 0 0 [.ref (ad 0)] [moC g ad μ] (some (.long (dgC σ τ η))) (fun u => [moC g ad u.1]) := by
  refine mk_me (by decide +kernel) (Nat.le_of_ble_eq_true rfl) (fun p e s m below meth c A hA X => ?_)
  have ht60 := hT.2.1
  refine w_aload_n X 0 rfl dX6_digest_0 ?_
  refine w_iconst X (nI 0) dX6_digest_1 (by decide +kernel) ?_
  refine w_put X 0 0 rfl rfl rfl in_X6 tyX6 tyX6_ok nmX6 5 (by decide) fk_X6_35 rfl rfl rfl rfl (Nat.le_of_ble_eq_true rfl) (show _ = moC g ad (rw2 μ 5 (fun _ => nI (0))) from rfl) dX6_digest_2 ?_
  refine w_ldc2 X kk_X6_219 dX6_digest_5 ?_
  refine w_lstore_n X dX6_digest_8 (by decide) ?_
  refine w_iconst X (nI 0) dX6_digest_9 (by decide +kernel) ?_
  refine w_istore_n X dX6_digest_10 (by decide) ?_
  have e0_1 : (2741 : Int64) = dg1 σ η 0 := by rfl
  refine w_all [2, 1, 0] (rfl) (rfl) (by rw [← e0_1]; rfl) (w_loop (st := []) (pc := 11) X (V := Nat × (Nat → Nat → Int32)) (fun (v11 : Nat × (Nat → Nat → Int32)) => 11 - v11.1) (fun (v11 : Nat × (Nat → Nat → Int32)) => (v11.1 ≤ 11) ∧ (lk μ v11.2 0)) (fun (v11 : Nat × (Nat → Nat → Int32)) => [(0, .ref (ad 0)), (1, .long (dg1 σ η v11.1)), (3, .int (nI v11.1))]) (fun (v11 : Nat × (Nat → Nat → Int32)) => [moC g ad v11.2]) (fun v11 hv11 ih11 => ?_) (0, rw2 μ 5 (fun _ => nI 0)) (by (try dsimp only); exact ⟨by omega, lk_0 μ 0⟩))
  obtain ⟨i1, μ2⟩ := v11
  obtain ⟨hi1, hs2⟩ := hv11
  try dsimp only at hi1 hs2 ih11 ⊢
  refine w_iload_n X 2 rfl dX6_digest_11 ?_
  refine w_bipush X (nI 11) dX6_digest_12 (by decide +kernel) ?_
  refine w_nc_ge X (by omega) (by omega) 36 dX6_digest_14 (by decide) (fun c14 => ?_) (fun c14 => ?_)
  · have he_i1 : i1 = 11 := by omega
    refine w_ldc2 X kk_X6_221 dX6_digest_36 ?_
    refine w_ldc2 X kk_X6_221 dX6_digest_39 ?_
    refine w_lload_n X 1 rfl dX6_digest_42 ?_
    refine w_lmul X dX6_digest_43 ?_
    refine w_aload_n X 0 rfl dX6_digest_44 ?_
    refine w_get X 0 0 rfl rfl rfl in_X6 0 (by decide) fk_X6_7 rfl dX6_digest_45 ?_
    refine w_iconst X (nI 0) dX6_digest_48 (by decide +kernel) ?_
    refine w_iald_n X 0 1 0 rfl rfl rfl (by omega) (by decide) dX6_digest_49 ?_
    refine w_i2l X dX6_digest_50 ?_
    refine w_ladd X dX6_digest_51 ?_
    refine w_lmul X dX6_digest_52 ?_
    refine w_aload_n X 0 rfl dX6_digest_53 ?_
    refine w_get X 0 0 rfl rfl rfl in_X6 0 (by decide) fk_X6_7 rfl dX6_digest_54 ?_
    refine w_iconst X (nI 1) dX6_digest_57 (by decide +kernel) ?_
    refine w_iald_n X 0 1 0 rfl rfl rfl (by omega) (by decide) dX6_digest_58 ?_
    refine w_i2l X dX6_digest_59 ?_
    refine w_ladd X dX6_digest_60 ?_
    refine w_lstore_n X dX6_digest_61 (by decide) ?_
    refine w_iconst X (nI 0) dX6_digest_62 (by decide +kernel) ?_
    refine w_istore_n X dX6_digest_63 (by decide) ?_
    have e1_1 : ((31 : Int64) * (((31 : Int64) * (dg1 σ η i1)) + (((μ2 0 0)).toInt64))) + (((μ2 0 1)).toInt64) = dg3 σ (dg2 σ (dg1 σ η 11) 2) 0 := by rw [he_i1, (lk_RI hs2 hR).2.1.1, (lk_RI hs2 hR).2.1.2.1]; rfl
    refine w_all [2, 1, 0] (rfl) (rfl) (by rw [← e1_1]; rfl) (w_loop (st := []) (pc := 64) X (V := Nat × (Nat → Nat → Int32)) (fun (v64 : Nat × (Nat → Nat → Int32)) => 24 - v64.1) (fun (v64 : Nat × (Nat → Nat → Int32)) => (v64.1 ≤ 24) ∧ (lk μ v64.2 0)) (fun (v64 : Nat × (Nat → Nat → Int32)) => [(0, .ref (ad 0)), (1, .long (dg3 σ (dg2 σ (dg1 σ η 11) 2) v64.1)), (3, .int (nI v64.1))]) (fun (v64 : Nat × (Nat → Nat → Int32)) => [moC g ad v64.2]) (fun v64 hv64 ih64 => ?_) (0, μ2) (by (try dsimp only); exact ⟨by omega, hs2⟩))
    obtain ⟨o, μ3⟩ := v64
    obtain ⟨ho, hs3⟩ := hv64
    try dsimp only at ho hs3 ih64 ⊢
    refine w_iload_n X 2 rfl dX6_digest_64 ?_
    refine w_bipush X (nI 24) dX6_digest_65 (by decide +kernel) ?_
    refine w_nc_ge X (by omega) (by omega) 151 dX6_digest_67 (by decide) (fun c67 => ?_) (fun c67 => ?_)
    · have he_o : o = 24 := by omega
      refine w_iconst X (nI 0) dX6_digest_151 (by decide +kernel) ?_
      refine w_istore_n X dX6_digest_152 (by decide) ?_
      have e2_1 : dg3 σ (dg2 σ (dg1 σ η 11) 2) o = dg4 σ (dg3 σ (dg2 σ (dg1 σ η 11) 2) 24) 0 := by rw [he_o]; rfl
      refine w_all [1, 2, 0] (rfl) (rfl) (by rw [← e2_1]; rfl) (w_loop (st := []) (pc := 153) X (V := Nat × (Nat → Nat → Int32)) (fun (v153 : Nat × (Nat → Nat → Int32)) => 6 - v153.1) (fun (v153 : Nat × (Nat → Nat → Int32)) => (v153.1 ≤ 6) ∧ (lk μ v153.2 0)) (fun (v153 : Nat × (Nat → Nat → Int32)) => [(0, .ref (ad 0)), (1, .long (dg4 σ (dg3 σ (dg2 σ (dg1 σ η 11) 2) 24) v153.1)), (3, .int (nI v153.1))]) (fun (v153 : Nat × (Nat → Nat → Int32)) => [moC g ad v153.2]) (fun v153 hv153 ih153 => ?_) (0, μ3) (by (try dsimp only); exact ⟨by omega, hs3⟩))
      obtain ⟨a, μ5⟩ := v153
      obtain ⟨ha, hs5⟩ := hv153
      try dsimp only at ha hs5 ih153 ⊢
      refine w_iload_n X 2 rfl dX6_digest_153 ?_
      refine w_bipush X (nI 6) dX6_digest_154 (by decide +kernel) ?_
      refine w_nc_ge X (by omega) (by omega) 210 dX6_digest_156 (by decide) (fun c156 => ?_) (fun c156 => ?_)
      · have he_a : a = 6 := by omega
        refine w_ldc2 X kk_X6_221 dX6_digest_210 ?_
        refine w_lload_n X 1 rfl dX6_digest_213 ?_
        refine w_lmul X dX6_digest_214 ?_
        refine w_aload_n X 0 rfl dX6_digest_215 ?_
        refine w_meV X hA (U := {μ' : Nat → Nat → Int32 // scr μ5 μ'}) (gr := []) (gs1 := fun u => [moC g ad u.1]) [0] [] 0 0 (m_X6_bestArena l g ad μ5 σ (lk_RI hs5 hR)) cv_X6_bestArena mk_X6_212 rfl rfl rfl (ng := 1) rfl (by decide) (fun _ => rfl) (fun _ => rfl) (fun _ => rfl) rfl rfl rfl ⟨Nat.le_of_ble_eq_true rfl, Nat.le_of_ble_eq_true rfl⟩ (Nat.le_of_ble_eq_true rfl) ⟨Nat.le_of_ble_eq_true rfl, Nat.le_of_ble_eq_true rfl⟩ dX6_digest_216 rfl (fun u => ?_)
        obtain ⟨μ1, hμ1⟩ := u
        try dsimp only
        refine w_i2l X dX6_digest_219 ?_
        refine w_ladd X dX6_digest_220 ?_
        refine w_lstore_n X dX6_digest_221 (by decide) ?_
        refine w_ldc2 X kk_X6_221 dX6_digest_222 ?_
        refine w_ldc2 X kk_X6_221 dX6_digest_225 ?_
        refine w_lload_n X 0 rfl dX6_digest_228 ?_
        refine w_lmul X dX6_digest_229 ?_
        refine w_aload_n X 1 rfl dX6_digest_230 ?_
        refine w_meV X hA (U := {μ' : Nat → Nat → Int32 // scr μ1 μ'}) (gr := []) (gs1 := fun u => [moC g ad u.1]) [0] [] 0 0 (m_X6_share l g ad μ1 σ (hμ1.RI (lk_RI hs5 hR)) (hN)) cv_X6_share mk_X6_215 rfl rfl rfl (ng := 1) rfl (by decide) (fun _ => rfl) (fun _ => rfl) (fun _ => rfl) rfl rfl rfl ⟨Nat.le_of_ble_eq_true rfl, Nat.le_of_ble_eq_true rfl⟩ (Nat.le_of_ble_eq_true rfl) ⟨Nat.le_of_ble_eq_true rfl, Nat.le_of_ble_eq_true rfl⟩ dX6_digest_231 rfl (fun u => ?_)
        obtain ⟨μ2, hμ2⟩ := u
        try dsimp only
        have hs9 := lk_t (lk_t hs5 hμ1) hμ2
        refine w_roS X [] (m_JB l g (shC σ) (hD)) cs_Jxe99ae_doubleToLongBits_ccdee mk_X6_223 rfl rfl ⟨Nat.le_of_ble_eq_true rfl, Nat.le_of_ble_eq_true rfl⟩ (Nat.le_of_ble_eq_true rfl) ⟨Nat.le_of_ble_eq_true rfl, Nat.le_of_ble_eq_true rfl⟩ dX6_digest_234 rfl ?_
        refine w_ladd X dX6_digest_237 ?_
        refine w_lmul X dX6_digest_238 ?_
        refine w_aload_n X 1 rfl dX6_digest_239 ?_
        refine w_get X 0 0 rfl rfl rfl in_X6 4 (by decide) fk_X6_137 rfl dX6_digest_240 ?_
        refine w_st (st2 := [.int (nI t), .long ((31 : Int64) * (((31 : Int64) * (((31 : Int64) * (dg4 σ (dg3 σ (dg2 σ (dg1 σ η 11) 2) 24) a)) + ((((bsO σ 6).1)).toInt64))) + ((shC σ).toInt64)))]) (by rw [hs9.1 4 (by decide), hT.1] <;> rfl) ?_
        refine w_i2l X dX6_digest_243 ?_
        refine w_ladd X dX6_digest_244 ?_
        refine w_lstore_n X dX6_digest_245 (by decide) ?_
        refine w_iconst X (nI 0) dX6_digest_246 (by decide +kernel) ?_
        refine w_istore_n X dX6_digest_247 (by decide) ?_
        have e3_1 : ((31 : Int64) * (((31 : Int64) * (((31 : Int64) * (dg4 σ (dg3 σ (dg2 σ (dg1 σ η 11) 2) 24) a)) + ((((bsO σ 6).1)).toInt64))) + ((shC σ).toInt64))) + ((nI (t)).toInt64) = (31 * dgS σ η + (nI t).toInt64) := by rw [he_a]; rfl
        refine w_all [2, 1, 0] (rfl) (rfl) (by rw [← e3_1]; rfl) (w_loop (st := []) (pc := 248) X (V := Nat × Int64) (fun (v248 : Nat × Int64) => t - v248.1) (fun (v248 : Nat × Int64) => (v248.1 ≤ t) ∧ (lcL τ (60 - v248.1) v248.1 v248.2 = dgC σ τ η)) (fun (v248 : Nat × Int64) => [(0, .ref (ad 0)), (1, .long (v248.2)), (3, .int (nI v248.1))]) (fun (v248 : Nat × Int64) => [moC g ad μ2]) (fun v248 hv248 ih248 => ?_) (0, 31 * dgS σ η + (nI t).toInt64) (by (try dsimp only); exact ⟨by omega, by rw [dgC, hτ.1]⟩))
        obtain ⟨q, z⟩ := v248
        obtain ⟨hq, hz⟩ := hv248
        try dsimp only at hq hz ih248 ⊢
        refine w_iload_n X 2 rfl dX6_digest_248 ?_
        refine w_aload_n X 0 rfl dX6_digest_249 ?_
        refine w_get X 0 0 rfl rfl rfl in_X6 4 (by decide) fk_X6_137 rfl dX6_digest_250 ?_
        refine w_st (st2 := [.int (nI t), .int (nI q)]) (by rw [hs9.1 4 (by decide), hT.1] <;> rfl) ?_
        refine w_nc_ge X (by omega) (by omega) 276 dX6_digest_253 (by decide) (fun c253 => ?_) (fun c253 => ?_)
        · refine w_lload_n X 1 rfl dX6_digest_276 ?_
          exact w_lret_me X ⟨μ2, hs9⟩ (by rw [← hz, show q = t by omega]; exact (lc_end hτ).symm) rfl (Nat.le_of_ble_eq_true rfl) (Nat.le_of_ble_eq_true rfl) dX6_digest_277
        · refine w_ldc2 X kk_X6_221 dX6_digest_256 ?_
          refine w_lload_n X 1 rfl dX6_digest_259 ?_
          refine w_lmul X dX6_digest_260 ?_
          refine w_aload_n X 0 rfl dX6_digest_261 ?_
          refine w_get X 0 0 rfl rfl rfl in_X6 3 (by decide) fk_X6_16 rfl dX6_digest_262 ?_
          refine w_iload_n X 2 rfl dX6_digest_265 ?_
          refine w_iald_n X 0 3 0 rfl rfl rfl (by omega) (by decide) dX6_digest_266 ?_
          refine w_st (st2 := [.int (nI (cd q)), .long ((31 : Int64) * z)]) (by rw [hs9.1 3 (by decide), (hT.2.2 q (by omega)).1] <;> rfl) ?_
          refine w_i2l X dX6_digest_267 ?_
          refine w_ladd X dX6_digest_268 ?_
          refine w_lstore_n X dX6_digest_269 (by decide) ?_
          refine w_iinc X (nI (q + 1)) 2 rfl (nI_1 _) dX6_digest_270 (by decide) ?_
          refine w_goto X 248 dX6_digest_273 (by decide) ?_
          exact w_all [2, 1, 0] (rfl) (rfl) rfl (ih248 (q + 1, ((31 : Int64) * z) + ((nI (cd q)).toInt64)) (by omega) (by (try dsimp only); exact ⟨by omega, by rw [← hz, show 60 - q = (60 - (q + 1)) + 1 by omega, lcL, hτ.1, if_neg (nI_nge (by omega) (by omega)), (hτ.2.2 q (by omega)).1]⟩))
      · refine w_iconst X (nI 0) dX6_digest_159 (by decide +kernel) ?_
        refine w_istore X dX6_digest_160 (by decide) ?_
        have e5_1 : dg4 σ (dg3 σ (dg2 σ (dg1 σ η 11) 2) 24) a = waL σ a (dg4 σ (dg3 σ (dg2 σ (dg1 σ η 11) 2) 24) a) 0 := by rfl
        refine w_all [1, 2, 3, 0] (rfl) (rfl) (by rw [← e5_1]; rfl) (w_loop (st := []) (pc := 162) X (V := Nat × (Nat → Nat → Int32)) (fun (v162 : Nat × (Nat → Nat → Int32)) => 8 - v162.1) (fun (v162 : Nat × (Nat → Nat → Int32)) => (v162.1 ≤ 8) ∧ (lk μ v162.2 0)) (fun (v162 : Nat × (Nat → Nat → Int32)) => [(0, .ref (ad 0)), (1, .long (waL σ a (dg4 σ (dg3 σ (dg2 σ (dg1 σ η 11) 2) 24) a) v162.1)), (3, .int (nI a)), (4, .int (nI v162.1))]) (fun (v162 : Nat × (Nat → Nat → Int32)) => [moC g ad v162.2]) (fun v162 hv162 ih162 => ?_) (0, μ5) (by (try dsimp only); exact ⟨by omega, hs5⟩))
        obtain ⟨i5, μ6⟩ := v162
        obtain ⟨hi5, hs6⟩ := hv162
        try dsimp only at hi5 hs6 ih162 ⊢
        refine w_iload X 3 rfl dX6_digest_162 ?_
        refine w_bipush X (nI 8) dX6_digest_164 (by decide +kernel) ?_
        refine w_nc_ge X (by omega) (by omega) 190 dX6_digest_166 (by decide) (fun c166 => ?_) (fun c166 => ?_)
        · have he_i5 : i5 = 8 := by omega
          refine w_ldc2 X kk_X6_221 dX6_digest_190 ?_
          refine w_lload_n X 1 rfl dX6_digest_193 ?_
          refine w_lmul X dX6_digest_194 ?_
          refine w_aload_n X 0 rfl dX6_digest_195 ?_
          refine w_iload_n X 2 rfl dX6_digest_196 ?_
          refine w_iconst X (nI 1) dX6_digest_197 (by decide +kernel) ?_
          refine w_meV X hA (U := {μ' : Nat → Nat → Int32 // scr μ6 μ'}) (gr := []) (gs1 := fun u => [moC g ad u.1]) [0] [] 0 0 (m_X6_reason l g ad μ6 σ a 1 (lk_RI hs6 hR) (by omega) (by omega)) cv_X6_reason mk_X6_125 rfl rfl rfl (ng := 1) rfl (by decide) (fun _ => rfl) (fun _ => rfl) (fun _ => rfl) rfl rfl rfl ⟨Nat.le_of_ble_eq_true rfl, Nat.le_of_ble_eq_true rfl⟩ (Nat.le_of_ble_eq_true rfl) ⟨Nat.le_of_ble_eq_true rfl, Nat.le_of_ble_eq_true rfl⟩ dX6_digest_198 rfl (fun u => ?_)
          obtain ⟨μ3, hμ3⟩ := u
          try dsimp only
          refine w_i2l X dX6_digest_201 ?_
          refine w_ladd X dX6_digest_202 ?_
          refine w_lstore_n X dX6_digest_203 (by decide) ?_
          refine w_iinc X (nI (a + 1)) 2 rfl (nI_1 _) dX6_digest_204 (by decide) ?_
          refine w_goto X 153 dX6_digest_207 (by decide) ?_
          have e6_1 : ((31 : Int64) * (waL σ a (dg4 σ (dg3 σ (dg2 σ (dg1 σ η 11) 2) 24) a) i5)) + (((rsC σ (nI a) (nI 1))).toInt64) = dg4 σ (dg3 σ (dg2 σ (dg1 σ η 11) 2) 24) (a + 1) := by rw [he_i5]; rfl
          exact w_all [2, 1, 0] (rfl) (rfl) (by rw [← e6_1]; rfl) (ih153 (a + 1, μ3) (by omega) (by (try dsimp only); exact ⟨by omega, lk_t hs6 hμ3⟩))
        · refine w_ldc2 X kk_X6_221 dX6_digest_169 ?_
          refine w_lload_n X 1 rfl dX6_digest_172 ?_
          refine w_lmul X dX6_digest_173 ?_
          refine w_aload_n X 0 rfl dX6_digest_174 ?_
          refine w_iload_n X 2 rfl dX6_digest_175 ?_
          refine w_iload X 3 rfl dX6_digest_176 ?_
          refine w_meV X hA (U := {μ' : Nat → Nat → Int32 // scr μ6 μ'}) (gr := []) (gs1 := fun u => [moC g ad u.1]) [0] [] 0 0 (m_X6_ofArena l g ad μ6 σ a i5 (lk_RI hs6 hR) (by omega) (by omega)) cv_X6_ofArena mk_X6_184 rfl rfl rfl (ng := 1) rfl (by decide) (fun _ => rfl) (fun _ => rfl) (fun _ => rfl) rfl rfl rfl ⟨Nat.le_of_ble_eq_true rfl, Nat.le_of_ble_eq_true rfl⟩ (Nat.le_of_ble_eq_true rfl) ⟨Nat.le_of_ble_eq_true rfl, Nat.le_of_ble_eq_true rfl⟩ dX6_digest_178 rfl (fun u => ?_)
          obtain ⟨μ4, hμ4⟩ := u
          try dsimp only
          refine w_i2l X dX6_digest_181 ?_
          refine w_ladd X dX6_digest_182 ?_
          refine w_lstore_n X dX6_digest_183 (by decide) ?_
          refine w_iinc X (nI (i5 + 1)) 3 rfl (nI_1 _) dX6_digest_184 (by decide) ?_
          refine w_goto X 162 dX6_digest_187 (by decide) ?_
          have e7_1 : ((31 : Int64) * (waL σ a (dg4 σ (dg3 σ (dg2 σ (dg1 σ η 11) 2) 24) a) i5)) + (((apC σ a i5)).toInt64) = waL σ a (dg4 σ (dg3 σ (dg2 σ (dg1 σ η 11) 2) 24) a) (i5 + 1) := by rfl
          exact w_all [2, 1, 3, 0] (rfl) (rfl) (by rw [← e7_1]; rfl) (ih162 (i5 + 1, μ4) (by omega) (by (try dsimp only); exact ⟨by omega, lk_t hs6 hμ4⟩))
    · refine w_aload_n X 0 rfl dX6_digest_70 ?_
      refine w_iload_n X 2 rfl dX6_digest_71 ?_
      refine w_iconst X (nI 0) dX6_digest_72 (by decide +kernel) ?_
      refine w_roV X [0] 0 0 (m_X6_of l g ad μ3 o 0 (by omega) (by omega)) cv_X6_of mk_X6_43 rfl rfl rfl rfl rfl ⟨Nat.le_of_ble_eq_true rfl, Nat.le_of_ble_eq_true rfl⟩ (Nat.le_of_ble_eq_true rfl) ⟨Nat.le_of_ble_eq_true rfl, Nat.le_of_ble_eq_true rfl⟩ dX6_digest_73 rfl ?_
      refine w_iconst X (nI 1) dX6_digest_76 (by decide +kernel) ?_
      refine w_ic_ne X 145 dX6_digest_77 (by decide) (fun c77 => ?_) (fun c77 => ?_)
      · refine w_iinc X (nI (o + 1)) 2 rfl (nI_1 _) dX6_digest_145 (by decide) ?_
        refine w_goto X 64 dX6_digest_148 (by decide) ?_
        have e8_1 : dg3 σ (dg2 σ (dg1 σ η 11) 2) o = dg3 σ (dg2 σ (dg1 σ η 11) 2) (o + 1) := by rw [← dg3_n ((of_has (lk_RI hs3 hR) (by omega)).2 c77)]
        exact w_all [1, 2, 0] (rfl) (rfl) (by rw [← e8_1]; rfl) (ih64 (o + 1, μ3) (by omega) (by (try dsimp only); exact ⟨by omega, hs3⟩))
      · obtain ⟨hb, hu⟩ := (of_has (lk_RI hs3 hR) (by omega)).1 c77
        refine w_ldc2 X kk_X6_221 dX6_digest_80 ?_
        refine w_lload_n X 1 rfl dX6_digest_83 ?_
        refine w_lmul X dX6_digest_84 ?_
        refine w_iload_n X 2 rfl dX6_digest_85 ?_
        refine w_i2l X dX6_digest_86 ?_
        refine w_ladd X dX6_digest_87 ?_
        refine w_lstore_n X dX6_digest_88 (by decide) ?_
        refine w_iconst X (nI 0) dX6_digest_89 (by decide +kernel) ?_
        refine w_istore X dX6_digest_90 (by decide) ?_
        have e9_1 : ((31 : Int64) * (dg3 σ (dg2 σ (dg1 σ η 11) 2) o)) + ((nI (o)).toInt64) = woL σ o (dg3 σ (dg2 σ (dg1 σ η 11) 2) o) 0 := by rfl
        refine w_all [2, 1, 3, 0] (rfl) (rfl) (by rw [← e9_1]; rfl) (w_loop (st := []) (pc := 92) X (V := Nat × (Nat → Nat → Int32)) (fun (v92 : Nat × (Nat → Nat → Int32)) => 12 - v92.1) (fun (v92 : Nat × (Nat → Nat → Int32)) => (v92.1 ≤ 12) ∧ (lk μ v92.2 0)) (fun (v92 : Nat × (Nat → Nat → Int32)) => [(0, .ref (ad 0)), (1, .long (woL σ o (dg3 σ (dg2 σ (dg1 σ η 11) 2) o) v92.1)), (3, .int (nI o)), (4, .int (nI v92.1))]) (fun (v92 : Nat × (Nat → Nat → Int32)) => [moC g ad v92.2]) (fun v92 hv92 ih92 => ?_) (0, μ3) (by (try dsimp only); exact ⟨by omega, hs3⟩))
        obtain ⟨i3, μ4⟩ := v92
        obtain ⟨hi3, hs4⟩ := hv92
        try dsimp only at hi3 hs4 ih92 ⊢
        refine w_iload X 3 rfl dX6_digest_92 ?_
        refine w_bipush X (nI 12) dX6_digest_94 (by decide +kernel) ?_
        refine w_nc_ge X (by omega) (by omega) 120 dX6_digest_96 (by decide) (fun c96 => ?_) (fun c96 => ?_)
        · have he_i3 : i3 = 12 := by omega
          refine w_ldc2 X kk_X6_221 dX6_digest_120 ?_
          refine w_ldc2 X kk_X6_221 dX6_digest_123 ?_
          refine w_lload_n X 1 rfl dX6_digest_126 ?_
          refine w_lmul X dX6_digest_127 ?_
          refine w_aload_n X 0 rfl dX6_digest_128 ?_
          refine w_iload_n X 2 rfl dX6_digest_129 ?_
          refine w_iconst X (nI 0) dX6_digest_130 (by decide +kernel) ?_
          refine w_meV X hA (U := {μ' : Nat → Nat → Int32 // scr μ4 μ'}) (gr := []) (gs1 := fun u => [moC g ad u.1]) [0] [] 0 0 (m_X6_given l g ad μ4 σ o 0 (lk_RI hs4 hR) (by omega) (by omega) (hu)) cv_X6_given mk_X6_203 rfl rfl rfl (ng := 1) rfl (by decide) (fun _ => rfl) (fun _ => rfl) (fun _ => rfl) rfl rfl rfl ⟨Nat.le_of_ble_eq_true rfl, Nat.le_of_ble_eq_true rfl⟩ (Nat.le_of_ble_eq_true rfl) ⟨Nat.le_of_ble_eq_true rfl, Nat.le_of_ble_eq_true rfl⟩ dX6_digest_131 rfl (fun u => ?_)
          obtain ⟨μ5, hμ5⟩ := u
          try dsimp only
          refine w_i2l X dX6_digest_134 ?_
          refine w_ladd X dX6_digest_135 ?_
          refine w_lmul X dX6_digest_136 ?_
          refine w_aload_n X 0 rfl dX6_digest_137 ?_
          refine w_iload_n X 2 rfl dX6_digest_138 ?_
          refine w_meV X hA (U := {μ' : Nat → Nat → Int32 // scr μ5 μ'}) (gr := []) (gs1 := fun u => [moC g ad u.1]) [0] [] 0 0 (m_X6_lost l g ad μ5 σ o (hμ5.RI (lk_RI hs4 hR))) cv_X6_lost mk_X6_206 rfl rfl rfl (ng := 1) rfl (by decide) (fun _ => rfl) (fun _ => rfl) (fun _ => rfl) rfl rfl rfl ⟨Nat.le_of_ble_eq_true rfl, Nat.le_of_ble_eq_true rfl⟩ (Nat.le_of_ble_eq_true rfl) ⟨Nat.le_of_ble_eq_true rfl, Nat.le_of_ble_eq_true rfl⟩ dX6_digest_139 rfl (fun u => ?_)
          obtain ⟨μ6, hμ6⟩ := u
          try dsimp only
          refine w_i2l X dX6_digest_142 ?_
          refine w_ladd X dX6_digest_143 ?_
          refine w_lstore_n X dX6_digest_144 (by decide) ?_
          refine w_iinc X (nI (o + 1)) 2 rfl (nI_1 _) dX6_digest_145 (by decide) ?_
          refine w_goto X 64 dX6_digest_148 (by decide) ?_
          have e10_1 : ((31 : Int64) * (((31 : Int64) * (woL σ o (dg3 σ (dg2 σ (dg1 σ η 11) 2) o) i3)) + (((gvC σ (nI o) (nI 0))).toInt64))) + (((lostC σ (nI o))).toInt64) = dg3 σ (dg2 σ (dg1 σ η 11) 2) (o + 1) := by rw [← dg3_y hb, he_i3]; rfl
          exact w_all [2, 1, 0] (rfl) (rfl) (by rw [← e10_1]; rfl) (ih64 (o + 1, μ6) (by omega) (by (try dsimp only); exact ⟨by omega, lk_t (lk_t hs4 hμ5) hμ6⟩))
        · refine w_ldc2 X kk_X6_221 dX6_digest_99 ?_
          refine w_lload_n X 1 rfl dX6_digest_102 ?_
          refine w_lmul X dX6_digest_103 ?_
          refine w_aload_n X 0 rfl dX6_digest_104 ?_
          refine w_iload_n X 2 rfl dX6_digest_105 ?_
          refine w_iload X 3 rfl dX6_digest_106 ?_
          refine w_meV X hA (U := {μ' : Nat → Nat → Int32 // scr μ4 μ'}) (gr := []) (gs1 := fun u => [moC g ad u.1]) [0] [] 0 0 (m_X6_ofObject l g ad μ4 σ o i3 (lk_RI hs4 hR) (by omega) (by omega) (hu)) cv_X6_ofObject mk_X6_178 rfl rfl rfl (ng := 1) rfl (by decide) (fun _ => rfl) (fun _ => rfl) (fun _ => rfl) rfl rfl rfl ⟨Nat.le_of_ble_eq_true rfl, Nat.le_of_ble_eq_true rfl⟩ (Nat.le_of_ble_eq_true rfl) ⟨Nat.le_of_ble_eq_true rfl, Nat.le_of_ble_eq_true rfl⟩ dX6_digest_108 rfl (fun u => ?_)
          obtain ⟨μ7, hμ7⟩ := u
          try dsimp only
          refine w_i2l X dX6_digest_111 ?_
          refine w_ladd X dX6_digest_112 ?_
          refine w_lstore_n X dX6_digest_113 (by decide) ?_
          refine w_iinc X (nI (i3 + 1)) 3 rfl (nI_1 _) dX6_digest_114 (by decide) ?_
          refine w_goto X 92 dX6_digest_117 (by decide) ?_
          have e11_1 : ((31 : Int64) * (woL σ o (dg3 σ (dg2 σ (dg1 σ η 11) 2) o) i3)) + (((opC σ o i3)).toInt64) = woL σ o (dg3 σ (dg2 σ (dg1 σ η 11) 2) o) (i3 + 1) := by rfl
          exact w_all [2, 1, 3, 0] (rfl) (rfl) (by rw [← e11_1]; rfl) (ih92 (i3 + 1, μ7) (by omega) (by (try dsimp only); exact ⟨by omega, lk_t hs4 hμ7⟩))
  · refine w_ldc2 X kk_X6_221 dX6_digest_17 ?_
    refine w_lload_n X 1 rfl dX6_digest_20 ?_
    refine w_lmul X dX6_digest_21 ?_
    refine w_aload_n X 0 rfl dX6_digest_22 ?_
    refine w_iload_n X 2 rfl dX6_digest_23 ?_
    refine w_meV X hA (U := {μ' : Nat → Nat → Int32 // scr μ2 μ'}) (gr := []) (gs1 := fun u => [moC g ad u.1]) [0] [] 0 0 (m_X6_counted l g ad μ2 σ η i1 (lk_RI hs2 hR) (by omega) ((congrFun (hs2.1 2 (by decide)) 0).trans hK)) cv_X6_counted mk_X6_200 rfl rfl rfl (ng := 1) rfl (by decide) (fun _ => rfl) (fun _ => rfl) (fun _ => rfl) rfl rfl rfl ⟨Nat.le_of_ble_eq_true rfl, Nat.le_of_ble_eq_true rfl⟩ (Nat.le_of_ble_eq_true rfl) ⟨Nat.le_of_ble_eq_true rfl, Nat.le_of_ble_eq_true rfl⟩ dX6_digest_24 rfl (fun u => ?_)
    obtain ⟨μ8, hμ8⟩ := u
    try dsimp only
    refine w_i2l X dX6_digest_27 ?_
    refine w_ladd X dX6_digest_28 ?_
    refine w_lstore_n X dX6_digest_29 (by decide) ?_
    refine w_iinc X (nI (i1 + 1)) 2 rfl (nI_1 _) dX6_digest_30 (by decide) ?_
    refine w_goto X 11 dX6_digest_33 (by decide) ?_
    have e12_1 : ((31 : Int64) * (dg1 σ η i1)) + (((ctC σ η i1)).toInt64) = dg1 σ η (i1 + 1) := by rfl
    exact w_all [2, 1, 0] (rfl) (rfl) (by rw [← e12_1]; rfl) (ih11 (i1 + 1, μ8) (by omega) (by (try dsimp only); exact ⟨by omega, lk_t hs2 hμ8⟩))
