/-! the law's arenas -/
set_option maxRecDepth 100000 in
set_option maxHeartbeats 4000000 in
theorem m_L_arenas (l : Launch) (g : GG) (hfl : l.stackTraces = false) (am : Nat → Nat) (ast : Nat → Nat) (art : Nat → Nat) (aliv : Nat → Nat) (asur : Nat → Nat) (alas : Nat → Nat) (atx : Nat → Nat) (ahi : Nat → Nat) (had : Nat → Nat → Nat) (σ : Nat → Nat → Int32) (ζ : Nat → Nat → Nat → Int32) (η : Nat → Nat → Int32) (B : Nat) (hB : B < 1000000) (hJ : JJ B σ) : MMP (U := (Nat → Nat → Nat → Int32)) l g yL_arenas cL_arenas 11 (some .boolean) 12 288 1728 [.ref (am 0)] [maC g am (ast 0) (art 0) (alas 0) (atx 0) (ahi 0), stC g ast σ, rtC g art (aliv 0) (asur 0) (ζ 3), rcC g aliv (ζ 0), rcC g asur (ζ 1), rcC g alas (ζ 2), hiC g ahi (fun i => had i 0) η] (some (.int (bI (true)))) (fun ζ' => [maC g am (ast 0) (art 0) (alas 0) (atx 0) (ahi 0), stC g ast σ, rtC g art (aliv 0) (asur 0) (ζ' 3), rcC g aliv (ζ' 0), rcC g asur (ζ' 1), rcC g alas (ζ' 2), hiC g ahi (fun i => had i 0) η]) := by
  refine mk_mp hfl (by decide +kernel) (Nat.le_of_ble_eq_true rfl) (fun p e s m below meth c A V => ?_)
  have X := V.1
  have hA := V.2.2.2.2
  have hI := hJ.1
  refine w_iconst X (nI 0) dL_arenas_0 (by decide +kernel) ?_
  refine w_istore_n X dL_arenas_1 (by decide) ?_
  refine w_iconst X (nI 1) dL_arenas_2 (by decide +kernel) ?_
  refine w_istore_n X dL_arenas_3 (by decide) ?_
  refine w_iconst X (nI 0) dL_arenas_4 (by decide +kernel) ?_
  refine w_istore_n X dL_arenas_5 (by decide) ?_
  refine w_widen (k := 48 * 0) (n := 288 * 0) (by omega) (by omega) ?_
  refine w_all [3, 2, 1, 0] (rfl) (rfl) rfl (w_loopK (st := []) (pc := 6) X (V := Nat × (Nat → Nat → Nat → Int32)) (fun (v6 : Nat × (Nat → Nat → Nat → Int32)) => 6 - v6.1) (fun (v6 : Nat × (Nat → Nat → Nat → Int32)) => (v6.1 ≤ 6)) (fun (v6 : Nat × (Nat → Nat → Nat → Int32)) => 48 * v6.1) (fun (v6 : Nat × (Nat → Nat → Nat → Int32)) => 288 * v6.1) (fun (v6 : Nat × (Nat → Nat → Nat → Int32)) => [(0, .ref (am 0)), (1, .int (nI (cn (fun o => nz (σ 8 o)) v6.1))), (2, .int (bI (true))), (3, .int (nI v6.1))]) (fun (v6 : Nat × (Nat → Nat → Nat → Int32)) => [maC g am (ast 0) (art 0) (alas 0) (atx 0) (ahi 0), stC g ast σ, rtC g art (aliv 0) (asur 0) (v6.2 3), rcC g aliv (v6.2 0), rcC g asur (v6.2 1), rcC g alas (v6.2 2), hiC g ahi (fun i => had i 0) η]) (fun v6 hv6 ih6 => ?_) (0, ζ) (by omega))
  obtain ⟨a, zz⟩ := v6
  have ha := hv6
  try dsimp only at ha ih6 ⊢
  refine w_iload_n X 3 rfl dL_arenas_6 ?_
  refine w_bipush X (nI 6) dL_arenas_7 (by decide +kernel) ?_
  refine w_nc_ge X (by omega) (by omega) 361 dL_arenas_9 (by decide) (fun c9 => ?_) (fun c9 => ?_)
  · have he_a : a = 6 := by omega
    refine w_aload_n X 0 rfl dL_arenas_361 ?_
    refine w_meV X hA (U := (Nat → Nat → Nat → Int32)) (gr := [rcC g alas (zz 2), hiC g ahi (fun i => had i 0) η]) (gs1 := fun ζ1 => [maC g am (ast 0) (art 0) (alas 0) (atx 0) (ahi 0), stC g ast σ, rtC g art (aliv 0) (asur 0) (ζ1 3), rcC g aliv (ζ1 0), rcC g asur (ζ1 1), rcC g alas (zz 2), hiC g ahi (fun i => had i 0) η]) [0, 1, 2, 3, 4] [5, 6] 0 0 (m_X5_best l g am ast art aliv asur alas atx ahi σ (rw2 (rw2 (rw2 ζ 0 (zz 0)) 1 (zz 1)) 3 (zz 3))) cv_X5_best mk_L_63 rfl rfl rfl (ng := 7) rfl (by decide) (fun _ => rfl) (fun _ => rfl) (fun _ => rfl) rfl rfl rfl ⟨Nat.le_of_ble_eq_true rfl, Nat.le_of_ble_eq_true rfl⟩ (Nat.le_of_ble_eq_true rfl) ⟨by (try dsimp only); omega, by (try dsimp only); omega⟩ dL_arenas_362 rfl (fun ζ1 => ?_)
    refine w_istore_n X dL_arenas_365 (by decide) ?_
    refine w_iload_n X 3 rfl dL_arenas_366 ?_
    refine w_bf_eq X 426 dL_arenas_367 (by decide) (fun c367 => by exfalso; cases c367) (fun c367 => ?_)
    refine w_iload_n X 2 rfl dL_arenas_370 ?_
    refine w_aload_n X 1 rfl dL_arenas_371 ?_
    refine w_iconst X (nI 2) dL_arenas_372 (by decide +kernel) ?_
    refine w_meV X hA (U := (Nat → Nat → Nat → Int32)) (gr := [rtC g art (aliv 0) (asur 0) (ζ1 3), rcC g aliv (ζ1 0), rcC g asur (ζ1 1)]) (gs1 := fun ζ2 => [maC g am (ast 0) (art 0) (alas 0) (atx 0) (ahi 0), stC g ast σ, rtC g art (aliv 0) (asur 0) (ζ1 3), rcC g aliv (ζ1 0), rcC g asur (ζ1 1), rcC g alas (ζ2 2), hiC g ahi (fun i => had i 0) η]) [0, 1, 5, 6] [2, 3, 4] 0 0 (q_X5_count l g am ast art alas atx ahi had σ (rw2 ζ1 2 (zz 2)) η 2 (by omega)) cv_X5_count mk_L_57 rfl rfl rfl (ng := 7) rfl (by decide) (fun _ => rfl) (fun _ => rfl) (fun _ => rfl) rfl rfl rfl ⟨Nat.le_of_ble_eq_true rfl, Nat.le_of_ble_eq_true rfl⟩ (Nat.le_of_ble_eq_true rfl) ⟨by (try dsimp only); omega, by (try dsimp only); omega⟩ dL_arenas_373 rfl (fun ζ2 => ?_)
    refine w_ic_ne X 426 dL_arenas_376 (by decide) (fun c376 => by exfalso; exact c376 (fin_a he_a)) (fun c376 => ?_)
    refine w_iload_n X 0 rfl dL_arenas_379 ?_
    refine w_iconst X (-1) dL_arenas_380 (by decide +kernel) ?_
    refine w_ic_eq X 404 dL_arenas_381 (by decide) (fun c381 => ?_) (fun c381 => ?_)
    · refine w_aload_n X 1 rfl dL_arenas_404 ?_
      refine w_meV X hA (U := (Nat → Nat → Nat → Int32)) (gr := [rtC g art (aliv 0) (asur 0) (ζ1 3), rcC g aliv (ζ1 0), rcC g asur (ζ1 1), hiC g ahi (fun i => had i 0) η]) (gs1 := fun ζ3 => [maC g am (ast 0) (art 0) (alas 0) (atx 0) (ahi 0), stC g ast σ, rtC g art (aliv 0) (asur 0) (ζ1 3), rcC g aliv (ζ1 0), rcC g asur (ζ1 1), rcC g alas (ζ3 2), hiC g ahi (fun i => had i 0) η]) [0, 1, 5] [2, 3, 4, 6] 0 0 (m_X5_livingShare l g am ast art alas atx ahi σ ζ2 (share_nn (ri_ex hI))) cv_X5_livingShare mk_L_66 rfl rfl rfl (ng := 7) rfl (by decide) (fun _ => rfl) (fun _ => rfl) (fun _ => rfl) rfl rfl rfl ⟨Nat.le_of_ble_eq_true rfl, Nat.le_of_ble_eq_true rfl⟩ (Nat.le_of_ble_eq_true rfl) ⟨by (try dsimp only); omega, by (try dsimp only); omega⟩ dL_arenas_405 rfl (fun ζ3 => ?_)
      refine w_dconst0 X dL_arenas_408 ?_
      refine w_dcmp X dL_arenas_409 ?_
      refine w_if_lt X 426 dL_arenas_410 (by decide) (fun c410 => by exfalso; exact sB_ge (share_sB (ri_ex hI)) c410) (fun c410 => ?_)
      refine w_aload_n X 1 rfl dL_arenas_413 ?_
      refine w_meV X hA (U := (Nat → Nat → Nat → Int32)) (gr := [rtC g art (aliv 0) (asur 0) (ζ1 3), rcC g aliv (ζ1 0), rcC g asur (ζ1 1), hiC g ahi (fun i => had i 0) η]) (gs1 := fun ζ4 => [maC g am (ast 0) (art 0) (alas 0) (atx 0) (ahi 0), stC g ast σ, rtC g art (aliv 0) (asur 0) (ζ1 3), rcC g aliv (ζ1 0), rcC g asur (ζ1 1), rcC g alas (ζ4 2), hiC g ahi (fun i => had i 0) η]) [0, 1, 5] [2, 3, 4, 6] 0 0 (m_X5_livingShare l g am ast art alas atx ahi σ ζ3 (share_nn (ri_ex hI))) cv_X5_livingShare mk_L_66 rfl rfl rfl (ng := 7) rfl (by decide) (fun _ => rfl) (fun _ => rfl) (fun _ => rfl) rfl rfl rfl ⟨Nat.le_of_ble_eq_true rfl, Nat.le_of_ble_eq_true rfl⟩ (Nat.le_of_ble_eq_true rfl) ⟨by (try dsimp only); omega, by (try dsimp only); omega⟩ dL_arenas_414 rfl (fun ζ4 => ?_)
      refine w_dconst1 X dL_arenas_417 ?_
      refine w_dcmp X dL_arenas_418 ?_
      refine w_if_gt X 426 dL_arenas_419 (by decide) (fun c419 => by exfalso; exact sB_le (share_sB (ri_ex hI)) c419) (fun c419 => ?_)
      refine w_iconst X (nI 1) dL_arenas_422 (by decide +kernel) ?_
      refine w_goto X 427 dL_arenas_423 (by decide) ?_
      exact w_zret_me X (rw2 ζ1 2 (ζ4 2)) (rfl) (rfl) (by (try dsimp only); omega) (by (try dsimp only); omega) (rfl) dL_arenas_427
    · obtain ⟨b, hb, eb, b0, b6⟩ := (bst (σ := σ) 6 (by decide)).resolve_left c381
      rw [eb]
      refine w_aload_n X 1 rfl dL_arenas_384 ?_
      refine w_iload_n X 0 rfl dL_arenas_385 ?_
      refine w_iconst X (nI 0) dL_arenas_386 (by decide +kernel) ?_
      refine w_meV X hA (U := (Nat → Nat → Nat → Int32)) (gr := [hiC g ahi (fun i => had i 0) η]) (gs1 := fun ζ5 => [maC g am (ast 0) (art 0) (alas 0) (atx 0) (ahi 0), stC g ast σ, rtC g art (aliv 0) (asur 0) (ζ5 3), rcC g aliv (ζ5 0), rcC g asur (ζ5 1), rcC g alas (ζ5 2), hiC g ahi (fun i => had i 0) η]) [0, 1, 2, 3, 4, 5] [6] 0 0 (q_X5_arena l g am ast art aliv asur alas atx ahi σ (rw2 ζ1 2 (ζ2 2)) b 0 (hb) (by omega)) cv_X5_arena mk_L_47 rfl rfl rfl (ng := 7) rfl (by decide) (fun _ => rfl) (fun _ => rfl) (fun _ => rfl) rfl rfl rfl ⟨Nat.le_of_ble_eq_true rfl, Nat.le_of_ble_eq_true rfl⟩ (Nat.le_of_ble_eq_true rfl) ⟨by (try dsimp only); omega, by (try dsimp only); omega⟩ dL_arenas_387 rfl (fun ζ5 => ?_)
      refine w_iconst X (nI 1) dL_arenas_390 (by decide +kernel) ?_
      refine w_ic_ne X 426 dL_arenas_391 (by decide) (fun c391 => by exfalso; exact c391 b0) (fun c391 => ?_)
      refine w_aload_n X 1 rfl dL_arenas_394 ?_
      refine w_iload_n X 0 rfl dL_arenas_395 ?_
      refine w_bipush X (nI 6) dL_arenas_396 (by decide +kernel) ?_
      refine w_meV X hA (U := (Nat → Nat → Nat → Int32)) (gr := [hiC g ahi (fun i => had i 0) η]) (gs1 := fun ζ6 => [maC g am (ast 0) (art 0) (alas 0) (atx 0) (ahi 0), stC g ast σ, rtC g art (aliv 0) (asur 0) (ζ6 3), rcC g aliv (ζ6 0), rcC g asur (ζ6 1), rcC g alas (ζ6 2), hiC g ahi (fun i => had i 0) η]) [0, 1, 2, 3, 4, 5] [6] 0 0 (q_X5_arena l g am ast art aliv asur alas atx ahi σ ζ5 b 6 (hb) (by omega)) cv_X5_arena mk_L_47 rfl rfl rfl (ng := 7) rfl (by decide) (fun _ => rfl) (fun _ => rfl) (fun _ => rfl) rfl rfl rfl ⟨Nat.le_of_ble_eq_true rfl, Nat.le_of_ble_eq_true rfl⟩ (Nat.le_of_ble_eq_true rfl) ⟨by (try dsimp only); omega, by (try dsimp only); omega⟩ dL_arenas_398 rfl (fun ζ6 => ?_)
      refine w_if_ne X 426 dL_arenas_401 (by decide) (fun c401 => by exfalso; exact c401 (b6.trans nI_0)) (fun c401 => ?_)
      refine w_aload_n X 1 rfl dL_arenas_404 ?_
      refine w_meV X hA (U := (Nat → Nat → Nat → Int32)) (gr := [rtC g art (aliv 0) (asur 0) (ζ6 3), rcC g aliv (ζ6 0), rcC g asur (ζ6 1), hiC g ahi (fun i => had i 0) η]) (gs1 := fun ζ7 => [maC g am (ast 0) (art 0) (alas 0) (atx 0) (ahi 0), stC g ast σ, rtC g art (aliv 0) (asur 0) (ζ6 3), rcC g aliv (ζ6 0), rcC g asur (ζ6 1), rcC g alas (ζ7 2), hiC g ahi (fun i => had i 0) η]) [0, 1, 5] [2, 3, 4, 6] 0 0 (m_X5_livingShare l g am ast art alas atx ahi σ ζ6 (share_nn (ri_ex hI))) cv_X5_livingShare mk_L_66 rfl rfl rfl (ng := 7) rfl (by decide) (fun _ => rfl) (fun _ => rfl) (fun _ => rfl) rfl rfl rfl ⟨Nat.le_of_ble_eq_true rfl, Nat.le_of_ble_eq_true rfl⟩ (Nat.le_of_ble_eq_true rfl) ⟨by (try dsimp only); omega, by (try dsimp only); omega⟩ dL_arenas_405 rfl (fun ζ7 => ?_)
      refine w_dconst0 X dL_arenas_408 ?_
      refine w_dcmp X dL_arenas_409 ?_
      refine w_if_lt X 426 dL_arenas_410 (by decide) (fun c410 => by exfalso; exact sB_ge (share_sB (ri_ex hI)) c410) (fun c410 => ?_)
      refine w_aload_n X 1 rfl dL_arenas_413 ?_
      refine w_meV X hA (U := (Nat → Nat → Nat → Int32)) (gr := [rtC g art (aliv 0) (asur 0) (ζ6 3), rcC g aliv (ζ6 0), rcC g asur (ζ6 1), hiC g ahi (fun i => had i 0) η]) (gs1 := fun ζ8 => [maC g am (ast 0) (art 0) (alas 0) (atx 0) (ahi 0), stC g ast σ, rtC g art (aliv 0) (asur 0) (ζ6 3), rcC g aliv (ζ6 0), rcC g asur (ζ6 1), rcC g alas (ζ8 2), hiC g ahi (fun i => had i 0) η]) [0, 1, 5] [2, 3, 4, 6] 0 0 (m_X5_livingShare l g am ast art alas atx ahi σ ζ7 (share_nn (ri_ex hI))) cv_X5_livingShare mk_L_66 rfl rfl rfl (ng := 7) rfl (by decide) (fun _ => rfl) (fun _ => rfl) (fun _ => rfl) rfl rfl rfl ⟨Nat.le_of_ble_eq_true rfl, Nat.le_of_ble_eq_true rfl⟩ (Nat.le_of_ble_eq_true rfl) ⟨by (try dsimp only); omega, by (try dsimp only); omega⟩ dL_arenas_414 rfl (fun ζ8 => ?_)
      refine w_dconst1 X dL_arenas_417 ?_
      refine w_dcmp X dL_arenas_418 ?_
      refine w_if_gt X 426 dL_arenas_419 (by decide) (fun c419 => by exfalso; exact sB_le (share_sB (ri_ex hI)) c419) (fun c419 => ?_)
      refine w_iconst X (nI 1) dL_arenas_422 (by decide +kernel) ?_
      refine w_goto X 427 dL_arenas_423 (by decide) ?_
      exact w_zret_me X (rw2 ζ6 2 (ζ8 2)) (rfl) (rfl) (by (try dsimp only); omega) (by (try dsimp only); omega) (rfl) dL_arenas_427
  · have haa : a < 6 := by omega
    refine w_iload_n X 2 rfl dL_arenas_12 ?_
    refine w_bf_eq X 361 dL_arenas_13 (by decide) (fun c13 => by exfalso; cases c13) (fun c13 => ?_)
    refine w_iconst X (nI 0) dL_arenas_16 (by decide +kernel) ?_
    refine w_istore X dL_arenas_17 (by decide) ?_
    refine w_iconst X (nI 0) dL_arenas_19 (by decide +kernel) ?_
    refine w_istore X dL_arenas_20 (by decide) ?_
    refine w_iconst X (nI 0) dL_arenas_22 (by decide +kernel) ?_
    refine w_istore X dL_arenas_23 (by decide) ?_
    refine w_iconst X (nI 0) dL_arenas_25 (by decide +kernel) ?_
    refine w_istore X dL_arenas_26 (by decide) ?_
    refine w_iconst X (nI 0) dL_arenas_28 (by decide +kernel) ?_
    refine w_istore X dL_arenas_29 (by decide) ?_
    refine w_iconst X (nI 0) dL_arenas_31 (by decide +kernel) ?_
    refine w_istore X dL_arenas_32 (by decide) ?_
    refine w_widen (k := 48 * a + 2 * 0) (n := 288 * a + 12 * 0) (by omega) (by omega) ?_
    refine w_all [6, 7, 8, 9, 5, 4, 3, 2, 1, 0] (rfl) (rfl) rfl (w_loopK (st := []) (pc := 34) X (V := Nat × (Nat → Nat → Nat → Int32)) (fun (v34 : Nat × (Nat → Nat → Nat → Int32)) => 24 - v34.1) (fun (v34 : Nat × (Nat → Nat → Nat → Int32)) => (v34.1 ≤ 24)) (fun (v34 : Nat × (Nat → Nat → Nat → Int32)) => 48 * a + 2 * v34.1) (fun (v34 : Nat × (Nat → Nat → Nat → Int32)) => 288 * a + 12 * v34.1) (fun (v34 : Nat × (Nat → Nat → Nat → Int32)) => [(0, .ref (am 0)), (1, .int (nI (cn (fun o => nz (σ 8 o)) a))), (2, .int (bI (true))), (3, .int (nI a)), (4, .int (nI (szS σ a v34.1))), (5, .int (nI (cn (fun o => isInB σ (nI o) (nI a)) v34.1))), (6, .int (cellsL σ (suC σ (nI a)) v34.1)), (7, .int (cntI (pnP σ a) v34.1)), (8, .int (bI (anyB (kpP σ (nI a)) v34.1))), (9, .int (nI v34.1))]) (fun (v34 : Nat × (Nat → Nat → Nat → Int32)) => [maC g am (ast 0) (art 0) (alas 0) (atx 0) (ahi 0), stC g ast σ, rtC g art (aliv 0) (asur 0) (v34.2 3), rcC g aliv (v34.2 0), rcC g asur (v34.2 1), rcC g alas (v34.2 2), hiC g ahi (fun i => had i 0) η]) (fun v34 hv34 ih34 => ?_) (0, rw2 (rw2 (rw2 (rw2 ζ 0 (zz 0)) 1 (zz 1)) 2 (zz 2)) 3 (zz 3)) (by omega))
    obtain ⟨k, yy⟩ := v34
    have hk := hv34
    try dsimp only at hk ih34 ⊢
    refine w_iload X 9 rfl dL_arenas_34 ?_
    refine w_bipush X (nI 24) dL_arenas_36 (by decide +kernel) ?_
    refine w_nc_ge X (by omega) (by omega) 150 dL_arenas_38 (by decide) (fun c38 => ?_) (fun c38 => ?_)
    · have he_k : k = 24 := by omega
      refine w_iconst X (nI 0) dL_arenas_150 (by decide +kernel) ?_
      refine w_istore X dL_arenas_151 (by decide) ?_
      refine w_iconst X (nI 0) dL_arenas_153 (by decide +kernel) ?_
      refine w_istore X dL_arenas_154 (by decide) ?_
      refine w_all [2, 3, 4, 5, 6, 7, 8, 9, 10, 1, 0] (rfl) (rfl) rfl (w_loop (st := []) (pc := 156) X (V := Nat) (fun (q_ : Nat) => 64 - q_) (fun (q_ : Nat) => (q_ ≤ 64)) (fun (q_ : Nat) => [(0, .ref (am 0)), (1, .int (nI (cn (fun o => nz (σ 8 o)) a))), (2, .int (bI (true))), (3, .int (nI a)), (4, .int (nI (szS σ a k))), (5, .int (nI (cn (fun o => isInB σ (nI o) (nI a)) k))), (6, .int (cellsL σ (suC σ (nI a)) k)), (7, .int (cntI (pnP σ a) k)), (8, .int (bI (anyB (kpP σ (nI a)) k))), (9, .int (nI (cn (atB σ a) q_))), (10, .int (nI q_))]) (fun (q_ : Nat) => [maC g am (ast 0) (art 0) (alas 0) (atx 0) (ahi 0), stC g ast σ, rtC g art (aliv 0) (asur 0) (yy 3), rcC g aliv (yy 0), rcC g asur (yy 1), rcC g alas (yy 2), hiC g ahi (fun i => had i 0) η]) (fun q_ hv156 ih156 => ?_) 0 (by omega))
      have hq := hv156
      try dsimp only at ih156 ⊢
      refine w_iload X 10 rfl dL_arenas_156 ?_
      refine w_bipush X (nI 64) dL_arenas_158 (by decide +kernel) ?_
      refine w_nc_ge X (by omega) (by omega) 190 dL_arenas_160 (by decide) (fun c160 => ?_) (fun c160 => ?_)
      · have he_q_ : q_ = 64 := by omega
        refine w_iload X 9 rfl dL_arenas_190 ?_
        refine w_iload X 4 rfl dL_arenas_192 ?_
        refine w_nc_ne X (by have := cn_le (atB σ a) q_; omega) (szS_bd hI (by omega)) 283 dL_arenas_194 (by decide) (fun c194 => by exfalso; exact c194 (cells_eq hJ haa he_q_ he_k)) (fun c194 => ?_)
        refine w_aload_n X 0 rfl dL_arenas_197 ?_
        refine w_iload_n X 3 rfl dL_arenas_198 ?_
        refine w_iconst X (nI 2) dL_arenas_199 (by decide +kernel) ?_
        refine w_meV X hA (U := (Nat → Nat → Nat → Int32)) (gr := [hiC g ahi (fun i => had i 0) η]) (gs1 := fun ζ9 => [maC g am (ast 0) (art 0) (alas 0) (atx 0) (ahi 0), stC g ast σ, rtC g art (aliv 0) (asur 0) (ζ9 3), rcC g aliv (ζ9 0), rcC g asur (ζ9 1), rcC g alas (ζ9 2), hiC g ahi (fun i => had i 0) η]) [0, 1, 2, 3, 4, 5] [6] 0 0 (q_X5_arena l g am ast art aliv asur alas atx ahi σ (rw2 (rw2 (rw2 (rw2 ζ 0 (yy 0)) 1 (yy 1)) 2 (yy 2)) 3 (yy 3)) a 2 (haa) (by omega)) cv_X5_arena mk_L_47 rfl rfl rfl (ng := 7) rfl (by decide) (fun _ => rfl) (fun _ => rfl) (fun _ => rfl) rfl rfl rfl ⟨Nat.le_of_ble_eq_true rfl, Nat.le_of_ble_eq_true rfl⟩ (Nat.le_of_ble_eq_true rfl) ⟨by (try dsimp only); omega, by (try dsimp only); omega⟩ dL_arenas_200 rfl (fun ζ9 => ?_)
        refine w_iload X 5 rfl dL_arenas_203 ?_
        refine w_ic_ne X 283 dL_arenas_205 (by decide) (fun c205 => by exfalso; exact c205 (fa_2 he_k)) (fun c205 => ?_)
        refine w_aload_n X 0 rfl dL_arenas_208 ?_
        refine w_iload_n X 3 rfl dL_arenas_209 ?_
        refine w_iconst X (nI 3) dL_arenas_210 (by decide +kernel) ?_
        refine w_meV X hA (U := (Nat → Nat → Nat → Int32)) (gr := [hiC g ahi (fun i => had i 0) η]) (gs1 := fun ζ10 => [maC g am (ast 0) (art 0) (alas 0) (atx 0) (ahi 0), stC g ast σ, rtC g art (aliv 0) (asur 0) (ζ10 3), rcC g aliv (ζ10 0), rcC g asur (ζ10 1), rcC g alas (ζ10 2), hiC g ahi (fun i => had i 0) η]) [0, 1, 2, 3, 4, 5] [6] 0 0 (q_X5_arena l g am ast art aliv asur alas atx ahi σ ζ9 a 3 (haa) (by omega)) cv_X5_arena mk_L_47 rfl rfl rfl (ng := 7) rfl (by decide) (fun _ => rfl) (fun _ => rfl) (fun _ => rfl) rfl rfl rfl ⟨Nat.le_of_ble_eq_true rfl, Nat.le_of_ble_eq_true rfl⟩ (Nat.le_of_ble_eq_true rfl) ⟨by (try dsimp only); omega, by (try dsimp only); omega⟩ dL_arenas_211 rfl (fun ζ10 => ?_)
        refine w_iload X 6 rfl dL_arenas_214 ?_
        refine w_ic_ne X 283 dL_arenas_216 (by decide) (fun c216 => by exfalso; exact c216 (fa_3 he_k)) (fun c216 => ?_)
        refine w_aload_n X 0 rfl dL_arenas_219 ?_
        refine w_iload_n X 3 rfl dL_arenas_220 ?_
        refine w_iconst X (nI 4) dL_arenas_221 (by decide +kernel) ?_
        refine w_meV X hA (U := (Nat → Nat → Nat → Int32)) (gr := [hiC g ahi (fun i => had i 0) η]) (gs1 := fun ζ11 => [maC g am (ast 0) (art 0) (alas 0) (atx 0) (ahi 0), stC g ast σ, rtC g art (aliv 0) (asur 0) (ζ11 3), rcC g aliv (ζ11 0), rcC g asur (ζ11 1), rcC g alas (ζ11 2), hiC g ahi (fun i => had i 0) η]) [0, 1, 2, 3, 4, 5] [6] 0 0 (q_X5_arena l g am ast art aliv asur alas atx ahi σ ζ10 a 4 (haa) (by omega)) cv_X5_arena mk_L_47 rfl rfl rfl (ng := 7) rfl (by decide) (fun _ => rfl) (fun _ => rfl) (fun _ => rfl) rfl rfl rfl ⟨Nat.le_of_ble_eq_true rfl, Nat.le_of_ble_eq_true rfl⟩ (Nat.le_of_ble_eq_true rfl) ⟨by (try dsimp only); omega, by (try dsimp only); omega⟩ dL_arenas_222 rfl (fun ζ11 => ?_)
        refine w_aload_n X 0 rfl dL_arenas_225 ?_
        refine w_iload_n X 3 rfl dL_arenas_226 ?_
        refine w_iconst X (nI 1) dL_arenas_227 (by decide +kernel) ?_
        refine w_meV X hA (U := (Nat → Nat → Nat → Int32)) (gr := [hiC g ahi (fun i => had i 0) η]) (gs1 := fun ζ12 => [maC g am (ast 0) (art 0) (alas 0) (atx 0) (ahi 0), stC g ast σ, rtC g art (aliv 0) (asur 0) (ζ12 3), rcC g aliv (ζ12 0), rcC g asur (ζ12 1), rcC g alas (ζ12 2), hiC g ahi (fun i => had i 0) η]) [0, 1, 2, 3, 4, 5] [6] 0 0 (q_X5_arena l g am ast art aliv asur alas atx ahi σ ζ11 a 1 (haa) (by omega)) cv_X5_arena mk_L_47 rfl rfl rfl (ng := 7) rfl (by decide) (fun _ => rfl) (fun _ => rfl) (fun _ => rfl) rfl rfl rfl ⟨Nat.le_of_ble_eq_true rfl, Nat.le_of_ble_eq_true rfl⟩ (Nat.le_of_ble_eq_true rfl) ⟨by (try dsimp only); omega, by (try dsimp only); omega⟩ dL_arenas_228 rfl (fun ζ12 => ?_)
        refine w_iload X 6 rfl dL_arenas_231 ?_
        refine w_isub X dL_arenas_233 ?_
        refine w_ic_ne X 283 dL_arenas_234 (by decide) (fun c234 => by exfalso; exact c234 (fa_4 haa he_k)) (fun c234 => ?_)
        refine w_aload_n X 0 rfl dL_arenas_237 ?_
        refine w_iload_n X 3 rfl dL_arenas_238 ?_
        refine w_iconst X (nI 1) dL_arenas_239 (by decide +kernel) ?_
        refine w_meV X hA (U := (Nat → Nat → Nat → Int32)) (gr := [hiC g ahi (fun i => had i 0) η]) (gs1 := fun ζ13 => [maC g am (ast 0) (art 0) (alas 0) (atx 0) (ahi 0), stC g ast σ, rtC g art (aliv 0) (asur 0) (ζ13 3), rcC g aliv (ζ13 0), rcC g asur (ζ13 1), rcC g alas (ζ13 2), hiC g ahi (fun i => had i 0) η]) [0, 1, 2, 3, 4, 5] [6] 0 0 (q_X5_arena l g am ast art aliv asur alas atx ahi σ ζ12 a 1 (haa) (by omega)) cv_X5_arena mk_L_47 rfl rfl rfl (ng := 7) rfl (by decide) (fun _ => rfl) (fun _ => rfl) (fun _ => rfl) rfl rfl rfl ⟨Nat.le_of_ble_eq_true rfl, Nat.le_of_ble_eq_true rfl⟩ (Nat.le_of_ble_eq_true rfl) ⟨by (try dsimp only); omega, by (try dsimp only); omega⟩ dL_arenas_240 rfl (fun ζ13 => ?_)
        refine w_iload X 4 rfl dL_arenas_243 ?_
        refine w_ic_ne X 283 dL_arenas_245 (by decide) (fun c245 => by exfalso; exact c245 (fa_1 hJ haa he_k)) (fun c245 => ?_)
        refine w_aload_n X 0 rfl dL_arenas_248 ?_
        refine w_iload_n X 3 rfl dL_arenas_249 ?_
        refine w_iconst X (nI 5) dL_arenas_250 (by decide +kernel) ?_
        refine w_meV X hA (U := (Nat → Nat → Nat → Int32)) (gr := [hiC g ahi (fun i => had i 0) η]) (gs1 := fun ζ14 => [maC g am (ast 0) (art 0) (alas 0) (atx 0) (ahi 0), stC g ast σ, rtC g art (aliv 0) (asur 0) (ζ14 3), rcC g aliv (ζ14 0), rcC g asur (ζ14 1), rcC g alas (ζ14 2), hiC g ahi (fun i => had i 0) η]) [0, 1, 2, 3, 4, 5] [6] 0 0 (q_X5_arena l g am ast art aliv asur alas atx ahi σ ζ13 a 5 (haa) (by omega)) cv_X5_arena mk_L_47 rfl rfl rfl (ng := 7) rfl (by decide) (fun _ => rfl) (fun _ => rfl) (fun _ => rfl) rfl rfl rfl ⟨Nat.le_of_ble_eq_true rfl, Nat.le_of_ble_eq_true rfl⟩ (Nat.le_of_ble_eq_true rfl) ⟨by (try dsimp only); omega, by (try dsimp only); omega⟩ dL_arenas_251 rfl (fun ζ14 => ?_)
        refine w_iload X 7 rfl dL_arenas_254 ?_
        refine w_ic_ne X 283 dL_arenas_256 (by decide) (fun c256 => by exfalso; exact c256 (fa_5 he_k)) (fun c256 => ?_)
        refine w_aload_n X 0 rfl dL_arenas_259 ?_
        refine w_iload_n X 3 rfl dL_arenas_260 ?_
        refine w_bipush X (nI 6) dL_arenas_261 (by decide +kernel) ?_
        refine w_meV X hA (U := (Nat → Nat → Nat → Int32)) (gr := [hiC g ahi (fun i => had i 0) η]) (gs1 := fun ζ15 => [maC g am (ast 0) (art 0) (alas 0) (atx 0) (ahi 0), stC g ast σ, rtC g art (aliv 0) (asur 0) (ζ15 3), rcC g aliv (ζ15 0), rcC g asur (ζ15 1), rcC g alas (ζ15 2), hiC g ahi (fun i => had i 0) η]) [0, 1, 2, 3, 4, 5] [6] 0 0 (q_X5_arena l g am ast art aliv asur alas atx ahi σ ζ14 a 6 (haa) (by omega)) cv_X5_arena mk_L_47 rfl rfl rfl (ng := 7) rfl (by decide) (fun _ => rfl) (fun _ => rfl) (fun _ => rfl) rfl rfl rfl ⟨Nat.le_of_ble_eq_true rfl, Nat.le_of_ble_eq_true rfl⟩ (Nat.le_of_ble_eq_true rfl) ⟨by (try dsimp only); omega, by (try dsimp only); omega⟩ dL_arenas_263 rfl (fun ζ15 => ?_)
        refine w_iload X 8 rfl dL_arenas_266 ?_
        refine w_bf_eq X 275 dL_arenas_268 (by decide) (fun c268 => ?_) (fun c268 => ?_)
        · refine w_iconst X (nI 0) dL_arenas_275 (by decide +kernel) ?_
          refine w_ic_ne X 283 dL_arenas_276 (by decide) (fun c276 => by exfalso; exact c276 (by rw [fa_6 he_k, c268]; rfl)) (fun c276 => ?_)
          refine w_iconst X (nI 1) dL_arenas_279 (by decide +kernel) ?_
          refine w_goto X 284 dL_arenas_280 (by decide) ?_
          refine w_istore_n X dL_arenas_284 (by decide) ?_
          refine w_iload_n X 0 rfl dL_arenas_285 ?_
          refine w_nf_eq X (by omega) 344 dL_arenas_286 (by decide) (fun c286 => by exfalso; omega) (fun c286 => ?_)
          refine w_aload_n X 1 rfl dL_arenas_289 ?_
          refine w_iload_n X 3 rfl dL_arenas_290 ?_
          refine w_iconst X (nI 0) dL_arenas_291 (by decide +kernel) ?_
          refine w_meV X hA (U := (Nat → Nat → Nat → Int32)) (gr := [hiC g ahi (fun i => had i 0) η]) (gs1 := fun ζ16 => [maC g am (ast 0) (art 0) (alas 0) (atx 0) (ahi 0), stC g ast σ, rtC g art (aliv 0) (asur 0) (ζ16 3), rcC g aliv (ζ16 0), rcC g asur (ζ16 1), rcC g alas (ζ16 2), hiC g ahi (fun i => had i 0) η]) [0, 1, 2, 3, 4, 5] [6] 0 0 (q_X5_arena l g am ast art aliv asur alas atx ahi σ ζ15 a 0 (haa) (by omega)) cv_X5_arena mk_L_47 rfl rfl rfl (ng := 7) rfl (by decide) (fun _ => rfl) (fun _ => rfl) (fun _ => rfl) rfl rfl rfl ⟨Nat.le_of_ble_eq_true rfl, Nat.le_of_ble_eq_true rfl⟩ (Nat.le_of_ble_eq_true rfl) ⟨by (try dsimp only); omega, by (try dsimp only); omega⟩ dL_arenas_292 rfl (fun ζ16 => ?_)
          refine w_iconst X (nI 1) dL_arenas_295 (by decide +kernel) ?_
          refine w_ic_eq X 313 dL_arenas_296 (by decide) (fun c296 => ?_) (fun c296 => ?_)
          · refine w_aload_n X 1 rfl dL_arenas_313 ?_
            refine w_iload_n X 3 rfl dL_arenas_314 ?_
            refine w_iconst X (nI 1) dL_arenas_315 (by decide +kernel) ?_
            refine w_meV X hA (U := (Nat → Nat → Nat → Int32)) (gr := [hiC g ahi (fun i => had i 0) η]) (gs1 := fun ζ17 => [maC g am (ast 0) (art 0) (alas 0) (atx 0) (ahi 0), stC g ast σ, rtC g art (aliv 0) (asur 0) (ζ17 3), rcC g aliv (ζ17 0), rcC g asur (ζ17 1), rcC g alas (ζ17 2), hiC g ahi (fun i => had i 0) η]) [0, 1, 2, 3, 4, 5] [6] 0 0 (q_X5_arena l g am ast art aliv asur alas atx ahi σ ζ16 a 1 (haa) (by omega)) cv_X5_arena mk_L_47 rfl rfl rfl (ng := 7) rfl (by decide) (fun _ => rfl) (fun _ => rfl) (fun _ => rfl) rfl rfl rfl ⟨Nat.le_of_ble_eq_true rfl, Nat.le_of_ble_eq_true rfl⟩ (Nat.le_of_ble_eq_true rfl) ⟨by (try dsimp only); omega, by (try dsimp only); omega⟩ dL_arenas_316 rfl (fun ζ17 => ?_)
            refine w_bipush X (nI 64) dL_arenas_319 (by decide +kernel) ?_
            refine w_ic_gt X 344 dL_arenas_321 (by decide) (fun c321 => by exfalso; exact ar_le' hI haa c321) (fun c321 => ?_)
            refine w_aload_n X 1 rfl dL_arenas_324 ?_
            refine w_iload_n X 3 rfl dL_arenas_325 ?_
            refine w_bipush X (nI 7) dL_arenas_326 (by decide +kernel) ?_
            refine w_meV X hA (U := (Nat → Nat → Nat → Int32)) (gr := [hiC g ahi (fun i => had i 0) η]) (gs1 := fun ζ18 => [maC g am (ast 0) (art 0) (alas 0) (atx 0) (ahi 0), stC g ast σ, rtC g art (aliv 0) (asur 0) (ζ18 3), rcC g aliv (ζ18 0), rcC g asur (ζ18 1), rcC g alas (ζ18 2), hiC g ahi (fun i => had i 0) η]) [0, 1, 2, 3, 4, 5] [6] 0 0 (q_X5_arena l g am ast art aliv asur alas atx ahi σ ζ17 a 7 (haa) (by omega)) cv_X5_arena mk_L_47 rfl rfl rfl (ng := 7) rfl (by decide) (fun _ => rfl) (fun _ => rfl) (fun _ => rfl) rfl rfl rfl ⟨Nat.le_of_ble_eq_true rfl, Nat.le_of_ble_eq_true rfl⟩ (Nat.le_of_ble_eq_true rfl) ⟨by (try dsimp only); omega, by (try dsimp only); omega⟩ dL_arenas_328 rfl (fun ζ18 => ?_)
            refine w_aload_n X 1 rfl dL_arenas_331 ?_
            refine w_iload_n X 3 rfl dL_arenas_332 ?_
            refine w_iconst X (nI 0) dL_arenas_333 (by decide +kernel) ?_
            refine w_meV X hA (U := (Nat → Nat → Nat → Int32)) (gr := [hiC g ahi (fun i => had i 0) η]) (gs1 := fun ζ19 => [maC g am (ast 0) (art 0) (alas 0) (atx 0) (ahi 0), stC g ast σ, rtC g art (aliv 0) (asur 0) (ζ19 3), rcC g aliv (ζ19 0), rcC g asur (ζ19 1), rcC g alas (ζ19 2), hiC g ahi (fun i => had i 0) η]) [0, 1, 2, 3, 4, 5] [6] 0 0 (q_X5_arena l g am ast art aliv asur alas atx ahi σ ζ18 a 0 (haa) (by omega)) cv_X5_arena mk_L_47 rfl rfl rfl (ng := 7) rfl (by decide) (fun _ => rfl) (fun _ => rfl) (fun _ => rfl) rfl rfl rfl ⟨Nat.le_of_ble_eq_true rfl, Nat.le_of_ble_eq_true rfl⟩ (Nat.le_of_ble_eq_true rfl) ⟨by (try dsimp only); omega, by (try dsimp only); omega⟩ dL_arenas_334 rfl (fun ζ19 => ?_)
            refine w_ic_lt X 344 dL_arenas_337 (by decide) (fun c337 => by exfalso; exact ar_op hJ hB haa c337) (fun c337 => ?_)
            refine w_iconst X (nI 1) dL_arenas_340 (by decide +kernel) ?_
            refine w_goto X 345 dL_arenas_341 (by decide) ?_
            refine w_istore_n X dL_arenas_345 (by decide) ?_
            refine w_iload_n X 2 rfl dL_arenas_346 ?_
            refine w_aload_n X 1 rfl dL_arenas_347 ?_
            refine w_iload_n X 3 rfl dL_arenas_348 ?_
            refine w_iconst X (nI 0) dL_arenas_349 (by decide +kernel) ?_
            refine w_meV X hA (U := (Nat → Nat → Nat → Int32)) (gr := [hiC g ahi (fun i => had i 0) η]) (gs1 := fun ζ20 => [maC g am (ast 0) (art 0) (alas 0) (atx 0) (ahi 0), stC g ast σ, rtC g art (aliv 0) (asur 0) (ζ20 3), rcC g aliv (ζ20 0), rcC g asur (ζ20 1), rcC g alas (ζ20 2), hiC g ahi (fun i => had i 0) η]) [0, 1, 2, 3, 4, 5] [6] 0 0 (q_X5_arena l g am ast art aliv asur alas atx ahi σ ζ19 a 0 (haa) (by omega)) cv_X5_arena mk_L_47 rfl rfl rfl (ng := 7) rfl (by decide) (fun _ => rfl) (fun _ => rfl) (fun _ => rfl) rfl rfl rfl ⟨Nat.le_of_ble_eq_true rfl, Nat.le_of_ble_eq_true rfl⟩ (Nat.le_of_ble_eq_true rfl) ⟨by (try dsimp only); omega, by (try dsimp only); omega⟩ dL_arenas_350 rfl (fun ζ20 => ?_)
            refine w_iadd X dL_arenas_353 ?_
            refine w_istore_n X dL_arenas_354 (by decide) ?_
            refine w_iinc X (nI (a + 1)) 3 rfl (nI_1 _) dL_arenas_355 (by decide) ?_
            refine w_goto X 6 dL_arenas_358 (by decide) ?_
            have e3_1 : (nI (cn (fun o => nz (σ 8 o)) a) + (apC σ a 0)) = nI (cn (fun o => nz (σ 8 o)) (a + 1)) := by exact op_b haa
            refine w_widen (k := 48 * (a + 1)) (n := 288 * (a + 1)) (by omega) (by omega) ?_
            exact w_all [3, 1, 2, 0] (rfl) (rfl) (by rw [← e3_1]; rfl) (ih6 (a + 1, ζ20) (by omega) (by omega))
          · refine w_aload_n X 1 rfl dL_arenas_299 ?_
            refine w_iload_n X 3 rfl dL_arenas_300 ?_
            refine w_iconst X (nI 1) dL_arenas_301 (by decide +kernel) ?_
            refine w_meV X hA (U := (Nat → Nat → Nat → Int32)) (gr := [hiC g ahi (fun i => had i 0) η]) (gs1 := fun ζ21 => [maC g am (ast 0) (art 0) (alas 0) (atx 0) (ahi 0), stC g ast σ, rtC g art (aliv 0) (asur 0) (ζ21 3), rcC g aliv (ζ21 0), rcC g asur (ζ21 1), rcC g alas (ζ21 2), hiC g ahi (fun i => had i 0) η]) [0, 1, 2, 3, 4, 5] [6] 0 0 (q_X5_arena l g am ast art aliv asur alas atx ahi σ ζ16 a 1 (haa) (by omega)) cv_X5_arena mk_L_47 rfl rfl rfl (ng := 7) rfl (by decide) (fun _ => rfl) (fun _ => rfl) (fun _ => rfl) rfl rfl rfl ⟨Nat.le_of_ble_eq_true rfl, Nat.le_of_ble_eq_true rfl⟩ (Nat.le_of_ble_eq_true rfl) ⟨by (try dsimp only); omega, by (try dsimp only); omega⟩ dL_arenas_302 rfl (fun ζ21 => ?_)
            refine w_if_ne X 344 dL_arenas_305 (by decide) (fun c305 => by exfalso; exact c305 (ar_shut hJ haa rfl c296).1) (fun c305 => ?_)
            refine w_iload X 5 rfl dL_arenas_308 ?_
            refine w_nf_ne X (by have := cn_le (fun o => isInB σ (nI o) (nI a)) k; omega) 344 dL_arenas_310 (by decide) (fun c310 => by exfalso; exact c310 (by rw [he_k]; exact (ar_shut hJ haa rfl c296).2)) (fun c310 => ?_)
            refine w_aload_n X 1 rfl dL_arenas_313 ?_
            refine w_iload_n X 3 rfl dL_arenas_314 ?_
            refine w_iconst X (nI 1) dL_arenas_315 (by decide +kernel) ?_
            refine w_meV X hA (U := (Nat → Nat → Nat → Int32)) (gr := [hiC g ahi (fun i => had i 0) η]) (gs1 := fun ζ22 => [maC g am (ast 0) (art 0) (alas 0) (atx 0) (ahi 0), stC g ast σ, rtC g art (aliv 0) (asur 0) (ζ22 3), rcC g aliv (ζ22 0), rcC g asur (ζ22 1), rcC g alas (ζ22 2), hiC g ahi (fun i => had i 0) η]) [0, 1, 2, 3, 4, 5] [6] 0 0 (q_X5_arena l g am ast art aliv asur alas atx ahi σ ζ21 a 1 (haa) (by omega)) cv_X5_arena mk_L_47 rfl rfl rfl (ng := 7) rfl (by decide) (fun _ => rfl) (fun _ => rfl) (fun _ => rfl) rfl rfl rfl ⟨Nat.le_of_ble_eq_true rfl, Nat.le_of_ble_eq_true rfl⟩ (Nat.le_of_ble_eq_true rfl) ⟨by (try dsimp only); omega, by (try dsimp only); omega⟩ dL_arenas_316 rfl (fun ζ22 => ?_)
            refine w_bipush X (nI 64) dL_arenas_319 (by decide +kernel) ?_
            refine w_ic_gt X 344 dL_arenas_321 (by decide) (fun c321 => by exfalso; exact ar_le' hI haa c321) (fun c321 => ?_)
            refine w_aload_n X 1 rfl dL_arenas_324 ?_
            refine w_iload_n X 3 rfl dL_arenas_325 ?_
            refine w_bipush X (nI 7) dL_arenas_326 (by decide +kernel) ?_
            refine w_meV X hA (U := (Nat → Nat → Nat → Int32)) (gr := [hiC g ahi (fun i => had i 0) η]) (gs1 := fun ζ23 => [maC g am (ast 0) (art 0) (alas 0) (atx 0) (ahi 0), stC g ast σ, rtC g art (aliv 0) (asur 0) (ζ23 3), rcC g aliv (ζ23 0), rcC g asur (ζ23 1), rcC g alas (ζ23 2), hiC g ahi (fun i => had i 0) η]) [0, 1, 2, 3, 4, 5] [6] 0 0 (q_X5_arena l g am ast art aliv asur alas atx ahi σ ζ22 a 7 (haa) (by omega)) cv_X5_arena mk_L_47 rfl rfl rfl (ng := 7) rfl (by decide) (fun _ => rfl) (fun _ => rfl) (fun _ => rfl) rfl rfl rfl ⟨Nat.le_of_ble_eq_true rfl, Nat.le_of_ble_eq_true rfl⟩ (Nat.le_of_ble_eq_true rfl) ⟨by (try dsimp only); omega, by (try dsimp only); omega⟩ dL_arenas_328 rfl (fun ζ23 => ?_)
            refine w_aload_n X 1 rfl dL_arenas_331 ?_
            refine w_iload_n X 3 rfl dL_arenas_332 ?_
            refine w_iconst X (nI 0) dL_arenas_333 (by decide +kernel) ?_
            refine w_meV X hA (U := (Nat → Nat → Nat → Int32)) (gr := [hiC g ahi (fun i => had i 0) η]) (gs1 := fun ζ24 => [maC g am (ast 0) (art 0) (alas 0) (atx 0) (ahi 0), stC g ast σ, rtC g art (aliv 0) (asur 0) (ζ24 3), rcC g aliv (ζ24 0), rcC g asur (ζ24 1), rcC g alas (ζ24 2), hiC g ahi (fun i => had i 0) η]) [0, 1, 2, 3, 4, 5] [6] 0 0 (q_X5_arena l g am ast art aliv asur alas atx ahi σ ζ23 a 0 (haa) (by omega)) cv_X5_arena mk_L_47 rfl rfl rfl (ng := 7) rfl (by decide) (fun _ => rfl) (fun _ => rfl) (fun _ => rfl) rfl rfl rfl ⟨Nat.le_of_ble_eq_true rfl, Nat.le_of_ble_eq_true rfl⟩ (Nat.le_of_ble_eq_true rfl) ⟨by (try dsimp only); omega, by (try dsimp only); omega⟩ dL_arenas_334 rfl (fun ζ24 => ?_)
            refine w_ic_lt X 344 dL_arenas_337 (by decide) (fun c337 => by exfalso; exact ar_op hJ hB haa c337) (fun c337 => ?_)
            refine w_iconst X (nI 1) dL_arenas_340 (by decide +kernel) ?_
            refine w_goto X 345 dL_arenas_341 (by decide) ?_
            refine w_istore_n X dL_arenas_345 (by decide) ?_
            refine w_iload_n X 2 rfl dL_arenas_346 ?_
            refine w_aload_n X 1 rfl dL_arenas_347 ?_
            refine w_iload_n X 3 rfl dL_arenas_348 ?_
            refine w_iconst X (nI 0) dL_arenas_349 (by decide +kernel) ?_
            refine w_meV X hA (U := (Nat → Nat → Nat → Int32)) (gr := [hiC g ahi (fun i => had i 0) η]) (gs1 := fun ζ25 => [maC g am (ast 0) (art 0) (alas 0) (atx 0) (ahi 0), stC g ast σ, rtC g art (aliv 0) (asur 0) (ζ25 3), rcC g aliv (ζ25 0), rcC g asur (ζ25 1), rcC g alas (ζ25 2), hiC g ahi (fun i => had i 0) η]) [0, 1, 2, 3, 4, 5] [6] 0 0 (q_X5_arena l g am ast art aliv asur alas atx ahi σ ζ24 a 0 (haa) (by omega)) cv_X5_arena mk_L_47 rfl rfl rfl (ng := 7) rfl (by decide) (fun _ => rfl) (fun _ => rfl) (fun _ => rfl) rfl rfl rfl ⟨Nat.le_of_ble_eq_true rfl, Nat.le_of_ble_eq_true rfl⟩ (Nat.le_of_ble_eq_true rfl) ⟨by (try dsimp only); omega, by (try dsimp only); omega⟩ dL_arenas_350 rfl (fun ζ25 => ?_)
            refine w_iadd X dL_arenas_353 ?_
            refine w_istore_n X dL_arenas_354 (by decide) ?_
            refine w_iinc X (nI (a + 1)) 3 rfl (nI_1 _) dL_arenas_355 (by decide) ?_
            refine w_goto X 6 dL_arenas_358 (by decide) ?_
            have e4_1 : (nI (cn (fun o => nz (σ 8 o)) a) + (apC σ a 0)) = nI (cn (fun o => nz (σ 8 o)) (a + 1)) := by exact op_b haa
            refine w_widen (k := 48 * (a + 1)) (n := 288 * (a + 1)) (by omega) (by omega) ?_
            exact w_all [3, 1, 2, 0] (rfl) (rfl) (by rw [← e4_1]; rfl) (ih6 (a + 1, ζ25) (by omega) (by omega))
        · refine w_iconst X (nI 1) dL_arenas_271 (by decide +kernel) ?_
          refine w_goto X 276 dL_arenas_272 (by decide) ?_
          refine w_ic_ne X 283 dL_arenas_276 (by decide) (fun c276 => by exfalso; exact c276 (by rw [fa_6 he_k, c268]; rfl)) (fun c276 => ?_)
          refine w_iconst X (nI 1) dL_arenas_279 (by decide +kernel) ?_
          refine w_goto X 284 dL_arenas_280 (by decide) ?_
          refine w_istore_n X dL_arenas_284 (by decide) ?_
          refine w_iload_n X 0 rfl dL_arenas_285 ?_
          refine w_nf_eq X (by omega) 344 dL_arenas_286 (by decide) (fun c286 => by exfalso; omega) (fun c286 => ?_)
          refine w_aload_n X 1 rfl dL_arenas_289 ?_
          refine w_iload_n X 3 rfl dL_arenas_290 ?_
          refine w_iconst X (nI 0) dL_arenas_291 (by decide +kernel) ?_
          refine w_meV X hA (U := (Nat → Nat → Nat → Int32)) (gr := [hiC g ahi (fun i => had i 0) η]) (gs1 := fun ζ26 => [maC g am (ast 0) (art 0) (alas 0) (atx 0) (ahi 0), stC g ast σ, rtC g art (aliv 0) (asur 0) (ζ26 3), rcC g aliv (ζ26 0), rcC g asur (ζ26 1), rcC g alas (ζ26 2), hiC g ahi (fun i => had i 0) η]) [0, 1, 2, 3, 4, 5] [6] 0 0 (q_X5_arena l g am ast art aliv asur alas atx ahi σ ζ15 a 0 (haa) (by omega)) cv_X5_arena mk_L_47 rfl rfl rfl (ng := 7) rfl (by decide) (fun _ => rfl) (fun _ => rfl) (fun _ => rfl) rfl rfl rfl ⟨Nat.le_of_ble_eq_true rfl, Nat.le_of_ble_eq_true rfl⟩ (Nat.le_of_ble_eq_true rfl) ⟨by (try dsimp only); omega, by (try dsimp only); omega⟩ dL_arenas_292 rfl (fun ζ26 => ?_)
          refine w_iconst X (nI 1) dL_arenas_295 (by decide +kernel) ?_
          refine w_ic_eq X 313 dL_arenas_296 (by decide) (fun c296 => ?_) (fun c296 => ?_)
          · refine w_aload_n X 1 rfl dL_arenas_313 ?_
            refine w_iload_n X 3 rfl dL_arenas_314 ?_
            refine w_iconst X (nI 1) dL_arenas_315 (by decide +kernel) ?_
            refine w_meV X hA (U := (Nat → Nat → Nat → Int32)) (gr := [hiC g ahi (fun i => had i 0) η]) (gs1 := fun ζ27 => [maC g am (ast 0) (art 0) (alas 0) (atx 0) (ahi 0), stC g ast σ, rtC g art (aliv 0) (asur 0) (ζ27 3), rcC g aliv (ζ27 0), rcC g asur (ζ27 1), rcC g alas (ζ27 2), hiC g ahi (fun i => had i 0) η]) [0, 1, 2, 3, 4, 5] [6] 0 0 (q_X5_arena l g am ast art aliv asur alas atx ahi σ ζ26 a 1 (haa) (by omega)) cv_X5_arena mk_L_47 rfl rfl rfl (ng := 7) rfl (by decide) (fun _ => rfl) (fun _ => rfl) (fun _ => rfl) rfl rfl rfl ⟨Nat.le_of_ble_eq_true rfl, Nat.le_of_ble_eq_true rfl⟩ (Nat.le_of_ble_eq_true rfl) ⟨by (try dsimp only); omega, by (try dsimp only); omega⟩ dL_arenas_316 rfl (fun ζ27 => ?_)
            refine w_bipush X (nI 64) dL_arenas_319 (by decide +kernel) ?_
            refine w_ic_gt X 344 dL_arenas_321 (by decide) (fun c321 => by exfalso; exact ar_le' hI haa c321) (fun c321 => ?_)
            refine w_aload_n X 1 rfl dL_arenas_324 ?_
            refine w_iload_n X 3 rfl dL_arenas_325 ?_
            refine w_bipush X (nI 7) dL_arenas_326 (by decide +kernel) ?_
            refine w_meV X hA (U := (Nat → Nat → Nat → Int32)) (gr := [hiC g ahi (fun i => had i 0) η]) (gs1 := fun ζ28 => [maC g am (ast 0) (art 0) (alas 0) (atx 0) (ahi 0), stC g ast σ, rtC g art (aliv 0) (asur 0) (ζ28 3), rcC g aliv (ζ28 0), rcC g asur (ζ28 1), rcC g alas (ζ28 2), hiC g ahi (fun i => had i 0) η]) [0, 1, 2, 3, 4, 5] [6] 0 0 (q_X5_arena l g am ast art aliv asur alas atx ahi σ ζ27 a 7 (haa) (by omega)) cv_X5_arena mk_L_47 rfl rfl rfl (ng := 7) rfl (by decide) (fun _ => rfl) (fun _ => rfl) (fun _ => rfl) rfl rfl rfl ⟨Nat.le_of_ble_eq_true rfl, Nat.le_of_ble_eq_true rfl⟩ (Nat.le_of_ble_eq_true rfl) ⟨by (try dsimp only); omega, by (try dsimp only); omega⟩ dL_arenas_328 rfl (fun ζ28 => ?_)
            refine w_aload_n X 1 rfl dL_arenas_331 ?_
            refine w_iload_n X 3 rfl dL_arenas_332 ?_
            refine w_iconst X (nI 0) dL_arenas_333 (by decide +kernel) ?_
            refine w_meV X hA (U := (Nat → Nat → Nat → Int32)) (gr := [hiC g ahi (fun i => had i 0) η]) (gs1 := fun ζ29 => [maC g am (ast 0) (art 0) (alas 0) (atx 0) (ahi 0), stC g ast σ, rtC g art (aliv 0) (asur 0) (ζ29 3), rcC g aliv (ζ29 0), rcC g asur (ζ29 1), rcC g alas (ζ29 2), hiC g ahi (fun i => had i 0) η]) [0, 1, 2, 3, 4, 5] [6] 0 0 (q_X5_arena l g am ast art aliv asur alas atx ahi σ ζ28 a 0 (haa) (by omega)) cv_X5_arena mk_L_47 rfl rfl rfl (ng := 7) rfl (by decide) (fun _ => rfl) (fun _ => rfl) (fun _ => rfl) rfl rfl rfl ⟨Nat.le_of_ble_eq_true rfl, Nat.le_of_ble_eq_true rfl⟩ (Nat.le_of_ble_eq_true rfl) ⟨by (try dsimp only); omega, by (try dsimp only); omega⟩ dL_arenas_334 rfl (fun ζ29 => ?_)
            refine w_ic_lt X 344 dL_arenas_337 (by decide) (fun c337 => by exfalso; exact ar_op hJ hB haa c337) (fun c337 => ?_)
            refine w_iconst X (nI 1) dL_arenas_340 (by decide +kernel) ?_
            refine w_goto X 345 dL_arenas_341 (by decide) ?_
            refine w_istore_n X dL_arenas_345 (by decide) ?_
            refine w_iload_n X 2 rfl dL_arenas_346 ?_
            refine w_aload_n X 1 rfl dL_arenas_347 ?_
            refine w_iload_n X 3 rfl dL_arenas_348 ?_
            refine w_iconst X (nI 0) dL_arenas_349 (by decide +kernel) ?_
            refine w_meV X hA (U := (Nat → Nat → Nat → Int32)) (gr := [hiC g ahi (fun i => had i 0) η]) (gs1 := fun ζ30 => [maC g am (ast 0) (art 0) (alas 0) (atx 0) (ahi 0), stC g ast σ, rtC g art (aliv 0) (asur 0) (ζ30 3), rcC g aliv (ζ30 0), rcC g asur (ζ30 1), rcC g alas (ζ30 2), hiC g ahi (fun i => had i 0) η]) [0, 1, 2, 3, 4, 5] [6] 0 0 (q_X5_arena l g am ast art aliv asur alas atx ahi σ ζ29 a 0 (haa) (by omega)) cv_X5_arena mk_L_47 rfl rfl rfl (ng := 7) rfl (by decide) (fun _ => rfl) (fun _ => rfl) (fun _ => rfl) rfl rfl rfl ⟨Nat.le_of_ble_eq_true rfl, Nat.le_of_ble_eq_true rfl⟩ (Nat.le_of_ble_eq_true rfl) ⟨by (try dsimp only); omega, by (try dsimp only); omega⟩ dL_arenas_350 rfl (fun ζ30 => ?_)
            refine w_iadd X dL_arenas_353 ?_
            refine w_istore_n X dL_arenas_354 (by decide) ?_
            refine w_iinc X (nI (a + 1)) 3 rfl (nI_1 _) dL_arenas_355 (by decide) ?_
            refine w_goto X 6 dL_arenas_358 (by decide) ?_
            have e5_1 : (nI (cn (fun o => nz (σ 8 o)) a) + (apC σ a 0)) = nI (cn (fun o => nz (σ 8 o)) (a + 1)) := by exact op_b haa
            refine w_widen (k := 48 * (a + 1)) (n := 288 * (a + 1)) (by omega) (by omega) ?_
            exact w_all [3, 1, 2, 0] (rfl) (rfl) (by rw [← e5_1]; rfl) (ih6 (a + 1, ζ30) (by omega) (by omega))
          · refine w_aload_n X 1 rfl dL_arenas_299 ?_
            refine w_iload_n X 3 rfl dL_arenas_300 ?_
            refine w_iconst X (nI 1) dL_arenas_301 (by decide +kernel) ?_
            refine w_meV X hA (U := (Nat → Nat → Nat → Int32)) (gr := [hiC g ahi (fun i => had i 0) η]) (gs1 := fun ζ31 => [maC g am (ast 0) (art 0) (alas 0) (atx 0) (ahi 0), stC g ast σ, rtC g art (aliv 0) (asur 0) (ζ31 3), rcC g aliv (ζ31 0), rcC g asur (ζ31 1), rcC g alas (ζ31 2), hiC g ahi (fun i => had i 0) η]) [0, 1, 2, 3, 4, 5] [6] 0 0 (q_X5_arena l g am ast art aliv asur alas atx ahi σ ζ26 a 1 (haa) (by omega)) cv_X5_arena mk_L_47 rfl rfl rfl (ng := 7) rfl (by decide) (fun _ => rfl) (fun _ => rfl) (fun _ => rfl) rfl rfl rfl ⟨Nat.le_of_ble_eq_true rfl, Nat.le_of_ble_eq_true rfl⟩ (Nat.le_of_ble_eq_true rfl) ⟨by (try dsimp only); omega, by (try dsimp only); omega⟩ dL_arenas_302 rfl (fun ζ31 => ?_)
            refine w_if_ne X 344 dL_arenas_305 (by decide) (fun c305 => by exfalso; exact c305 (ar_shut hJ haa rfl c296).1) (fun c305 => ?_)
            refine w_iload X 5 rfl dL_arenas_308 ?_
            refine w_nf_ne X (by have := cn_le (fun o => isInB σ (nI o) (nI a)) k; omega) 344 dL_arenas_310 (by decide) (fun c310 => by exfalso; exact c310 (by rw [he_k]; exact (ar_shut hJ haa rfl c296).2)) (fun c310 => ?_)
            refine w_aload_n X 1 rfl dL_arenas_313 ?_
            refine w_iload_n X 3 rfl dL_arenas_314 ?_
            refine w_iconst X (nI 1) dL_arenas_315 (by decide +kernel) ?_
            refine w_meV X hA (U := (Nat → Nat → Nat → Int32)) (gr := [hiC g ahi (fun i => had i 0) η]) (gs1 := fun ζ32 => [maC g am (ast 0) (art 0) (alas 0) (atx 0) (ahi 0), stC g ast σ, rtC g art (aliv 0) (asur 0) (ζ32 3), rcC g aliv (ζ32 0), rcC g asur (ζ32 1), rcC g alas (ζ32 2), hiC g ahi (fun i => had i 0) η]) [0, 1, 2, 3, 4, 5] [6] 0 0 (q_X5_arena l g am ast art aliv asur alas atx ahi σ ζ31 a 1 (haa) (by omega)) cv_X5_arena mk_L_47 rfl rfl rfl (ng := 7) rfl (by decide) (fun _ => rfl) (fun _ => rfl) (fun _ => rfl) rfl rfl rfl ⟨Nat.le_of_ble_eq_true rfl, Nat.le_of_ble_eq_true rfl⟩ (Nat.le_of_ble_eq_true rfl) ⟨by (try dsimp only); omega, by (try dsimp only); omega⟩ dL_arenas_316 rfl (fun ζ32 => ?_)
            refine w_bipush X (nI 64) dL_arenas_319 (by decide +kernel) ?_
            refine w_ic_gt X 344 dL_arenas_321 (by decide) (fun c321 => by exfalso; exact ar_le' hI haa c321) (fun c321 => ?_)
            refine w_aload_n X 1 rfl dL_arenas_324 ?_
            refine w_iload_n X 3 rfl dL_arenas_325 ?_
            refine w_bipush X (nI 7) dL_arenas_326 (by decide +kernel) ?_
            refine w_meV X hA (U := (Nat → Nat → Nat → Int32)) (gr := [hiC g ahi (fun i => had i 0) η]) (gs1 := fun ζ33 => [maC g am (ast 0) (art 0) (alas 0) (atx 0) (ahi 0), stC g ast σ, rtC g art (aliv 0) (asur 0) (ζ33 3), rcC g aliv (ζ33 0), rcC g asur (ζ33 1), rcC g alas (ζ33 2), hiC g ahi (fun i => had i 0) η]) [0, 1, 2, 3, 4, 5] [6] 0 0 (q_X5_arena l g am ast art aliv asur alas atx ahi σ ζ32 a 7 (haa) (by omega)) cv_X5_arena mk_L_47 rfl rfl rfl (ng := 7) rfl (by decide) (fun _ => rfl) (fun _ => rfl) (fun _ => rfl) rfl rfl rfl ⟨Nat.le_of_ble_eq_true rfl, Nat.le_of_ble_eq_true rfl⟩ (Nat.le_of_ble_eq_true rfl) ⟨by (try dsimp only); omega, by (try dsimp only); omega⟩ dL_arenas_328 rfl (fun ζ33 => ?_)
            refine w_aload_n X 1 rfl dL_arenas_331 ?_
            refine w_iload_n X 3 rfl dL_arenas_332 ?_
            refine w_iconst X (nI 0) dL_arenas_333 (by decide +kernel) ?_
            refine w_meV X hA (U := (Nat → Nat → Nat → Int32)) (gr := [hiC g ahi (fun i => had i 0) η]) (gs1 := fun ζ34 => [maC g am (ast 0) (art 0) (alas 0) (atx 0) (ahi 0), stC g ast σ, rtC g art (aliv 0) (asur 0) (ζ34 3), rcC g aliv (ζ34 0), rcC g asur (ζ34 1), rcC g alas (ζ34 2), hiC g ahi (fun i => had i 0) η]) [0, 1, 2, 3, 4, 5] [6] 0 0 (q_X5_arena l g am ast art aliv asur alas atx ahi σ ζ33 a 0 (haa) (by omega)) cv_X5_arena mk_L_47 rfl rfl rfl (ng := 7) rfl (by decide) (fun _ => rfl) (fun _ => rfl) (fun _ => rfl) rfl rfl rfl ⟨Nat.le_of_ble_eq_true rfl, Nat.le_of_ble_eq_true rfl⟩ (Nat.le_of_ble_eq_true rfl) ⟨by (try dsimp only); omega, by (try dsimp only); omega⟩ dL_arenas_334 rfl (fun ζ34 => ?_)
            refine w_ic_lt X 344 dL_arenas_337 (by decide) (fun c337 => by exfalso; exact ar_op hJ hB haa c337) (fun c337 => ?_)
            refine w_iconst X (nI 1) dL_arenas_340 (by decide +kernel) ?_
            refine w_goto X 345 dL_arenas_341 (by decide) ?_
            refine w_istore_n X dL_arenas_345 (by decide) ?_
            refine w_iload_n X 2 rfl dL_arenas_346 ?_
            refine w_aload_n X 1 rfl dL_arenas_347 ?_
            refine w_iload_n X 3 rfl dL_arenas_348 ?_
            refine w_iconst X (nI 0) dL_arenas_349 (by decide +kernel) ?_
            refine w_meV X hA (U := (Nat → Nat → Nat → Int32)) (gr := [hiC g ahi (fun i => had i 0) η]) (gs1 := fun ζ35 => [maC g am (ast 0) (art 0) (alas 0) (atx 0) (ahi 0), stC g ast σ, rtC g art (aliv 0) (asur 0) (ζ35 3), rcC g aliv (ζ35 0), rcC g asur (ζ35 1), rcC g alas (ζ35 2), hiC g ahi (fun i => had i 0) η]) [0, 1, 2, 3, 4, 5] [6] 0 0 (q_X5_arena l g am ast art aliv asur alas atx ahi σ ζ34 a 0 (haa) (by omega)) cv_X5_arena mk_L_47 rfl rfl rfl (ng := 7) rfl (by decide) (fun _ => rfl) (fun _ => rfl) (fun _ => rfl) rfl rfl rfl ⟨Nat.le_of_ble_eq_true rfl, Nat.le_of_ble_eq_true rfl⟩ (Nat.le_of_ble_eq_true rfl) ⟨by (try dsimp only); omega, by (try dsimp only); omega⟩ dL_arenas_350 rfl (fun ζ35 => ?_)
            refine w_iadd X dL_arenas_353 ?_
            refine w_istore_n X dL_arenas_354 (by decide) ?_
            refine w_iinc X (nI (a + 1)) 3 rfl (nI_1 _) dL_arenas_355 (by decide) ?_
            refine w_goto X 6 dL_arenas_358 (by decide) ?_
            have e6_1 : (nI (cn (fun o => nz (σ 8 o)) a) + (apC σ a 0)) = nI (cn (fun o => nz (σ 8 o)) (a + 1)) := by exact op_b haa
            refine w_widen (k := 48 * (a + 1)) (n := 288 * (a + 1)) (by omega) (by omega) ?_
            exact w_all [3, 1, 2, 0] (rfl) (rfl) (by rw [← e6_1]; rfl) (ih6 (a + 1, ζ35) (by omega) (by omega))
      · refine w_iload X 9 rfl dL_arenas_163 ?_
        refine w_aload_n X 0 rfl dL_arenas_165 ?_
        refine w_iload_n X 3 rfl dL_arenas_166 ?_
        refine w_iload X 10 rfl dL_arenas_167 ?_
        refine w_roV X [0, 1] 0 0 (q_X5_at l g am ast art alas atx ahi σ a q_ (haa) (by omega)) cv_X5_at mk_L_50 rfl rfl rfl rfl rfl ⟨Nat.le_of_ble_eq_true rfl, Nat.le_of_ble_eq_true rfl⟩ (Nat.le_of_ble_eq_true rfl) ⟨by (try dsimp only); omega, by (try dsimp only); omega⟩ dL_arenas_169 rfl ?_
        refine w_iconst X (-1) dL_arenas_172 (by decide +kernel) ?_
        refine w_ic_ne X 180 dL_arenas_173 (by decide) (fun c173 => ?_) (fun c173 => ?_)
        · refine w_iconst X (nI 1) dL_arenas_180 (by decide +kernel) ?_
          refine w_iadd_n X dL_arenas_181 ?_
          refine w_istore X dL_arenas_182 (by decide) ?_
          refine w_iinc X (nI (q_ + 1)) 10 rfl (nI_1 _) dL_arenas_184 (by decide) ?_
          refine w_goto X 156 dL_arenas_187 (by decide) ?_
          have e7_9 : nI ((cn (atB σ a) q_) + 1) = nI (cn (atB σ a) (q_ + 1)) := by rw [← ac_1 c173]
          exact w_all [2, 3, 4, 5, 6, 7, 8, 9, 10, 1, 0] (rfl) (rfl) (by rw [← e7_9]; rfl) (ih156 (q_ + 1) (by omega) (by omega))
        · refine w_iconst X (nI 0) dL_arenas_176 (by decide +kernel) ?_
          refine w_goto X 181 dL_arenas_177 (by decide) ?_
          refine w_iadd_n X dL_arenas_181 ?_
          refine w_istore X dL_arenas_182 (by decide) ?_
          refine w_iinc X (nI (q_ + 1)) 10 rfl (nI_1 _) dL_arenas_184 (by decide) ?_
          refine w_goto X 156 dL_arenas_187 (by decide) ?_
          have e8_9 : nI ((cn (atB σ a) q_) + 0) = nI (cn (atB σ a) (q_ + 1)) := by rw [← ac_0 c173]
          exact w_all [2, 3, 4, 5, 6, 7, 8, 9, 10, 1, 0] (rfl) (rfl) (by rw [← e8_9]; rfl) (ih156 (q_ + 1) (by omega) (by omega))
    · refine w_aload_n X 0 rfl dL_arenas_41 ?_
      refine w_iload X 9 rfl dL_arenas_42 ?_
      refine w_iconst X (nI 0) dL_arenas_44 (by decide +kernel) ?_
      refine w_mhS V (U := (Nat → Nat → Nat → Int32)) (gr := [hiC g ahi (fun i => had i 0) η]) (gs1 := fun ζ36 => [maC g am (ast 0) (art 0) (alas 0) (atx 0) (ahi 0), stC g ast σ, rtC g art (aliv 0) (asur 0) (ζ36 3), rcC g aliv (ζ36 0), rcC g asur (ζ36 1), rcC g alas (ζ36 2), hiC g ahi (fun i => had i 0) η]) [0, 1, 2, 3, 4, 5] [6] (c_L_object l g hfl am ast art aliv asur alas atx ahi σ (rw2 (rw2 (rw2 (rw2 ζ 0 (yy 0)) 1 (yy 1)) 2 (yy 2)) 3 (yy 3)) k 0 (by omega) (by omega)) sh_L_object mk_L_35 rfl rfl rfl (ng := 7) rfl (by decide) (fun _ => rfl) (fun _ => rfl) (fun _ => rfl) ⟨Nat.le_of_ble_eq_true rfl, Nat.le_of_ble_eq_true rfl⟩ (Nat.le_of_ble_eq_true rfl) ⟨by (try dsimp only); omega, by (try dsimp only); omega⟩ dL_arenas_45 rfl (fun ζ36 => ?_)
      refine w_iload_n X 3 rfl dL_arenas_48 ?_
      refine w_ic_ne X 144 dL_arenas_49 (by decide) (fun c49 => ?_) (fun c49 => ?_)
      · have hkk : k < 24 := by omega
        have hi := ob_n2 hI hkk c49
        refine w_iinc X (nI (k + 1)) 9 rfl (nI_1 _) dL_arenas_144 (by decide) ?_
        refine w_goto X 34 dL_arenas_147 (by decide) ?_
        have e9_4 : nI (szS σ a k) = nI (szS σ a (k + 1)) := by rw [sz_n hI hkk hi]
        have e9_5 : nI (cn (fun o => isInB σ (nI o) (nI a)) k) = nI (cn (fun o => isInB σ (nI o) (nI a)) (k + 1)) := by rw [mn_u hi]
        have e9_6 : (cellsL σ (suC σ (nI a)) k) = (cellsL σ (suC σ (nI a)) (k + 1)) := by exact st_no hI hkk haa hi
        have e9_7 : (cntI (pnP σ a) k) = (cntI (pnP σ a) (k + 1)) := by exact pn_no hi
        have e9_8 : bI (anyB (kpP σ (nI a)) k) = bI (anyB (kpP σ (nI a)) (k + 1)) := by rw [ky_n (kq_n hI hkk haa hi)]
        refine w_widen (k := 48 * a + 2 * (k + 1)) (n := 288 * a + 12 * (k + 1)) (by omega) (by omega) ?_
        exact w_all [1, 2, 3, 4, 5, 6, 7, 8, 9, 0] (rfl) (rfl) (by rw [← e9_4, ← e9_5, ← e9_6, ← e9_7, ← e9_8]; rfl) (ih34 (k + 1, ζ36) (by omega) (by omega))
      · have hkk : k < 24 := by omega
        have hi := ob_y hI hkk haa c49
        obtain ⟨hu, e1⟩ := in_us hI hkk hi
        have hb := (has_us hI.1 hkk).mpr hu
        refine w_iinc X (nI (cn (fun o => isInB σ (nI o) (nI a)) k + 1)) 5 rfl (nI_1 _) dL_arenas_52 (by decide) ?_
        refine w_iload X 5 rfl dL_arenas_55 ?_
        refine w_aload_n X 1 rfl dL_arenas_57 ?_
        refine w_iload X 9 rfl dL_arenas_58 ?_
        refine w_iconst X (nI 2) dL_arenas_60 (by decide +kernel) ?_
        refine w_meV X hA (U := (Nat → Nat → Nat → Int32)) (gr := [hiC g ahi (fun i => had i 0) η]) (gs1 := fun ζ37 => [maC g am (ast 0) (art 0) (alas 0) (atx 0) (ahi 0), stC g ast σ, rtC g art (aliv 0) (asur 0) (ζ37 3), rcC g aliv (ζ37 0), rcC g asur (ζ37 1), rcC g alas (ζ37 2), hiC g ahi (fun i => had i 0) η]) [0, 1, 2, 3, 4, 5] [6] 0 0 (q_X5_object l g am ast art aliv asur alas atx ahi σ ζ36 k 2 (hkk) (by omega) (hb)) cv_X5_object mk_L_32 rfl rfl rfl (ng := 7) rfl (by decide) (fun _ => rfl) (fun _ => rfl) (fun _ => rfl) rfl rfl rfl ⟨Nat.le_of_ble_eq_true rfl, Nat.le_of_ble_eq_true rfl⟩ (Nat.le_of_ble_eq_true rfl) ⟨by (try dsimp only); omega, by (try dsimp only); omega⟩ dL_arenas_61 rfl (fun ζ37 => ?_)
        refine w_iadd X dL_arenas_64 ?_
        refine w_istore X dL_arenas_65 (by decide) ?_
        refine w_iload X 6 rfl dL_arenas_67 ?_
        refine w_aload_n X 2 rfl dL_arenas_69 ?_
        refine w_iload X 9 rfl dL_arenas_70 ?_
        refine w_bipush X (nI 8) dL_arenas_72 (by decide +kernel) ?_
        refine w_meV X hA (U := (Nat → Nat → Nat → Int32)) (gr := [hiC g ahi (fun i => had i 0) η]) (gs1 := fun ζ38 => [maC g am (ast 0) (art 0) (alas 0) (atx 0) (ahi 0), stC g ast σ, rtC g art (aliv 0) (asur 0) (ζ38 3), rcC g aliv (ζ38 0), rcC g asur (ζ38 1), rcC g alas (ζ38 2), hiC g ahi (fun i => had i 0) η]) [0, 1, 2, 3, 4, 5] [6] 0 0 (q_X5_object l g am ast art aliv asur alas atx ahi σ ζ37 k 8 (hkk) (by omega) (hb)) cv_X5_object mk_L_32 rfl rfl rfl (ng := 7) rfl (by decide) (fun _ => rfl) (fun _ => rfl) (fun _ => rfl) rfl rfl rfl ⟨Nat.le_of_ble_eq_true rfl, Nat.le_of_ble_eq_true rfl⟩ (Nat.le_of_ble_eq_true rfl) ⟨by (try dsimp only); omega, by (try dsimp only); omega⟩ dL_arenas_74 rfl (fun ζ38 => ?_)
        refine w_iconst X (nI 1) dL_arenas_77 (by decide +kernel) ?_
        refine w_ic_ne X 91 dL_arenas_78 (by decide) (fun c78 => ?_) (fun c78 => ?_)
        · refine w_iconst X (nI 0) dL_arenas_91 (by decide +kernel) ?_
          refine w_iadd X dL_arenas_92 ?_
          refine w_istore X dL_arenas_93 (by decide) ?_
          refine w_iload X 7 rfl dL_arenas_95 ?_
          refine w_aload_n X 3 rfl dL_arenas_97 ?_
          refine w_iload X 9 rfl dL_arenas_98 ?_
          refine w_bipush X (nI 6) dL_arenas_100 (by decide +kernel) ?_
          refine w_meV X hA (U := (Nat → Nat → Nat → Int32)) (gr := [hiC g ahi (fun i => had i 0) η]) (gs1 := fun ζ39 => [maC g am (ast 0) (art 0) (alas 0) (atx 0) (ahi 0), stC g ast σ, rtC g art (aliv 0) (asur 0) (ζ39 3), rcC g aliv (ζ39 0), rcC g asur (ζ39 1), rcC g alas (ζ39 2), hiC g ahi (fun i => had i 0) η]) [0, 1, 2, 3, 4, 5] [6] 0 0 (q_X5_object l g am ast art aliv asur alas atx ahi σ ζ38 k 6 (hkk) (by omega) (hb)) cv_X5_object mk_L_32 rfl rfl rfl (ng := 7) rfl (by decide) (fun _ => rfl) (fun _ => rfl) (fun _ => rfl) rfl rfl rfl ⟨Nat.le_of_ble_eq_true rfl, Nat.le_of_ble_eq_true rfl⟩ (Nat.le_of_ble_eq_true rfl) ⟨by (try dsimp only); omega, by (try dsimp only); omega⟩ dL_arenas_102 rfl (fun ζ39 => ?_)
          refine w_iadd X dL_arenas_105 ?_
          refine w_istore X dL_arenas_106 (by decide) ?_
          refine w_iload X 8 rfl dL_arenas_108 ?_
          refine w_bf_ne X 137 dL_arenas_110 (by decide) (fun c110 => ?_) (fun c110 => ?_)
          · refine w_iconst X (nI 1) dL_arenas_137 (by decide +kernel) ?_
            refine w_goto X 142 dL_arenas_138 (by decide) ?_
            refine w_istore X dL_arenas_142 (by decide) ?_
            refine w_iinc X (nI (k + 1)) 9 rfl (nI_1 _) dL_arenas_144 (by decide) ?_
            refine w_goto X 34 dL_arenas_147 (by decide) ?_
            have e10_4 : (nI (szS σ a k) + (opC σ k 2)) = nI (szS σ a (k + 1)) := by exact sz_o hI hkk hi
            have e10_5 : nI (cn (fun o => isInB σ (nI o) (nI a)) k + 1) = nI (cn (fun o => isInB σ (nI o) (nI a)) (k + 1)) := by rw [mn_t hi]
            have e10_6 : ((cellsL σ (suC σ (nI a)) k) + nI (0)) = (cellsL σ (suC σ (nI a)) (k + 1)) := by exact st_o0 hkk e1 c78
            have e10_7 : ((cntI (pnP σ a) k) + (opC σ k 6)) = (cntI (pnP σ a) (k + 1)) := by exact pn_o hi
            have e10_8 : nI (1) = bI (anyB (kpP σ (nI a)) (k + 1)) := by rw [ky_1 c110]; rfl
            refine w_widen (k := 48 * a + 2 * (k + 1)) (n := 288 * a + 12 * (k + 1)) (by omega) (by omega) ?_
            exact w_all [6, 7, 8, 9, 4, 5, 3, 2, 1, 0] (rfl) (rfl) (by rw [← e10_4, ← e10_5, ← e10_6, ← e10_7, ← e10_8]; rfl) (ih34 (k + 1, ζ39) (by omega) (by omega))
          · refine w_aload_n X 4 rfl dL_arenas_113 ?_
            refine w_iload X 9 rfl dL_arenas_114 ?_
            refine w_bipush X (nI 6) dL_arenas_116 (by decide +kernel) ?_
            refine w_meV X hA (U := (Nat → Nat → Nat → Int32)) (gr := [hiC g ahi (fun i => had i 0) η]) (gs1 := fun ζ40 => [maC g am (ast 0) (art 0) (alas 0) (atx 0) (ahi 0), stC g ast σ, rtC g art (aliv 0) (asur 0) (ζ40 3), rcC g aliv (ζ40 0), rcC g asur (ζ40 1), rcC g alas (ζ40 2), hiC g ahi (fun i => had i 0) η]) [0, 1, 2, 3, 4, 5] [6] 0 0 (q_X5_object l g am ast art aliv asur alas atx ahi σ ζ39 k 6 (hkk) (by omega) (hb)) cv_X5_object mk_L_32 rfl rfl rfl (ng := 7) rfl (by decide) (fun _ => rfl) (fun _ => rfl) (fun _ => rfl) rfl rfl rfl ⟨Nat.le_of_ble_eq_true rfl, Nat.le_of_ble_eq_true rfl⟩ (Nat.le_of_ble_eq_true rfl) ⟨by (try dsimp only); omega, by (try dsimp only); omega⟩ dL_arenas_118 rfl (fun ζ40 => ?_)
            refine w_iconst X (nI 1) dL_arenas_121 (by decide +kernel) ?_
            refine w_ic_ne X 141 dL_arenas_122 (by decide) (fun c122 => ?_) (fun c122 => ?_)
            · refine w_iconst X (nI 0) dL_arenas_141 (by decide +kernel) ?_
              refine w_istore X dL_arenas_142 (by decide) ?_
              refine w_iinc X (nI (k + 1)) 9 rfl (nI_1 _) dL_arenas_144 (by decide) ?_
              refine w_goto X 34 dL_arenas_147 (by decide) ?_
              have e11_4 : (nI (szS σ a k) + (opC σ k 2)) = nI (szS σ a (k + 1)) := by exact sz_o hI hkk hi
              have e11_5 : nI (cn (fun o => isInB σ (nI o) (nI a)) k + 1) = nI (cn (fun o => isInB σ (nI o) (nI a)) (k + 1)) := by rw [mn_t hi]
              have e11_6 : ((cellsL σ (suC σ (nI a)) k) + nI (0)) = (cellsL σ (suC σ (nI a)) (k + 1)) := by exact st_o0 hkk e1 c78
              have e11_7 : ((cntI (pnP σ a) k) + (opC σ k 6)) = (cntI (pnP σ a) (k + 1)) := by exact pn_o hi
              have e11_8 : nI (0) = bI (anyB (kpP σ (nI a)) (k + 1)) := by rw [ky_0 c110 (kq_6 hkk c122)]; rfl
              refine w_widen (k := 48 * a + 2 * (k + 1)) (n := 288 * a + 12 * (k + 1)) (by omega) (by omega) ?_
              exact w_all [6, 7, 8, 9, 4, 5, 3, 2, 1, 0] (rfl) (rfl) (by rw [← e11_4, ← e11_5, ← e11_6, ← e11_7, ← e11_8]; rfl) (ih34 (k + 1, ζ40) (by omega) (by omega))
            · refine w_aload_n X 4 rfl dL_arenas_125 ?_
              refine w_iload X 9 rfl dL_arenas_126 ?_
              refine w_bipush X (nI 8) dL_arenas_128 (by decide +kernel) ?_
              refine w_meV X hA (U := (Nat → Nat → Nat → Int32)) (gr := [hiC g ahi (fun i => had i 0) η]) (gs1 := fun ζ41 => [maC g am (ast 0) (art 0) (alas 0) (atx 0) (ahi 0), stC g ast σ, rtC g art (aliv 0) (asur 0) (ζ41 3), rcC g aliv (ζ41 0), rcC g asur (ζ41 1), rcC g alas (ζ41 2), hiC g ahi (fun i => had i 0) η]) [0, 1, 2, 3, 4, 5] [6] 0 0 (q_X5_object l g am ast art aliv asur alas atx ahi σ ζ40 k 8 (hkk) (by omega) (hb)) cv_X5_object mk_L_32 rfl rfl rfl (ng := 7) rfl (by decide) (fun _ => rfl) (fun _ => rfl) (fun _ => rfl) rfl rfl rfl ⟨Nat.le_of_ble_eq_true rfl, Nat.le_of_ble_eq_true rfl⟩ (Nat.le_of_ble_eq_true rfl) ⟨by (try dsimp only); omega, by (try dsimp only); omega⟩ dL_arenas_130 rfl (fun ζ41 => ?_)
              refine w_iconst X (nI 1) dL_arenas_133 (by decide +kernel) ?_
              refine w_ic_ne X 141 dL_arenas_134 (by decide) (fun c134 => ?_) (fun c134 => by exfalso; exact c78 c134)
              refine w_iconst X (nI 0) dL_arenas_141 (by decide +kernel) ?_
              refine w_istore X dL_arenas_142 (by decide) ?_
              refine w_iinc X (nI (k + 1)) 9 rfl (nI_1 _) dL_arenas_144 (by decide) ?_
              refine w_goto X 34 dL_arenas_147 (by decide) ?_
              have e12_4 : (nI (szS σ a k) + (opC σ k 2)) = nI (szS σ a (k + 1)) := by exact sz_o hI hkk hi
              have e12_5 : nI (cn (fun o => isInB σ (nI o) (nI a)) k + 1) = nI (cn (fun o => isInB σ (nI o) (nI a)) (k + 1)) := by rw [mn_t hi]
              have e12_6 : ((cellsL σ (suC σ (nI a)) k) + nI (0)) = (cellsL σ (suC σ (nI a)) (k + 1)) := by exact st_o0 hkk e1 c78
              have e12_7 : ((cntI (pnP σ a) k) + (opC σ k 6)) = (cntI (pnP σ a) (k + 1)) := by exact pn_o hi
              have e12_8 : nI (0) = bI (anyB (kpP σ (nI a)) (k + 1)) := by rw [ky_0 c110 (kq_8 hkk e1 c78)]; rfl
              refine w_widen (k := 48 * a + 2 * (k + 1)) (n := 288 * a + 12 * (k + 1)) (by omega) (by omega) ?_
              exact w_all [6, 7, 8, 9, 4, 5, 3, 2, 1, 0] (rfl) (rfl) (by rw [← e12_4, ← e12_5, ← e12_6, ← e12_7, ← e12_8]; rfl) (ih34 (k + 1, ζ41) (by omega) (by omega))
        · refine w_aload_n X 2 rfl dL_arenas_81 ?_
          refine w_iload X 9 rfl dL_arenas_82 ?_
          refine w_iconst X (nI 2) dL_arenas_84 (by decide +kernel) ?_
          refine w_meV X hA (U := (Nat → Nat → Nat → Int32)) (gr := [hiC g ahi (fun i => had i 0) η]) (gs1 := fun ζ42 => [maC g am (ast 0) (art 0) (alas 0) (atx 0) (ahi 0), stC g ast σ, rtC g art (aliv 0) (asur 0) (ζ42 3), rcC g aliv (ζ42 0), rcC g asur (ζ42 1), rcC g alas (ζ42 2), hiC g ahi (fun i => had i 0) η]) [0, 1, 2, 3, 4, 5] [6] 0 0 (q_X5_object l g am ast art aliv asur alas atx ahi σ ζ38 k 2 (hkk) (by omega) (hb)) cv_X5_object mk_L_32 rfl rfl rfl (ng := 7) rfl (by decide) (fun _ => rfl) (fun _ => rfl) (fun _ => rfl) rfl rfl rfl ⟨Nat.le_of_ble_eq_true rfl, Nat.le_of_ble_eq_true rfl⟩ (Nat.le_of_ble_eq_true rfl) ⟨by (try dsimp only); omega, by (try dsimp only); omega⟩ dL_arenas_85 rfl (fun ζ42 => ?_)
          refine w_goto X 92 dL_arenas_88 (by decide) ?_
          refine w_iadd X dL_arenas_92 ?_
          refine w_istore X dL_arenas_93 (by decide) ?_
          refine w_iload X 7 rfl dL_arenas_95 ?_
          refine w_aload_n X 3 rfl dL_arenas_97 ?_
          refine w_iload X 9 rfl dL_arenas_98 ?_
          refine w_bipush X (nI 6) dL_arenas_100 (by decide +kernel) ?_
          refine w_meV X hA (U := (Nat → Nat → Nat → Int32)) (gr := [hiC g ahi (fun i => had i 0) η]) (gs1 := fun ζ43 => [maC g am (ast 0) (art 0) (alas 0) (atx 0) (ahi 0), stC g ast σ, rtC g art (aliv 0) (asur 0) (ζ43 3), rcC g aliv (ζ43 0), rcC g asur (ζ43 1), rcC g alas (ζ43 2), hiC g ahi (fun i => had i 0) η]) [0, 1, 2, 3, 4, 5] [6] 0 0 (q_X5_object l g am ast art aliv asur alas atx ahi σ ζ42 k 6 (hkk) (by omega) (hb)) cv_X5_object mk_L_32 rfl rfl rfl (ng := 7) rfl (by decide) (fun _ => rfl) (fun _ => rfl) (fun _ => rfl) rfl rfl rfl ⟨Nat.le_of_ble_eq_true rfl, Nat.le_of_ble_eq_true rfl⟩ (Nat.le_of_ble_eq_true rfl) ⟨by (try dsimp only); omega, by (try dsimp only); omega⟩ dL_arenas_102 rfl (fun ζ43 => ?_)
          refine w_iadd X dL_arenas_105 ?_
          refine w_istore X dL_arenas_106 (by decide) ?_
          refine w_iload X 8 rfl dL_arenas_108 ?_
          refine w_bf_ne X 137 dL_arenas_110 (by decide) (fun c110 => ?_) (fun c110 => ?_)
          · refine w_iconst X (nI 1) dL_arenas_137 (by decide +kernel) ?_
            refine w_goto X 142 dL_arenas_138 (by decide) ?_
            refine w_istore X dL_arenas_142 (by decide) ?_
            refine w_iinc X (nI (k + 1)) 9 rfl (nI_1 _) dL_arenas_144 (by decide) ?_
            refine w_goto X 34 dL_arenas_147 (by decide) ?_
            have e13_4 : (nI (szS σ a k) + (opC σ k 2)) = nI (szS σ a (k + 1)) := by exact sz_o hI hkk hi
            have e13_5 : nI (cn (fun o => isInB σ (nI o) (nI a)) k + 1) = nI (cn (fun o => isInB σ (nI o) (nI a)) (k + 1)) := by rw [mn_t hi]
            have e13_6 : ((cellsL σ (suC σ (nI a)) k) + (opC σ k 2)) = (cellsL σ (suC σ (nI a)) (k + 1)) := by exact st_o hkk e1 c78
            have e13_7 : ((cntI (pnP σ a) k) + (opC σ k 6)) = (cntI (pnP σ a) (k + 1)) := by exact pn_o hi
            have e13_8 : nI (1) = bI (anyB (kpP σ (nI a)) (k + 1)) := by rw [ky_1 c110]; rfl
            refine w_widen (k := 48 * a + 2 * (k + 1)) (n := 288 * a + 12 * (k + 1)) (by omega) (by omega) ?_
            exact w_all [6, 7, 8, 9, 4, 5, 3, 2, 1, 0] (rfl) (rfl) (by rw [← e13_4, ← e13_5, ← e13_6, ← e13_7, ← e13_8]; rfl) (ih34 (k + 1, ζ43) (by omega) (by omega))
          · refine w_aload_n X 4 rfl dL_arenas_113 ?_
            refine w_iload X 9 rfl dL_arenas_114 ?_
            refine w_bipush X (nI 6) dL_arenas_116 (by decide +kernel) ?_
            refine w_meV X hA (U := (Nat → Nat → Nat → Int32)) (gr := [hiC g ahi (fun i => had i 0) η]) (gs1 := fun ζ44 => [maC g am (ast 0) (art 0) (alas 0) (atx 0) (ahi 0), stC g ast σ, rtC g art (aliv 0) (asur 0) (ζ44 3), rcC g aliv (ζ44 0), rcC g asur (ζ44 1), rcC g alas (ζ44 2), hiC g ahi (fun i => had i 0) η]) [0, 1, 2, 3, 4, 5] [6] 0 0 (q_X5_object l g am ast art aliv asur alas atx ahi σ ζ43 k 6 (hkk) (by omega) (hb)) cv_X5_object mk_L_32 rfl rfl rfl (ng := 7) rfl (by decide) (fun _ => rfl) (fun _ => rfl) (fun _ => rfl) rfl rfl rfl ⟨Nat.le_of_ble_eq_true rfl, Nat.le_of_ble_eq_true rfl⟩ (Nat.le_of_ble_eq_true rfl) ⟨by (try dsimp only); omega, by (try dsimp only); omega⟩ dL_arenas_118 rfl (fun ζ44 => ?_)
            refine w_iconst X (nI 1) dL_arenas_121 (by decide +kernel) ?_
            refine w_ic_ne X 141 dL_arenas_122 (by decide) (fun c122 => ?_) (fun c122 => ?_)
            · refine w_iconst X (nI 0) dL_arenas_141 (by decide +kernel) ?_
              refine w_istore X dL_arenas_142 (by decide) ?_
              refine w_iinc X (nI (k + 1)) 9 rfl (nI_1 _) dL_arenas_144 (by decide) ?_
              refine w_goto X 34 dL_arenas_147 (by decide) ?_
              have e14_4 : (nI (szS σ a k) + (opC σ k 2)) = nI (szS σ a (k + 1)) := by exact sz_o hI hkk hi
              have e14_5 : nI (cn (fun o => isInB σ (nI o) (nI a)) k + 1) = nI (cn (fun o => isInB σ (nI o) (nI a)) (k + 1)) := by rw [mn_t hi]
              have e14_6 : ((cellsL σ (suC σ (nI a)) k) + (opC σ k 2)) = (cellsL σ (suC σ (nI a)) (k + 1)) := by exact st_o hkk e1 c78
              have e14_7 : ((cntI (pnP σ a) k) + (opC σ k 6)) = (cntI (pnP σ a) (k + 1)) := by exact pn_o hi
              have e14_8 : nI (0) = bI (anyB (kpP σ (nI a)) (k + 1)) := by rw [ky_0 c110 (kq_6 hkk c122)]; rfl
              refine w_widen (k := 48 * a + 2 * (k + 1)) (n := 288 * a + 12 * (k + 1)) (by omega) (by omega) ?_
              exact w_all [6, 7, 8, 9, 4, 5, 3, 2, 1, 0] (rfl) (rfl) (by rw [← e14_4, ← e14_5, ← e14_6, ← e14_7, ← e14_8]; rfl) (ih34 (k + 1, ζ44) (by omega) (by omega))
            · refine w_aload_n X 4 rfl dL_arenas_125 ?_
              refine w_iload X 9 rfl dL_arenas_126 ?_
              refine w_bipush X (nI 8) dL_arenas_128 (by decide +kernel) ?_
              refine w_meV X hA (U := (Nat → Nat → Nat → Int32)) (gr := [hiC g ahi (fun i => had i 0) η]) (gs1 := fun ζ45 => [maC g am (ast 0) (art 0) (alas 0) (atx 0) (ahi 0), stC g ast σ, rtC g art (aliv 0) (asur 0) (ζ45 3), rcC g aliv (ζ45 0), rcC g asur (ζ45 1), rcC g alas (ζ45 2), hiC g ahi (fun i => had i 0) η]) [0, 1, 2, 3, 4, 5] [6] 0 0 (q_X5_object l g am ast art aliv asur alas atx ahi σ ζ44 k 8 (hkk) (by omega) (hb)) cv_X5_object mk_L_32 rfl rfl rfl (ng := 7) rfl (by decide) (fun _ => rfl) (fun _ => rfl) (fun _ => rfl) rfl rfl rfl ⟨Nat.le_of_ble_eq_true rfl, Nat.le_of_ble_eq_true rfl⟩ (Nat.le_of_ble_eq_true rfl) ⟨by (try dsimp only); omega, by (try dsimp only); omega⟩ dL_arenas_130 rfl (fun ζ45 => ?_)
              refine w_iconst X (nI 1) dL_arenas_133 (by decide +kernel) ?_
              refine w_ic_ne X 141 dL_arenas_134 (by decide) (fun c134 => by exfalso; exact c134 c78) (fun c134 => ?_)
              refine w_iconst X (nI 1) dL_arenas_137 (by decide +kernel) ?_
              refine w_goto X 142 dL_arenas_138 (by decide) ?_
              refine w_istore X dL_arenas_142 (by decide) ?_
              refine w_iinc X (nI (k + 1)) 9 rfl (nI_1 _) dL_arenas_144 (by decide) ?_
              refine w_goto X 34 dL_arenas_147 (by decide) ?_
              have e15_4 : (nI (szS σ a k) + (opC σ k 2)) = nI (szS σ a (k + 1)) := by exact sz_o hI hkk hi
              have e15_5 : nI (cn (fun o => isInB σ (nI o) (nI a)) k + 1) = nI (cn (fun o => isInB σ (nI o) (nI a)) (k + 1)) := by rw [mn_t hi]
              have e15_6 : ((cellsL σ (suC σ (nI a)) k) + (opC σ k 2)) = (cellsL σ (suC σ (nI a)) (k + 1)) := by exact st_o hkk e1 c78
              have e15_7 : ((cntI (pnP σ a) k) + (opC σ k 6)) = (cntI (pnP σ a) (k + 1)) := by exact pn_o hi
              have e15_8 : nI (1) = bI (anyB (kpP σ (nI a)) (k + 1)) := by rw [ky_2 (kq_1 hkk e1 c122 c78)]; rfl
              refine w_widen (k := 48 * a + 2 * (k + 1)) (n := 288 * a + 12 * (k + 1)) (by omega) (by omega) ?_
              exact w_all [6, 7, 8, 9, 4, 5, 3, 2, 1, 0] (rfl) (rfl) (by rw [← e15_4, ← e15_5, ← e15_6, ← e15_7, ← e15_8]; rfl) (ih34 (k + 1, ζ45) (by omega) (by omega))
