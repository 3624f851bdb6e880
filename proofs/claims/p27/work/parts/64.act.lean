/-! the law's act, by the number that it draws -/
set_option maxRecDepth 100000 in
set_option maxHeartbeats 4000000 in
theorem ma_0 (l : Launch) (g : GG) (hfl : l.stackTraces = false) (am : Nat → Nat) (ast : Nat → Nat) (art : Nat → Nat) (aliv : Nat → Nat) (asur : Nat → Nat) (alas : Nat → Nat) (atx : Nat → Nat) (ahi : Nat → Nat) (had : Nat → Nat → Nat) (σ : Nat → Nat → Int32) (ζ : Nat → Nat → Nat → Int32) (η : Nat → Nat → Int32) (hσ : Nat → Nat → Nat → Int32) (nx sv B i b L : Nat) (xs : Nat → Int32) (h : R27 B σ η hσ nx sv) (hB : B < 900000) (hL : L < 2 ^ 31) (hi : i < 1000000) (ew : lwI (cellI xs L i) 18 = nI 0) : ∃ (v : Int32) (σ' η' : Nat → Nat → Int32) (hσ' : Nat → Nat → Nat → Int32) (nx' sv' : Nat), R27 (B + 25) σ' η' hσ' nx' sv' ∧ (v < 0 → σ' = σ ∧ η' = η) ∧ MMS (U := (Nat → Nat → Nat → Int32)) l g yL_act cL_act 6 (some .int) 12 3 18 [.ref (am 0), .ref b, .int (nI i)] [maC g am (ast 0) (art 0) (alas 0) (atx 0) (ahi 0), stC g ast σ, rtC g art (aliv 0) (asur 0) (ζ 3), rcC g aliv (ζ 0), rcC g asur (ζ 1), rcC g alas (ζ 2), hiC g ahi (fun i => had i 0) η, stC g (had 0) (hσ 0), stC g (had 1) (hσ 1), stC g (had 2) (hσ 2), stC g (had 3) (hσ 3), stC g (had 4) (hσ 4), stC g (had 5) (hσ 5)] b L xs (some (.int v)) (fun ζ' => [maC g am (ast 0) (art 0) (alas 0) (atx 0) (ahi 0), stC g ast σ', rtC g art (aliv 0) (asur 0) (ζ' 3), rcC g aliv (ζ' 0), rcC g asur (ζ' 1), rcC g alas (ζ' 2), hiC g ahi (fun i => had i 0) η', stC g (had 0) (hσ' 0), stC g (had 1) (hσ' 1), stC g (had 2) (hσ' 2), stC g (had 3) (hσ' 3), stC g (had 4) (hσ' 4), stC g (had 5) (hσ' 5)]) := by
  obtain ⟨hJ, hH, hnx, hsv, e1, e2⟩ := id h
  have hI := hJ.1
  obtain ⟨j, hj, ej⟩ := lw_ex (cellI xs L (i + 1)) (n := 14) (by decide) (by decide)
  obtain ⟨v, σ', η', hσ', nx', sv', hR, hu, hM⟩ := c_L_open l g hfl am ast art alas atx ahi had σ η hσ nx sv B h hB
  refine ⟨v, σ', η', hσ', nx', sv', hR, hu, ?_⟩
  refine mk_ms hfl (by decide +kernel) (Nat.le_of_ble_eq_true rfl) (fun p e s m below meth c A V hs => ?_)
  have X := V.1
  have hA := V.2.2.2.2
  refine w_aload_n X 1 rfl dL_act_0 ?_
  refine w_iload_n X 2 rfl dL_act_1 ?_
  refine w_iconst X (nI 1) dL_act_2 (by decide +kernel) ?_
  refine w_iadd_n X dL_act_3 ?_
  refine w_cell V hs.1 hs.2.1 hs.2.2 hL (by omega) ⟨Nat.le_of_ble_eq_true rfl, Nat.le_of_ble_eq_true rfl⟩ (Nat.le_of_ble_eq_true rfl) ⟨Nat.le_of_ble_eq_true rfl, Nat.le_of_ble_eq_true rfl⟩ dL_act_4 ?_
  refine w_istore_n X dL_act_7 (by decide) ?_
  refine w_aload_n X 2 rfl dL_act_8 ?_
  refine w_iload_n X 3 rfl dL_act_9 ?_
  refine w_iconst X (nI 2) dL_act_10 (by decide +kernel) ?_
  refine w_iadd_n X dL_act_11 ?_
  refine w_cell V hs.1 hs.2.1 hs.2.2 hL (by omega) ⟨Nat.le_of_ble_eq_true rfl, Nat.le_of_ble_eq_true rfl⟩ (Nat.le_of_ble_eq_true rfl) ⟨Nat.le_of_ble_eq_true rfl, Nat.le_of_ble_eq_true rfl⟩ dL_act_12 ?_
  refine w_istore X dL_act_15 (by decide) ?_
  refine w_iload_n X 1 rfl dL_act_17 ?_
  refine w_bipush X (nI 14) dL_act_18 (by decide +kernel) ?_
  refine w_roS X [] (m_L_low l g (cellI xs L (i + 1)) 14 (by decide) (by decide)) cs_L_low mk_L_74 rfl rfl ⟨Nat.le_of_ble_eq_true rfl, Nat.le_of_ble_eq_true rfl⟩ (Nat.le_of_ble_eq_true rfl) ⟨by (try dsimp only); omega, by (try dsimp only); omega⟩ dL_act_20 rfl ?_
  rw [ej]
  refine w_istore X dL_act_23 (by decide) ?_
  refine w_aload_n X 4 rfl dL_act_25 ?_
  refine w_iload_n X 5 rfl dL_act_26 ?_
  refine w_cell V hs.1 hs.2.1 hs.2.2 hL (by omega) ⟨Nat.le_of_ble_eq_true rfl, Nat.le_of_ble_eq_true rfl⟩ (Nat.le_of_ble_eq_true rfl) ⟨Nat.le_of_ble_eq_true rfl, Nat.le_of_ble_eq_true rfl⟩ dL_act_27 ?_
  refine w_bipush X (nI 18) dL_act_30 (by decide +kernel) ?_
  refine w_roS X [] (m_L_low l g (cellI xs L i) 18 (by decide) (by decide)) cs_L_low mk_L_74 rfl rfl ⟨Nat.le_of_ble_eq_true rfl, Nat.le_of_ble_eq_true rfl⟩ (Nat.le_of_ble_eq_true rfl) ⟨by (try dsimp only); omega, by (try dsimp only); omega⟩ dL_act_32 rfl ?_
  rw [ew]
  refine w_tableIn X 116 dL_act_35 (by decide) (by decide) (by rfl) (by decide) ?_
  refine w_aload_n X 3 rfl dL_act_116 ?_
  refine w_mhS V (U := (Nat → Nat → Nat → Int32)) (gr := [rtC g art (aliv 0) (asur 0) (ζ 3), rcC g aliv (ζ 0), rcC g asur (ζ 1), rcC g alas (ζ 2)]) (gs1 := fun ζ1 => [maC g am (ast 0) (art 0) (alas 0) (atx 0) (ahi 0), stC g ast σ', rtC g art (aliv 0) (asur 0) (ζ 3), rcC g aliv (ζ 0), rcC g asur (ζ 1), rcC g alas (ζ 2), hiC g ahi (fun i => had i 0) η', stC g (had 0) (hσ' 0), stC g (had 1) (hσ' 1), stC g (had 2) (hσ' 2), stC g (had 3) (hσ' 3), stC g (had 4) (hσ' 4), stC g (had 5) (hσ' 5)]) [0, 1, 6, 7, 8, 9, 10, 11, 12] [2, 3, 4, 5] hM sh_L_open mk_L_77 rfl rfl rfl (ng := 13) rfl (by decide) (fun _ => rfl) (fun _ => rfl) (fun _ => rfl) ⟨Nat.le_of_ble_eq_true rfl, Nat.le_of_ble_eq_true rfl⟩ (Nat.le_of_ble_eq_true rfl) ⟨by (try dsimp only); omega, by (try dsimp only); omega⟩ dL_act_117 rfl (fun ζ1 => ?_)
  exact w_iret_me X (ζ) (rfl) (rfl) (by (try dsimp only); omega) (by (try dsimp only); omega) dL_act_120
set_option maxRecDepth 100000 in
set_option maxHeartbeats 4000000 in
theorem ma_1 (l : Launch) (g : GG) (hfl : l.stackTraces = false) (am : Nat → Nat) (ast : Nat → Nat) (art : Nat → Nat) (aliv : Nat → Nat) (asur : Nat → Nat) (alas : Nat → Nat) (atx : Nat → Nat) (ahi : Nat → Nat) (had : Nat → Nat → Nat) (σ : Nat → Nat → Int32) (ζ : Nat → Nat → Nat → Int32) (η : Nat → Nat → Int32) (hσ : Nat → Nat → Nat → Int32) (nx sv B i b L : Nat) (xs : Nat → Int32) (h : R27 B σ η hσ nx sv) (hB : B < 900000) (hL : L < 2 ^ 31) (hi : i < 1000000) (ew : lwI (cellI xs L i) 18 = nI 1) : ∃ (v : Int32) (σ' η' : Nat → Nat → Int32) (hσ' : Nat → Nat → Nat → Int32) (nx' sv' : Nat), R27 (B + 25) σ' η' hσ' nx' sv' ∧ (v < 0 → σ' = σ ∧ η' = η) ∧ MMS (U := (Nat → Nat → Nat → Int32)) l g yL_act cL_act 6 (some .int) 12 3 18 [.ref (am 0), .ref b, .int (nI i)] [maC g am (ast 0) (art 0) (alas 0) (atx 0) (ahi 0), stC g ast σ, rtC g art (aliv 0) (asur 0) (ζ 3), rcC g aliv (ζ 0), rcC g asur (ζ 1), rcC g alas (ζ 2), hiC g ahi (fun i => had i 0) η, stC g (had 0) (hσ 0), stC g (had 1) (hσ 1), stC g (had 2) (hσ 2), stC g (had 3) (hσ 3), stC g (had 4) (hσ 4), stC g (had 5) (hσ 5)] b L xs (some (.int v)) (fun ζ' => [maC g am (ast 0) (art 0) (alas 0) (atx 0) (ahi 0), stC g ast σ', rtC g art (aliv 0) (asur 0) (ζ' 3), rcC g aliv (ζ' 0), rcC g asur (ζ' 1), rcC g alas (ζ' 2), hiC g ahi (fun i => had i 0) η', stC g (had 0) (hσ' 0), stC g (had 1) (hσ' 1), stC g (had 2) (hσ' 2), stC g (had 3) (hσ' 3), stC g (had 4) (hσ' 4), stC g (had 5) (hσ' 5)]) := by
  obtain ⟨hJ, hH, hnx, hsv, e1, e2⟩ := id h
  have hI := hJ.1
  obtain ⟨j, hj, ej⟩ := lw_ex (cellI xs L (i + 1)) (n := 14) (by decide) (by decide)
  obtain ⟨x, hx, ex⟩ := lw_ex (cellI xs L (i + 1)) (n := 4) (by decide) (by decide)
  obtain ⟨y, hy, ey⟩ := lw_ex (cellI xs L (i + 2)) (n := 9) (by decide) (by decide)
  obtain ⟨v, σ', η', hσ', nx', sv', hR, hu, hM⟩ := c_L_make l g hfl am ast art alas atx ahi had σ η hσ nx sv B x (1 + y) h hB (by omega) (by omega) (by omega)
  refine ⟨v, σ', η', hσ', nx', sv', hR, hu, ?_⟩
  refine mk_ms hfl (by decide +kernel) (Nat.le_of_ble_eq_true rfl) (fun p e s m below meth c A V hs => ?_)
  have X := V.1
  have hA := V.2.2.2.2
  refine w_aload_n X 1 rfl dL_act_0 ?_
  refine w_iload_n X 2 rfl dL_act_1 ?_
  refine w_iconst X (nI 1) dL_act_2 (by decide +kernel) ?_
  refine w_iadd_n X dL_act_3 ?_
  refine w_cell V hs.1 hs.2.1 hs.2.2 hL (by omega) ⟨Nat.le_of_ble_eq_true rfl, Nat.le_of_ble_eq_true rfl⟩ (Nat.le_of_ble_eq_true rfl) ⟨Nat.le_of_ble_eq_true rfl, Nat.le_of_ble_eq_true rfl⟩ dL_act_4 ?_
  refine w_istore_n X dL_act_7 (by decide) ?_
  refine w_aload_n X 2 rfl dL_act_8 ?_
  refine w_iload_n X 3 rfl dL_act_9 ?_
  refine w_iconst X (nI 2) dL_act_10 (by decide +kernel) ?_
  refine w_iadd_n X dL_act_11 ?_
  refine w_cell V hs.1 hs.2.1 hs.2.2 hL (by omega) ⟨Nat.le_of_ble_eq_true rfl, Nat.le_of_ble_eq_true rfl⟩ (Nat.le_of_ble_eq_true rfl) ⟨Nat.le_of_ble_eq_true rfl, Nat.le_of_ble_eq_true rfl⟩ dL_act_12 ?_
  refine w_istore X dL_act_15 (by decide) ?_
  refine w_iload_n X 1 rfl dL_act_17 ?_
  refine w_bipush X (nI 14) dL_act_18 (by decide +kernel) ?_
  refine w_roS X [] (m_L_low l g (cellI xs L (i + 1)) 14 (by decide) (by decide)) cs_L_low mk_L_74 rfl rfl ⟨Nat.le_of_ble_eq_true rfl, Nat.le_of_ble_eq_true rfl⟩ (Nat.le_of_ble_eq_true rfl) ⟨by (try dsimp only); omega, by (try dsimp only); omega⟩ dL_act_20 rfl ?_
  rw [ej]
  refine w_istore X dL_act_23 (by decide) ?_
  refine w_aload_n X 4 rfl dL_act_25 ?_
  refine w_iload_n X 5 rfl dL_act_26 ?_
  refine w_cell V hs.1 hs.2.1 hs.2.2 hL (by omega) ⟨Nat.le_of_ble_eq_true rfl, Nat.le_of_ble_eq_true rfl⟩ (Nat.le_of_ble_eq_true rfl) ⟨Nat.le_of_ble_eq_true rfl, Nat.le_of_ble_eq_true rfl⟩ dL_act_27 ?_
  refine w_bipush X (nI 18) dL_act_30 (by decide +kernel) ?_
  refine w_roS X [] (m_L_low l g (cellI xs L i) 18 (by decide) (by decide)) cs_L_low mk_L_74 rfl rfl ⟨Nat.le_of_ble_eq_true rfl, Nat.le_of_ble_eq_true rfl⟩ (Nat.le_of_ble_eq_true rfl) ⟨by (try dsimp only); omega, by (try dsimp only); omega⟩ dL_act_32 rfl ?_
  rw [ew]
  refine w_tableIn X 121 dL_act_35 (by decide) (by decide) (by rfl) (by decide) ?_
  refine w_aload_n X 3 rfl dL_act_121 ?_
  refine w_iload_n X 2 rfl dL_act_122 ?_
  refine w_iconst X (nI 4) dL_act_123 (by decide +kernel) ?_
  refine w_roS X [] (m_L_low l g (cellI xs L (i + 1)) 4 (by decide) (by decide)) cs_L_low mk_L_74 rfl rfl ⟨Nat.le_of_ble_eq_true rfl, Nat.le_of_ble_eq_true rfl⟩ (Nat.le_of_ble_eq_true rfl) ⟨by (try dsimp only); omega, by (try dsimp only); omega⟩ dL_act_124 rfl ?_
  rw [ex]
  refine w_iconst X (nI 1) dL_act_127 (by decide +kernel) ?_
  refine w_iload X 1 rfl dL_act_128 ?_
  refine w_bipush X (nI 9) dL_act_130 (by decide +kernel) ?_
  refine w_roS X [] (m_L_low l g (cellI xs L (i + 2)) 9 (by decide) (by decide)) cs_L_low mk_L_74 rfl rfl ⟨Nat.le_of_ble_eq_true rfl, Nat.le_of_ble_eq_true rfl⟩ (Nat.le_of_ble_eq_true rfl) ⟨by (try dsimp only); omega, by (try dsimp only); omega⟩ dL_act_132 rfl ?_
  rw [ey]
  refine w_iadd_n X dL_act_135 ?_
  refine w_mhS V (U := (Nat → Nat → Nat → Int32)) (gr := [rtC g art (aliv 0) (asur 0) (ζ 3), rcC g aliv (ζ 0), rcC g asur (ζ 1), rcC g alas (ζ 2)]) (gs1 := fun ζ1 => [maC g am (ast 0) (art 0) (alas 0) (atx 0) (ahi 0), stC g ast σ', rtC g art (aliv 0) (asur 0) (ζ 3), rcC g aliv (ζ 0), rcC g asur (ζ 1), rcC g alas (ζ 2), hiC g ahi (fun i => had i 0) η', stC g (had 0) (hσ' 0), stC g (had 1) (hσ' 1), stC g (had 2) (hσ' 2), stC g (had 3) (hσ' 3), stC g (had 4) (hσ' 4), stC g (had 5) (hσ' 5)]) [0, 1, 6, 7, 8, 9, 10, 11, 12] [2, 3, 4, 5] hM sh_L_make mk_L_80 rfl rfl rfl (ng := 13) rfl (by decide) (fun _ => rfl) (fun _ => rfl) (fun _ => rfl) ⟨Nat.le_of_ble_eq_true rfl, Nat.le_of_ble_eq_true rfl⟩ (Nat.le_of_ble_eq_true rfl) ⟨by (try dsimp only); omega, by (try dsimp only); omega⟩ dL_act_136 rfl (fun ζ1 => ?_)
  exact w_iret_me X (ζ) (rfl) (rfl) (by (try dsimp only); omega) (by (try dsimp only); omega) dL_act_139
set_option maxRecDepth 100000 in
set_option maxHeartbeats 4000000 in
theorem ma_2 (l : Launch) (g : GG) (hfl : l.stackTraces = false) (am : Nat → Nat) (ast : Nat → Nat) (art : Nat → Nat) (aliv : Nat → Nat) (asur : Nat → Nat) (alas : Nat → Nat) (atx : Nat → Nat) (ahi : Nat → Nat) (had : Nat → Nat → Nat) (σ : Nat → Nat → Int32) (ζ : Nat → Nat → Nat → Int32) (η : Nat → Nat → Int32) (hσ : Nat → Nat → Nat → Int32) (nx sv B i b L : Nat) (xs : Nat → Int32) (h : R27 B σ η hσ nx sv) (hB : B < 900000) (hL : L < 2 ^ 31) (hi : i < 1000000) (ew : lwI (cellI xs L i) 18 = nI 2) : ∃ (v : Int32) (σ' η' : Nat → Nat → Int32) (hσ' : Nat → Nat → Nat → Int32) (nx' sv' : Nat), R27 (B + 25) σ' η' hσ' nx' sv' ∧ (v < 0 → σ' = σ ∧ η' = η) ∧ MMS (U := (Nat → Nat → Nat → Int32)) l g yL_act cL_act 6 (some .int) 12 3 18 [.ref (am 0), .ref b, .int (nI i)] [maC g am (ast 0) (art 0) (alas 0) (atx 0) (ahi 0), stC g ast σ, rtC g art (aliv 0) (asur 0) (ζ 3), rcC g aliv (ζ 0), rcC g asur (ζ 1), rcC g alas (ζ 2), hiC g ahi (fun i => had i 0) η, stC g (had 0) (hσ 0), stC g (had 1) (hσ 1), stC g (had 2) (hσ 2), stC g (had 3) (hσ 3), stC g (had 4) (hσ 4), stC g (had 5) (hσ 5)] b L xs (some (.int v)) (fun ζ' => [maC g am (ast 0) (art 0) (alas 0) (atx 0) (ahi 0), stC g ast σ', rtC g art (aliv 0) (asur 0) (ζ' 3), rcC g aliv (ζ' 0), rcC g asur (ζ' 1), rcC g alas (ζ' 2), hiC g ahi (fun i => had i 0) η', stC g (had 0) (hσ' 0), stC g (had 1) (hσ' 1), stC g (had 2) (hσ' 2), stC g (had 3) (hσ' 3), stC g (had 4) (hσ' 4), stC g (had 5) (hσ' 5)]) := by
  obtain ⟨hJ, hH, hnx, hsv, e1, e2⟩ := id h
  have hI := hJ.1
  obtain ⟨j, hj, ej⟩ := lw_ex (cellI xs L (i + 1)) (n := 14) (by decide) (by decide)
  obtain ⟨x, hx, ex⟩ := lw_ex (cellI xs L (i + 1)) (n := 4) (by decide) (by decide)
  obtain ⟨y, hy, ey⟩ := lw_ex (cellI xs L (i + 2)) (n := 9) (by decide) (by decide)
  obtain ⟨v, σ', η', hσ', nx', sv', hR, hu, hM⟩ := c_L_make l g hfl am ast art alas atx ahi had σ η hσ nx sv B x (1 + y) h hB (by omega) (by omega) (by omega)
  refine ⟨v, σ', η', hσ', nx', sv', hR, hu, ?_⟩
  refine mk_ms hfl (by decide +kernel) (Nat.le_of_ble_eq_true rfl) (fun p e s m below meth c A V hs => ?_)
  have X := V.1
  have hA := V.2.2.2.2
  refine w_aload_n X 1 rfl dL_act_0 ?_
  refine w_iload_n X 2 rfl dL_act_1 ?_
  refine w_iconst X (nI 1) dL_act_2 (by decide +kernel) ?_
  refine w_iadd_n X dL_act_3 ?_
  refine w_cell V hs.1 hs.2.1 hs.2.2 hL (by omega) ⟨Nat.le_of_ble_eq_true rfl, Nat.le_of_ble_eq_true rfl⟩ (Nat.le_of_ble_eq_true rfl) ⟨Nat.le_of_ble_eq_true rfl, Nat.le_of_ble_eq_true rfl⟩ dL_act_4 ?_
  refine w_istore_n X dL_act_7 (by decide) ?_
  refine w_aload_n X 2 rfl dL_act_8 ?_
  refine w_iload_n X 3 rfl dL_act_9 ?_
  refine w_iconst X (nI 2) dL_act_10 (by decide +kernel) ?_
  refine w_iadd_n X dL_act_11 ?_
  refine w_cell V hs.1 hs.2.1 hs.2.2 hL (by omega) ⟨Nat.le_of_ble_eq_true rfl, Nat.le_of_ble_eq_true rfl⟩ (Nat.le_of_ble_eq_true rfl) ⟨Nat.le_of_ble_eq_true rfl, Nat.le_of_ble_eq_true rfl⟩ dL_act_12 ?_
  refine w_istore X dL_act_15 (by decide) ?_
  refine w_iload_n X 1 rfl dL_act_17 ?_
  refine w_bipush X (nI 14) dL_act_18 (by decide +kernel) ?_
  refine w_roS X [] (m_L_low l g (cellI xs L (i + 1)) 14 (by decide) (by decide)) cs_L_low mk_L_74 rfl rfl ⟨Nat.le_of_ble_eq_true rfl, Nat.le_of_ble_eq_true rfl⟩ (Nat.le_of_ble_eq_true rfl) ⟨by (try dsimp only); omega, by (try dsimp only); omega⟩ dL_act_20 rfl ?_
  rw [ej]
  refine w_istore X dL_act_23 (by decide) ?_
  refine w_aload_n X 4 rfl dL_act_25 ?_
  refine w_iload_n X 5 rfl dL_act_26 ?_
  refine w_cell V hs.1 hs.2.1 hs.2.2 hL (by omega) ⟨Nat.le_of_ble_eq_true rfl, Nat.le_of_ble_eq_true rfl⟩ (Nat.le_of_ble_eq_true rfl) ⟨Nat.le_of_ble_eq_true rfl, Nat.le_of_ble_eq_true rfl⟩ dL_act_27 ?_
  refine w_bipush X (nI 18) dL_act_30 (by decide +kernel) ?_
  refine w_roS X [] (m_L_low l g (cellI xs L i) 18 (by decide) (by decide)) cs_L_low mk_L_74 rfl rfl ⟨Nat.le_of_ble_eq_true rfl, Nat.le_of_ble_eq_true rfl⟩ (Nat.le_of_ble_eq_true rfl) ⟨by (try dsimp only); omega, by (try dsimp only); omega⟩ dL_act_32 rfl ?_
  rw [ew]
  refine w_tableIn X 121 dL_act_35 (by decide) (by decide) (by rfl) (by decide) ?_
  refine w_aload_n X 3 rfl dL_act_121 ?_
  refine w_iload_n X 2 rfl dL_act_122 ?_
  refine w_iconst X (nI 4) dL_act_123 (by decide +kernel) ?_
  refine w_roS X [] (m_L_low l g (cellI xs L (i + 1)) 4 (by decide) (by decide)) cs_L_low mk_L_74 rfl rfl ⟨Nat.le_of_ble_eq_true rfl, Nat.le_of_ble_eq_true rfl⟩ (Nat.le_of_ble_eq_true rfl) ⟨by (try dsimp only); omega, by (try dsimp only); omega⟩ dL_act_124 rfl ?_
  rw [ex]
  refine w_iconst X (nI 1) dL_act_127 (by decide +kernel) ?_
  refine w_iload X 1 rfl dL_act_128 ?_
  refine w_bipush X (nI 9) dL_act_130 (by decide +kernel) ?_
  refine w_roS X [] (m_L_low l g (cellI xs L (i + 2)) 9 (by decide) (by decide)) cs_L_low mk_L_74 rfl rfl ⟨Nat.le_of_ble_eq_true rfl, Nat.le_of_ble_eq_true rfl⟩ (Nat.le_of_ble_eq_true rfl) ⟨by (try dsimp only); omega, by (try dsimp only); omega⟩ dL_act_132 rfl ?_
  rw [ey]
  refine w_iadd_n X dL_act_135 ?_
  refine w_mhS V (U := (Nat → Nat → Nat → Int32)) (gr := [rtC g art (aliv 0) (asur 0) (ζ 3), rcC g aliv (ζ 0), rcC g asur (ζ 1), rcC g alas (ζ 2)]) (gs1 := fun ζ1 => [maC g am (ast 0) (art 0) (alas 0) (atx 0) (ahi 0), stC g ast σ', rtC g art (aliv 0) (asur 0) (ζ 3), rcC g aliv (ζ 0), rcC g asur (ζ 1), rcC g alas (ζ 2), hiC g ahi (fun i => had i 0) η', stC g (had 0) (hσ' 0), stC g (had 1) (hσ' 1), stC g (had 2) (hσ' 2), stC g (had 3) (hσ' 3), stC g (had 4) (hσ' 4), stC g (had 5) (hσ' 5)]) [0, 1, 6, 7, 8, 9, 10, 11, 12] [2, 3, 4, 5] hM sh_L_make mk_L_80 rfl rfl rfl (ng := 13) rfl (by decide) (fun _ => rfl) (fun _ => rfl) (fun _ => rfl) ⟨Nat.le_of_ble_eq_true rfl, Nat.le_of_ble_eq_true rfl⟩ (Nat.le_of_ble_eq_true rfl) ⟨by (try dsimp only); omega, by (try dsimp only); omega⟩ dL_act_136 rfl (fun ζ1 => ?_)
  exact w_iret_me X (ζ) (rfl) (rfl) (by (try dsimp only); omega) (by (try dsimp only); omega) dL_act_139
set_option maxRecDepth 100000 in
set_option maxHeartbeats 4000000 in
theorem ma_3 (l : Launch) (g : GG) (hfl : l.stackTraces = false) (am : Nat → Nat) (ast : Nat → Nat) (art : Nat → Nat) (aliv : Nat → Nat) (asur : Nat → Nat) (alas : Nat → Nat) (atx : Nat → Nat) (ahi : Nat → Nat) (had : Nat → Nat → Nat) (σ : Nat → Nat → Int32) (ζ : Nat → Nat → Nat → Int32) (η : Nat → Nat → Int32) (hσ : Nat → Nat → Nat → Int32) (nx sv B i b L : Nat) (xs : Nat → Int32) (h : R27 B σ η hσ nx sv) (hB : B < 900000) (hL : L < 2 ^ 31) (hi : i < 1000000) (ew : lwI (cellI xs L i) 18 = nI 3) : ∃ (v : Int32) (σ' η' : Nat → Nat → Int32) (hσ' : Nat → Nat → Nat → Int32) (nx' sv' : Nat), R27 (B + 25) σ' η' hσ' nx' sv' ∧ (v < 0 → σ' = σ ∧ η' = η) ∧ MMS (U := (Nat → Nat → Nat → Int32)) l g yL_act cL_act 6 (some .int) 12 3 18 [.ref (am 0), .ref b, .int (nI i)] [maC g am (ast 0) (art 0) (alas 0) (atx 0) (ahi 0), stC g ast σ, rtC g art (aliv 0) (asur 0) (ζ 3), rcC g aliv (ζ 0), rcC g asur (ζ 1), rcC g alas (ζ 2), hiC g ahi (fun i => had i 0) η, stC g (had 0) (hσ 0), stC g (had 1) (hσ 1), stC g (had 2) (hσ 2), stC g (had 3) (hσ 3), stC g (had 4) (hσ 4), stC g (had 5) (hσ 5)] b L xs (some (.int v)) (fun ζ' => [maC g am (ast 0) (art 0) (alas 0) (atx 0) (ahi 0), stC g ast σ', rtC g art (aliv 0) (asur 0) (ζ' 3), rcC g aliv (ζ' 0), rcC g asur (ζ' 1), rcC g alas (ζ' 2), hiC g ahi (fun i => had i 0) η', stC g (had 0) (hσ' 0), stC g (had 1) (hσ' 1), stC g (had 2) (hσ' 2), stC g (had 3) (hσ' 3), stC g (had 4) (hσ' 4), stC g (had 5) (hσ' 5)]) := by
  obtain ⟨hJ, hH, hnx, hsv, e1, e2⟩ := id h
  have hI := hJ.1
  obtain ⟨j, hj, ej⟩ := lw_ex (cellI xs L (i + 1)) (n := 14) (by decide) (by decide)
  obtain ⟨x, hx, ex⟩ := lw_ex (cellI xs L (i + 1)) (n := 4) (by decide) (by decide)
  obtain ⟨y, hy, ey⟩ := lw_ex (cellI xs L (i + 2)) (n := 9) (by decide) (by decide)
  obtain ⟨v, σ', η', hσ', nx', sv', hR, hu, hM⟩ := c_L_make l g hfl am ast art alas atx ahi had σ η hσ nx sv B x (1 + y) h hB (by omega) (by omega) (by omega)
  refine ⟨v, σ', η', hσ', nx', sv', hR, hu, ?_⟩
  refine mk_ms hfl (by decide +kernel) (Nat.le_of_ble_eq_true rfl) (fun p e s m below meth c A V hs => ?_)
  have X := V.1
  have hA := V.2.2.2.2
  refine w_aload_n X 1 rfl dL_act_0 ?_
  refine w_iload_n X 2 rfl dL_act_1 ?_
  refine w_iconst X (nI 1) dL_act_2 (by decide +kernel) ?_
  refine w_iadd_n X dL_act_3 ?_
  refine w_cell V hs.1 hs.2.1 hs.2.2 hL (by omega) ⟨Nat.le_of_ble_eq_true rfl, Nat.le_of_ble_eq_true rfl⟩ (Nat.le_of_ble_eq_true rfl) ⟨Nat.le_of_ble_eq_true rfl, Nat.le_of_ble_eq_true rfl⟩ dL_act_4 ?_
  refine w_istore_n X dL_act_7 (by decide) ?_
  refine w_aload_n X 2 rfl dL_act_8 ?_
  refine w_iload_n X 3 rfl dL_act_9 ?_
  refine w_iconst X (nI 2) dL_act_10 (by decide +kernel) ?_
  refine w_iadd_n X dL_act_11 ?_
  refine w_cell V hs.1 hs.2.1 hs.2.2 hL (by omega) ⟨Nat.le_of_ble_eq_true rfl, Nat.le_of_ble_eq_true rfl⟩ (Nat.le_of_ble_eq_true rfl) ⟨Nat.le_of_ble_eq_true rfl, Nat.le_of_ble_eq_true rfl⟩ dL_act_12 ?_
  refine w_istore X dL_act_15 (by decide) ?_
  refine w_iload_n X 1 rfl dL_act_17 ?_
  refine w_bipush X (nI 14) dL_act_18 (by decide +kernel) ?_
  refine w_roS X [] (m_L_low l g (cellI xs L (i + 1)) 14 (by decide) (by decide)) cs_L_low mk_L_74 rfl rfl ⟨Nat.le_of_ble_eq_true rfl, Nat.le_of_ble_eq_true rfl⟩ (Nat.le_of_ble_eq_true rfl) ⟨by (try dsimp only); omega, by (try dsimp only); omega⟩ dL_act_20 rfl ?_
  rw [ej]
  refine w_istore X dL_act_23 (by decide) ?_
  refine w_aload_n X 4 rfl dL_act_25 ?_
  refine w_iload_n X 5 rfl dL_act_26 ?_
  refine w_cell V hs.1 hs.2.1 hs.2.2 hL (by omega) ⟨Nat.le_of_ble_eq_true rfl, Nat.le_of_ble_eq_true rfl⟩ (Nat.le_of_ble_eq_true rfl) ⟨Nat.le_of_ble_eq_true rfl, Nat.le_of_ble_eq_true rfl⟩ dL_act_27 ?_
  refine w_bipush X (nI 18) dL_act_30 (by decide +kernel) ?_
  refine w_roS X [] (m_L_low l g (cellI xs L i) 18 (by decide) (by decide)) cs_L_low mk_L_74 rfl rfl ⟨Nat.le_of_ble_eq_true rfl, Nat.le_of_ble_eq_true rfl⟩ (Nat.le_of_ble_eq_true rfl) ⟨by (try dsimp only); omega, by (try dsimp only); omega⟩ dL_act_32 rfl ?_
  rw [ew]
  refine w_tableIn X 121 dL_act_35 (by decide) (by decide) (by rfl) (by decide) ?_
  refine w_aload_n X 3 rfl dL_act_121 ?_
  refine w_iload_n X 2 rfl dL_act_122 ?_
  refine w_iconst X (nI 4) dL_act_123 (by decide +kernel) ?_
  refine w_roS X [] (m_L_low l g (cellI xs L (i + 1)) 4 (by decide) (by decide)) cs_L_low mk_L_74 rfl rfl ⟨Nat.le_of_ble_eq_true rfl, Nat.le_of_ble_eq_true rfl⟩ (Nat.le_of_ble_eq_true rfl) ⟨by (try dsimp only); omega, by (try dsimp only); omega⟩ dL_act_124 rfl ?_
  rw [ex]
  refine w_iconst X (nI 1) dL_act_127 (by decide +kernel) ?_
  refine w_iload X 1 rfl dL_act_128 ?_
  refine w_bipush X (nI 9) dL_act_130 (by decide +kernel) ?_
  refine w_roS X [] (m_L_low l g (cellI xs L (i + 2)) 9 (by decide) (by decide)) cs_L_low mk_L_74 rfl rfl ⟨Nat.le_of_ble_eq_true rfl, Nat.le_of_ble_eq_true rfl⟩ (Nat.le_of_ble_eq_true rfl) ⟨by (try dsimp only); omega, by (try dsimp only); omega⟩ dL_act_132 rfl ?_
  rw [ey]
  refine w_iadd_n X dL_act_135 ?_
  refine w_mhS V (U := (Nat → Nat → Nat → Int32)) (gr := [rtC g art (aliv 0) (asur 0) (ζ 3), rcC g aliv (ζ 0), rcC g asur (ζ 1), rcC g alas (ζ 2)]) (gs1 := fun ζ1 => [maC g am (ast 0) (art 0) (alas 0) (atx 0) (ahi 0), stC g ast σ', rtC g art (aliv 0) (asur 0) (ζ 3), rcC g aliv (ζ 0), rcC g asur (ζ 1), rcC g alas (ζ 2), hiC g ahi (fun i => had i 0) η', stC g (had 0) (hσ' 0), stC g (had 1) (hσ' 1), stC g (had 2) (hσ' 2), stC g (had 3) (hσ' 3), stC g (had 4) (hσ' 4), stC g (had 5) (hσ' 5)]) [0, 1, 6, 7, 8, 9, 10, 11, 12] [2, 3, 4, 5] hM sh_L_make mk_L_80 rfl rfl rfl (ng := 13) rfl (by decide) (fun _ => rfl) (fun _ => rfl) (fun _ => rfl) ⟨Nat.le_of_ble_eq_true rfl, Nat.le_of_ble_eq_true rfl⟩ (Nat.le_of_ble_eq_true rfl) ⟨by (try dsimp only); omega, by (try dsimp only); omega⟩ dL_act_136 rfl (fun ζ1 => ?_)
  exact w_iret_me X (ζ) (rfl) (rfl) (by (try dsimp only); omega) (by (try dsimp only); omega) dL_act_139
set_option maxRecDepth 100000 in
set_option maxHeartbeats 4000000 in
theorem ma_4 (l : Launch) (g : GG) (hfl : l.stackTraces = false) (am : Nat → Nat) (ast : Nat → Nat) (art : Nat → Nat) (aliv : Nat → Nat) (asur : Nat → Nat) (alas : Nat → Nat) (atx : Nat → Nat) (ahi : Nat → Nat) (had : Nat → Nat → Nat) (σ : Nat → Nat → Int32) (ζ : Nat → Nat → Nat → Int32) (η : Nat → Nat → Int32) (hσ : Nat → Nat → Nat → Int32) (nx sv B i b L : Nat) (xs : Nat → Int32) (h : R27 B σ η hσ nx sv) (hB : B < 900000) (hL : L < 2 ^ 31) (hi : i < 1000000) (ew : lwI (cellI xs L i) 18 = nI 4) : ∃ (v : Int32) (σ' η' : Nat → Nat → Int32) (hσ' : Nat → Nat → Nat → Int32) (nx' sv' : Nat), R27 (B + 25) σ' η' hσ' nx' sv' ∧ (v < 0 → σ' = σ ∧ η' = η) ∧ MMS (U := (Nat → Nat → Nat → Int32)) l g yL_act cL_act 6 (some .int) 12 3 18 [.ref (am 0), .ref b, .int (nI i)] [maC g am (ast 0) (art 0) (alas 0) (atx 0) (ahi 0), stC g ast σ, rtC g art (aliv 0) (asur 0) (ζ 3), rcC g aliv (ζ 0), rcC g asur (ζ 1), rcC g alas (ζ 2), hiC g ahi (fun i => had i 0) η, stC g (had 0) (hσ 0), stC g (had 1) (hσ 1), stC g (had 2) (hσ 2), stC g (had 3) (hσ 3), stC g (had 4) (hσ 4), stC g (had 5) (hσ 5)] b L xs (some (.int v)) (fun ζ' => [maC g am (ast 0) (art 0) (alas 0) (atx 0) (ahi 0), stC g ast σ', rtC g art (aliv 0) (asur 0) (ζ' 3), rcC g aliv (ζ' 0), rcC g asur (ζ' 1), rcC g alas (ζ' 2), hiC g ahi (fun i => had i 0) η', stC g (had 0) (hσ' 0), stC g (had 1) (hσ' 1), stC g (had 2) (hσ' 2), stC g (had 3) (hσ' 3), stC g (had 4) (hσ' 4), stC g (had 5) (hσ' 5)]) := by
  obtain ⟨hJ, hH, hnx, hsv, e1, e2⟩ := id h
  have hI := hJ.1
  obtain ⟨j, hj, ej⟩ := lw_ex (cellI xs L (i + 1)) (n := 14) (by decide) (by decide)
  obtain ⟨x, hx, ex⟩ := lw_ex (cellI xs L (i + 1)) (n := 4) (by decide) (by decide)
  obtain ⟨y, hy, ey⟩ := lw_ex (cellI xs L (i + 2)) (n := 9) (by decide) (by decide)
  obtain ⟨v, σ', η', hσ', nx', sv', hR, hu, hM⟩ := c_L_make l g hfl am ast art alas atx ahi had σ η hσ nx sv B x (1 + y) h hB (by omega) (by omega) (by omega)
  refine ⟨v, σ', η', hσ', nx', sv', hR, hu, ?_⟩
  refine mk_ms hfl (by decide +kernel) (Nat.le_of_ble_eq_true rfl) (fun p e s m below meth c A V hs => ?_)
  have X := V.1
  have hA := V.2.2.2.2
  refine w_aload_n X 1 rfl dL_act_0 ?_
  refine w_iload_n X 2 rfl dL_act_1 ?_
  refine w_iconst X (nI 1) dL_act_2 (by decide +kernel) ?_
  refine w_iadd_n X dL_act_3 ?_
  refine w_cell V hs.1 hs.2.1 hs.2.2 hL (by omega) ⟨Nat.le_of_ble_eq_true rfl, Nat.le_of_ble_eq_true rfl⟩ (Nat.le_of_ble_eq_true rfl) ⟨Nat.le_of_ble_eq_true rfl, Nat.le_of_ble_eq_true rfl⟩ dL_act_4 ?_
  refine w_istore_n X dL_act_7 (by decide) ?_
  refine w_aload_n X 2 rfl dL_act_8 ?_
  refine w_iload_n X 3 rfl dL_act_9 ?_
  refine w_iconst X (nI 2) dL_act_10 (by decide +kernel) ?_
  refine w_iadd_n X dL_act_11 ?_
  refine w_cell V hs.1 hs.2.1 hs.2.2 hL (by omega) ⟨Nat.le_of_ble_eq_true rfl, Nat.le_of_ble_eq_true rfl⟩ (Nat.le_of_ble_eq_true rfl) ⟨Nat.le_of_ble_eq_true rfl, Nat.le_of_ble_eq_true rfl⟩ dL_act_12 ?_
  refine w_istore X dL_act_15 (by decide) ?_
  refine w_iload_n X 1 rfl dL_act_17 ?_
  refine w_bipush X (nI 14) dL_act_18 (by decide +kernel) ?_
  refine w_roS X [] (m_L_low l g (cellI xs L (i + 1)) 14 (by decide) (by decide)) cs_L_low mk_L_74 rfl rfl ⟨Nat.le_of_ble_eq_true rfl, Nat.le_of_ble_eq_true rfl⟩ (Nat.le_of_ble_eq_true rfl) ⟨by (try dsimp only); omega, by (try dsimp only); omega⟩ dL_act_20 rfl ?_
  rw [ej]
  refine w_istore X dL_act_23 (by decide) ?_
  refine w_aload_n X 4 rfl dL_act_25 ?_
  refine w_iload_n X 5 rfl dL_act_26 ?_
  refine w_cell V hs.1 hs.2.1 hs.2.2 hL (by omega) ⟨Nat.le_of_ble_eq_true rfl, Nat.le_of_ble_eq_true rfl⟩ (Nat.le_of_ble_eq_true rfl) ⟨Nat.le_of_ble_eq_true rfl, Nat.le_of_ble_eq_true rfl⟩ dL_act_27 ?_
  refine w_bipush X (nI 18) dL_act_30 (by decide +kernel) ?_
  refine w_roS X [] (m_L_low l g (cellI xs L i) 18 (by decide) (by decide)) cs_L_low mk_L_74 rfl rfl ⟨Nat.le_of_ble_eq_true rfl, Nat.le_of_ble_eq_true rfl⟩ (Nat.le_of_ble_eq_true rfl) ⟨by (try dsimp only); omega, by (try dsimp only); omega⟩ dL_act_32 rfl ?_
  rw [ew]
  refine w_tableIn X 121 dL_act_35 (by decide) (by decide) (by rfl) (by decide) ?_
  refine w_aload_n X 3 rfl dL_act_121 ?_
  refine w_iload_n X 2 rfl dL_act_122 ?_
  refine w_iconst X (nI 4) dL_act_123 (by decide +kernel) ?_
  refine w_roS X [] (m_L_low l g (cellI xs L (i + 1)) 4 (by decide) (by decide)) cs_L_low mk_L_74 rfl rfl ⟨Nat.le_of_ble_eq_true rfl, Nat.le_of_ble_eq_true rfl⟩ (Nat.le_of_ble_eq_true rfl) ⟨by (try dsimp only); omega, by (try dsimp only); omega⟩ dL_act_124 rfl ?_
  rw [ex]
  refine w_iconst X (nI 1) dL_act_127 (by decide +kernel) ?_
  refine w_iload X 1 rfl dL_act_128 ?_
  refine w_bipush X (nI 9) dL_act_130 (by decide +kernel) ?_
  refine w_roS X [] (m_L_low l g (cellI xs L (i + 2)) 9 (by decide) (by decide)) cs_L_low mk_L_74 rfl rfl ⟨Nat.le_of_ble_eq_true rfl, Nat.le_of_ble_eq_true rfl⟩ (Nat.le_of_ble_eq_true rfl) ⟨by (try dsimp only); omega, by (try dsimp only); omega⟩ dL_act_132 rfl ?_
  rw [ey]
  refine w_iadd_n X dL_act_135 ?_
  refine w_mhS V (U := (Nat → Nat → Nat → Int32)) (gr := [rtC g art (aliv 0) (asur 0) (ζ 3), rcC g aliv (ζ 0), rcC g asur (ζ 1), rcC g alas (ζ 2)]) (gs1 := fun ζ1 => [maC g am (ast 0) (art 0) (alas 0) (atx 0) (ahi 0), stC g ast σ', rtC g art (aliv 0) (asur 0) (ζ 3), rcC g aliv (ζ 0), rcC g asur (ζ 1), rcC g alas (ζ 2), hiC g ahi (fun i => had i 0) η', stC g (had 0) (hσ' 0), stC g (had 1) (hσ' 1), stC g (had 2) (hσ' 2), stC g (had 3) (hσ' 3), stC g (had 4) (hσ' 4), stC g (had 5) (hσ' 5)]) [0, 1, 6, 7, 8, 9, 10, 11, 12] [2, 3, 4, 5] hM sh_L_make mk_L_80 rfl rfl rfl (ng := 13) rfl (by decide) (fun _ => rfl) (fun _ => rfl) (fun _ => rfl) ⟨Nat.le_of_ble_eq_true rfl, Nat.le_of_ble_eq_true rfl⟩ (Nat.le_of_ble_eq_true rfl) ⟨by (try dsimp only); omega, by (try dsimp only); omega⟩ dL_act_136 rfl (fun ζ1 => ?_)
  exact w_iret_me X (ζ) (rfl) (rfl) (by (try dsimp only); omega) (by (try dsimp only); omega) dL_act_139
set_option maxRecDepth 100000 in
set_option maxHeartbeats 4000000 in
theorem ma_5 (l : Launch) (g : GG) (hfl : l.stackTraces = false) (am : Nat → Nat) (ast : Nat → Nat) (art : Nat → Nat) (aliv : Nat → Nat) (asur : Nat → Nat) (alas : Nat → Nat) (atx : Nat → Nat) (ahi : Nat → Nat) (had : Nat → Nat → Nat) (σ : Nat → Nat → Int32) (ζ : Nat → Nat → Nat → Int32) (η : Nat → Nat → Int32) (hσ : Nat → Nat → Nat → Int32) (nx sv B i b L : Nat) (xs : Nat → Int32) (h : R27 B σ η hσ nx sv) (hB : B < 900000) (hL : L < 2 ^ 31) (hi : i < 1000000) (ew : lwI (cellI xs L i) 18 = nI 5) : ∃ (v : Int32) (σ' η' : Nat → Nat → Int32) (hσ' : Nat → Nat → Nat → Int32) (nx' sv' : Nat), R27 (B + 25) σ' η' hσ' nx' sv' ∧ (v < 0 → σ' = σ ∧ η' = η) ∧ MMS (U := (Nat → Nat → Nat → Int32)) l g yL_act cL_act 6 (some .int) 12 3 18 [.ref (am 0), .ref b, .int (nI i)] [maC g am (ast 0) (art 0) (alas 0) (atx 0) (ahi 0), stC g ast σ, rtC g art (aliv 0) (asur 0) (ζ 3), rcC g aliv (ζ 0), rcC g asur (ζ 1), rcC g alas (ζ 2), hiC g ahi (fun i => had i 0) η, stC g (had 0) (hσ 0), stC g (had 1) (hσ 1), stC g (had 2) (hσ 2), stC g (had 3) (hσ 3), stC g (had 4) (hσ 4), stC g (had 5) (hσ 5)] b L xs (some (.int v)) (fun ζ' => [maC g am (ast 0) (art 0) (alas 0) (atx 0) (ahi 0), stC g ast σ', rtC g art (aliv 0) (asur 0) (ζ' 3), rcC g aliv (ζ' 0), rcC g asur (ζ' 1), rcC g alas (ζ' 2), hiC g ahi (fun i => had i 0) η', stC g (had 0) (hσ' 0), stC g (had 1) (hσ' 1), stC g (had 2) (hσ' 2), stC g (had 3) (hσ' 3), stC g (had 4) (hσ' 4), stC g (had 5) (hσ' 5)]) := by
  obtain ⟨hJ, hH, hnx, hsv, e1, e2⟩ := id h
  have hI := hJ.1
  obtain ⟨j, hj, ej⟩ := lw_ex (cellI xs L (i + 1)) (n := 14) (by decide) (by decide)
  obtain ⟨x, hx, ex⟩ := lw_ex (cellI xs L (i + 1)) (n := 4) (by decide) (by decide)
  obtain ⟨y, hy, ey⟩ := lw_ex (cellI xs L (i + 2)) (n := 9) (by decide) (by decide)
  obtain ⟨v, σ', η', hσ', nx', sv', hR, hu, hM⟩ := c_L_make l g hfl am ast art alas atx ahi had σ η hσ nx sv B x (1 + y) h hB (by omega) (by omega) (by omega)
  refine ⟨v, σ', η', hσ', nx', sv', hR, hu, ?_⟩
  refine mk_ms hfl (by decide +kernel) (Nat.le_of_ble_eq_true rfl) (fun p e s m below meth c A V hs => ?_)
  have X := V.1
  have hA := V.2.2.2.2
  refine w_aload_n X 1 rfl dL_act_0 ?_
  refine w_iload_n X 2 rfl dL_act_1 ?_
  refine w_iconst X (nI 1) dL_act_2 (by decide +kernel) ?_
  refine w_iadd_n X dL_act_3 ?_
  refine w_cell V hs.1 hs.2.1 hs.2.2 hL (by omega) ⟨Nat.le_of_ble_eq_true rfl, Nat.le_of_ble_eq_true rfl⟩ (Nat.le_of_ble_eq_true rfl) ⟨Nat.le_of_ble_eq_true rfl, Nat.le_of_ble_eq_true rfl⟩ dL_act_4 ?_
  refine w_istore_n X dL_act_7 (by decide) ?_
  refine w_aload_n X 2 rfl dL_act_8 ?_
  refine w_iload_n X 3 rfl dL_act_9 ?_
  refine w_iconst X (nI 2) dL_act_10 (by decide +kernel) ?_
  refine w_iadd_n X dL_act_11 ?_
  refine w_cell V hs.1 hs.2.1 hs.2.2 hL (by omega) ⟨Nat.le_of_ble_eq_true rfl, Nat.le_of_ble_eq_true rfl⟩ (Nat.le_of_ble_eq_true rfl) ⟨Nat.le_of_ble_eq_true rfl, Nat.le_of_ble_eq_true rfl⟩ dL_act_12 ?_
  refine w_istore X dL_act_15 (by decide) ?_
  refine w_iload_n X 1 rfl dL_act_17 ?_
  refine w_bipush X (nI 14) dL_act_18 (by decide +kernel) ?_
  refine w_roS X [] (m_L_low l g (cellI xs L (i + 1)) 14 (by decide) (by decide)) cs_L_low mk_L_74 rfl rfl ⟨Nat.le_of_ble_eq_true rfl, Nat.le_of_ble_eq_true rfl⟩ (Nat.le_of_ble_eq_true rfl) ⟨by (try dsimp only); omega, by (try dsimp only); omega⟩ dL_act_20 rfl ?_
  rw [ej]
  refine w_istore X dL_act_23 (by decide) ?_
  refine w_aload_n X 4 rfl dL_act_25 ?_
  refine w_iload_n X 5 rfl dL_act_26 ?_
  refine w_cell V hs.1 hs.2.1 hs.2.2 hL (by omega) ⟨Nat.le_of_ble_eq_true rfl, Nat.le_of_ble_eq_true rfl⟩ (Nat.le_of_ble_eq_true rfl) ⟨Nat.le_of_ble_eq_true rfl, Nat.le_of_ble_eq_true rfl⟩ dL_act_27 ?_
  refine w_bipush X (nI 18) dL_act_30 (by decide +kernel) ?_
  refine w_roS X [] (m_L_low l g (cellI xs L i) 18 (by decide) (by decide)) cs_L_low mk_L_74 rfl rfl ⟨Nat.le_of_ble_eq_true rfl, Nat.le_of_ble_eq_true rfl⟩ (Nat.le_of_ble_eq_true rfl) ⟨by (try dsimp only); omega, by (try dsimp only); omega⟩ dL_act_32 rfl ?_
  rw [ew]
  refine w_tableIn X 121 dL_act_35 (by decide) (by decide) (by rfl) (by decide) ?_
  refine w_aload_n X 3 rfl dL_act_121 ?_
  refine w_iload_n X 2 rfl dL_act_122 ?_
  refine w_iconst X (nI 4) dL_act_123 (by decide +kernel) ?_
  refine w_roS X [] (m_L_low l g (cellI xs L (i + 1)) 4 (by decide) (by decide)) cs_L_low mk_L_74 rfl rfl ⟨Nat.le_of_ble_eq_true rfl, Nat.le_of_ble_eq_true rfl⟩ (Nat.le_of_ble_eq_true rfl) ⟨by (try dsimp only); omega, by (try dsimp only); omega⟩ dL_act_124 rfl ?_
  rw [ex]
  refine w_iconst X (nI 1) dL_act_127 (by decide +kernel) ?_
  refine w_iload X 1 rfl dL_act_128 ?_
  refine w_bipush X (nI 9) dL_act_130 (by decide +kernel) ?_
  refine w_roS X [] (m_L_low l g (cellI xs L (i + 2)) 9 (by decide) (by decide)) cs_L_low mk_L_74 rfl rfl ⟨Nat.le_of_ble_eq_true rfl, Nat.le_of_ble_eq_true rfl⟩ (Nat.le_of_ble_eq_true rfl) ⟨by (try dsimp only); omega, by (try dsimp only); omega⟩ dL_act_132 rfl ?_
  rw [ey]
  refine w_iadd_n X dL_act_135 ?_
  refine w_mhS V (U := (Nat → Nat → Nat → Int32)) (gr := [rtC g art (aliv 0) (asur 0) (ζ 3), rcC g aliv (ζ 0), rcC g asur (ζ 1), rcC g alas (ζ 2)]) (gs1 := fun ζ1 => [maC g am (ast 0) (art 0) (alas 0) (atx 0) (ahi 0), stC g ast σ', rtC g art (aliv 0) (asur 0) (ζ 3), rcC g aliv (ζ 0), rcC g asur (ζ 1), rcC g alas (ζ 2), hiC g ahi (fun i => had i 0) η', stC g (had 0) (hσ' 0), stC g (had 1) (hσ' 1), stC g (had 2) (hσ' 2), stC g (had 3) (hσ' 3), stC g (had 4) (hσ' 4), stC g (had 5) (hσ' 5)]) [0, 1, 6, 7, 8, 9, 10, 11, 12] [2, 3, 4, 5] hM sh_L_make mk_L_80 rfl rfl rfl (ng := 13) rfl (by decide) (fun _ => rfl) (fun _ => rfl) (fun _ => rfl) ⟨Nat.le_of_ble_eq_true rfl, Nat.le_of_ble_eq_true rfl⟩ (Nat.le_of_ble_eq_true rfl) ⟨by (try dsimp only); omega, by (try dsimp only); omega⟩ dL_act_136 rfl (fun ζ1 => ?_)
  exact w_iret_me X (ζ) (rfl) (rfl) (by (try dsimp only); omega) (by (try dsimp only); omega) dL_act_139
set_option maxRecDepth 100000 in
set_option maxHeartbeats 4000000 in
theorem ma_6 (l : Launch) (g : GG) (hfl : l.stackTraces = false) (am : Nat → Nat) (ast : Nat → Nat) (art : Nat → Nat) (aliv : Nat → Nat) (asur : Nat → Nat) (alas : Nat → Nat) (atx : Nat → Nat) (ahi : Nat → Nat) (had : Nat → Nat → Nat) (σ : Nat → Nat → Int32) (ζ : Nat → Nat → Nat → Int32) (η : Nat → Nat → Int32) (hσ : Nat → Nat → Nat → Int32) (nx sv B i b L : Nat) (xs : Nat → Int32) (h : R27 B σ η hσ nx sv) (hB : B < 900000) (hL : L < 2 ^ 31) (hi : i < 1000000) (ew : lwI (cellI xs L i) 18 = nI 6) : ∃ (v : Int32) (σ' η' : Nat → Nat → Int32) (hσ' : Nat → Nat → Nat → Int32) (nx' sv' : Nat), R27 (B + 25) σ' η' hσ' nx' sv' ∧ (v < 0 → σ' = σ ∧ η' = η) ∧ MMS (U := (Nat → Nat → Nat → Int32)) l g yL_act cL_act 6 (some .int) 12 3 18 [.ref (am 0), .ref b, .int (nI i)] [maC g am (ast 0) (art 0) (alas 0) (atx 0) (ahi 0), stC g ast σ, rtC g art (aliv 0) (asur 0) (ζ 3), rcC g aliv (ζ 0), rcC g asur (ζ 1), rcC g alas (ζ 2), hiC g ahi (fun i => had i 0) η, stC g (had 0) (hσ 0), stC g (had 1) (hσ 1), stC g (had 2) (hσ 2), stC g (had 3) (hσ 3), stC g (had 4) (hσ 4), stC g (had 5) (hσ 5)] b L xs (some (.int v)) (fun ζ' => [maC g am (ast 0) (art 0) (alas 0) (atx 0) (ahi 0), stC g ast σ', rtC g art (aliv 0) (asur 0) (ζ' 3), rcC g aliv (ζ' 0), rcC g asur (ζ' 1), rcC g alas (ζ' 2), hiC g ahi (fun i => had i 0) η', stC g (had 0) (hσ' 0), stC g (had 1) (hσ' 1), stC g (had 2) (hσ' 2), stC g (had 3) (hσ' 3), stC g (had 4) (hσ' 4), stC g (had 5) (hσ' 5)]) := by
  obtain ⟨hJ, hH, hnx, hsv, e1, e2⟩ := id h
  have hI := hJ.1
  obtain ⟨j, hj, ej⟩ := lw_ex (cellI xs L (i + 1)) (n := 14) (by decide) (by decide)
  obtain ⟨x, hx, ex⟩ := lw_ex (cellI xs L (i + 1)) (n := 4) (by decide) (by decide)
  obtain ⟨y, hy, ey⟩ := lw_ex (cellI xs L (i + 2)) (n := 9) (by decide) (by decide)
  obtain ⟨v, σ', η', hσ', nx', sv', hR, hu, hM⟩ := c_L_make l g hfl am ast art alas atx ahi had σ η hσ nx sv B x (1 + y) h hB (by omega) (by omega) (by omega)
  refine ⟨v, σ', η', hσ', nx', sv', hR, hu, ?_⟩
  refine mk_ms hfl (by decide +kernel) (Nat.le_of_ble_eq_true rfl) (fun p e s m below meth c A V hs => ?_)
  have X := V.1
  have hA := V.2.2.2.2
  refine w_aload_n X 1 rfl dL_act_0 ?_
  refine w_iload_n X 2 rfl dL_act_1 ?_
  refine w_iconst X (nI 1) dL_act_2 (by decide +kernel) ?_
  refine w_iadd_n X dL_act_3 ?_
  refine w_cell V hs.1 hs.2.1 hs.2.2 hL (by omega) ⟨Nat.le_of_ble_eq_true rfl, Nat.le_of_ble_eq_true rfl⟩ (Nat.le_of_ble_eq_true rfl) ⟨Nat.le_of_ble_eq_true rfl, Nat.le_of_ble_eq_true rfl⟩ dL_act_4 ?_
  refine w_istore_n X dL_act_7 (by decide) ?_
  refine w_aload_n X 2 rfl dL_act_8 ?_
  refine w_iload_n X 3 rfl dL_act_9 ?_
  refine w_iconst X (nI 2) dL_act_10 (by decide +kernel) ?_
  refine w_iadd_n X dL_act_11 ?_
  refine w_cell V hs.1 hs.2.1 hs.2.2 hL (by omega) ⟨Nat.le_of_ble_eq_true rfl, Nat.le_of_ble_eq_true rfl⟩ (Nat.le_of_ble_eq_true rfl) ⟨Nat.le_of_ble_eq_true rfl, Nat.le_of_ble_eq_true rfl⟩ dL_act_12 ?_
  refine w_istore X dL_act_15 (by decide) ?_
  refine w_iload_n X 1 rfl dL_act_17 ?_
  refine w_bipush X (nI 14) dL_act_18 (by decide +kernel) ?_
  refine w_roS X [] (m_L_low l g (cellI xs L (i + 1)) 14 (by decide) (by decide)) cs_L_low mk_L_74 rfl rfl ⟨Nat.le_of_ble_eq_true rfl, Nat.le_of_ble_eq_true rfl⟩ (Nat.le_of_ble_eq_true rfl) ⟨by (try dsimp only); omega, by (try dsimp only); omega⟩ dL_act_20 rfl ?_
  rw [ej]
  refine w_istore X dL_act_23 (by decide) ?_
  refine w_aload_n X 4 rfl dL_act_25 ?_
  refine w_iload_n X 5 rfl dL_act_26 ?_
  refine w_cell V hs.1 hs.2.1 hs.2.2 hL (by omega) ⟨Nat.le_of_ble_eq_true rfl, Nat.le_of_ble_eq_true rfl⟩ (Nat.le_of_ble_eq_true rfl) ⟨Nat.le_of_ble_eq_true rfl, Nat.le_of_ble_eq_true rfl⟩ dL_act_27 ?_
  refine w_bipush X (nI 18) dL_act_30 (by decide +kernel) ?_
  refine w_roS X [] (m_L_low l g (cellI xs L i) 18 (by decide) (by decide)) cs_L_low mk_L_74 rfl rfl ⟨Nat.le_of_ble_eq_true rfl, Nat.le_of_ble_eq_true rfl⟩ (Nat.le_of_ble_eq_true rfl) ⟨by (try dsimp only); omega, by (try dsimp only); omega⟩ dL_act_32 rfl ?_
  rw [ew]
  refine w_tableIn X 121 dL_act_35 (by decide) (by decide) (by rfl) (by decide) ?_
  refine w_aload_n X 3 rfl dL_act_121 ?_
  refine w_iload_n X 2 rfl dL_act_122 ?_
  refine w_iconst X (nI 4) dL_act_123 (by decide +kernel) ?_
  refine w_roS X [] (m_L_low l g (cellI xs L (i + 1)) 4 (by decide) (by decide)) cs_L_low mk_L_74 rfl rfl ⟨Nat.le_of_ble_eq_true rfl, Nat.le_of_ble_eq_true rfl⟩ (Nat.le_of_ble_eq_true rfl) ⟨by (try dsimp only); omega, by (try dsimp only); omega⟩ dL_act_124 rfl ?_
  rw [ex]
  refine w_iconst X (nI 1) dL_act_127 (by decide +kernel) ?_
  refine w_iload X 1 rfl dL_act_128 ?_
  refine w_bipush X (nI 9) dL_act_130 (by decide +kernel) ?_
  refine w_roS X [] (m_L_low l g (cellI xs L (i + 2)) 9 (by decide) (by decide)) cs_L_low mk_L_74 rfl rfl ⟨Nat.le_of_ble_eq_true rfl, Nat.le_of_ble_eq_true rfl⟩ (Nat.le_of_ble_eq_true rfl) ⟨by (try dsimp only); omega, by (try dsimp only); omega⟩ dL_act_132 rfl ?_
  rw [ey]
  refine w_iadd_n X dL_act_135 ?_
  refine w_mhS V (U := (Nat → Nat → Nat → Int32)) (gr := [rtC g art (aliv 0) (asur 0) (ζ 3), rcC g aliv (ζ 0), rcC g asur (ζ 1), rcC g alas (ζ 2)]) (gs1 := fun ζ1 => [maC g am (ast 0) (art 0) (alas 0) (atx 0) (ahi 0), stC g ast σ', rtC g art (aliv 0) (asur 0) (ζ 3), rcC g aliv (ζ 0), rcC g asur (ζ 1), rcC g alas (ζ 2), hiC g ahi (fun i => had i 0) η', stC g (had 0) (hσ' 0), stC g (had 1) (hσ' 1), stC g (had 2) (hσ' 2), stC g (had 3) (hσ' 3), stC g (had 4) (hσ' 4), stC g (had 5) (hσ' 5)]) [0, 1, 6, 7, 8, 9, 10, 11, 12] [2, 3, 4, 5] hM sh_L_make mk_L_80 rfl rfl rfl (ng := 13) rfl (by decide) (fun _ => rfl) (fun _ => rfl) (fun _ => rfl) ⟨Nat.le_of_ble_eq_true rfl, Nat.le_of_ble_eq_true rfl⟩ (Nat.le_of_ble_eq_true rfl) ⟨by (try dsimp only); omega, by (try dsimp only); omega⟩ dL_act_136 rfl (fun ζ1 => ?_)
  exact w_iret_me X (ζ) (rfl) (rfl) (by (try dsimp only); omega) (by (try dsimp only); omega) dL_act_139
set_option maxRecDepth 100000 in
set_option maxHeartbeats 4000000 in
theorem ma_7 (l : Launch) (g : GG) (hfl : l.stackTraces = false) (am : Nat → Nat) (ast : Nat → Nat) (art : Nat → Nat) (aliv : Nat → Nat) (asur : Nat → Nat) (alas : Nat → Nat) (atx : Nat → Nat) (ahi : Nat → Nat) (had : Nat → Nat → Nat) (σ : Nat → Nat → Int32) (ζ : Nat → Nat → Nat → Int32) (η : Nat → Nat → Int32) (hσ : Nat → Nat → Nat → Int32) (nx sv B i b L : Nat) (xs : Nat → Int32) (h : R27 B σ η hσ nx sv) (hB : B < 900000) (hL : L < 2 ^ 31) (hi : i < 1000000) (ew : lwI (cellI xs L i) 18 = nI 7) : ∃ (v : Int32) (σ' η' : Nat → Nat → Int32) (hσ' : Nat → Nat → Nat → Int32) (nx' sv' : Nat), R27 (B + 25) σ' η' hσ' nx' sv' ∧ (v < 0 → σ' = σ ∧ η' = η) ∧ MMS (U := (Nat → Nat → Nat → Int32)) l g yL_act cL_act 6 (some .int) 12 3 18 [.ref (am 0), .ref b, .int (nI i)] [maC g am (ast 0) (art 0) (alas 0) (atx 0) (ahi 0), stC g ast σ, rtC g art (aliv 0) (asur 0) (ζ 3), rcC g aliv (ζ 0), rcC g asur (ζ 1), rcC g alas (ζ 2), hiC g ahi (fun i => had i 0) η, stC g (had 0) (hσ 0), stC g (had 1) (hσ 1), stC g (had 2) (hσ 2), stC g (had 3) (hσ 3), stC g (had 4) (hσ 4), stC g (had 5) (hσ 5)] b L xs (some (.int v)) (fun ζ' => [maC g am (ast 0) (art 0) (alas 0) (atx 0) (ahi 0), stC g ast σ', rtC g art (aliv 0) (asur 0) (ζ' 3), rcC g aliv (ζ' 0), rcC g asur (ζ' 1), rcC g alas (ζ' 2), hiC g ahi (fun i => had i 0) η', stC g (had 0) (hσ' 0), stC g (had 1) (hσ' 1), stC g (had 2) (hσ' 2), stC g (had 3) (hσ' 3), stC g (had 4) (hσ' 4), stC g (had 5) (hσ' 5)]) := by
  obtain ⟨hJ, hH, hnx, hsv, e1, e2⟩ := id h
  have hI := hJ.1
  obtain ⟨j, hj, ej⟩ := lw_ex (cellI xs L (i + 1)) (n := 14) (by decide) (by decide)
  obtain ⟨q, hq, eq⟩ := lw_ex (cellI xs L (i + 2)) (n := 2) (by decide) (by decide)
  obtain ⟨t0, ht0, et0⟩ := lw_ex (cellI xs L (i + 2)) (n := 15) (by decide) (by decide)
  obtain ⟨v, σ', η', hσ', nx', sv', hR, hu, hM⟩ := c_L_link l g hfl am ast art alas atx ahi had σ η hσ nx sv B j q (nI t0 - nI 1) h hB (by omega) (by omega) (t_of ht0)
  refine ⟨if v = -4 then -4 else nI 0, σ', η', hσ', nx', sv', hR, fun z => ?_, ?_⟩
  · split at z
    · exact hu (by assumption)
    · exact ni_ng (by decide) z
  · refine mk_ms hfl (by decide +kernel) (Nat.le_of_ble_eq_true rfl) (fun p e s m below meth c A V hs => ?_)
    have X := V.1
    have hA := V.2.2.2.2
    refine w_aload_n X 1 rfl dL_act_0 ?_
    refine w_iload_n X 2 rfl dL_act_1 ?_
    refine w_iconst X (nI 1) dL_act_2 (by decide +kernel) ?_
    refine w_iadd_n X dL_act_3 ?_
    refine w_cell V hs.1 hs.2.1 hs.2.2 hL (by omega) ⟨Nat.le_of_ble_eq_true rfl, Nat.le_of_ble_eq_true rfl⟩ (Nat.le_of_ble_eq_true rfl) ⟨Nat.le_of_ble_eq_true rfl, Nat.le_of_ble_eq_true rfl⟩ dL_act_4 ?_
    refine w_istore_n X dL_act_7 (by decide) ?_
    refine w_aload_n X 2 rfl dL_act_8 ?_
    refine w_iload_n X 3 rfl dL_act_9 ?_
    refine w_iconst X (nI 2) dL_act_10 (by decide +kernel) ?_
    refine w_iadd_n X dL_act_11 ?_
    refine w_cell V hs.1 hs.2.1 hs.2.2 hL (by omega) ⟨Nat.le_of_ble_eq_true rfl, Nat.le_of_ble_eq_true rfl⟩ (Nat.le_of_ble_eq_true rfl) ⟨Nat.le_of_ble_eq_true rfl, Nat.le_of_ble_eq_true rfl⟩ dL_act_12 ?_
    refine w_istore X dL_act_15 (by decide) ?_
    refine w_iload_n X 1 rfl dL_act_17 ?_
    refine w_bipush X (nI 14) dL_act_18 (by decide +kernel) ?_
    refine w_roS X [] (m_L_low l g (cellI xs L (i + 1)) 14 (by decide) (by decide)) cs_L_low mk_L_74 rfl rfl ⟨Nat.le_of_ble_eq_true rfl, Nat.le_of_ble_eq_true rfl⟩ (Nat.le_of_ble_eq_true rfl) ⟨by (try dsimp only); omega, by (try dsimp only); omega⟩ dL_act_20 rfl ?_
    rw [ej]
    refine w_istore X dL_act_23 (by decide) ?_
    refine w_aload_n X 4 rfl dL_act_25 ?_
    refine w_iload_n X 5 rfl dL_act_26 ?_
    refine w_cell V hs.1 hs.2.1 hs.2.2 hL (by omega) ⟨Nat.le_of_ble_eq_true rfl, Nat.le_of_ble_eq_true rfl⟩ (Nat.le_of_ble_eq_true rfl) ⟨Nat.le_of_ble_eq_true rfl, Nat.le_of_ble_eq_true rfl⟩ dL_act_27 ?_
    refine w_bipush X (nI 18) dL_act_30 (by decide +kernel) ?_
    refine w_roS X [] (m_L_low l g (cellI xs L i) 18 (by decide) (by decide)) cs_L_low mk_L_74 rfl rfl ⟨Nat.le_of_ble_eq_true rfl, Nat.le_of_ble_eq_true rfl⟩ (Nat.le_of_ble_eq_true rfl) ⟨by (try dsimp only); omega, by (try dsimp only); omega⟩ dL_act_32 rfl ?_
    rw [ew]
    refine w_tableIn X 140 dL_act_35 (by decide) (by decide) (by rfl) (by decide) ?_
    refine w_aload_n X 3 rfl dL_act_140 ?_
    refine w_iload X 0 rfl dL_act_141 ?_
    refine w_iload X 1 rfl dL_act_143 ?_
    refine w_iconst X (nI 2) dL_act_145 (by decide +kernel) ?_
    refine w_roS X [] (m_L_low l g (cellI xs L (i + 2)) 2 (by decide) (by decide)) cs_L_low mk_L_74 rfl rfl ⟨Nat.le_of_ble_eq_true rfl, Nat.le_of_ble_eq_true rfl⟩ (Nat.le_of_ble_eq_true rfl) ⟨by (try dsimp only); omega, by (try dsimp only); omega⟩ dL_act_146 rfl ?_
    rw [eq]
    refine w_iload X 1 rfl dL_act_149 ?_
    refine w_bipush X (nI 15) dL_act_151 (by decide +kernel) ?_
    refine w_roS X [] (m_L_low l g (cellI xs L (i + 2)) 15 (by decide) (by decide)) cs_L_low mk_L_74 rfl rfl ⟨Nat.le_of_ble_eq_true rfl, Nat.le_of_ble_eq_true rfl⟩ (Nat.le_of_ble_eq_true rfl) ⟨by (try dsimp only); omega, by (try dsimp only); omega⟩ dL_act_153 rfl ?_
    rw [et0]
    refine w_iconst X (nI 1) dL_act_156 (by decide +kernel) ?_
    refine w_isub X dL_act_157 ?_
    refine w_mhS V (U := (Nat → Nat → Nat → Int32)) (gr := [rtC g art (aliv 0) (asur 0) (ζ 3), rcC g aliv (ζ 0), rcC g asur (ζ 1), rcC g alas (ζ 2)]) (gs1 := fun ζ1 => [maC g am (ast 0) (art 0) (alas 0) (atx 0) (ahi 0), stC g ast σ', rtC g art (aliv 0) (asur 0) (ζ 3), rcC g aliv (ζ 0), rcC g asur (ζ 1), rcC g alas (ζ 2), hiC g ahi (fun i => had i 0) η', stC g (had 0) (hσ' 0), stC g (had 1) (hσ' 1), stC g (had 2) (hσ' 2), stC g (had 3) (hσ' 3), stC g (had 4) (hσ' 4), stC g (had 5) (hσ' 5)]) [0, 1, 6, 7, 8, 9, 10, 11, 12] [2, 3, 4, 5] hM sh_L_link mk_L_82 rfl rfl rfl (ng := 13) rfl (by decide) (fun _ => rfl) (fun _ => rfl) (fun _ => rfl) ⟨Nat.le_of_ble_eq_true rfl, Nat.le_of_ble_eq_true rfl⟩ (Nat.le_of_ble_eq_true rfl) ⟨by (try dsimp only); omega, by (try dsimp only); omega⟩ dL_act_158 rfl (fun ζ1 => ?_)
    refine w_bipush X (-4) dL_act_161 (by decide +kernel) ?_
    refine w_ic_ne X 171 dL_act_163 (by decide) (fun c163 => ?_) (fun c163 => ?_)
    · refine w_iconst X (nI 0) dL_act_171 (by decide +kernel) ?_
      exact w_iret_me X (ζ) (by rw [if_neg c163]) (rfl) (by (try dsimp only); omega) (by (try dsimp only); omega) dL_act_172
    · refine w_bipush X (-4) dL_act_166 (by decide +kernel) ?_
      refine w_goto X 172 dL_act_168 (by decide) ?_
      exact w_iret_me X (ζ) (by rw [if_pos c163]) (rfl) (by (try dsimp only); omega) (by (try dsimp only); omega) dL_act_172
set_option maxRecDepth 100000 in
set_option maxHeartbeats 4000000 in
theorem ma_8 (l : Launch) (g : GG) (hfl : l.stackTraces = false) (am : Nat → Nat) (ast : Nat → Nat) (art : Nat → Nat) (aliv : Nat → Nat) (asur : Nat → Nat) (alas : Nat → Nat) (atx : Nat → Nat) (ahi : Nat → Nat) (had : Nat → Nat → Nat) (σ : Nat → Nat → Int32) (ζ : Nat → Nat → Nat → Int32) (η : Nat → Nat → Int32) (hσ : Nat → Nat → Nat → Int32) (nx sv B i b L : Nat) (xs : Nat → Int32) (h : R27 B σ η hσ nx sv) (hB : B < 900000) (hL : L < 2 ^ 31) (hi : i < 1000000) (ew : lwI (cellI xs L i) 18 = nI 8) : ∃ (v : Int32) (σ' η' : Nat → Nat → Int32) (hσ' : Nat → Nat → Nat → Int32) (nx' sv' : Nat), R27 (B + 25) σ' η' hσ' nx' sv' ∧ (v < 0 → σ' = σ ∧ η' = η) ∧ MMS (U := (Nat → Nat → Nat → Int32)) l g yL_act cL_act 6 (some .int) 12 3 18 [.ref (am 0), .ref b, .int (nI i)] [maC g am (ast 0) (art 0) (alas 0) (atx 0) (ahi 0), stC g ast σ, rtC g art (aliv 0) (asur 0) (ζ 3), rcC g aliv (ζ 0), rcC g asur (ζ 1), rcC g alas (ζ 2), hiC g ahi (fun i => had i 0) η, stC g (had 0) (hσ 0), stC g (had 1) (hσ 1), stC g (had 2) (hσ 2), stC g (had 3) (hσ 3), stC g (had 4) (hσ 4), stC g (had 5) (hσ 5)] b L xs (some (.int v)) (fun ζ' => [maC g am (ast 0) (art 0) (alas 0) (atx 0) (ahi 0), stC g ast σ', rtC g art (aliv 0) (asur 0) (ζ' 3), rcC g aliv (ζ' 0), rcC g asur (ζ' 1), rcC g alas (ζ' 2), hiC g ahi (fun i => had i 0) η', stC g (had 0) (hσ' 0), stC g (had 1) (hσ' 1), stC g (had 2) (hσ' 2), stC g (had 3) (hσ' 3), stC g (had 4) (hσ' 4), stC g (had 5) (hσ' 5)]) := by
  obtain ⟨hJ, hH, hnx, hsv, e1, e2⟩ := id h
  have hI := hJ.1
  obtain ⟨j, hj, ej⟩ := lw_ex (cellI xs L (i + 1)) (n := 14) (by decide) (by decide)
  obtain ⟨q, hq, eq⟩ := lw_ex (cellI xs L (i + 2)) (n := 2) (by decide) (by decide)
  obtain ⟨t0, ht0, et0⟩ := lw_ex (cellI xs L (i + 2)) (n := 15) (by decide) (by decide)
  obtain ⟨v, σ', η', hσ', nx', sv', hR, hu, hM⟩ := c_L_link l g hfl am ast art alas atx ahi had σ η hσ nx sv B j q (nI t0 - nI 1) h hB (by omega) (by omega) (t_of ht0)
  refine ⟨if v = -4 then -4 else nI 0, σ', η', hσ', nx', sv', hR, fun z => ?_, ?_⟩
  · split at z
    · exact hu (by assumption)
    · exact ni_ng (by decide) z
  · refine mk_ms hfl (by decide +kernel) (Nat.le_of_ble_eq_true rfl) (fun p e s m below meth c A V hs => ?_)
    have X := V.1
    have hA := V.2.2.2.2
    refine w_aload_n X 1 rfl dL_act_0 ?_
    refine w_iload_n X 2 rfl dL_act_1 ?_
    refine w_iconst X (nI 1) dL_act_2 (by decide +kernel) ?_
    refine w_iadd_n X dL_act_3 ?_
    refine w_cell V hs.1 hs.2.1 hs.2.2 hL (by omega) ⟨Nat.le_of_ble_eq_true rfl, Nat.le_of_ble_eq_true rfl⟩ (Nat.le_of_ble_eq_true rfl) ⟨Nat.le_of_ble_eq_true rfl, Nat.le_of_ble_eq_true rfl⟩ dL_act_4 ?_
    refine w_istore_n X dL_act_7 (by decide) ?_
    refine w_aload_n X 2 rfl dL_act_8 ?_
    refine w_iload_n X 3 rfl dL_act_9 ?_
    refine w_iconst X (nI 2) dL_act_10 (by decide +kernel) ?_
    refine w_iadd_n X dL_act_11 ?_
    refine w_cell V hs.1 hs.2.1 hs.2.2 hL (by omega) ⟨Nat.le_of_ble_eq_true rfl, Nat.le_of_ble_eq_true rfl⟩ (Nat.le_of_ble_eq_true rfl) ⟨Nat.le_of_ble_eq_true rfl, Nat.le_of_ble_eq_true rfl⟩ dL_act_12 ?_
    refine w_istore X dL_act_15 (by decide) ?_
    refine w_iload_n X 1 rfl dL_act_17 ?_
    refine w_bipush X (nI 14) dL_act_18 (by decide +kernel) ?_
    refine w_roS X [] (m_L_low l g (cellI xs L (i + 1)) 14 (by decide) (by decide)) cs_L_low mk_L_74 rfl rfl ⟨Nat.le_of_ble_eq_true rfl, Nat.le_of_ble_eq_true rfl⟩ (Nat.le_of_ble_eq_true rfl) ⟨by (try dsimp only); omega, by (try dsimp only); omega⟩ dL_act_20 rfl ?_
    rw [ej]
    refine w_istore X dL_act_23 (by decide) ?_
    refine w_aload_n X 4 rfl dL_act_25 ?_
    refine w_iload_n X 5 rfl dL_act_26 ?_
    refine w_cell V hs.1 hs.2.1 hs.2.2 hL (by omega) ⟨Nat.le_of_ble_eq_true rfl, Nat.le_of_ble_eq_true rfl⟩ (Nat.le_of_ble_eq_true rfl) ⟨Nat.le_of_ble_eq_true rfl, Nat.le_of_ble_eq_true rfl⟩ dL_act_27 ?_
    refine w_bipush X (nI 18) dL_act_30 (by decide +kernel) ?_
    refine w_roS X [] (m_L_low l g (cellI xs L i) 18 (by decide) (by decide)) cs_L_low mk_L_74 rfl rfl ⟨Nat.le_of_ble_eq_true rfl, Nat.le_of_ble_eq_true rfl⟩ (Nat.le_of_ble_eq_true rfl) ⟨by (try dsimp only); omega, by (try dsimp only); omega⟩ dL_act_32 rfl ?_
    rw [ew]
    refine w_tableIn X 140 dL_act_35 (by decide) (by decide) (by rfl) (by decide) ?_
    refine w_aload_n X 3 rfl dL_act_140 ?_
    refine w_iload X 0 rfl dL_act_141 ?_
    refine w_iload X 1 rfl dL_act_143 ?_
    refine w_iconst X (nI 2) dL_act_145 (by decide +kernel) ?_
    refine w_roS X [] (m_L_low l g (cellI xs L (i + 2)) 2 (by decide) (by decide)) cs_L_low mk_L_74 rfl rfl ⟨Nat.le_of_ble_eq_true rfl, Nat.le_of_ble_eq_true rfl⟩ (Nat.le_of_ble_eq_true rfl) ⟨by (try dsimp only); omega, by (try dsimp only); omega⟩ dL_act_146 rfl ?_
    rw [eq]
    refine w_iload X 1 rfl dL_act_149 ?_
    refine w_bipush X (nI 15) dL_act_151 (by decide +kernel) ?_
    refine w_roS X [] (m_L_low l g (cellI xs L (i + 2)) 15 (by decide) (by decide)) cs_L_low mk_L_74 rfl rfl ⟨Nat.le_of_ble_eq_true rfl, Nat.le_of_ble_eq_true rfl⟩ (Nat.le_of_ble_eq_true rfl) ⟨by (try dsimp only); omega, by (try dsimp only); omega⟩ dL_act_153 rfl ?_
    rw [et0]
    refine w_iconst X (nI 1) dL_act_156 (by decide +kernel) ?_
    refine w_isub X dL_act_157 ?_
    refine w_mhS V (U := (Nat → Nat → Nat → Int32)) (gr := [rtC g art (aliv 0) (asur 0) (ζ 3), rcC g aliv (ζ 0), rcC g asur (ζ 1), rcC g alas (ζ 2)]) (gs1 := fun ζ1 => [maC g am (ast 0) (art 0) (alas 0) (atx 0) (ahi 0), stC g ast σ', rtC g art (aliv 0) (asur 0) (ζ 3), rcC g aliv (ζ 0), rcC g asur (ζ 1), rcC g alas (ζ 2), hiC g ahi (fun i => had i 0) η', stC g (had 0) (hσ' 0), stC g (had 1) (hσ' 1), stC g (had 2) (hσ' 2), stC g (had 3) (hσ' 3), stC g (had 4) (hσ' 4), stC g (had 5) (hσ' 5)]) [0, 1, 6, 7, 8, 9, 10, 11, 12] [2, 3, 4, 5] hM sh_L_link mk_L_82 rfl rfl rfl (ng := 13) rfl (by decide) (fun _ => rfl) (fun _ => rfl) (fun _ => rfl) ⟨Nat.le_of_ble_eq_true rfl, Nat.le_of_ble_eq_true rfl⟩ (Nat.le_of_ble_eq_true rfl) ⟨by (try dsimp only); omega, by (try dsimp only); omega⟩ dL_act_158 rfl (fun ζ1 => ?_)
    refine w_bipush X (-4) dL_act_161 (by decide +kernel) ?_
    refine w_ic_ne X 171 dL_act_163 (by decide) (fun c163 => ?_) (fun c163 => ?_)
    · refine w_iconst X (nI 0) dL_act_171 (by decide +kernel) ?_
      exact w_iret_me X (ζ) (by rw [if_neg c163]) (rfl) (by (try dsimp only); omega) (by (try dsimp only); omega) dL_act_172
    · refine w_bipush X (-4) dL_act_166 (by decide +kernel) ?_
      refine w_goto X 172 dL_act_168 (by decide) ?_
      exact w_iret_me X (ζ) (by rw [if_pos c163]) (rfl) (by (try dsimp only); omega) (by (try dsimp only); omega) dL_act_172
set_option maxRecDepth 100000 in
set_option maxHeartbeats 4000000 in
theorem ma_9 (l : Launch) (g : GG) (hfl : l.stackTraces = false) (am : Nat → Nat) (ast : Nat → Nat) (art : Nat → Nat) (aliv : Nat → Nat) (asur : Nat → Nat) (alas : Nat → Nat) (atx : Nat → Nat) (ahi : Nat → Nat) (had : Nat → Nat → Nat) (σ : Nat → Nat → Int32) (ζ : Nat → Nat → Nat → Int32) (η : Nat → Nat → Int32) (hσ : Nat → Nat → Nat → Int32) (nx sv B i b L : Nat) (xs : Nat → Int32) (h : R27 B σ η hσ nx sv) (hB : B < 900000) (hL : L < 2 ^ 31) (hi : i < 1000000) (ew : lwI (cellI xs L i) 18 = nI 9) : ∃ (v : Int32) (σ' η' : Nat → Nat → Int32) (hσ' : Nat → Nat → Nat → Int32) (nx' sv' : Nat), R27 (B + 25) σ' η' hσ' nx' sv' ∧ (v < 0 → σ' = σ ∧ η' = η) ∧ MMS (U := (Nat → Nat → Nat → Int32)) l g yL_act cL_act 6 (some .int) 12 3 18 [.ref (am 0), .ref b, .int (nI i)] [maC g am (ast 0) (art 0) (alas 0) (atx 0) (ahi 0), stC g ast σ, rtC g art (aliv 0) (asur 0) (ζ 3), rcC g aliv (ζ 0), rcC g asur (ζ 1), rcC g alas (ζ 2), hiC g ahi (fun i => had i 0) η, stC g (had 0) (hσ 0), stC g (had 1) (hσ 1), stC g (had 2) (hσ 2), stC g (had 3) (hσ 3), stC g (had 4) (hσ 4), stC g (had 5) (hσ 5)] b L xs (some (.int v)) (fun ζ' => [maC g am (ast 0) (art 0) (alas 0) (atx 0) (ahi 0), stC g ast σ', rtC g art (aliv 0) (asur 0) (ζ' 3), rcC g aliv (ζ' 0), rcC g asur (ζ' 1), rcC g alas (ζ' 2), hiC g ahi (fun i => had i 0) η', stC g (had 0) (hσ' 0), stC g (had 1) (hσ' 1), stC g (had 2) (hσ' 2), stC g (had 3) (hσ' 3), stC g (had 4) (hσ' 4), stC g (had 5) (hσ' 5)]) := by
  obtain ⟨hJ, hH, hnx, hsv, e1, e2⟩ := id h
  have hI := hJ.1
  obtain ⟨j, hj, ej⟩ := lw_ex (cellI xs L (i + 1)) (n := 14) (by decide) (by decide)
  obtain ⟨q, hq, eq⟩ := lw_ex (cellI xs L (i + 2)) (n := 2) (by decide) (by decide)
  obtain ⟨t0, ht0, et0⟩ := lw_ex (cellI xs L (i + 2)) (n := 15) (by decide) (by decide)
  obtain ⟨v, σ', η', hσ', nx', sv', hR, hu, hM⟩ := c_L_link l g hfl am ast art alas atx ahi had σ η hσ nx sv B j q (nI t0 - nI 1) h hB (by omega) (by omega) (t_of ht0)
  refine ⟨if v = -4 then -4 else nI 0, σ', η', hσ', nx', sv', hR, fun z => ?_, ?_⟩
  · split at z
    · exact hu (by assumption)
    · exact ni_ng (by decide) z
  · refine mk_ms hfl (by decide +kernel) (Nat.le_of_ble_eq_true rfl) (fun p e s m below meth c A V hs => ?_)
    have X := V.1
    have hA := V.2.2.2.2
    refine w_aload_n X 1 rfl dL_act_0 ?_
    refine w_iload_n X 2 rfl dL_act_1 ?_
    refine w_iconst X (nI 1) dL_act_2 (by decide +kernel) ?_
    refine w_iadd_n X dL_act_3 ?_
    refine w_cell V hs.1 hs.2.1 hs.2.2 hL (by omega) ⟨Nat.le_of_ble_eq_true rfl, Nat.le_of_ble_eq_true rfl⟩ (Nat.le_of_ble_eq_true rfl) ⟨Nat.le_of_ble_eq_true rfl, Nat.le_of_ble_eq_true rfl⟩ dL_act_4 ?_
    refine w_istore_n X dL_act_7 (by decide) ?_
    refine w_aload_n X 2 rfl dL_act_8 ?_
    refine w_iload_n X 3 rfl dL_act_9 ?_
    refine w_iconst X (nI 2) dL_act_10 (by decide +kernel) ?_
    refine w_iadd_n X dL_act_11 ?_
    refine w_cell V hs.1 hs.2.1 hs.2.2 hL (by omega) ⟨Nat.le_of_ble_eq_true rfl, Nat.le_of_ble_eq_true rfl⟩ (Nat.le_of_ble_eq_true rfl) ⟨Nat.le_of_ble_eq_true rfl, Nat.le_of_ble_eq_true rfl⟩ dL_act_12 ?_
    refine w_istore X dL_act_15 (by decide) ?_
    refine w_iload_n X 1 rfl dL_act_17 ?_
    refine w_bipush X (nI 14) dL_act_18 (by decide +kernel) ?_
    refine w_roS X [] (m_L_low l g (cellI xs L (i + 1)) 14 (by decide) (by decide)) cs_L_low mk_L_74 rfl rfl ⟨Nat.le_of_ble_eq_true rfl, Nat.le_of_ble_eq_true rfl⟩ (Nat.le_of_ble_eq_true rfl) ⟨by (try dsimp only); omega, by (try dsimp only); omega⟩ dL_act_20 rfl ?_
    rw [ej]
    refine w_istore X dL_act_23 (by decide) ?_
    refine w_aload_n X 4 rfl dL_act_25 ?_
    refine w_iload_n X 5 rfl dL_act_26 ?_
    refine w_cell V hs.1 hs.2.1 hs.2.2 hL (by omega) ⟨Nat.le_of_ble_eq_true rfl, Nat.le_of_ble_eq_true rfl⟩ (Nat.le_of_ble_eq_true rfl) ⟨Nat.le_of_ble_eq_true rfl, Nat.le_of_ble_eq_true rfl⟩ dL_act_27 ?_
    refine w_bipush X (nI 18) dL_act_30 (by decide +kernel) ?_
    refine w_roS X [] (m_L_low l g (cellI xs L i) 18 (by decide) (by decide)) cs_L_low mk_L_74 rfl rfl ⟨Nat.le_of_ble_eq_true rfl, Nat.le_of_ble_eq_true rfl⟩ (Nat.le_of_ble_eq_true rfl) ⟨by (try dsimp only); omega, by (try dsimp only); omega⟩ dL_act_32 rfl ?_
    rw [ew]
    refine w_tableIn X 140 dL_act_35 (by decide) (by decide) (by rfl) (by decide) ?_
    refine w_aload_n X 3 rfl dL_act_140 ?_
    refine w_iload X 0 rfl dL_act_141 ?_
    refine w_iload X 1 rfl dL_act_143 ?_
    refine w_iconst X (nI 2) dL_act_145 (by decide +kernel) ?_
    refine w_roS X [] (m_L_low l g (cellI xs L (i + 2)) 2 (by decide) (by decide)) cs_L_low mk_L_74 rfl rfl ⟨Nat.le_of_ble_eq_true rfl, Nat.le_of_ble_eq_true rfl⟩ (Nat.le_of_ble_eq_true rfl) ⟨by (try dsimp only); omega, by (try dsimp only); omega⟩ dL_act_146 rfl ?_
    rw [eq]
    refine w_iload X 1 rfl dL_act_149 ?_
    refine w_bipush X (nI 15) dL_act_151 (by decide +kernel) ?_
    refine w_roS X [] (m_L_low l g (cellI xs L (i + 2)) 15 (by decide) (by decide)) cs_L_low mk_L_74 rfl rfl ⟨Nat.le_of_ble_eq_true rfl, Nat.le_of_ble_eq_true rfl⟩ (Nat.le_of_ble_eq_true rfl) ⟨by (try dsimp only); omega, by (try dsimp only); omega⟩ dL_act_153 rfl ?_
    rw [et0]
    refine w_iconst X (nI 1) dL_act_156 (by decide +kernel) ?_
    refine w_isub X dL_act_157 ?_
    refine w_mhS V (U := (Nat → Nat → Nat → Int32)) (gr := [rtC g art (aliv 0) (asur 0) (ζ 3), rcC g aliv (ζ 0), rcC g asur (ζ 1), rcC g alas (ζ 2)]) (gs1 := fun ζ1 => [maC g am (ast 0) (art 0) (alas 0) (atx 0) (ahi 0), stC g ast σ', rtC g art (aliv 0) (asur 0) (ζ 3), rcC g aliv (ζ 0), rcC g asur (ζ 1), rcC g alas (ζ 2), hiC g ahi (fun i => had i 0) η', stC g (had 0) (hσ' 0), stC g (had 1) (hσ' 1), stC g (had 2) (hσ' 2), stC g (had 3) (hσ' 3), stC g (had 4) (hσ' 4), stC g (had 5) (hσ' 5)]) [0, 1, 6, 7, 8, 9, 10, 11, 12] [2, 3, 4, 5] hM sh_L_link mk_L_82 rfl rfl rfl (ng := 13) rfl (by decide) (fun _ => rfl) (fun _ => rfl) (fun _ => rfl) ⟨Nat.le_of_ble_eq_true rfl, Nat.le_of_ble_eq_true rfl⟩ (Nat.le_of_ble_eq_true rfl) ⟨by (try dsimp only); omega, by (try dsimp only); omega⟩ dL_act_158 rfl (fun ζ1 => ?_)
    refine w_bipush X (-4) dL_act_161 (by decide +kernel) ?_
    refine w_ic_ne X 171 dL_act_163 (by decide) (fun c163 => ?_) (fun c163 => ?_)
    · refine w_iconst X (nI 0) dL_act_171 (by decide +kernel) ?_
      exact w_iret_me X (ζ) (by rw [if_neg c163]) (rfl) (by (try dsimp only); omega) (by (try dsimp only); omega) dL_act_172
    · refine w_bipush X (-4) dL_act_166 (by decide +kernel) ?_
      refine w_goto X 172 dL_act_168 (by decide) ?_
      exact w_iret_me X (ζ) (by rw [if_pos c163]) (rfl) (by (try dsimp only); omega) (by (try dsimp only); omega) dL_act_172
set_option maxRecDepth 100000 in
set_option maxHeartbeats 4000000 in
theorem ma_10 (l : Launch) (g : GG) (hfl : l.stackTraces = false) (am : Nat → Nat) (ast : Nat → Nat) (art : Nat → Nat) (aliv : Nat → Nat) (asur : Nat → Nat) (alas : Nat → Nat) (atx : Nat → Nat) (ahi : Nat → Nat) (had : Nat → Nat → Nat) (σ : Nat → Nat → Int32) (ζ : Nat → Nat → Nat → Int32) (η : Nat → Nat → Int32) (hσ : Nat → Nat → Nat → Int32) (nx sv B i b L : Nat) (xs : Nat → Int32) (h : R27 B σ η hσ nx sv) (hB : B < 900000) (hL : L < 2 ^ 31) (hi : i < 1000000) (ew : lwI (cellI xs L i) 18 = nI 10) : ∃ (v : Int32) (σ' η' : Nat → Nat → Int32) (hσ' : Nat → Nat → Nat → Int32) (nx' sv' : Nat), R27 (B + 25) σ' η' hσ' nx' sv' ∧ (v < 0 → σ' = σ ∧ η' = η) ∧ MMS (U := (Nat → Nat → Nat → Int32)) l g yL_act cL_act 6 (some .int) 12 3 18 [.ref (am 0), .ref b, .int (nI i)] [maC g am (ast 0) (art 0) (alas 0) (atx 0) (ahi 0), stC g ast σ, rtC g art (aliv 0) (asur 0) (ζ 3), rcC g aliv (ζ 0), rcC g asur (ζ 1), rcC g alas (ζ 2), hiC g ahi (fun i => had i 0) η, stC g (had 0) (hσ 0), stC g (had 1) (hσ 1), stC g (had 2) (hσ 2), stC g (had 3) (hσ 3), stC g (had 4) (hσ 4), stC g (had 5) (hσ 5)] b L xs (some (.int v)) (fun ζ' => [maC g am (ast 0) (art 0) (alas 0) (atx 0) (ahi 0), stC g ast σ', rtC g art (aliv 0) (asur 0) (ζ' 3), rcC g aliv (ζ' 0), rcC g asur (ζ' 1), rcC g alas (ζ' 2), hiC g ahi (fun i => had i 0) η', stC g (had 0) (hσ' 0), stC g (had 1) (hσ' 1), stC g (had 2) (hσ' 2), stC g (had 3) (hσ' 3), stC g (had 4) (hσ' 4), stC g (had 5) (hσ' 5)]) := by
  obtain ⟨hJ, hH, hnx, hsv, e1, e2⟩ := id h
  have hI := hJ.1
  obtain ⟨j, hj, ej⟩ := lw_ex (cellI xs L (i + 1)) (n := 14) (by decide) (by decide)
  obtain ⟨q, hq, eq⟩ := lw_ex (cellI xs L (i + 2)) (n := 2) (by decide) (by decide)
  obtain ⟨t0, ht0, et0⟩ := lw_ex (cellI xs L (i + 2)) (n := 15) (by decide) (by decide)
  obtain ⟨v, σ', η', hσ', nx', sv', hR, hu, hM⟩ := c_L_link l g hfl am ast art alas atx ahi had σ η hσ nx sv B j q (nI t0 - nI 1) h hB (by omega) (by omega) (t_of ht0)
  refine ⟨if v = -4 then -4 else nI 0, σ', η', hσ', nx', sv', hR, fun z => ?_, ?_⟩
  · split at z
    · exact hu (by assumption)
    · exact ni_ng (by decide) z
  · refine mk_ms hfl (by decide +kernel) (Nat.le_of_ble_eq_true rfl) (fun p e s m below meth c A V hs => ?_)
    have X := V.1
    have hA := V.2.2.2.2
    refine w_aload_n X 1 rfl dL_act_0 ?_
    refine w_iload_n X 2 rfl dL_act_1 ?_
    refine w_iconst X (nI 1) dL_act_2 (by decide +kernel) ?_
    refine w_iadd_n X dL_act_3 ?_
    refine w_cell V hs.1 hs.2.1 hs.2.2 hL (by omega) ⟨Nat.le_of_ble_eq_true rfl, Nat.le_of_ble_eq_true rfl⟩ (Nat.le_of_ble_eq_true rfl) ⟨Nat.le_of_ble_eq_true rfl, Nat.le_of_ble_eq_true rfl⟩ dL_act_4 ?_
    refine w_istore_n X dL_act_7 (by decide) ?_
    refine w_aload_n X 2 rfl dL_act_8 ?_
    refine w_iload_n X 3 rfl dL_act_9 ?_
    refine w_iconst X (nI 2) dL_act_10 (by decide +kernel) ?_
    refine w_iadd_n X dL_act_11 ?_
    refine w_cell V hs.1 hs.2.1 hs.2.2 hL (by omega) ⟨Nat.le_of_ble_eq_true rfl, Nat.le_of_ble_eq_true rfl⟩ (Nat.le_of_ble_eq_true rfl) ⟨Nat.le_of_ble_eq_true rfl, Nat.le_of_ble_eq_true rfl⟩ dL_act_12 ?_
    refine w_istore X dL_act_15 (by decide) ?_
    refine w_iload_n X 1 rfl dL_act_17 ?_
    refine w_bipush X (nI 14) dL_act_18 (by decide +kernel) ?_
    refine w_roS X [] (m_L_low l g (cellI xs L (i + 1)) 14 (by decide) (by decide)) cs_L_low mk_L_74 rfl rfl ⟨Nat.le_of_ble_eq_true rfl, Nat.le_of_ble_eq_true rfl⟩ (Nat.le_of_ble_eq_true rfl) ⟨by (try dsimp only); omega, by (try dsimp only); omega⟩ dL_act_20 rfl ?_
    rw [ej]
    refine w_istore X dL_act_23 (by decide) ?_
    refine w_aload_n X 4 rfl dL_act_25 ?_
    refine w_iload_n X 5 rfl dL_act_26 ?_
    refine w_cell V hs.1 hs.2.1 hs.2.2 hL (by omega) ⟨Nat.le_of_ble_eq_true rfl, Nat.le_of_ble_eq_true rfl⟩ (Nat.le_of_ble_eq_true rfl) ⟨Nat.le_of_ble_eq_true rfl, Nat.le_of_ble_eq_true rfl⟩ dL_act_27 ?_
    refine w_bipush X (nI 18) dL_act_30 (by decide +kernel) ?_
    refine w_roS X [] (m_L_low l g (cellI xs L i) 18 (by decide) (by decide)) cs_L_low mk_L_74 rfl rfl ⟨Nat.le_of_ble_eq_true rfl, Nat.le_of_ble_eq_true rfl⟩ (Nat.le_of_ble_eq_true rfl) ⟨by (try dsimp only); omega, by (try dsimp only); omega⟩ dL_act_32 rfl ?_
    rw [ew]
    refine w_tableIn X 140 dL_act_35 (by decide) (by decide) (by rfl) (by decide) ?_
    refine w_aload_n X 3 rfl dL_act_140 ?_
    refine w_iload X 0 rfl dL_act_141 ?_
    refine w_iload X 1 rfl dL_act_143 ?_
    refine w_iconst X (nI 2) dL_act_145 (by decide +kernel) ?_
    refine w_roS X [] (m_L_low l g (cellI xs L (i + 2)) 2 (by decide) (by decide)) cs_L_low mk_L_74 rfl rfl ⟨Nat.le_of_ble_eq_true rfl, Nat.le_of_ble_eq_true rfl⟩ (Nat.le_of_ble_eq_true rfl) ⟨by (try dsimp only); omega, by (try dsimp only); omega⟩ dL_act_146 rfl ?_
    rw [eq]
    refine w_iload X 1 rfl dL_act_149 ?_
    refine w_bipush X (nI 15) dL_act_151 (by decide +kernel) ?_
    refine w_roS X [] (m_L_low l g (cellI xs L (i + 2)) 15 (by decide) (by decide)) cs_L_low mk_L_74 rfl rfl ⟨Nat.le_of_ble_eq_true rfl, Nat.le_of_ble_eq_true rfl⟩ (Nat.le_of_ble_eq_true rfl) ⟨by (try dsimp only); omega, by (try dsimp only); omega⟩ dL_act_153 rfl ?_
    rw [et0]
    refine w_iconst X (nI 1) dL_act_156 (by decide +kernel) ?_
    refine w_isub X dL_act_157 ?_
    refine w_mhS V (U := (Nat → Nat → Nat → Int32)) (gr := [rtC g art (aliv 0) (asur 0) (ζ 3), rcC g aliv (ζ 0), rcC g asur (ζ 1), rcC g alas (ζ 2)]) (gs1 := fun ζ1 => [maC g am (ast 0) (art 0) (alas 0) (atx 0) (ahi 0), stC g ast σ', rtC g art (aliv 0) (asur 0) (ζ 3), rcC g aliv (ζ 0), rcC g asur (ζ 1), rcC g alas (ζ 2), hiC g ahi (fun i => had i 0) η', stC g (had 0) (hσ' 0), stC g (had 1) (hσ' 1), stC g (had 2) (hσ' 2), stC g (had 3) (hσ' 3), stC g (had 4) (hσ' 4), stC g (had 5) (hσ' 5)]) [0, 1, 6, 7, 8, 9, 10, 11, 12] [2, 3, 4, 5] hM sh_L_link mk_L_82 rfl rfl rfl (ng := 13) rfl (by decide) (fun _ => rfl) (fun _ => rfl) (fun _ => rfl) ⟨Nat.le_of_ble_eq_true rfl, Nat.le_of_ble_eq_true rfl⟩ (Nat.le_of_ble_eq_true rfl) ⟨by (try dsimp only); omega, by (try dsimp only); omega⟩ dL_act_158 rfl (fun ζ1 => ?_)
    refine w_bipush X (-4) dL_act_161 (by decide +kernel) ?_
    refine w_ic_ne X 171 dL_act_163 (by decide) (fun c163 => ?_) (fun c163 => ?_)
    · refine w_iconst X (nI 0) dL_act_171 (by decide +kernel) ?_
      exact w_iret_me X (ζ) (by rw [if_neg c163]) (rfl) (by (try dsimp only); omega) (by (try dsimp only); omega) dL_act_172
    · refine w_bipush X (-4) dL_act_166 (by decide +kernel) ?_
      refine w_goto X 172 dL_act_168 (by decide) ?_
      exact w_iret_me X (ζ) (by rw [if_pos c163]) (rfl) (by (try dsimp only); omega) (by (try dsimp only); omega) dL_act_172
set_option maxRecDepth 100000 in
set_option maxHeartbeats 4000000 in
theorem ma_11 (l : Launch) (g : GG) (hfl : l.stackTraces = false) (am : Nat → Nat) (ast : Nat → Nat) (art : Nat → Nat) (aliv : Nat → Nat) (asur : Nat → Nat) (alas : Nat → Nat) (atx : Nat → Nat) (ahi : Nat → Nat) (had : Nat → Nat → Nat) (σ : Nat → Nat → Int32) (ζ : Nat → Nat → Nat → Int32) (η : Nat → Nat → Int32) (hσ : Nat → Nat → Nat → Int32) (nx sv B i b L : Nat) (xs : Nat → Int32) (h : R27 B σ η hσ nx sv) (hB : B < 900000) (hL : L < 2 ^ 31) (hi : i < 1000000) (ew : lwI (cellI xs L i) 18 = nI 11) : ∃ (v : Int32) (σ' η' : Nat → Nat → Int32) (hσ' : Nat → Nat → Nat → Int32) (nx' sv' : Nat), R27 (B + 25) σ' η' hσ' nx' sv' ∧ (v < 0 → σ' = σ ∧ η' = η) ∧ MMS (U := (Nat → Nat → Nat → Int32)) l g yL_act cL_act 6 (some .int) 12 3 18 [.ref (am 0), .ref b, .int (nI i)] [maC g am (ast 0) (art 0) (alas 0) (atx 0) (ahi 0), stC g ast σ, rtC g art (aliv 0) (asur 0) (ζ 3), rcC g aliv (ζ 0), rcC g asur (ζ 1), rcC g alas (ζ 2), hiC g ahi (fun i => had i 0) η, stC g (had 0) (hσ 0), stC g (had 1) (hσ 1), stC g (had 2) (hσ 2), stC g (had 3) (hσ 3), stC g (had 4) (hσ 4), stC g (had 5) (hσ 5)] b L xs (some (.int v)) (fun ζ' => [maC g am (ast 0) (art 0) (alas 0) (atx 0) (ahi 0), stC g ast σ', rtC g art (aliv 0) (asur 0) (ζ' 3), rcC g aliv (ζ' 0), rcC g asur (ζ' 1), rcC g alas (ζ' 2), hiC g ahi (fun i => had i 0) η', stC g (had 0) (hσ' 0), stC g (had 1) (hσ' 1), stC g (had 2) (hσ' 2), stC g (had 3) (hσ' 3), stC g (had 4) (hσ' 4), stC g (had 5) (hσ' 5)]) := by
  obtain ⟨hJ, hH, hnx, hsv, e1, e2⟩ := id h
  have hI := hJ.1
  obtain ⟨j, hj, ej⟩ := lw_ex (cellI xs L (i + 1)) (n := 14) (by decide) (by decide)
  obtain ⟨q, hq, eq⟩ := lw_ex (cellI xs L (i + 2)) (n := 3) (by decide) (by decide)
  rcases hb : hasB σ (nI j) with _ | _
  · refine ⟨-4, σ, η, hσ, nx, sv, h.same, fun _ => ⟨rfl, rfl⟩, ?_⟩
    refine mk_ms hfl (by decide +kernel) (Nat.le_of_ble_eq_true rfl) (fun p e s m below meth c A V hs => ?_)
    have X := V.1
    have hA := V.2.2.2.2
    refine w_aload_n X 1 rfl dL_act_0 ?_
    refine w_iload_n X 2 rfl dL_act_1 ?_
    refine w_iconst X (nI 1) dL_act_2 (by decide +kernel) ?_
    refine w_iadd_n X dL_act_3 ?_
    refine w_cell V hs.1 hs.2.1 hs.2.2 hL (by omega) ⟨Nat.le_of_ble_eq_true rfl, Nat.le_of_ble_eq_true rfl⟩ (Nat.le_of_ble_eq_true rfl) ⟨Nat.le_of_ble_eq_true rfl, Nat.le_of_ble_eq_true rfl⟩ dL_act_4 ?_
    refine w_istore_n X dL_act_7 (by decide) ?_
    refine w_aload_n X 2 rfl dL_act_8 ?_
    refine w_iload_n X 3 rfl dL_act_9 ?_
    refine w_iconst X (nI 2) dL_act_10 (by decide +kernel) ?_
    refine w_iadd_n X dL_act_11 ?_
    refine w_cell V hs.1 hs.2.1 hs.2.2 hL (by omega) ⟨Nat.le_of_ble_eq_true rfl, Nat.le_of_ble_eq_true rfl⟩ (Nat.le_of_ble_eq_true rfl) ⟨Nat.le_of_ble_eq_true rfl, Nat.le_of_ble_eq_true rfl⟩ dL_act_12 ?_
    refine w_istore X dL_act_15 (by decide) ?_
    refine w_iload_n X 1 rfl dL_act_17 ?_
    refine w_bipush X (nI 14) dL_act_18 (by decide +kernel) ?_
    refine w_roS X [] (m_L_low l g (cellI xs L (i + 1)) 14 (by decide) (by decide)) cs_L_low mk_L_74 rfl rfl ⟨Nat.le_of_ble_eq_true rfl, Nat.le_of_ble_eq_true rfl⟩ (Nat.le_of_ble_eq_true rfl) ⟨by (try dsimp only); omega, by (try dsimp only); omega⟩ dL_act_20 rfl ?_
    rw [ej]
    refine w_istore X dL_act_23 (by decide) ?_
    refine w_aload_n X 4 rfl dL_act_25 ?_
    refine w_iload_n X 5 rfl dL_act_26 ?_
    refine w_cell V hs.1 hs.2.1 hs.2.2 hL (by omega) ⟨Nat.le_of_ble_eq_true rfl, Nat.le_of_ble_eq_true rfl⟩ (Nat.le_of_ble_eq_true rfl) ⟨Nat.le_of_ble_eq_true rfl, Nat.le_of_ble_eq_true rfl⟩ dL_act_27 ?_
    refine w_bipush X (nI 18) dL_act_30 (by decide +kernel) ?_
    refine w_roS X [] (m_L_low l g (cellI xs L i) 18 (by decide) (by decide)) cs_L_low mk_L_74 rfl rfl ⟨Nat.le_of_ble_eq_true rfl, Nat.le_of_ble_eq_true rfl⟩ (Nat.le_of_ble_eq_true rfl) ⟨by (try dsimp only); omega, by (try dsimp only); omega⟩ dL_act_32 rfl ?_
    rw [ew]
    refine w_tableIn X 173 dL_act_35 (by decide) (by decide) (by rfl) (by decide) ?_
    refine w_aload_n X 3 rfl dL_act_173 ?_
    refine w_iload X 0 rfl dL_act_174 ?_
    refine w_mpS V (U := (Nat → Nat → Nat → Int32)) (gr := [hiC g ahi (fun i => had i 0) η, stC g (had 0) (hσ 0), stC g (had 1) (hσ 1), stC g (had 2) (hσ 2), stC g (had 3) (hσ 3), stC g (had 4) (hσ 4), stC g (had 5) (hσ 5)]) (gs1 := fun ζ1 => [maC g am (ast 0) (art 0) (alas 0) (atx 0) (ahi 0), stC g ast σ, rtC g art (aliv 0) (asur 0) (ζ1 3), rcC g aliv (ζ1 0), rcC g asur (ζ1 1), rcC g alas (ζ1 2), hiC g ahi (fun i => had i 0) η, stC g (had 0) (hσ 0), stC g (had 1) (hσ 1), stC g (had 2) (hσ 2), stC g (had 3) (hσ 3), stC g (had 4) (hσ 4), stC g (had 5) (hσ 5)]) [0, 1, 2, 3, 4, 5] [6, 7, 8, 9, 10, 11, 12] (m_L_is l g hfl am ast art aliv asur alas atx ahi σ ζ j (hI) (by omega)) cs_L_is mk_L_43 rfl rfl rfl (ng := 13) rfl (by decide) (fun _ => rfl) (fun _ => rfl) (fun _ => rfl) ⟨Nat.le_of_ble_eq_true rfl, Nat.le_of_ble_eq_true rfl⟩ (Nat.le_of_ble_eq_true rfl) ⟨by (try dsimp only); omega, by (try dsimp only); omega⟩ dL_act_176 rfl (fun ζ1 => ?_)
    refine w_bf_eq X 205 dL_act_179 (by decide) (fun c179 => ?_) (fun c179 => by exfalso; rw [hb] at c179; cases c179)
    refine w_bipush X (-4) dL_act_205 (by decide +kernel) ?_
    exact w_iret_me X (ζ1) (rfl) (rfl) (by (try dsimp only); omega) (by (try dsimp only); omega) dL_act_207
  · obtain ⟨bb, hbb⟩ : ∃ bb : Bool, (bb = true ↔ q ≠ 0) := ⟨decide (q ≠ 0), decide_eq_true_iff⟩
    have hu := (has_us hI.1 (by omega)).mp hb
    refine ⟨bI (nz (σ 5 j)), rtS σ j (bI bb), hiS η (nxN nx) (svN sv), rw2 hσ nx σ, nxN nx, svN sv, h.save ((jj_root hJ (by omega) hu bb).mono (by omega)), fun z => ?_, ?_⟩
    · exfalso
      rcases bI_le1 (nz (σ 5 j)) with y | y <;> rw [y] at z <;> exact ni_ng (by decide) z
    · refine mk_ms hfl (by decide +kernel) (Nat.le_of_ble_eq_true rfl) (fun p e s m below meth c A V hs => ?_)
      have X := V.1
      have hA := V.2.2.2.2
      refine w_aload_n X 1 rfl dL_act_0 ?_
      refine w_iload_n X 2 rfl dL_act_1 ?_
      refine w_iconst X (nI 1) dL_act_2 (by decide +kernel) ?_
      refine w_iadd_n X dL_act_3 ?_
      refine w_cell V hs.1 hs.2.1 hs.2.2 hL (by omega) ⟨Nat.le_of_ble_eq_true rfl, Nat.le_of_ble_eq_true rfl⟩ (Nat.le_of_ble_eq_true rfl) ⟨Nat.le_of_ble_eq_true rfl, Nat.le_of_ble_eq_true rfl⟩ dL_act_4 ?_
      refine w_istore_n X dL_act_7 (by decide) ?_
      refine w_aload_n X 2 rfl dL_act_8 ?_
      refine w_iload_n X 3 rfl dL_act_9 ?_
      refine w_iconst X (nI 2) dL_act_10 (by decide +kernel) ?_
      refine w_iadd_n X dL_act_11 ?_
      refine w_cell V hs.1 hs.2.1 hs.2.2 hL (by omega) ⟨Nat.le_of_ble_eq_true rfl, Nat.le_of_ble_eq_true rfl⟩ (Nat.le_of_ble_eq_true rfl) ⟨Nat.le_of_ble_eq_true rfl, Nat.le_of_ble_eq_true rfl⟩ dL_act_12 ?_
      refine w_istore X dL_act_15 (by decide) ?_
      refine w_iload_n X 1 rfl dL_act_17 ?_
      refine w_bipush X (nI 14) dL_act_18 (by decide +kernel) ?_
      refine w_roS X [] (m_L_low l g (cellI xs L (i + 1)) 14 (by decide) (by decide)) cs_L_low mk_L_74 rfl rfl ⟨Nat.le_of_ble_eq_true rfl, Nat.le_of_ble_eq_true rfl⟩ (Nat.le_of_ble_eq_true rfl) ⟨by (try dsimp only); omega, by (try dsimp only); omega⟩ dL_act_20 rfl ?_
      rw [ej]
      refine w_istore X dL_act_23 (by decide) ?_
      refine w_aload_n X 4 rfl dL_act_25 ?_
      refine w_iload_n X 5 rfl dL_act_26 ?_
      refine w_cell V hs.1 hs.2.1 hs.2.2 hL (by omega) ⟨Nat.le_of_ble_eq_true rfl, Nat.le_of_ble_eq_true rfl⟩ (Nat.le_of_ble_eq_true rfl) ⟨Nat.le_of_ble_eq_true rfl, Nat.le_of_ble_eq_true rfl⟩ dL_act_27 ?_
      refine w_bipush X (nI 18) dL_act_30 (by decide +kernel) ?_
      refine w_roS X [] (m_L_low l g (cellI xs L i) 18 (by decide) (by decide)) cs_L_low mk_L_74 rfl rfl ⟨Nat.le_of_ble_eq_true rfl, Nat.le_of_ble_eq_true rfl⟩ (Nat.le_of_ble_eq_true rfl) ⟨by (try dsimp only); omega, by (try dsimp only); omega⟩ dL_act_32 rfl ?_
      rw [ew]
      refine w_tableIn X 173 dL_act_35 (by decide) (by decide) (by rfl) (by decide) ?_
      refine w_aload_n X 3 rfl dL_act_173 ?_
      refine w_iload X 0 rfl dL_act_174 ?_
      refine w_mpS V (U := (Nat → Nat → Nat → Int32)) (gr := [hiC g ahi (fun i => had i 0) η, stC g (had 0) (hσ 0), stC g (had 1) (hσ 1), stC g (had 2) (hσ 2), stC g (had 3) (hσ 3), stC g (had 4) (hσ 4), stC g (had 5) (hσ 5)]) (gs1 := fun ζ1 => [maC g am (ast 0) (art 0) (alas 0) (atx 0) (ahi 0), stC g ast σ, rtC g art (aliv 0) (asur 0) (ζ1 3), rcC g aliv (ζ1 0), rcC g asur (ζ1 1), rcC g alas (ζ1 2), hiC g ahi (fun i => had i 0) η, stC g (had 0) (hσ 0), stC g (had 1) (hσ 1), stC g (had 2) (hσ 2), stC g (had 3) (hσ 3), stC g (had 4) (hσ 4), stC g (had 5) (hσ 5)]) [0, 1, 2, 3, 4, 5] [6, 7, 8, 9, 10, 11, 12] (m_L_is l g hfl am ast art aliv asur alas atx ahi σ ζ j (hI) (by omega)) cs_L_is mk_L_43 rfl rfl rfl (ng := 13) rfl (by decide) (fun _ => rfl) (fun _ => rfl) (fun _ => rfl) ⟨Nat.le_of_ble_eq_true rfl, Nat.le_of_ble_eq_true rfl⟩ (Nat.le_of_ble_eq_true rfl) ⟨by (try dsimp only); omega, by (try dsimp only); omega⟩ dL_act_176 rfl (fun ζ1 => ?_)
      refine w_bf_eq X 205 dL_act_179 (by decide) (fun c179 => by exfalso; rw [hb] at c179; cases c179) (fun c179 => ?_)
      refine w_aload_n X 3 rfl dL_act_182 ?_
      refine w_iload X 0 rfl dL_act_183 ?_
      refine w_iload X 1 rfl dL_act_185 ?_
      refine w_iconst X (nI 3) dL_act_187 (by decide +kernel) ?_
      refine w_roS X [] (m_L_low l g (cellI xs L (i + 2)) 3 (by decide) (by decide)) cs_L_low mk_L_74 rfl rfl ⟨Nat.le_of_ble_eq_true rfl, Nat.le_of_ble_eq_true rfl⟩ (Nat.le_of_ble_eq_true rfl) ⟨by (try dsimp only); omega, by (try dsimp only); omega⟩ dL_act_188 rfl ?_
      rw [eq]
      refine w_if_le X 198 dL_act_191 (by decide) (fun c191 => ?_) (fun c191 => ?_)
      · have q0 : q = 0 := (le0 (by omega)).mp c191
        obtain rfl : bb = false := by
          cases hq : bb with
          | false => rfl
          | true => exact absurd (hbb.mp hq) (by omega)
        refine w_iconst X (nI 0) dL_act_198 (by decide +kernel) ?_
        refine w_muV X hA (gr := [rtC g art (aliv 0) (asur 0) (ζ1 3), rcC g aliv (ζ1 0), rcC g asur (ζ1 1), rcC g alas (ζ1 2)]) (gs1 := [maC g am (ast 0) (art 0) (alas 0) (atx 0) (ahi 0), stC g ast (rtS σ j (bI false)), rtC g art (aliv 0) (asur 0) (ζ1 3), rcC g aliv (ζ1 0), rcC g asur (ζ1 1), rcC g alas (ζ1 2), hiC g ahi (fun i => had i 0) (hiS η (nxN nx) (svN sv)), stC g (had 0) (rw2 hσ nx σ 0), stC g (had 1) (rw2 hσ nx σ 1), stC g (had 2) (rw2 hσ nx σ 2), stC g (had 3) (rw2 hσ nx σ 3), stC g (had 4) (rw2 hσ nx σ 4), stC g (had 5) (rw2 hσ nx σ 5)]) [0, 1, 6, 7, 8, 9, 10, 11, 12] [2, 3, 4, 5] 0 0 (q_X5_root l g am ast art alas atx ahi had σ η hσ j false nx sv (hnx) (e1) (e2) (hsv) (ft0 hI) (ft5 hI) (ft6 hI) (ft8 hI) (by omega) (hb)) cv_X5_root mk_L_85 rfl rfl rfl (ng := 13) rfl (by decide) rfl rfl rfl rfl rfl rfl ⟨Nat.le_of_ble_eq_true rfl, Nat.le_of_ble_eq_true rfl⟩ (Nat.le_of_ble_eq_true rfl) ⟨by (try dsimp only); omega, by (try dsimp only); omega⟩ dL_act_199 rfl ?_
        refine w_goto X 207 dL_act_202 (by decide) ?_
        exact w_iret_me X (ζ1) (rfl) (rfl) (by (try dsimp only); omega) (by (try dsimp only); omega) dL_act_207
      · have q0 : ¬ q = 0 := fun z => c191 ((le0 (by omega)).mpr z)
        obtain rfl : bb = true := by
          exact hbb.mpr (by omega)
        refine w_iconst X (nI 1) dL_act_194 (by decide +kernel) ?_
        refine w_goto X 199 dL_act_195 (by decide) ?_
        refine w_muV X hA (gr := [rtC g art (aliv 0) (asur 0) (ζ1 3), rcC g aliv (ζ1 0), rcC g asur (ζ1 1), rcC g alas (ζ1 2)]) (gs1 := [maC g am (ast 0) (art 0) (alas 0) (atx 0) (ahi 0), stC g ast (rtS σ j (bI true)), rtC g art (aliv 0) (asur 0) (ζ1 3), rcC g aliv (ζ1 0), rcC g asur (ζ1 1), rcC g alas (ζ1 2), hiC g ahi (fun i => had i 0) (hiS η (nxN nx) (svN sv)), stC g (had 0) (rw2 hσ nx σ 0), stC g (had 1) (rw2 hσ nx σ 1), stC g (had 2) (rw2 hσ nx σ 2), stC g (had 3) (rw2 hσ nx σ 3), stC g (had 4) (rw2 hσ nx σ 4), stC g (had 5) (rw2 hσ nx σ 5)]) [0, 1, 6, 7, 8, 9, 10, 11, 12] [2, 3, 4, 5] 0 0 (q_X5_root l g am ast art alas atx ahi had σ η hσ j true nx sv (hnx) (e1) (e2) (hsv) (ft0 hI) (ft5 hI) (ft6 hI) (ft8 hI) (by omega) (hb)) cv_X5_root mk_L_85 rfl rfl rfl (ng := 13) rfl (by decide) rfl rfl rfl rfl rfl rfl ⟨Nat.le_of_ble_eq_true rfl, Nat.le_of_ble_eq_true rfl⟩ (Nat.le_of_ble_eq_true rfl) ⟨by (try dsimp only); omega, by (try dsimp only); omega⟩ dL_act_199 rfl ?_
        refine w_goto X 207 dL_act_202 (by decide) ?_
        exact w_iret_me X (ζ1) (rfl) (rfl) (by (try dsimp only); omega) (by (try dsimp only); omega) dL_act_207
set_option maxRecDepth 100000 in
set_option maxHeartbeats 4000000 in
theorem ma_12 (l : Launch) (g : GG) (hfl : l.stackTraces = false) (am : Nat → Nat) (ast : Nat → Nat) (art : Nat → Nat) (aliv : Nat → Nat) (asur : Nat → Nat) (alas : Nat → Nat) (atx : Nat → Nat) (ahi : Nat → Nat) (had : Nat → Nat → Nat) (σ : Nat → Nat → Int32) (ζ : Nat → Nat → Nat → Int32) (η : Nat → Nat → Int32) (hσ : Nat → Nat → Nat → Int32) (nx sv B i b L : Nat) (xs : Nat → Int32) (h : R27 B σ η hσ nx sv) (hB : B < 900000) (hL : L < 2 ^ 31) (hi : i < 1000000) (ew : lwI (cellI xs L i) 18 = nI 12) : ∃ (v : Int32) (σ' η' : Nat → Nat → Int32) (hσ' : Nat → Nat → Nat → Int32) (nx' sv' : Nat), R27 (B + 25) σ' η' hσ' nx' sv' ∧ (v < 0 → σ' = σ ∧ η' = η) ∧ MMS (U := (Nat → Nat → Nat → Int32)) l g yL_act cL_act 6 (some .int) 12 3 18 [.ref (am 0), .ref b, .int (nI i)] [maC g am (ast 0) (art 0) (alas 0) (atx 0) (ahi 0), stC g ast σ, rtC g art (aliv 0) (asur 0) (ζ 3), rcC g aliv (ζ 0), rcC g asur (ζ 1), rcC g alas (ζ 2), hiC g ahi (fun i => had i 0) η, stC g (had 0) (hσ 0), stC g (had 1) (hσ 1), stC g (had 2) (hσ 2), stC g (had 3) (hσ 3), stC g (had 4) (hσ 4), stC g (had 5) (hσ 5)] b L xs (some (.int v)) (fun ζ' => [maC g am (ast 0) (art 0) (alas 0) (atx 0) (ahi 0), stC g ast σ', rtC g art (aliv 0) (asur 0) (ζ' 3), rcC g aliv (ζ' 0), rcC g asur (ζ' 1), rcC g alas (ζ' 2), hiC g ahi (fun i => had i 0) η', stC g (had 0) (hσ' 0), stC g (had 1) (hσ' 1), stC g (had 2) (hσ' 2), stC g (had 3) (hσ' 3), stC g (had 4) (hσ' 4), stC g (had 5) (hσ' 5)]) := by
  obtain ⟨hJ, hH, hnx, hsv, e1, e2⟩ := id h
  have hI := hJ.1
  obtain ⟨j, hj, ej⟩ := lw_ex (cellI xs L (i + 1)) (n := 14) (by decide) (by decide)
  obtain ⟨q, hq, eq⟩ := lw_ex (cellI xs L (i + 2)) (n := 3) (by decide) (by decide)
  rcases hb : hasB σ (nI j) with _ | _
  · refine ⟨-4, σ, η, hσ, nx, sv, h.same, fun _ => ⟨rfl, rfl⟩, ?_⟩
    refine mk_ms hfl (by decide +kernel) (Nat.le_of_ble_eq_true rfl) (fun p e s m below meth c A V hs => ?_)
    have X := V.1
    have hA := V.2.2.2.2
    refine w_aload_n X 1 rfl dL_act_0 ?_
    refine w_iload_n X 2 rfl dL_act_1 ?_
    refine w_iconst X (nI 1) dL_act_2 (by decide +kernel) ?_
    refine w_iadd_n X dL_act_3 ?_
    refine w_cell V hs.1 hs.2.1 hs.2.2 hL (by omega) ⟨Nat.le_of_ble_eq_true rfl, Nat.le_of_ble_eq_true rfl⟩ (Nat.le_of_ble_eq_true rfl) ⟨Nat.le_of_ble_eq_true rfl, Nat.le_of_ble_eq_true rfl⟩ dL_act_4 ?_
    refine w_istore_n X dL_act_7 (by decide) ?_
    refine w_aload_n X 2 rfl dL_act_8 ?_
    refine w_iload_n X 3 rfl dL_act_9 ?_
    refine w_iconst X (nI 2) dL_act_10 (by decide +kernel) ?_
    refine w_iadd_n X dL_act_11 ?_
    refine w_cell V hs.1 hs.2.1 hs.2.2 hL (by omega) ⟨Nat.le_of_ble_eq_true rfl, Nat.le_of_ble_eq_true rfl⟩ (Nat.le_of_ble_eq_true rfl) ⟨Nat.le_of_ble_eq_true rfl, Nat.le_of_ble_eq_true rfl⟩ dL_act_12 ?_
    refine w_istore X dL_act_15 (by decide) ?_
    refine w_iload_n X 1 rfl dL_act_17 ?_
    refine w_bipush X (nI 14) dL_act_18 (by decide +kernel) ?_
    refine w_roS X [] (m_L_low l g (cellI xs L (i + 1)) 14 (by decide) (by decide)) cs_L_low mk_L_74 rfl rfl ⟨Nat.le_of_ble_eq_true rfl, Nat.le_of_ble_eq_true rfl⟩ (Nat.le_of_ble_eq_true rfl) ⟨by (try dsimp only); omega, by (try dsimp only); omega⟩ dL_act_20 rfl ?_
    rw [ej]
    refine w_istore X dL_act_23 (by decide) ?_
    refine w_aload_n X 4 rfl dL_act_25 ?_
    refine w_iload_n X 5 rfl dL_act_26 ?_
    refine w_cell V hs.1 hs.2.1 hs.2.2 hL (by omega) ⟨Nat.le_of_ble_eq_true rfl, Nat.le_of_ble_eq_true rfl⟩ (Nat.le_of_ble_eq_true rfl) ⟨Nat.le_of_ble_eq_true rfl, Nat.le_of_ble_eq_true rfl⟩ dL_act_27 ?_
    refine w_bipush X (nI 18) dL_act_30 (by decide +kernel) ?_
    refine w_roS X [] (m_L_low l g (cellI xs L i) 18 (by decide) (by decide)) cs_L_low mk_L_74 rfl rfl ⟨Nat.le_of_ble_eq_true rfl, Nat.le_of_ble_eq_true rfl⟩ (Nat.le_of_ble_eq_true rfl) ⟨by (try dsimp only); omega, by (try dsimp only); omega⟩ dL_act_32 rfl ?_
    rw [ew]
    refine w_tableIn X 173 dL_act_35 (by decide) (by decide) (by rfl) (by decide) ?_
    refine w_aload_n X 3 rfl dL_act_173 ?_
    refine w_iload X 0 rfl dL_act_174 ?_
    refine w_mpS V (U := (Nat → Nat → Nat → Int32)) (gr := [hiC g ahi (fun i => had i 0) η, stC g (had 0) (hσ 0), stC g (had 1) (hσ 1), stC g (had 2) (hσ 2), stC g (had 3) (hσ 3), stC g (had 4) (hσ 4), stC g (had 5) (hσ 5)]) (gs1 := fun ζ1 => [maC g am (ast 0) (art 0) (alas 0) (atx 0) (ahi 0), stC g ast σ, rtC g art (aliv 0) (asur 0) (ζ1 3), rcC g aliv (ζ1 0), rcC g asur (ζ1 1), rcC g alas (ζ1 2), hiC g ahi (fun i => had i 0) η, stC g (had 0) (hσ 0), stC g (had 1) (hσ 1), stC g (had 2) (hσ 2), stC g (had 3) (hσ 3), stC g (had 4) (hσ 4), stC g (had 5) (hσ 5)]) [0, 1, 2, 3, 4, 5] [6, 7, 8, 9, 10, 11, 12] (m_L_is l g hfl am ast art aliv asur alas atx ahi σ ζ j (hI) (by omega)) cs_L_is mk_L_43 rfl rfl rfl (ng := 13) rfl (by decide) (fun _ => rfl) (fun _ => rfl) (fun _ => rfl) ⟨Nat.le_of_ble_eq_true rfl, Nat.le_of_ble_eq_true rfl⟩ (Nat.le_of_ble_eq_true rfl) ⟨by (try dsimp only); omega, by (try dsimp only); omega⟩ dL_act_176 rfl (fun ζ1 => ?_)
    refine w_bf_eq X 205 dL_act_179 (by decide) (fun c179 => ?_) (fun c179 => by exfalso; rw [hb] at c179; cases c179)
    refine w_bipush X (-4) dL_act_205 (by decide +kernel) ?_
    exact w_iret_me X (ζ1) (rfl) (rfl) (by (try dsimp only); omega) (by (try dsimp only); omega) dL_act_207
  · obtain ⟨bb, hbb⟩ : ∃ bb : Bool, (bb = true ↔ q ≠ 0) := ⟨decide (q ≠ 0), decide_eq_true_iff⟩
    have hu := (has_us hI.1 (by omega)).mp hb
    refine ⟨bI (nz (σ 5 j)), rtS σ j (bI bb), hiS η (nxN nx) (svN sv), rw2 hσ nx σ, nxN nx, svN sv, h.save ((jj_root hJ (by omega) hu bb).mono (by omega)), fun z => ?_, ?_⟩
    · exfalso
      rcases bI_le1 (nz (σ 5 j)) with y | y <;> rw [y] at z <;> exact ni_ng (by decide) z
    · refine mk_ms hfl (by decide +kernel) (Nat.le_of_ble_eq_true rfl) (fun p e s m below meth c A V hs => ?_)
      have X := V.1
      have hA := V.2.2.2.2
      refine w_aload_n X 1 rfl dL_act_0 ?_
      refine w_iload_n X 2 rfl dL_act_1 ?_
      refine w_iconst X (nI 1) dL_act_2 (by decide +kernel) ?_
      refine w_iadd_n X dL_act_3 ?_
      refine w_cell V hs.1 hs.2.1 hs.2.2 hL (by omega) ⟨Nat.le_of_ble_eq_true rfl, Nat.le_of_ble_eq_true rfl⟩ (Nat.le_of_ble_eq_true rfl) ⟨Nat.le_of_ble_eq_true rfl, Nat.le_of_ble_eq_true rfl⟩ dL_act_4 ?_
      refine w_istore_n X dL_act_7 (by decide) ?_
      refine w_aload_n X 2 rfl dL_act_8 ?_
      refine w_iload_n X 3 rfl dL_act_9 ?_
      refine w_iconst X (nI 2) dL_act_10 (by decide +kernel) ?_
      refine w_iadd_n X dL_act_11 ?_
      refine w_cell V hs.1 hs.2.1 hs.2.2 hL (by omega) ⟨Nat.le_of_ble_eq_true rfl, Nat.le_of_ble_eq_true rfl⟩ (Nat.le_of_ble_eq_true rfl) ⟨Nat.le_of_ble_eq_true rfl, Nat.le_of_ble_eq_true rfl⟩ dL_act_12 ?_
      refine w_istore X dL_act_15 (by decide) ?_
      refine w_iload_n X 1 rfl dL_act_17 ?_
      refine w_bipush X (nI 14) dL_act_18 (by decide +kernel) ?_
      refine w_roS X [] (m_L_low l g (cellI xs L (i + 1)) 14 (by decide) (by decide)) cs_L_low mk_L_74 rfl rfl ⟨Nat.le_of_ble_eq_true rfl, Nat.le_of_ble_eq_true rfl⟩ (Nat.le_of_ble_eq_true rfl) ⟨by (try dsimp only); omega, by (try dsimp only); omega⟩ dL_act_20 rfl ?_
      rw [ej]
      refine w_istore X dL_act_23 (by decide) ?_
      refine w_aload_n X 4 rfl dL_act_25 ?_
      refine w_iload_n X 5 rfl dL_act_26 ?_
      refine w_cell V hs.1 hs.2.1 hs.2.2 hL (by omega) ⟨Nat.le_of_ble_eq_true rfl, Nat.le_of_ble_eq_true rfl⟩ (Nat.le_of_ble_eq_true rfl) ⟨Nat.le_of_ble_eq_true rfl, Nat.le_of_ble_eq_true rfl⟩ dL_act_27 ?_
      refine w_bipush X (nI 18) dL_act_30 (by decide +kernel) ?_
      refine w_roS X [] (m_L_low l g (cellI xs L i) 18 (by decide) (by decide)) cs_L_low mk_L_74 rfl rfl ⟨Nat.le_of_ble_eq_true rfl, Nat.le_of_ble_eq_true rfl⟩ (Nat.le_of_ble_eq_true rfl) ⟨by (try dsimp only); omega, by (try dsimp only); omega⟩ dL_act_32 rfl ?_
      rw [ew]
      refine w_tableIn X 173 dL_act_35 (by decide) (by decide) (by rfl) (by decide) ?_
      refine w_aload_n X 3 rfl dL_act_173 ?_
      refine w_iload X 0 rfl dL_act_174 ?_
      refine w_mpS V (U := (Nat → Nat → Nat → Int32)) (gr := [hiC g ahi (fun i => had i 0) η, stC g (had 0) (hσ 0), stC g (had 1) (hσ 1), stC g (had 2) (hσ 2), stC g (had 3) (hσ 3), stC g (had 4) (hσ 4), stC g (had 5) (hσ 5)]) (gs1 := fun ζ1 => [maC g am (ast 0) (art 0) (alas 0) (atx 0) (ahi 0), stC g ast σ, rtC g art (aliv 0) (asur 0) (ζ1 3), rcC g aliv (ζ1 0), rcC g asur (ζ1 1), rcC g alas (ζ1 2), hiC g ahi (fun i => had i 0) η, stC g (had 0) (hσ 0), stC g (had 1) (hσ 1), stC g (had 2) (hσ 2), stC g (had 3) (hσ 3), stC g (had 4) (hσ 4), stC g (had 5) (hσ 5)]) [0, 1, 2, 3, 4, 5] [6, 7, 8, 9, 10, 11, 12] (m_L_is l g hfl am ast art aliv asur alas atx ahi σ ζ j (hI) (by omega)) cs_L_is mk_L_43 rfl rfl rfl (ng := 13) rfl (by decide) (fun _ => rfl) (fun _ => rfl) (fun _ => rfl) ⟨Nat.le_of_ble_eq_true rfl, Nat.le_of_ble_eq_true rfl⟩ (Nat.le_of_ble_eq_true rfl) ⟨by (try dsimp only); omega, by (try dsimp only); omega⟩ dL_act_176 rfl (fun ζ1 => ?_)
      refine w_bf_eq X 205 dL_act_179 (by decide) (fun c179 => by exfalso; rw [hb] at c179; cases c179) (fun c179 => ?_)
      refine w_aload_n X 3 rfl dL_act_182 ?_
      refine w_iload X 0 rfl dL_act_183 ?_
      refine w_iload X 1 rfl dL_act_185 ?_
      refine w_iconst X (nI 3) dL_act_187 (by decide +kernel) ?_
      refine w_roS X [] (m_L_low l g (cellI xs L (i + 2)) 3 (by decide) (by decide)) cs_L_low mk_L_74 rfl rfl ⟨Nat.le_of_ble_eq_true rfl, Nat.le_of_ble_eq_true rfl⟩ (Nat.le_of_ble_eq_true rfl) ⟨by (try dsimp only); omega, by (try dsimp only); omega⟩ dL_act_188 rfl ?_
      rw [eq]
      refine w_if_le X 198 dL_act_191 (by decide) (fun c191 => ?_) (fun c191 => ?_)
      · have q0 : q = 0 := (le0 (by omega)).mp c191
        obtain rfl : bb = false := by
          cases hq : bb with
          | false => rfl
          | true => exact absurd (hbb.mp hq) (by omega)
        refine w_iconst X (nI 0) dL_act_198 (by decide +kernel) ?_
        refine w_muV X hA (gr := [rtC g art (aliv 0) (asur 0) (ζ1 3), rcC g aliv (ζ1 0), rcC g asur (ζ1 1), rcC g alas (ζ1 2)]) (gs1 := [maC g am (ast 0) (art 0) (alas 0) (atx 0) (ahi 0), stC g ast (rtS σ j (bI false)), rtC g art (aliv 0) (asur 0) (ζ1 3), rcC g aliv (ζ1 0), rcC g asur (ζ1 1), rcC g alas (ζ1 2), hiC g ahi (fun i => had i 0) (hiS η (nxN nx) (svN sv)), stC g (had 0) (rw2 hσ nx σ 0), stC g (had 1) (rw2 hσ nx σ 1), stC g (had 2) (rw2 hσ nx σ 2), stC g (had 3) (rw2 hσ nx σ 3), stC g (had 4) (rw2 hσ nx σ 4), stC g (had 5) (rw2 hσ nx σ 5)]) [0, 1, 6, 7, 8, 9, 10, 11, 12] [2, 3, 4, 5] 0 0 (q_X5_root l g am ast art alas atx ahi had σ η hσ j false nx sv (hnx) (e1) (e2) (hsv) (ft0 hI) (ft5 hI) (ft6 hI) (ft8 hI) (by omega) (hb)) cv_X5_root mk_L_85 rfl rfl rfl (ng := 13) rfl (by decide) rfl rfl rfl rfl rfl rfl ⟨Nat.le_of_ble_eq_true rfl, Nat.le_of_ble_eq_true rfl⟩ (Nat.le_of_ble_eq_true rfl) ⟨by (try dsimp only); omega, by (try dsimp only); omega⟩ dL_act_199 rfl ?_
        refine w_goto X 207 dL_act_202 (by decide) ?_
        exact w_iret_me X (ζ1) (rfl) (rfl) (by (try dsimp only); omega) (by (try dsimp only); omega) dL_act_207
      · have q0 : ¬ q = 0 := fun z => c191 ((le0 (by omega)).mpr z)
        obtain rfl : bb = true := by
          exact hbb.mpr (by omega)
        refine w_iconst X (nI 1) dL_act_194 (by decide +kernel) ?_
        refine w_goto X 199 dL_act_195 (by decide) ?_
        refine w_muV X hA (gr := [rtC g art (aliv 0) (asur 0) (ζ1 3), rcC g aliv (ζ1 0), rcC g asur (ζ1 1), rcC g alas (ζ1 2)]) (gs1 := [maC g am (ast 0) (art 0) (alas 0) (atx 0) (ahi 0), stC g ast (rtS σ j (bI true)), rtC g art (aliv 0) (asur 0) (ζ1 3), rcC g aliv (ζ1 0), rcC g asur (ζ1 1), rcC g alas (ζ1 2), hiC g ahi (fun i => had i 0) (hiS η (nxN nx) (svN sv)), stC g (had 0) (rw2 hσ nx σ 0), stC g (had 1) (rw2 hσ nx σ 1), stC g (had 2) (rw2 hσ nx σ 2), stC g (had 3) (rw2 hσ nx σ 3), stC g (had 4) (rw2 hσ nx σ 4), stC g (had 5) (rw2 hσ nx σ 5)]) [0, 1, 6, 7, 8, 9, 10, 11, 12] [2, 3, 4, 5] 0 0 (q_X5_root l g am ast art alas atx ahi had σ η hσ j true nx sv (hnx) (e1) (e2) (hsv) (ft0 hI) (ft5 hI) (ft6 hI) (ft8 hI) (by omega) (hb)) cv_X5_root mk_L_85 rfl rfl rfl (ng := 13) rfl (by decide) rfl rfl rfl rfl rfl rfl ⟨Nat.le_of_ble_eq_true rfl, Nat.le_of_ble_eq_true rfl⟩ (Nat.le_of_ble_eq_true rfl) ⟨by (try dsimp only); omega, by (try dsimp only); omega⟩ dL_act_199 rfl ?_
        refine w_goto X 207 dL_act_202 (by decide) ?_
        exact w_iret_me X (ζ1) (rfl) (rfl) (by (try dsimp only); omega) (by (try dsimp only); omega) dL_act_207
set_option maxRecDepth 100000 in
set_option maxHeartbeats 4000000 in
theorem ma_13 (l : Launch) (g : GG) (hfl : l.stackTraces = false) (am : Nat → Nat) (ast : Nat → Nat) (art : Nat → Nat) (aliv : Nat → Nat) (asur : Nat → Nat) (alas : Nat → Nat) (atx : Nat → Nat) (ahi : Nat → Nat) (had : Nat → Nat → Nat) (σ : Nat → Nat → Int32) (ζ : Nat → Nat → Nat → Int32) (η : Nat → Nat → Int32) (hσ : Nat → Nat → Nat → Int32) (nx sv B i b L : Nat) (xs : Nat → Int32) (h : R27 B σ η hσ nx sv) (hB : B < 900000) (hL : L < 2 ^ 31) (hi : i < 1000000) (ew : lwI (cellI xs L i) 18 = nI 13) : ∃ (v : Int32) (σ' η' : Nat → Nat → Int32) (hσ' : Nat → Nat → Nat → Int32) (nx' sv' : Nat), R27 (B + 25) σ' η' hσ' nx' sv' ∧ (v < 0 → σ' = σ ∧ η' = η) ∧ MMS (U := (Nat → Nat → Nat → Int32)) l g yL_act cL_act 6 (some .int) 12 3 18 [.ref (am 0), .ref b, .int (nI i)] [maC g am (ast 0) (art 0) (alas 0) (atx 0) (ahi 0), stC g ast σ, rtC g art (aliv 0) (asur 0) (ζ 3), rcC g aliv (ζ 0), rcC g asur (ζ 1), rcC g alas (ζ 2), hiC g ahi (fun i => had i 0) η, stC g (had 0) (hσ 0), stC g (had 1) (hσ 1), stC g (had 2) (hσ 2), stC g (had 3) (hσ 3), stC g (had 4) (hσ 4), stC g (had 5) (hσ 5)] b L xs (some (.int v)) (fun ζ' => [maC g am (ast 0) (art 0) (alas 0) (atx 0) (ahi 0), stC g ast σ', rtC g art (aliv 0) (asur 0) (ζ' 3), rcC g aliv (ζ' 0), rcC g asur (ζ' 1), rcC g alas (ζ' 2), hiC g ahi (fun i => had i 0) η', stC g (had 0) (hσ' 0), stC g (had 1) (hσ' 1), stC g (had 2) (hσ' 2), stC g (had 3) (hσ' 3), stC g (had 4) (hσ' 4), stC g (had 5) (hσ' 5)]) := by
  obtain ⟨hJ, hH, hnx, hsv, e1, e2⟩ := id h
  have hI := hJ.1
  obtain ⟨j, hj, ej⟩ := lw_ex (cellI xs L (i + 1)) (n := 14) (by decide) (by decide)
  obtain ⟨q, hq, eq⟩ := lw_ex (cellI xs L (i + 2)) (n := 3) (by decide) (by decide)
  rcases hb : hasB σ (nI j) with _ | _
  · refine ⟨-4, σ, η, hσ, nx, sv, h.same, fun _ => ⟨rfl, rfl⟩, ?_⟩
    refine mk_ms hfl (by decide +kernel) (Nat.le_of_ble_eq_true rfl) (fun p e s m below meth c A V hs => ?_)
    have X := V.1
    have hA := V.2.2.2.2
    refine w_aload_n X 1 rfl dL_act_0 ?_
    refine w_iload_n X 2 rfl dL_act_1 ?_
    refine w_iconst X (nI 1) dL_act_2 (by decide +kernel) ?_
    refine w_iadd_n X dL_act_3 ?_
    refine w_cell V hs.1 hs.2.1 hs.2.2 hL (by omega) ⟨Nat.le_of_ble_eq_true rfl, Nat.le_of_ble_eq_true rfl⟩ (Nat.le_of_ble_eq_true rfl) ⟨Nat.le_of_ble_eq_true rfl, Nat.le_of_ble_eq_true rfl⟩ dL_act_4 ?_
    refine w_istore_n X dL_act_7 (by decide) ?_
    refine w_aload_n X 2 rfl dL_act_8 ?_
    refine w_iload_n X 3 rfl dL_act_9 ?_
    refine w_iconst X (nI 2) dL_act_10 (by decide +kernel) ?_
    refine w_iadd_n X dL_act_11 ?_
    refine w_cell V hs.1 hs.2.1 hs.2.2 hL (by omega) ⟨Nat.le_of_ble_eq_true rfl, Nat.le_of_ble_eq_true rfl⟩ (Nat.le_of_ble_eq_true rfl) ⟨Nat.le_of_ble_eq_true rfl, Nat.le_of_ble_eq_true rfl⟩ dL_act_12 ?_
    refine w_istore X dL_act_15 (by decide) ?_
    refine w_iload_n X 1 rfl dL_act_17 ?_
    refine w_bipush X (nI 14) dL_act_18 (by decide +kernel) ?_
    refine w_roS X [] (m_L_low l g (cellI xs L (i + 1)) 14 (by decide) (by decide)) cs_L_low mk_L_74 rfl rfl ⟨Nat.le_of_ble_eq_true rfl, Nat.le_of_ble_eq_true rfl⟩ (Nat.le_of_ble_eq_true rfl) ⟨by (try dsimp only); omega, by (try dsimp only); omega⟩ dL_act_20 rfl ?_
    rw [ej]
    refine w_istore X dL_act_23 (by decide) ?_
    refine w_aload_n X 4 rfl dL_act_25 ?_
    refine w_iload_n X 5 rfl dL_act_26 ?_
    refine w_cell V hs.1 hs.2.1 hs.2.2 hL (by omega) ⟨Nat.le_of_ble_eq_true rfl, Nat.le_of_ble_eq_true rfl⟩ (Nat.le_of_ble_eq_true rfl) ⟨Nat.le_of_ble_eq_true rfl, Nat.le_of_ble_eq_true rfl⟩ dL_act_27 ?_
    refine w_bipush X (nI 18) dL_act_30 (by decide +kernel) ?_
    refine w_roS X [] (m_L_low l g (cellI xs L i) 18 (by decide) (by decide)) cs_L_low mk_L_74 rfl rfl ⟨Nat.le_of_ble_eq_true rfl, Nat.le_of_ble_eq_true rfl⟩ (Nat.le_of_ble_eq_true rfl) ⟨by (try dsimp only); omega, by (try dsimp only); omega⟩ dL_act_32 rfl ?_
    rw [ew]
    refine w_tableIn X 208 dL_act_35 (by decide) (by decide) (by rfl) (by decide) ?_
    refine w_aload_n X 3 rfl dL_act_208 ?_
    refine w_iload X 0 rfl dL_act_209 ?_
    refine w_mpS V (U := (Nat → Nat → Nat → Int32)) (gr := [hiC g ahi (fun i => had i 0) η, stC g (had 0) (hσ 0), stC g (had 1) (hσ 1), stC g (had 2) (hσ 2), stC g (had 3) (hσ 3), stC g (had 4) (hσ 4), stC g (had 5) (hσ 5)]) (gs1 := fun ζ1 => [maC g am (ast 0) (art 0) (alas 0) (atx 0) (ahi 0), stC g ast σ, rtC g art (aliv 0) (asur 0) (ζ1 3), rcC g aliv (ζ1 0), rcC g asur (ζ1 1), rcC g alas (ζ1 2), hiC g ahi (fun i => had i 0) η, stC g (had 0) (hσ 0), stC g (had 1) (hσ 1), stC g (had 2) (hσ 2), stC g (had 3) (hσ 3), stC g (had 4) (hσ 4), stC g (had 5) (hσ 5)]) [0, 1, 2, 3, 4, 5] [6, 7, 8, 9, 10, 11, 12] (m_L_is l g hfl am ast art aliv asur alas atx ahi σ ζ j (hI) (by omega)) cs_L_is mk_L_43 rfl rfl rfl (ng := 13) rfl (by decide) (fun _ => rfl) (fun _ => rfl) (fun _ => rfl) ⟨Nat.le_of_ble_eq_true rfl, Nat.le_of_ble_eq_true rfl⟩ (Nat.le_of_ble_eq_true rfl) ⟨by (try dsimp only); omega, by (try dsimp only); omega⟩ dL_act_211 rfl (fun ζ1 => ?_)
    refine w_bf_eq X 240 dL_act_214 (by decide) (fun c214 => ?_) (fun c214 => by exfalso; rw [hb] at c214; cases c214)
    refine w_bipush X (-4) dL_act_240 (by decide +kernel) ?_
    exact w_iret_me X (ζ1) (rfl) (rfl) (by (try dsimp only); omega) (by (try dsimp only); omega) dL_act_242
  · obtain ⟨bb, hbb⟩ : ∃ bb : Bool, (bb = true ↔ q = 0) := ⟨decide (q = 0), decide_eq_true_iff⟩
    have hu := (has_us hI.1 (by omega)).mp hb
    refine ⟨pinC (pnS σ j (bI bb)) (σ 1 j), pnS σ j (bI bb), hiS η (nxN nx) (svN sv), rw2 hσ nx σ, nxN nx, svN sv, h.save ((jj_pin hJ (by omega) hu bb).mono (by omega)), fun z => ?_, ?_⟩
    · exfalso
      rw [pinC, cnt_cn] at z
      exact ni_ng (by have := cn_le (fun o => if isInB (pnS σ j (bI bb)) (nI o) (σ 1 j) = false then false else nz (pnS σ j (bI bb) 6 o)) 24; omega) z
    · refine mk_ms hfl (by decide +kernel) (Nat.le_of_ble_eq_true rfl) (fun p e s m below meth c A V hs => ?_)
      have X := V.1
      have hA := V.2.2.2.2
      refine w_aload_n X 1 rfl dL_act_0 ?_
      refine w_iload_n X 2 rfl dL_act_1 ?_
      refine w_iconst X (nI 1) dL_act_2 (by decide +kernel) ?_
      refine w_iadd_n X dL_act_3 ?_
      refine w_cell V hs.1 hs.2.1 hs.2.2 hL (by omega) ⟨Nat.le_of_ble_eq_true rfl, Nat.le_of_ble_eq_true rfl⟩ (Nat.le_of_ble_eq_true rfl) ⟨Nat.le_of_ble_eq_true rfl, Nat.le_of_ble_eq_true rfl⟩ dL_act_4 ?_
      refine w_istore_n X dL_act_7 (by decide) ?_
      refine w_aload_n X 2 rfl dL_act_8 ?_
      refine w_iload_n X 3 rfl dL_act_9 ?_
      refine w_iconst X (nI 2) dL_act_10 (by decide +kernel) ?_
      refine w_iadd_n X dL_act_11 ?_
      refine w_cell V hs.1 hs.2.1 hs.2.2 hL (by omega) ⟨Nat.le_of_ble_eq_true rfl, Nat.le_of_ble_eq_true rfl⟩ (Nat.le_of_ble_eq_true rfl) ⟨Nat.le_of_ble_eq_true rfl, Nat.le_of_ble_eq_true rfl⟩ dL_act_12 ?_
      refine w_istore X dL_act_15 (by decide) ?_
      refine w_iload_n X 1 rfl dL_act_17 ?_
      refine w_bipush X (nI 14) dL_act_18 (by decide +kernel) ?_
      refine w_roS X [] (m_L_low l g (cellI xs L (i + 1)) 14 (by decide) (by decide)) cs_L_low mk_L_74 rfl rfl ⟨Nat.le_of_ble_eq_true rfl, Nat.le_of_ble_eq_true rfl⟩ (Nat.le_of_ble_eq_true rfl) ⟨by (try dsimp only); omega, by (try dsimp only); omega⟩ dL_act_20 rfl ?_
      rw [ej]
      refine w_istore X dL_act_23 (by decide) ?_
      refine w_aload_n X 4 rfl dL_act_25 ?_
      refine w_iload_n X 5 rfl dL_act_26 ?_
      refine w_cell V hs.1 hs.2.1 hs.2.2 hL (by omega) ⟨Nat.le_of_ble_eq_true rfl, Nat.le_of_ble_eq_true rfl⟩ (Nat.le_of_ble_eq_true rfl) ⟨Nat.le_of_ble_eq_true rfl, Nat.le_of_ble_eq_true rfl⟩ dL_act_27 ?_
      refine w_bipush X (nI 18) dL_act_30 (by decide +kernel) ?_
      refine w_roS X [] (m_L_low l g (cellI xs L i) 18 (by decide) (by decide)) cs_L_low mk_L_74 rfl rfl ⟨Nat.le_of_ble_eq_true rfl, Nat.le_of_ble_eq_true rfl⟩ (Nat.le_of_ble_eq_true rfl) ⟨by (try dsimp only); omega, by (try dsimp only); omega⟩ dL_act_32 rfl ?_
      rw [ew]
      refine w_tableIn X 208 dL_act_35 (by decide) (by decide) (by rfl) (by decide) ?_
      refine w_aload_n X 3 rfl dL_act_208 ?_
      refine w_iload X 0 rfl dL_act_209 ?_
      refine w_mpS V (U := (Nat → Nat → Nat → Int32)) (gr := [hiC g ahi (fun i => had i 0) η, stC g (had 0) (hσ 0), stC g (had 1) (hσ 1), stC g (had 2) (hσ 2), stC g (had 3) (hσ 3), stC g (had 4) (hσ 4), stC g (had 5) (hσ 5)]) (gs1 := fun ζ1 => [maC g am (ast 0) (art 0) (alas 0) (atx 0) (ahi 0), stC g ast σ, rtC g art (aliv 0) (asur 0) (ζ1 3), rcC g aliv (ζ1 0), rcC g asur (ζ1 1), rcC g alas (ζ1 2), hiC g ahi (fun i => had i 0) η, stC g (had 0) (hσ 0), stC g (had 1) (hσ 1), stC g (had 2) (hσ 2), stC g (had 3) (hσ 3), stC g (had 4) (hσ 4), stC g (had 5) (hσ 5)]) [0, 1, 2, 3, 4, 5] [6, 7, 8, 9, 10, 11, 12] (m_L_is l g hfl am ast art aliv asur alas atx ahi σ ζ j (hI) (by omega)) cs_L_is mk_L_43 rfl rfl rfl (ng := 13) rfl (by decide) (fun _ => rfl) (fun _ => rfl) (fun _ => rfl) ⟨Nat.le_of_ble_eq_true rfl, Nat.le_of_ble_eq_true rfl⟩ (Nat.le_of_ble_eq_true rfl) ⟨by (try dsimp only); omega, by (try dsimp only); omega⟩ dL_act_211 rfl (fun ζ1 => ?_)
      refine w_bf_eq X 240 dL_act_214 (by decide) (fun c214 => by exfalso; rw [hb] at c214; cases c214) (fun c214 => ?_)
      refine w_aload_n X 3 rfl dL_act_217 ?_
      refine w_iload X 0 rfl dL_act_218 ?_
      refine w_iload X 1 rfl dL_act_220 ?_
      refine w_iconst X (nI 3) dL_act_222 (by decide +kernel) ?_
      refine w_roS X [] (m_L_low l g (cellI xs L (i + 2)) 3 (by decide) (by decide)) cs_L_low mk_L_74 rfl rfl ⟨Nat.le_of_ble_eq_true rfl, Nat.le_of_ble_eq_true rfl⟩ (Nat.le_of_ble_eq_true rfl) ⟨by (try dsimp only); omega, by (try dsimp only); omega⟩ dL_act_223 rfl ?_
      rw [eq]
      refine w_nf_ne X (by omega) 233 dL_act_226 (by decide) (fun c226 => ?_) (fun c226 => ?_)
      · obtain rfl : bb = false := by
          cases hq : bb with
          | false => rfl
          | true => exact absurd (hbb.mp hq) (by omega)
        refine w_iconst X (nI 0) dL_act_233 (by decide +kernel) ?_
        refine w_muV X hA (gr := [rtC g art (aliv 0) (asur 0) (ζ1 3), rcC g aliv (ζ1 0), rcC g asur (ζ1 1), rcC g alas (ζ1 2)]) (gs1 := [maC g am (ast 0) (art 0) (alas 0) (atx 0) (ahi 0), stC g ast (pnS σ j (bI false)), rtC g art (aliv 0) (asur 0) (ζ1 3), rcC g aliv (ζ1 0), rcC g asur (ζ1 1), rcC g alas (ζ1 2), hiC g ahi (fun i => had i 0) (hiS η (nxN nx) (svN sv)), stC g (had 0) (rw2 hσ nx σ 0), stC g (had 1) (rw2 hσ nx σ 1), stC g (had 2) (rw2 hσ nx σ 2), stC g (had 3) (rw2 hσ nx σ 3), stC g (had 4) (rw2 hσ nx σ 4), stC g (had 5) (rw2 hσ nx σ 5)]) [0, 1, 6, 7, 8, 9, 10, 11, 12] [2, 3, 4, 5] 0 0 (q_X5_pin l g am ast art alas atx ahi had σ η hσ j false nx sv (hnx) (e1) (e2) (hsv) (ft0 hI) (ft5 hI) (ft6 hI) (ft8 hI) (by omega) (hb)) cv_X5_pin mk_L_89 rfl rfl rfl (ng := 13) rfl (by decide) rfl rfl rfl rfl rfl rfl ⟨Nat.le_of_ble_eq_true rfl, Nat.le_of_ble_eq_true rfl⟩ (Nat.le_of_ble_eq_true rfl) ⟨by (try dsimp only); omega, by (try dsimp only); omega⟩ dL_act_234 rfl ?_
        refine w_goto X 242 dL_act_237 (by decide) ?_
        exact w_iret_me X (ζ1) (rfl) (rfl) (by (try dsimp only); omega) (by (try dsimp only); omega) dL_act_242
      · obtain rfl : bb = true := by
          exact hbb.mpr (by omega)
        refine w_iconst X (nI 1) dL_act_229 (by decide +kernel) ?_
        refine w_goto X 234 dL_act_230 (by decide) ?_
        refine w_muV X hA (gr := [rtC g art (aliv 0) (asur 0) (ζ1 3), rcC g aliv (ζ1 0), rcC g asur (ζ1 1), rcC g alas (ζ1 2)]) (gs1 := [maC g am (ast 0) (art 0) (alas 0) (atx 0) (ahi 0), stC g ast (pnS σ j (bI true)), rtC g art (aliv 0) (asur 0) (ζ1 3), rcC g aliv (ζ1 0), rcC g asur (ζ1 1), rcC g alas (ζ1 2), hiC g ahi (fun i => had i 0) (hiS η (nxN nx) (svN sv)), stC g (had 0) (rw2 hσ nx σ 0), stC g (had 1) (rw2 hσ nx σ 1), stC g (had 2) (rw2 hσ nx σ 2), stC g (had 3) (rw2 hσ nx σ 3), stC g (had 4) (rw2 hσ nx σ 4), stC g (had 5) (rw2 hσ nx σ 5)]) [0, 1, 6, 7, 8, 9, 10, 11, 12] [2, 3, 4, 5] 0 0 (q_X5_pin l g am ast art alas atx ahi had σ η hσ j true nx sv (hnx) (e1) (e2) (hsv) (ft0 hI) (ft5 hI) (ft6 hI) (ft8 hI) (by omega) (hb)) cv_X5_pin mk_L_89 rfl rfl rfl (ng := 13) rfl (by decide) rfl rfl rfl rfl rfl rfl ⟨Nat.le_of_ble_eq_true rfl, Nat.le_of_ble_eq_true rfl⟩ (Nat.le_of_ble_eq_true rfl) ⟨by (try dsimp only); omega, by (try dsimp only); omega⟩ dL_act_234 rfl ?_
        refine w_goto X 242 dL_act_237 (by decide) ?_
        exact w_iret_me X (ζ1) (rfl) (rfl) (by (try dsimp only); omega) (by (try dsimp only); omega) dL_act_242
set_option maxRecDepth 100000 in
set_option maxHeartbeats 4000000 in
theorem ma_14 (l : Launch) (g : GG) (hfl : l.stackTraces = false) (am : Nat → Nat) (ast : Nat → Nat) (art : Nat → Nat) (aliv : Nat → Nat) (asur : Nat → Nat) (alas : Nat → Nat) (atx : Nat → Nat) (ahi : Nat → Nat) (had : Nat → Nat → Nat) (σ : Nat → Nat → Int32) (ζ : Nat → Nat → Nat → Int32) (η : Nat → Nat → Int32) (hσ : Nat → Nat → Nat → Int32) (nx sv B i b L : Nat) (xs : Nat → Int32) (h : R27 B σ η hσ nx sv) (hB : B < 900000) (hL : L < 2 ^ 31) (hi : i < 1000000) (ew : lwI (cellI xs L i) 18 = nI 14) : ∃ (v : Int32) (σ' η' : Nat → Nat → Int32) (hσ' : Nat → Nat → Nat → Int32) (nx' sv' : Nat), R27 (B + 25) σ' η' hσ' nx' sv' ∧ (v < 0 → σ' = σ ∧ η' = η) ∧ MMS (U := (Nat → Nat → Nat → Int32)) l g yL_act cL_act 6 (some .int) 12 3 18 [.ref (am 0), .ref b, .int (nI i)] [maC g am (ast 0) (art 0) (alas 0) (atx 0) (ahi 0), stC g ast σ, rtC g art (aliv 0) (asur 0) (ζ 3), rcC g aliv (ζ 0), rcC g asur (ζ 1), rcC g alas (ζ 2), hiC g ahi (fun i => had i 0) η, stC g (had 0) (hσ 0), stC g (had 1) (hσ 1), stC g (had 2) (hσ 2), stC g (had 3) (hσ 3), stC g (had 4) (hσ 4), stC g (had 5) (hσ 5)] b L xs (some (.int v)) (fun ζ' => [maC g am (ast 0) (art 0) (alas 0) (atx 0) (ahi 0), stC g ast σ', rtC g art (aliv 0) (asur 0) (ζ' 3), rcC g aliv (ζ' 0), rcC g asur (ζ' 1), rcC g alas (ζ' 2), hiC g ahi (fun i => had i 0) η', stC g (had 0) (hσ' 0), stC g (had 1) (hσ' 1), stC g (had 2) (hσ' 2), stC g (had 3) (hσ' 3), stC g (had 4) (hσ' 4), stC g (had 5) (hσ' 5)]) := by
  obtain ⟨hJ, hH, hnx, hsv, e1, e2⟩ := id h
  have hI := hJ.1
  obtain ⟨j, hj, ej⟩ := lw_ex (cellI xs L (i + 1)) (n := 14) (by decide) (by decide)
  obtain ⟨x, hx, ex⟩ := lw_ex (cellI xs L (i + 1)) (n := 4) (by decide) (by decide)
  obtain ⟨y, hy, ey⟩ := lw_ex (cellI xs L (i + 2)) (n := 4) (by decide) (by decide)
  obtain ⟨v, σ', η', hσ', nx', sv', hR, hu, hM⟩ := c_L_giveBack l g hfl am ast art aliv asur alas atx ahi had σ ζ η hσ nx sv B x y h hB (by omega) (by omega)
  refine ⟨v, σ', η', hσ', nx', sv', hR, hu, ?_⟩
  refine mk_ms hfl (by decide +kernel) (Nat.le_of_ble_eq_true rfl) (fun p e s m below meth c A V hs => ?_)
  have X := V.1
  have hA := V.2.2.2.2
  refine w_aload_n X 1 rfl dL_act_0 ?_
  refine w_iload_n X 2 rfl dL_act_1 ?_
  refine w_iconst X (nI 1) dL_act_2 (by decide +kernel) ?_
  refine w_iadd_n X dL_act_3 ?_
  refine w_cell V hs.1 hs.2.1 hs.2.2 hL (by omega) ⟨Nat.le_of_ble_eq_true rfl, Nat.le_of_ble_eq_true rfl⟩ (Nat.le_of_ble_eq_true rfl) ⟨Nat.le_of_ble_eq_true rfl, Nat.le_of_ble_eq_true rfl⟩ dL_act_4 ?_
  refine w_istore_n X dL_act_7 (by decide) ?_
  refine w_aload_n X 2 rfl dL_act_8 ?_
  refine w_iload_n X 3 rfl dL_act_9 ?_
  refine w_iconst X (nI 2) dL_act_10 (by decide +kernel) ?_
  refine w_iadd_n X dL_act_11 ?_
  refine w_cell V hs.1 hs.2.1 hs.2.2 hL (by omega) ⟨Nat.le_of_ble_eq_true rfl, Nat.le_of_ble_eq_true rfl⟩ (Nat.le_of_ble_eq_true rfl) ⟨Nat.le_of_ble_eq_true rfl, Nat.le_of_ble_eq_true rfl⟩ dL_act_12 ?_
  refine w_istore X dL_act_15 (by decide) ?_
  refine w_iload_n X 1 rfl dL_act_17 ?_
  refine w_bipush X (nI 14) dL_act_18 (by decide +kernel) ?_
  refine w_roS X [] (m_L_low l g (cellI xs L (i + 1)) 14 (by decide) (by decide)) cs_L_low mk_L_74 rfl rfl ⟨Nat.le_of_ble_eq_true rfl, Nat.le_of_ble_eq_true rfl⟩ (Nat.le_of_ble_eq_true rfl) ⟨by (try dsimp only); omega, by (try dsimp only); omega⟩ dL_act_20 rfl ?_
  rw [ej]
  refine w_istore X dL_act_23 (by decide) ?_
  refine w_aload_n X 4 rfl dL_act_25 ?_
  refine w_iload_n X 5 rfl dL_act_26 ?_
  refine w_cell V hs.1 hs.2.1 hs.2.2 hL (by omega) ⟨Nat.le_of_ble_eq_true rfl, Nat.le_of_ble_eq_true rfl⟩ (Nat.le_of_ble_eq_true rfl) ⟨Nat.le_of_ble_eq_true rfl, Nat.le_of_ble_eq_true rfl⟩ dL_act_27 ?_
  refine w_bipush X (nI 18) dL_act_30 (by decide +kernel) ?_
  refine w_roS X [] (m_L_low l g (cellI xs L i) 18 (by decide) (by decide)) cs_L_low mk_L_74 rfl rfl ⟨Nat.le_of_ble_eq_true rfl, Nat.le_of_ble_eq_true rfl⟩ (Nat.le_of_ble_eq_true rfl) ⟨by (try dsimp only); omega, by (try dsimp only); omega⟩ dL_act_32 rfl ?_
  rw [ew]
  refine w_tableIn X 243 dL_act_35 (by decide) (by decide) (by rfl) (by decide) ?_
  refine w_aload_n X 3 rfl dL_act_243 ?_
  refine w_iload_n X 2 rfl dL_act_244 ?_
  refine w_iconst X (nI 4) dL_act_245 (by decide +kernel) ?_
  refine w_roS X [] (m_L_low l g (cellI xs L (i + 1)) 4 (by decide) (by decide)) cs_L_low mk_L_74 rfl rfl ⟨Nat.le_of_ble_eq_true rfl, Nat.le_of_ble_eq_true rfl⟩ (Nat.le_of_ble_eq_true rfl) ⟨by (try dsimp only); omega, by (try dsimp only); omega⟩ dL_act_246 rfl ?_
  rw [ex]
  refine w_iload X 1 rfl dL_act_249 ?_
  refine w_iconst X (nI 4) dL_act_251 (by decide +kernel) ?_
  refine w_roS X [] (m_L_low l g (cellI xs L (i + 2)) 4 (by decide) (by decide)) cs_L_low mk_L_74 rfl rfl ⟨Nat.le_of_ble_eq_true rfl, Nat.le_of_ble_eq_true rfl⟩ (Nat.le_of_ble_eq_true rfl) ⟨by (try dsimp only); omega, by (try dsimp only); omega⟩ dL_act_252 rfl ?_
  rw [ey]
  refine w_mhS V (U := (Nat → Nat → Nat → Int32)) (gr := [rcC g alas (ζ 2)]) (gs1 := fun ζ1 => [maC g am (ast 0) (art 0) (alas 0) (atx 0) (ahi 0), stC g ast σ', rtC g art (aliv 0) (asur 0) (ζ1 3), rcC g aliv (ζ1 0), rcC g asur (ζ1 1), rcC g alas (ζ 2), hiC g ahi (fun i => had i 0) η', stC g (had 0) (hσ' 0), stC g (had 1) (hσ' 1), stC g (had 2) (hσ' 2), stC g (had 3) (hσ' 3), stC g (had 4) (hσ' 4), stC g (had 5) (hσ' 5)]) [0, 1, 2, 3, 4, 6, 7, 8, 9, 10, 11, 12] [5] hM sh_L_giveBack mk_L_92 rfl rfl rfl (ng := 13) rfl (by decide) (fun _ => rfl) (fun _ => rfl) (fun _ => rfl) ⟨Nat.le_of_ble_eq_true rfl, Nat.le_of_ble_eq_true rfl⟩ (Nat.le_of_ble_eq_true rfl) ⟨by (try dsimp only); omega, by (try dsimp only); omega⟩ dL_act_255 rfl (fun ζ1 => ?_)
  exact w_iret_me X (rw2 ζ1 2 (ζ 2)) (rfl) (rfl) (by (try dsimp only); omega) (by (try dsimp only); omega) dL_act_258
set_option maxRecDepth 100000 in
set_option maxHeartbeats 4000000 in
theorem ma_15 (l : Launch) (g : GG) (hfl : l.stackTraces = false) (am : Nat → Nat) (ast : Nat → Nat) (art : Nat → Nat) (aliv : Nat → Nat) (asur : Nat → Nat) (alas : Nat → Nat) (atx : Nat → Nat) (ahi : Nat → Nat) (had : Nat → Nat → Nat) (σ : Nat → Nat → Int32) (ζ : Nat → Nat → Nat → Int32) (η : Nat → Nat → Int32) (hσ : Nat → Nat → Nat → Int32) (nx sv B i b L : Nat) (xs : Nat → Int32) (h : R27 B σ η hσ nx sv) (hB : B < 900000) (hL : L < 2 ^ 31) (hi : i < 1000000) (ew : lwI (cellI xs L i) 18 = nI 15) : ∃ (v : Int32) (σ' η' : Nat → Nat → Int32) (hσ' : Nat → Nat → Nat → Int32) (nx' sv' : Nat), R27 (B + 25) σ' η' hσ' nx' sv' ∧ (v < 0 → σ' = σ ∧ η' = η) ∧ MMS (U := (Nat → Nat → Nat → Int32)) l g yL_act cL_act 6 (some .int) 12 3 18 [.ref (am 0), .ref b, .int (nI i)] [maC g am (ast 0) (art 0) (alas 0) (atx 0) (ahi 0), stC g ast σ, rtC g art (aliv 0) (asur 0) (ζ 3), rcC g aliv (ζ 0), rcC g asur (ζ 1), rcC g alas (ζ 2), hiC g ahi (fun i => had i 0) η, stC g (had 0) (hσ 0), stC g (had 1) (hσ 1), stC g (had 2) (hσ 2), stC g (had 3) (hσ 3), stC g (had 4) (hσ 4), stC g (had 5) (hσ 5)] b L xs (some (.int v)) (fun ζ' => [maC g am (ast 0) (art 0) (alas 0) (atx 0) (ahi 0), stC g ast σ', rtC g art (aliv 0) (asur 0) (ζ' 3), rcC g aliv (ζ' 0), rcC g asur (ζ' 1), rcC g alas (ζ' 2), hiC g ahi (fun i => had i 0) η', stC g (had 0) (hσ' 0), stC g (had 1) (hσ' 1), stC g (had 2) (hσ' 2), stC g (had 3) (hσ' 3), stC g (had 4) (hσ' 4), stC g (had 5) (hσ' 5)]) := by
  obtain ⟨hJ, hH, hnx, hsv, e1, e2⟩ := id h
  have hI := hJ.1
  obtain ⟨j, hj, ej⟩ := lw_ex (cellI xs L (i + 1)) (n := 14) (by decide) (by decide)
  obtain ⟨x, hx, ex⟩ := lw_ex (cellI xs L (i + 1)) (n := 4) (by decide) (by decide)
  obtain ⟨y, hy, ey⟩ := lw_ex (cellI xs L (i + 2)) (n := 4) (by decide) (by decide)
  obtain ⟨v, σ', η', hσ', nx', sv', hR, hu, hM⟩ := c_L_giveBack l g hfl am ast art aliv asur alas atx ahi had σ ζ η hσ nx sv B x y h hB (by omega) (by omega)
  refine ⟨v, σ', η', hσ', nx', sv', hR, hu, ?_⟩
  refine mk_ms hfl (by decide +kernel) (Nat.le_of_ble_eq_true rfl) (fun p e s m below meth c A V hs => ?_)
  have X := V.1
  have hA := V.2.2.2.2
  refine w_aload_n X 1 rfl dL_act_0 ?_
  refine w_iload_n X 2 rfl dL_act_1 ?_
  refine w_iconst X (nI 1) dL_act_2 (by decide +kernel) ?_
  refine w_iadd_n X dL_act_3 ?_
  refine w_cell V hs.1 hs.2.1 hs.2.2 hL (by omega) ⟨Nat.le_of_ble_eq_true rfl, Nat.le_of_ble_eq_true rfl⟩ (Nat.le_of_ble_eq_true rfl) ⟨Nat.le_of_ble_eq_true rfl, Nat.le_of_ble_eq_true rfl⟩ dL_act_4 ?_
  refine w_istore_n X dL_act_7 (by decide) ?_
  refine w_aload_n X 2 rfl dL_act_8 ?_
  refine w_iload_n X 3 rfl dL_act_9 ?_
  refine w_iconst X (nI 2) dL_act_10 (by decide +kernel) ?_
  refine w_iadd_n X dL_act_11 ?_
  refine w_cell V hs.1 hs.2.1 hs.2.2 hL (by omega) ⟨Nat.le_of_ble_eq_true rfl, Nat.le_of_ble_eq_true rfl⟩ (Nat.le_of_ble_eq_true rfl) ⟨Nat.le_of_ble_eq_true rfl, Nat.le_of_ble_eq_true rfl⟩ dL_act_12 ?_
  refine w_istore X dL_act_15 (by decide) ?_
  refine w_iload_n X 1 rfl dL_act_17 ?_
  refine w_bipush X (nI 14) dL_act_18 (by decide +kernel) ?_
  refine w_roS X [] (m_L_low l g (cellI xs L (i + 1)) 14 (by decide) (by decide)) cs_L_low mk_L_74 rfl rfl ⟨Nat.le_of_ble_eq_true rfl, Nat.le_of_ble_eq_true rfl⟩ (Nat.le_of_ble_eq_true rfl) ⟨by (try dsimp only); omega, by (try dsimp only); omega⟩ dL_act_20 rfl ?_
  rw [ej]
  refine w_istore X dL_act_23 (by decide) ?_
  refine w_aload_n X 4 rfl dL_act_25 ?_
  refine w_iload_n X 5 rfl dL_act_26 ?_
  refine w_cell V hs.1 hs.2.1 hs.2.2 hL (by omega) ⟨Nat.le_of_ble_eq_true rfl, Nat.le_of_ble_eq_true rfl⟩ (Nat.le_of_ble_eq_true rfl) ⟨Nat.le_of_ble_eq_true rfl, Nat.le_of_ble_eq_true rfl⟩ dL_act_27 ?_
  refine w_bipush X (nI 18) dL_act_30 (by decide +kernel) ?_
  refine w_roS X [] (m_L_low l g (cellI xs L i) 18 (by decide) (by decide)) cs_L_low mk_L_74 rfl rfl ⟨Nat.le_of_ble_eq_true rfl, Nat.le_of_ble_eq_true rfl⟩ (Nat.le_of_ble_eq_true rfl) ⟨by (try dsimp only); omega, by (try dsimp only); omega⟩ dL_act_32 rfl ?_
  rw [ew]
  refine w_tableIn X 243 dL_act_35 (by decide) (by decide) (by rfl) (by decide) ?_
  refine w_aload_n X 3 rfl dL_act_243 ?_
  refine w_iload_n X 2 rfl dL_act_244 ?_
  refine w_iconst X (nI 4) dL_act_245 (by decide +kernel) ?_
  refine w_roS X [] (m_L_low l g (cellI xs L (i + 1)) 4 (by decide) (by decide)) cs_L_low mk_L_74 rfl rfl ⟨Nat.le_of_ble_eq_true rfl, Nat.le_of_ble_eq_true rfl⟩ (Nat.le_of_ble_eq_true rfl) ⟨by (try dsimp only); omega, by (try dsimp only); omega⟩ dL_act_246 rfl ?_
  rw [ex]
  refine w_iload X 1 rfl dL_act_249 ?_
  refine w_iconst X (nI 4) dL_act_251 (by decide +kernel) ?_
  refine w_roS X [] (m_L_low l g (cellI xs L (i + 2)) 4 (by decide) (by decide)) cs_L_low mk_L_74 rfl rfl ⟨Nat.le_of_ble_eq_true rfl, Nat.le_of_ble_eq_true rfl⟩ (Nat.le_of_ble_eq_true rfl) ⟨by (try dsimp only); omega, by (try dsimp only); omega⟩ dL_act_252 rfl ?_
  rw [ey]
  refine w_mhS V (U := (Nat → Nat → Nat → Int32)) (gr := [rcC g alas (ζ 2)]) (gs1 := fun ζ1 => [maC g am (ast 0) (art 0) (alas 0) (atx 0) (ahi 0), stC g ast σ', rtC g art (aliv 0) (asur 0) (ζ1 3), rcC g aliv (ζ1 0), rcC g asur (ζ1 1), rcC g alas (ζ 2), hiC g ahi (fun i => had i 0) η', stC g (had 0) (hσ' 0), stC g (had 1) (hσ' 1), stC g (had 2) (hσ' 2), stC g (had 3) (hσ' 3), stC g (had 4) (hσ' 4), stC g (had 5) (hσ' 5)]) [0, 1, 2, 3, 4, 6, 7, 8, 9, 10, 11, 12] [5] hM sh_L_giveBack mk_L_92 rfl rfl rfl (ng := 13) rfl (by decide) (fun _ => rfl) (fun _ => rfl) (fun _ => rfl) ⟨Nat.le_of_ble_eq_true rfl, Nat.le_of_ble_eq_true rfl⟩ (Nat.le_of_ble_eq_true rfl) ⟨by (try dsimp only); omega, by (try dsimp only); omega⟩ dL_act_255 rfl (fun ζ1 => ?_)
  exact w_iret_me X (rw2 ζ1 2 (ζ 2)) (rfl) (rfl) (by (try dsimp only); omega) (by (try dsimp only); omega) dL_act_258
set_option maxRecDepth 100000 in
set_option maxHeartbeats 4000000 in
theorem ma_16 (l : Launch) (g : GG) (hfl : l.stackTraces = false) (am : Nat → Nat) (ast : Nat → Nat) (art : Nat → Nat) (aliv : Nat → Nat) (asur : Nat → Nat) (alas : Nat → Nat) (atx : Nat → Nat) (ahi : Nat → Nat) (had : Nat → Nat → Nat) (σ : Nat → Nat → Int32) (ζ : Nat → Nat → Nat → Int32) (η : Nat → Nat → Int32) (hσ : Nat → Nat → Nat → Int32) (nx sv B i b L : Nat) (xs : Nat → Int32) (h : R27 B σ η hσ nx sv) (hB : B < 900000) (hL : L < 2 ^ 31) (hi : i < 1000000) (ew : lwI (cellI xs L i) 18 = nI 16) : ∃ (v : Int32) (σ' η' : Nat → Nat → Int32) (hσ' : Nat → Nat → Nat → Int32) (nx' sv' : Nat), R27 (B + 25) σ' η' hσ' nx' sv' ∧ (v < 0 → σ' = σ ∧ η' = η) ∧ MMS (U := (Nat → Nat → Nat → Int32)) l g yL_act cL_act 6 (some .int) 12 3 18 [.ref (am 0), .ref b, .int (nI i)] [maC g am (ast 0) (art 0) (alas 0) (atx 0) (ahi 0), stC g ast σ, rtC g art (aliv 0) (asur 0) (ζ 3), rcC g aliv (ζ 0), rcC g asur (ζ 1), rcC g alas (ζ 2), hiC g ahi (fun i => had i 0) η, stC g (had 0) (hσ 0), stC g (had 1) (hσ 1), stC g (had 2) (hσ 2), stC g (had 3) (hσ 3), stC g (had 4) (hσ 4), stC g (had 5) (hσ 5)] b L xs (some (.int v)) (fun ζ' => [maC g am (ast 0) (art 0) (alas 0) (atx 0) (ahi 0), stC g ast σ', rtC g art (aliv 0) (asur 0) (ζ' 3), rcC g aliv (ζ' 0), rcC g asur (ζ' 1), rcC g alas (ζ' 2), hiC g ahi (fun i => had i 0) η', stC g (had 0) (hσ' 0), stC g (had 1) (hσ' 1), stC g (had 2) (hσ' 2), stC g (had 3) (hσ' 3), stC g (had 4) (hσ' 4), stC g (had 5) (hσ' 5)]) := by
  obtain ⟨hJ, hH, hnx, hsv, e1, e2⟩ := id h
  have hI := hJ.1
  obtain ⟨j, hj, ej⟩ := lw_ex (cellI xs L (i + 1)) (n := 14) (by decide) (by decide)
  obtain ⟨x, hx, ex⟩ := lw_ex (cellI xs L (i + 1)) (n := 2) (by decide) (by decide)
  obtain ⟨y, hy, ey⟩ := lw_ex (cellI xs L (i + 2)) (n := 2) (by decide) (by decide)
  obtain ⟨y2, hy2, ey2⟩ := lw_ex (cellI xs L (i + 2)) (n := 3) (by decide) (by decide)
  by_cases x0 : x = 0
  · refine ⟨σ 11 x, seS σ x (nI y), hiS η (nxN nx) (svN sv), rw2 hσ nx σ, nxN nx, svN sv, h.save ((jj_set hJ (by omega) (set_ok (by omega) (by split <;> omega))).mono (by omega)), fun z => ?_, ?_⟩
    · exfalso
      exact set_ng hI (by omega) z
    · refine mk_ms hfl (by decide +kernel) (Nat.le_of_ble_eq_true rfl) (fun p e s m below meth c A V hs => ?_)
      have X := V.1
      have hA := V.2.2.2.2
      refine w_aload_n X 1 rfl dL_act_0 ?_
      refine w_iload_n X 2 rfl dL_act_1 ?_
      refine w_iconst X (nI 1) dL_act_2 (by decide +kernel) ?_
      refine w_iadd_n X dL_act_3 ?_
      refine w_cell V hs.1 hs.2.1 hs.2.2 hL (by omega) ⟨Nat.le_of_ble_eq_true rfl, Nat.le_of_ble_eq_true rfl⟩ (Nat.le_of_ble_eq_true rfl) ⟨Nat.le_of_ble_eq_true rfl, Nat.le_of_ble_eq_true rfl⟩ dL_act_4 ?_
      refine w_istore_n X dL_act_7 (by decide) ?_
      refine w_aload_n X 2 rfl dL_act_8 ?_
      refine w_iload_n X 3 rfl dL_act_9 ?_
      refine w_iconst X (nI 2) dL_act_10 (by decide +kernel) ?_
      refine w_iadd_n X dL_act_11 ?_
      refine w_cell V hs.1 hs.2.1 hs.2.2 hL (by omega) ⟨Nat.le_of_ble_eq_true rfl, Nat.le_of_ble_eq_true rfl⟩ (Nat.le_of_ble_eq_true rfl) ⟨Nat.le_of_ble_eq_true rfl, Nat.le_of_ble_eq_true rfl⟩ dL_act_12 ?_
      refine w_istore X dL_act_15 (by decide) ?_
      refine w_iload_n X 1 rfl dL_act_17 ?_
      refine w_bipush X (nI 14) dL_act_18 (by decide +kernel) ?_
      refine w_roS X [] (m_L_low l g (cellI xs L (i + 1)) 14 (by decide) (by decide)) cs_L_low mk_L_74 rfl rfl ⟨Nat.le_of_ble_eq_true rfl, Nat.le_of_ble_eq_true rfl⟩ (Nat.le_of_ble_eq_true rfl) ⟨by (try dsimp only); omega, by (try dsimp only); omega⟩ dL_act_20 rfl ?_
      rw [ej]
      refine w_istore X dL_act_23 (by decide) ?_
      refine w_aload_n X 4 rfl dL_act_25 ?_
      refine w_iload_n X 5 rfl dL_act_26 ?_
      refine w_cell V hs.1 hs.2.1 hs.2.2 hL (by omega) ⟨Nat.le_of_ble_eq_true rfl, Nat.le_of_ble_eq_true rfl⟩ (Nat.le_of_ble_eq_true rfl) ⟨Nat.le_of_ble_eq_true rfl, Nat.le_of_ble_eq_true rfl⟩ dL_act_27 ?_
      refine w_bipush X (nI 18) dL_act_30 (by decide +kernel) ?_
      refine w_roS X [] (m_L_low l g (cellI xs L i) 18 (by decide) (by decide)) cs_L_low mk_L_74 rfl rfl ⟨Nat.le_of_ble_eq_true rfl, Nat.le_of_ble_eq_true rfl⟩ (Nat.le_of_ble_eq_true rfl) ⟨by (try dsimp only); omega, by (try dsimp only); omega⟩ dL_act_32 rfl ?_
      rw [ew]
      refine w_tableIn X 259 dL_act_35 (by decide) (by decide) (by rfl) (by decide) ?_
      refine w_aload_n X 3 rfl dL_act_259 ?_
      refine w_iload_n X 2 rfl dL_act_260 ?_
      refine w_iconst X (nI 2) dL_act_261 (by decide +kernel) ?_
      refine w_roS X [] (m_L_low l g (cellI xs L (i + 1)) 2 (by decide) (by decide)) cs_L_low mk_L_74 rfl rfl ⟨Nat.le_of_ble_eq_true rfl, Nat.le_of_ble_eq_true rfl⟩ (Nat.le_of_ble_eq_true rfl) ⟨by (try dsimp only); omega, by (try dsimp only); omega⟩ dL_act_262 rfl ?_
      rw [ex]
      refine w_iload_n X 2 rfl dL_act_265 ?_
      refine w_iconst X (nI 2) dL_act_266 (by decide +kernel) ?_
      refine w_roS X [] (m_L_low l g (cellI xs L (i + 1)) 2 (by decide) (by decide)) cs_L_low mk_L_74 rfl rfl ⟨Nat.le_of_ble_eq_true rfl, Nat.le_of_ble_eq_true rfl⟩ (Nat.le_of_ble_eq_true rfl) ⟨by (try dsimp only); omega, by (try dsimp only); omega⟩ dL_act_267 rfl ?_
      rw [ex]
      refine w_nf_ne X (by omega) 282 dL_act_270 (by decide) (fun c270 => by exfalso; exact c270 x0) (fun c270 => ?_)
      refine w_iload X 1 rfl dL_act_273 ?_
      refine w_iconst X (nI 2) dL_act_275 (by decide +kernel) ?_
      refine w_roS X [] (m_L_low l g (cellI xs L (i + 2)) 2 (by decide) (by decide)) cs_L_low mk_L_74 rfl rfl ⟨Nat.le_of_ble_eq_true rfl, Nat.le_of_ble_eq_true rfl⟩ (Nat.le_of_ble_eq_true rfl) ⟨by (try dsimp only); omega, by (try dsimp only); omega⟩ dL_act_276 rfl ?_
      rw [ey]
      refine w_goto X 288 dL_act_279 (by decide) ?_
      refine w_muV X hA (gr := [rtC g art (aliv 0) (asur 0) (ζ 3), rcC g aliv (ζ 0), rcC g asur (ζ 1), rcC g alas (ζ 2)]) (gs1 := [maC g am (ast 0) (art 0) (alas 0) (atx 0) (ahi 0), stC g ast (seS σ x (nI y)), rtC g art (aliv 0) (asur 0) (ζ 3), rcC g aliv (ζ 0), rcC g asur (ζ 1), rcC g alas (ζ 2), hiC g ahi (fun i => had i 0) (hiS η (nxN nx) (svN sv)), stC g (had 0) (rw2 hσ nx σ 0), stC g (had 1) (rw2 hσ nx σ 1), stC g (had 2) (rw2 hσ nx σ 2), stC g (had 3) (rw2 hσ nx σ 3), stC g (had 4) (rw2 hσ nx σ 4), stC g (had 5) (rw2 hσ nx σ 5)]) [0, 1, 6, 7, 8, 9, 10, 11, 12] [2, 3, 4, 5] 0 0 (q_X5_set l g am ast art alas atx ahi had σ η hσ x y nx sv (hnx) (e1) (e2) (hsv) (ft0 hI) (ft5 hI) (ft6 hI) (ft8 hI) (by omega) (by split <;> omega)) cv_X5_set mk_L_94 rfl rfl rfl (ng := 13) rfl (by decide) rfl rfl rfl rfl rfl rfl ⟨Nat.le_of_ble_eq_true rfl, Nat.le_of_ble_eq_true rfl⟩ (Nat.le_of_ble_eq_true rfl) ⟨by (try dsimp only); omega, by (try dsimp only); omega⟩ dL_act_288 rfl ?_
      exact w_iret_me X (ζ) (rfl) (rfl) (by (try dsimp only); omega) (by (try dsimp only); omega) dL_act_291
  · refine ⟨σ 11 x, seS σ x (nI y2), hiS η (nxN nx) (svN sv), rw2 hσ nx σ, nxN nx, svN sv, h.save ((jj_set hJ (by omega) (set_ok (by omega) (by split <;> omega))).mono (by omega)), fun z => ?_, ?_⟩
    · exfalso
      exact set_ng hI (by omega) z
    · refine mk_ms hfl (by decide +kernel) (Nat.le_of_ble_eq_true rfl) (fun p e s m below meth c A V hs => ?_)
      have X := V.1
      have hA := V.2.2.2.2
      refine w_aload_n X 1 rfl dL_act_0 ?_
      refine w_iload_n X 2 rfl dL_act_1 ?_
      refine w_iconst X (nI 1) dL_act_2 (by decide +kernel) ?_
      refine w_iadd_n X dL_act_3 ?_
      refine w_cell V hs.1 hs.2.1 hs.2.2 hL (by omega) ⟨Nat.le_of_ble_eq_true rfl, Nat.le_of_ble_eq_true rfl⟩ (Nat.le_of_ble_eq_true rfl) ⟨Nat.le_of_ble_eq_true rfl, Nat.le_of_ble_eq_true rfl⟩ dL_act_4 ?_
      refine w_istore_n X dL_act_7 (by decide) ?_
      refine w_aload_n X 2 rfl dL_act_8 ?_
      refine w_iload_n X 3 rfl dL_act_9 ?_
      refine w_iconst X (nI 2) dL_act_10 (by decide +kernel) ?_
      refine w_iadd_n X dL_act_11 ?_
      refine w_cell V hs.1 hs.2.1 hs.2.2 hL (by omega) ⟨Nat.le_of_ble_eq_true rfl, Nat.le_of_ble_eq_true rfl⟩ (Nat.le_of_ble_eq_true rfl) ⟨Nat.le_of_ble_eq_true rfl, Nat.le_of_ble_eq_true rfl⟩ dL_act_12 ?_
      refine w_istore X dL_act_15 (by decide) ?_
      refine w_iload_n X 1 rfl dL_act_17 ?_
      refine w_bipush X (nI 14) dL_act_18 (by decide +kernel) ?_
      refine w_roS X [] (m_L_low l g (cellI xs L (i + 1)) 14 (by decide) (by decide)) cs_L_low mk_L_74 rfl rfl ⟨Nat.le_of_ble_eq_true rfl, Nat.le_of_ble_eq_true rfl⟩ (Nat.le_of_ble_eq_true rfl) ⟨by (try dsimp only); omega, by (try dsimp only); omega⟩ dL_act_20 rfl ?_
      rw [ej]
      refine w_istore X dL_act_23 (by decide) ?_
      refine w_aload_n X 4 rfl dL_act_25 ?_
      refine w_iload_n X 5 rfl dL_act_26 ?_
      refine w_cell V hs.1 hs.2.1 hs.2.2 hL (by omega) ⟨Nat.le_of_ble_eq_true rfl, Nat.le_of_ble_eq_true rfl⟩ (Nat.le_of_ble_eq_true rfl) ⟨Nat.le_of_ble_eq_true rfl, Nat.le_of_ble_eq_true rfl⟩ dL_act_27 ?_
      refine w_bipush X (nI 18) dL_act_30 (by decide +kernel) ?_
      refine w_roS X [] (m_L_low l g (cellI xs L i) 18 (by decide) (by decide)) cs_L_low mk_L_74 rfl rfl ⟨Nat.le_of_ble_eq_true rfl, Nat.le_of_ble_eq_true rfl⟩ (Nat.le_of_ble_eq_true rfl) ⟨by (try dsimp only); omega, by (try dsimp only); omega⟩ dL_act_32 rfl ?_
      rw [ew]
      refine w_tableIn X 259 dL_act_35 (by decide) (by decide) (by rfl) (by decide) ?_
      refine w_aload_n X 3 rfl dL_act_259 ?_
      refine w_iload_n X 2 rfl dL_act_260 ?_
      refine w_iconst X (nI 2) dL_act_261 (by decide +kernel) ?_
      refine w_roS X [] (m_L_low l g (cellI xs L (i + 1)) 2 (by decide) (by decide)) cs_L_low mk_L_74 rfl rfl ⟨Nat.le_of_ble_eq_true rfl, Nat.le_of_ble_eq_true rfl⟩ (Nat.le_of_ble_eq_true rfl) ⟨by (try dsimp only); omega, by (try dsimp only); omega⟩ dL_act_262 rfl ?_
      rw [ex]
      refine w_iload_n X 2 rfl dL_act_265 ?_
      refine w_iconst X (nI 2) dL_act_266 (by decide +kernel) ?_
      refine w_roS X [] (m_L_low l g (cellI xs L (i + 1)) 2 (by decide) (by decide)) cs_L_low mk_L_74 rfl rfl ⟨Nat.le_of_ble_eq_true rfl, Nat.le_of_ble_eq_true rfl⟩ (Nat.le_of_ble_eq_true rfl) ⟨by (try dsimp only); omega, by (try dsimp only); omega⟩ dL_act_267 rfl ?_
      rw [ex]
      refine w_nf_ne X (by omega) 282 dL_act_270 (by decide) (fun c270 => ?_) (fun c270 => by exfalso; exact x0 c270)
      refine w_iload X 1 rfl dL_act_282 ?_
      refine w_iconst X (nI 3) dL_act_284 (by decide +kernel) ?_
      refine w_roS X [] (m_L_low l g (cellI xs L (i + 2)) 3 (by decide) (by decide)) cs_L_low mk_L_74 rfl rfl ⟨Nat.le_of_ble_eq_true rfl, Nat.le_of_ble_eq_true rfl⟩ (Nat.le_of_ble_eq_true rfl) ⟨by (try dsimp only); omega, by (try dsimp only); omega⟩ dL_act_285 rfl ?_
      rw [ey2]
      refine w_muV X hA (gr := [rtC g art (aliv 0) (asur 0) (ζ 3), rcC g aliv (ζ 0), rcC g asur (ζ 1), rcC g alas (ζ 2)]) (gs1 := [maC g am (ast 0) (art 0) (alas 0) (atx 0) (ahi 0), stC g ast (seS σ x (nI y2)), rtC g art (aliv 0) (asur 0) (ζ 3), rcC g aliv (ζ 0), rcC g asur (ζ 1), rcC g alas (ζ 2), hiC g ahi (fun i => had i 0) (hiS η (nxN nx) (svN sv)), stC g (had 0) (rw2 hσ nx σ 0), stC g (had 1) (rw2 hσ nx σ 1), stC g (had 2) (rw2 hσ nx σ 2), stC g (had 3) (rw2 hσ nx σ 3), stC g (had 4) (rw2 hσ nx σ 4), stC g (had 5) (rw2 hσ nx σ 5)]) [0, 1, 6, 7, 8, 9, 10, 11, 12] [2, 3, 4, 5] 0 0 (q_X5_set l g am ast art alas atx ahi had σ η hσ x y2 nx sv (hnx) (e1) (e2) (hsv) (ft0 hI) (ft5 hI) (ft6 hI) (ft8 hI) (by omega) (by split <;> omega)) cv_X5_set mk_L_94 rfl rfl rfl (ng := 13) rfl (by decide) rfl rfl rfl rfl rfl rfl ⟨Nat.le_of_ble_eq_true rfl, Nat.le_of_ble_eq_true rfl⟩ (Nat.le_of_ble_eq_true rfl) ⟨by (try dsimp only); omega, by (try dsimp only); omega⟩ dL_act_288 rfl ?_
      exact w_iret_me X (ζ) (rfl) (rfl) (by (try dsimp only); omega) (by (try dsimp only); omega) dL_act_291
set_option maxRecDepth 100000 in
set_option maxHeartbeats 4000000 in
theorem ma_17 (l : Launch) (g : GG) (hfl : l.stackTraces = false) (am : Nat → Nat) (ast : Nat → Nat) (art : Nat → Nat) (aliv : Nat → Nat) (asur : Nat → Nat) (alas : Nat → Nat) (atx : Nat → Nat) (ahi : Nat → Nat) (had : Nat → Nat → Nat) (σ : Nat → Nat → Int32) (ζ : Nat → Nat → Nat → Int32) (η : Nat → Nat → Int32) (hσ : Nat → Nat → Nat → Int32) (nx sv B i b L : Nat) (xs : Nat → Int32) (h : R27 B σ η hσ nx sv) (hB : B < 900000) (hL : L < 2 ^ 31) (hi : i < 1000000) (ew : lwI (cellI xs L i) 18 = nI 17) : ∃ (v : Int32) (σ' η' : Nat → Nat → Int32) (hσ' : Nat → Nat → Nat → Int32) (nx' sv' : Nat), R27 (B + 25) σ' η' hσ' nx' sv' ∧ (v < 0 → σ' = σ ∧ η' = η) ∧ MMS (U := (Nat → Nat → Nat → Int32)) l g yL_act cL_act 6 (some .int) 12 3 18 [.ref (am 0), .ref b, .int (nI i)] [maC g am (ast 0) (art 0) (alas 0) (atx 0) (ahi 0), stC g ast σ, rtC g art (aliv 0) (asur 0) (ζ 3), rcC g aliv (ζ 0), rcC g asur (ζ 1), rcC g alas (ζ 2), hiC g ahi (fun i => had i 0) η, stC g (had 0) (hσ 0), stC g (had 1) (hσ 1), stC g (had 2) (hσ 2), stC g (had 3) (hσ 3), stC g (had 4) (hσ 4), stC g (had 5) (hσ 5)] b L xs (some (.int v)) (fun ζ' => [maC g am (ast 0) (art 0) (alas 0) (atx 0) (ahi 0), stC g ast σ', rtC g art (aliv 0) (asur 0) (ζ' 3), rcC g aliv (ζ' 0), rcC g asur (ζ' 1), rcC g alas (ζ' 2), hiC g ahi (fun i => had i 0) η', stC g (had 0) (hσ' 0), stC g (had 1) (hσ' 1), stC g (had 2) (hσ' 2), stC g (had 3) (hσ' 3), stC g (had 4) (hσ' 4), stC g (had 5) (hσ' 5)]) := by
  obtain ⟨hJ, hH, hnx, hsv, e1, e2⟩ := id h
  have hI := hJ.1
  obtain ⟨j, hj, ej⟩ := lw_ex (cellI xs L (i + 1)) (n := 14) (by decide) (by decide)
  obtain ⟨v, σ', η', hσ', nx', sv', hR, hu, hM⟩ := c_L_undo l g hfl am ast art alas atx ahi had σ η hσ nx sv B h hB
  refine ⟨v, σ', η', hσ', nx', sv', hR, hu, ?_⟩
  refine mk_ms hfl (by decide +kernel) (Nat.le_of_ble_eq_true rfl) (fun p e s m below meth c A V hs => ?_)
  have X := V.1
  have hA := V.2.2.2.2
  refine w_aload_n X 1 rfl dL_act_0 ?_
  refine w_iload_n X 2 rfl dL_act_1 ?_
  refine w_iconst X (nI 1) dL_act_2 (by decide +kernel) ?_
  refine w_iadd_n X dL_act_3 ?_
  refine w_cell V hs.1 hs.2.1 hs.2.2 hL (by omega) ⟨Nat.le_of_ble_eq_true rfl, Nat.le_of_ble_eq_true rfl⟩ (Nat.le_of_ble_eq_true rfl) ⟨Nat.le_of_ble_eq_true rfl, Nat.le_of_ble_eq_true rfl⟩ dL_act_4 ?_
  refine w_istore_n X dL_act_7 (by decide) ?_
  refine w_aload_n X 2 rfl dL_act_8 ?_
  refine w_iload_n X 3 rfl dL_act_9 ?_
  refine w_iconst X (nI 2) dL_act_10 (by decide +kernel) ?_
  refine w_iadd_n X dL_act_11 ?_
  refine w_cell V hs.1 hs.2.1 hs.2.2 hL (by omega) ⟨Nat.le_of_ble_eq_true rfl, Nat.le_of_ble_eq_true rfl⟩ (Nat.le_of_ble_eq_true rfl) ⟨Nat.le_of_ble_eq_true rfl, Nat.le_of_ble_eq_true rfl⟩ dL_act_12 ?_
  refine w_istore X dL_act_15 (by decide) ?_
  refine w_iload_n X 1 rfl dL_act_17 ?_
  refine w_bipush X (nI 14) dL_act_18 (by decide +kernel) ?_
  refine w_roS X [] (m_L_low l g (cellI xs L (i + 1)) 14 (by decide) (by decide)) cs_L_low mk_L_74 rfl rfl ⟨Nat.le_of_ble_eq_true rfl, Nat.le_of_ble_eq_true rfl⟩ (Nat.le_of_ble_eq_true rfl) ⟨by (try dsimp only); omega, by (try dsimp only); omega⟩ dL_act_20 rfl ?_
  rw [ej]
  refine w_istore X dL_act_23 (by decide) ?_
  refine w_aload_n X 4 rfl dL_act_25 ?_
  refine w_iload_n X 5 rfl dL_act_26 ?_
  refine w_cell V hs.1 hs.2.1 hs.2.2 hL (by omega) ⟨Nat.le_of_ble_eq_true rfl, Nat.le_of_ble_eq_true rfl⟩ (Nat.le_of_ble_eq_true rfl) ⟨Nat.le_of_ble_eq_true rfl, Nat.le_of_ble_eq_true rfl⟩ dL_act_27 ?_
  refine w_bipush X (nI 18) dL_act_30 (by decide +kernel) ?_
  refine w_roS X [] (m_L_low l g (cellI xs L i) 18 (by decide) (by decide)) cs_L_low mk_L_74 rfl rfl ⟨Nat.le_of_ble_eq_true rfl, Nat.le_of_ble_eq_true rfl⟩ (Nat.le_of_ble_eq_true rfl) ⟨by (try dsimp only); omega, by (try dsimp only); omega⟩ dL_act_32 rfl ?_
  rw [ew]
  refine w_tableOut X 292 dL_act_35 (Or.inr (by decide)) (by decide) ?_
  refine w_aload_n X 3 rfl dL_act_292 ?_
  refine w_mhS V (U := (Nat → Nat → Nat → Int32)) (gr := [rtC g art (aliv 0) (asur 0) (ζ 3), rcC g aliv (ζ 0), rcC g asur (ζ 1), rcC g alas (ζ 2)]) (gs1 := fun ζ1 => [maC g am (ast 0) (art 0) (alas 0) (atx 0) (ahi 0), stC g ast σ', rtC g art (aliv 0) (asur 0) (ζ 3), rcC g aliv (ζ 0), rcC g asur (ζ 1), rcC g alas (ζ 2), hiC g ahi (fun i => had i 0) η', stC g (had 0) (hσ' 0), stC g (had 1) (hσ' 1), stC g (had 2) (hσ' 2), stC g (had 3) (hσ' 3), stC g (had 4) (hσ' 4), stC g (had 5) (hσ' 5)]) [0, 1, 6, 7, 8, 9, 10, 11, 12] [2, 3, 4, 5] hM sh_L_undo mk_L_97 rfl rfl rfl (ng := 13) rfl (by decide) (fun _ => rfl) (fun _ => rfl) (fun _ => rfl) ⟨Nat.le_of_ble_eq_true rfl, Nat.le_of_ble_eq_true rfl⟩ (Nat.le_of_ble_eq_true rfl) ⟨by (try dsimp only); omega, by (try dsimp only); omega⟩ dL_act_293 rfl (fun ζ1 => ?_)
  exact w_iret_me X (ζ) (rfl) (rfl) (by (try dsimp only); omega) (by (try dsimp only); omega) dL_act_296
