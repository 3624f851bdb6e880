/-! the law's object, is, heap -/
def obO (σ : Nat → Nat → Int32) (j w : Nat) : OC := if hasB σ (nI j) = true then rI (opC σ j w) else .inr iOE
theorem ex_ob (σ : Nat → Nat → Int32) (j w : Nat) : exV ef_object (obO σ j w) = obI σ j w := by
  rw [obO, obI]
  split <;> rfl
theorem c_L_object (l : Launch) (g : GG) (hfl : l.stackTraces = false) (am : Nat → Nat) (ast : Nat → Nat) (art : Nat → Nat) (aliv : Nat → Nat) (asur : Nat → Nat) (alas : Nat → Nat) (atx : Nat → Nat) (ahi : Nat → Nat) (σ : Nat → Nat → Int32) (ζ : Nat → Nat → Nat → Int32) (j : Nat) (w : Nat) (hj : j < 24) (hw : w < 12) : MMH (U := (Nat → Nat → Nat → Int32)) l g yL_object cL_object 4 (some .int) [(0, 6, 7, 30)] 10 2 12 [.ref (am 0), .int (nI j), .int (nI w)] [maC g am (ast 0) (art 0) (alas 0) (atx 0) (ahi 0), stC g ast σ, rtC g art (aliv 0) (asur 0) (ζ 3), rcC g aliv (ζ 0), rcC g asur (ζ 1), rcC g alas (ζ 2)] (some (.int (obI σ j w))) (fun ζ' => [maC g am (ast 0) (art 0) (alas 0) (atx 0) (ahi 0), stC g ast σ, rtC g art (aliv 0) (asur 0) (ζ' 3), rcC g aliv (ζ' 0), rcC g asur (ζ' 1), rcC g alas (ζ' 2)]) := by
  rw [← ex_ob]
  refine m_L_object l g hfl (nI j) (nI w) rfl rfl (m_X5_object l g hfl am ast art aliv asur alas atx ahi σ ζ (nI j) (nI w) (obO σ j w) (fun h => by rw [obO, if_neg (by rw [h]; decide)]) (fun _ h => h.elim (fun z => absurd z (nI_pos (by omega))) (fun z => absurd ((nI_ltI (by omega) (by decide)).mpr hw) z)) (fun j' q hj' e1 hq e2 hb => ?_)) (fun _ => rfl) (fun rv h => ?_) (fun E h => ?_)
  · have h1 : j = j' := (nI_eq (by omega) (by omega)).mp e1
    have h2 : w = q := (nI_eq (by omega) (by omega)).mp e2
    subst h1
    subst h2
    rw [obO, if_pos hb]
  · rw [obO] at h
    split at h
    · cases h; exact ⟨_, rfl⟩
    · cases h
  · rw [obO] at h
    split at h
    · cases h
    · cases h; exact List.mem_cons_self
set_option maxRecDepth 100000 in
set_option maxHeartbeats 4000000 in
theorem m_L_is (l : Launch) (g : GG) (hfl : l.stackTraces = false) (am : Nat → Nat) (ast : Nat → Nat) (art : Nat → Nat) (aliv : Nat → Nat) (asur : Nat → Nat) (alas : Nat → Nat) (atx : Nat → Nat) (ahi : Nat → Nat) (σ : Nat → Nat → Int32) (ζ : Nat → Nat → Nat → Int32) (j : Nat) (hI : Inv σ) (hj : j < 24) : MMP (U := (Nat → Nat → Nat → Int32)) l g yL_is cL_is 2 (some .boolean) 11 2 12 [.ref (am 0), .int (nI j)] [maC g am (ast 0) (art 0) (alas 0) (atx 0) (ahi 0), stC g ast σ, rtC g art (aliv 0) (asur 0) (ζ 3), rcC g aliv (ζ 0), rcC g asur (ζ 1), rcC g alas (ζ 2)] (some (.int (bI (hasB σ (nI j))))) (fun ζ' => [maC g am (ast 0) (art 0) (alas 0) (atx 0) (ahi 0), stC g ast σ, rtC g art (aliv 0) (asur 0) (ζ' 3), rcC g aliv (ζ' 0), rcC g asur (ζ' 1), rcC g alas (ζ' 2)]) := by
  refine mk_mp hfl (by decide +kernel) (Nat.le_of_ble_eq_true rfl) (fun p e s m below meth c A V => ?_)
  have X := V.1
  have hA := V.2.2.2.2
  refine w_aload_n X 0 rfl dL_is_0 ?_
  refine w_iload_n X 1 rfl dL_is_1 ?_
  refine w_iconst X (nI 0) dL_is_2 (by decide +kernel) ?_
  refine w_mhS V (U := (Nat → Nat → Nat → Int32)) (gr := []) (gs1 := fun ζ1 => [maC g am (ast 0) (art 0) (alas 0) (atx 0) (ahi 0), stC g ast σ, rtC g art (aliv 0) (asur 0) (ζ1 3), rcC g aliv (ζ1 0), rcC g asur (ζ1 1), rcC g alas (ζ1 2)]) [0, 1, 2, 3, 4, 5] [] (c_L_object l g hfl am ast art aliv asur alas atx ahi σ ζ j 0 (by omega) (by omega)) sh_L_object mk_L_35 rfl rfl rfl (ng := 6) rfl (by decide) (fun _ => rfl) (fun _ => rfl) (fun _ => rfl) ⟨Nat.le_of_ble_eq_true rfl, Nat.le_of_ble_eq_true rfl⟩ (Nat.le_of_ble_eq_true rfl) ⟨Nat.le_of_ble_eq_true rfl, Nat.le_of_ble_eq_true rfl⟩ dL_is_3 rfl (fun ζ1 => ?_)
  refine w_if_lt X 13 dL_is_6 (by decide) (fun c6 => ?_) (fun c6 => ?_)
  · refine w_iconst X (nI 0) dL_is_13 (by decide +kernel) ?_
    exact w_zret_me X (ζ1) (by rw [is_lt hI hj c6]; rfl) (rfl) (Nat.le_of_ble_eq_true rfl) (Nat.le_of_ble_eq_true rfl) (rfl) dL_is_14
  · refine w_iconst X (nI 1) dL_is_9 (by decide +kernel) ?_
    refine w_goto X 14 dL_is_10 (by decide) ?_
    exact w_zret_me X (ζ1) (by rw [is_ge c6]; rfl) (rfl) (Nat.le_of_ble_eq_true rfl) (Nat.le_of_ble_eq_true rfl) (rfl) dL_is_14
set_option maxRecDepth 100000 in
set_option maxHeartbeats 4000000 in
theorem m_L_heap (l : Launch) (g : GG) (hfl : l.stackTraces = false) (am : Nat → Nat) (ast : Nat → Nat) (art : Nat → Nat) (aliv : Nat → Nat) (asur : Nat → Nat) (alas : Nat → Nat) (atx : Nat → Nat) (ahi : Nat → Nat) (had : Nat → Nat → Nat) (σ : Nat → Nat → Int32) (ζ : Nat → Nat → Nat → Int32) (η : Nat → Nat → Int32) (B : Nat) (hB : B < 1000000) (hJ : JJ B σ) : MMP (U := (Nat → Nat → Nat → Int32)) l g yL_heap cL_heap 12 (some .boolean) 12 144 864 [.ref (am 0)] [maC g am (ast 0) (art 0) (alas 0) (atx 0) (ahi 0), stC g ast σ, rtC g art (aliv 0) (asur 0) (ζ 3), rcC g aliv (ζ 0), rcC g asur (ζ 1), rcC g alas (ζ 2), hiC g ahi (fun i => had i 0) η] (some (.int (bI (true)))) (fun ζ' => [maC g am (ast 0) (art 0) (alas 0) (atx 0) (ahi 0), stC g ast σ, rtC g art (aliv 0) (asur 0) (ζ' 3), rcC g aliv (ζ' 0), rcC g asur (ζ' 1), rcC g alas (ζ' 2), hiC g ahi (fun i => had i 0) η]) := by
  refine mk_mp hfl (by decide +kernel) (Nat.le_of_ble_eq_true rfl) (fun p e s m below meth c A V => ?_)
  have X := V.1
  have hA := V.2.2.2.2
  have hI := hJ.1
  refine w_iconst X (nI 0) dL_heap_0 (by decide +kernel) ?_
  refine w_istore_n X dL_heap_1 (by decide) ?_
  refine w_iconst X (nI 0) dL_heap_2 (by decide +kernel) ?_
  refine w_istore_n X dL_heap_3 (by decide) ?_
  refine w_iconst X (nI 0) dL_heap_4 (by decide +kernel) ?_
  refine w_istore_n X dL_heap_5 (by decide) ?_
  refine w_iconst X (nI 0) dL_heap_6 (by decide +kernel) ?_
  refine w_istore X dL_heap_7 (by decide) ?_
  refine w_iconst X (nI 1) dL_heap_9 (by decide +kernel) ?_
  refine w_istore X dL_heap_10 (by decide) ?_
  refine w_iconst X (nI 0) dL_heap_12 (by decide +kernel) ?_
  refine w_istore X dL_heap_13 (by decide) ?_
  have e0_2 : nI (0) = nI (s2N (toP σ 0) 24) := by rw [rf_0]
  refine w_widen (k := 6 * 0) (n := 36 * 0) (by omega) (by omega) ?_
  refine w_all [6, 5, 4, 3, 2, 1, 0] (rfl) (rfl) (by rw [← e0_2]; rfl) (w_loopK (st := []) (pc := 15) X (V := Nat × (Nat → Nat → Nat → Int32)) (fun (v15 : Nat × (Nat → Nat → Nat → Int32)) => 24 - v15.1) (fun (v15 : Nat × (Nat → Nat → Nat → Int32)) => (v15.1 ≤ 24)) (fun (v15 : Nat × (Nat → Nat → Nat → Int32)) => 6 * v15.1) (fun (v15 : Nat × (Nat → Nat → Nat → Int32)) => 36 * v15.1) (fun (v15 : Nat × (Nat → Nat → Nat → Int32)) => [(0, .ref (am 0)), (1, .int (nI (cn (fun o => nz (σ 0 o)) v15.1))), (2, .int (nI (s2N (toP σ v15.1) 24))), (3, .int (nI (s2N (nnP σ) v15.1))), (4, .int (nI (cn (fun o => nz (σ 5 o)) v15.1))), (5, .int (bI (true))), (6, .int (nI v15.1))]) (fun (v15 : Nat × (Nat → Nat → Nat → Int32)) => [maC g am (ast 0) (art 0) (alas 0) (atx 0) (ahi 0), stC g ast σ, rtC g art (aliv 0) (asur 0) (v15.2 3), rcC g aliv (v15.2 0), rcC g asur (v15.2 1), rcC g alas (v15.2 2), hiC g ahi (fun i => had i 0) η]) (fun v15 hv15 ih15 => ?_) (0, ζ) (by omega))
  obtain ⟨k, zz⟩ := v15
  have hk := hv15
  try dsimp only at hk ih15 ⊢
  refine w_iload X 6 rfl dL_heap_15 ?_
  refine w_bipush X (nI 24) dL_heap_17 (by decide +kernel) ?_
  refine w_nc_ge X (by omega) (by omega) 406 dL_heap_19 (by decide) (fun c19 => ?_) (fun c19 => ?_)
  · have he_k : k = 24 := by omega
    refine w_iload X 5 rfl dL_heap_406 ?_
    refine w_bf_eq X 493 dL_heap_408 (by decide) (fun c408 => by exfalso; cases c408) (fun c408 => ?_)
    refine w_iload_n X 1 rfl dL_heap_411 ?_
    refine w_aload_n X 0 rfl dL_heap_412 ?_
    refine w_iconst X (nI 0) dL_heap_413 (by decide +kernel) ?_
    refine w_meV X hA (U := (Nat → Nat → Nat → Int32)) (gr := [rtC g art (aliv 0) (asur 0) (zz 3), rcC g aliv (zz 0), rcC g asur (zz 1)]) (gs1 := fun ζ1 => [maC g am (ast 0) (art 0) (alas 0) (atx 0) (ahi 0), stC g ast σ, rtC g art (aliv 0) (asur 0) (zz 3), rcC g aliv (zz 0), rcC g asur (zz 1), rcC g alas (ζ1 2), hiC g ahi (fun i => had i 0) η]) [0, 1, 5, 6] [2, 3, 4] 0 0 (q_X5_count l g am ast art alas atx ahi had σ (rw2 ζ 2 (zz 2)) η 0 (by omega)) cv_X5_count mk_L_57 rfl rfl rfl (ng := 7) rfl (by decide) (fun _ => rfl) (fun _ => rfl) (fun _ => rfl) rfl rfl rfl ⟨Nat.le_of_ble_eq_true rfl, Nat.le_of_ble_eq_true rfl⟩ (Nat.le_of_ble_eq_true rfl) ⟨by (try dsimp only); omega, by (try dsimp only); omega⟩ dL_heap_414 rfl (fun ζ1 => ?_)
    refine w_ic_ne X 493 dL_heap_417 (by decide) (fun c417 => by exfalso; exact c417 (fin_0 he_k)) (fun c417 => ?_)
    refine w_iload_n X 2 rfl dL_heap_420 ?_
    refine w_aload_n X 0 rfl dL_heap_421 ?_
    refine w_iconst X (nI 4) dL_heap_422 (by decide +kernel) ?_
    refine w_meV X hA (U := (Nat → Nat → Nat → Int32)) (gr := [rtC g art (aliv 0) (asur 0) (zz 3), rcC g aliv (zz 0), rcC g asur (zz 1)]) (gs1 := fun ζ2 => [maC g am (ast 0) (art 0) (alas 0) (atx 0) (ahi 0), stC g ast σ, rtC g art (aliv 0) (asur 0) (zz 3), rcC g aliv (zz 0), rcC g asur (zz 1), rcC g alas (ζ2 2), hiC g ahi (fun i => had i 0) η]) [0, 1, 5, 6] [2, 3, 4] 0 0 (q_X5_count l g am ast art alas atx ahi had σ ζ1 η 4 (by omega)) cv_X5_count mk_L_57 rfl rfl rfl (ng := 7) rfl (by decide) (fun _ => rfl) (fun _ => rfl) (fun _ => rfl) rfl rfl rfl ⟨Nat.le_of_ble_eq_true rfl, Nat.le_of_ble_eq_true rfl⟩ (Nat.le_of_ble_eq_true rfl) ⟨by (try dsimp only); omega, by (try dsimp only); omega⟩ dL_heap_423 rfl (fun ζ2 => ?_)
    refine w_ic_ne X 493 dL_heap_426 (by decide) (fun c426 => by exfalso; exact c426 (by rw [he_k]; exact fin_4 hI rfl)) (fun c426 => ?_)
    refine w_iload_n X 3 rfl dL_heap_429 ?_
    refine w_iload_n X 2 rfl dL_heap_430 ?_
    refine w_nc_ne X (by have := s2N_le (nnP σ) k; omega) (by have := s2N_le (toP σ k) 24; omega) 493 dL_heap_431 (by decide) (fun c431 => by exfalso; exact c431 (fin_l hI he_k |>.trans (by rw [he_k]))) (fun c431 => ?_)
    refine w_iload X 4 rfl dL_heap_434 ?_
    refine w_aload_n X 0 rfl dL_heap_436 ?_
    refine w_iconst X (nI 3) dL_heap_437 (by decide +kernel) ?_
    refine w_meV X hA (U := (Nat → Nat → Nat → Int32)) (gr := [rtC g art (aliv 0) (asur 0) (zz 3), rcC g aliv (zz 0), rcC g asur (zz 1)]) (gs1 := fun ζ3 => [maC g am (ast 0) (art 0) (alas 0) (atx 0) (ahi 0), stC g ast σ, rtC g art (aliv 0) (asur 0) (zz 3), rcC g aliv (zz 0), rcC g asur (zz 1), rcC g alas (ζ3 2), hiC g ahi (fun i => had i 0) η]) [0, 1, 5, 6] [2, 3, 4] 0 0 (q_X5_count l g am ast art alas atx ahi had σ ζ2 η 3 (by omega)) cv_X5_count mk_L_57 rfl rfl rfl (ng := 7) rfl (by decide) (fun _ => rfl) (fun _ => rfl) (fun _ => rfl) rfl rfl rfl ⟨Nat.le_of_ble_eq_true rfl, Nat.le_of_ble_eq_true rfl⟩ (Nat.le_of_ble_eq_true rfl) ⟨by (try dsimp only); omega, by (try dsimp only); omega⟩ dL_heap_438 rfl (fun ζ3 => ?_)
    refine w_ic_ne X 493 dL_heap_441 (by decide) (fun c441 => by exfalso; exact c441 (fin_3 he_k)) (fun c441 => ?_)
    refine w_aload_n X 0 rfl dL_heap_444 ?_
    refine w_iconst X (nI 5) dL_heap_445 (by decide +kernel) ?_
    refine w_meV X hA (U := (Nat → Nat → Nat → Int32)) (gr := [rtC g art (aliv 0) (asur 0) (zz 3), rcC g aliv (zz 0), rcC g asur (zz 1)]) (gs1 := fun ζ4 => [maC g am (ast 0) (art 0) (alas 0) (atx 0) (ahi 0), stC g ast σ, rtC g art (aliv 0) (asur 0) (zz 3), rcC g aliv (zz 0), rcC g asur (zz 1), rcC g alas (ζ4 2), hiC g ahi (fun i => had i 0) η]) [0, 1, 5, 6] [2, 3, 4] 0 0 (q_X5_count l g am ast art alas atx ahi had σ ζ3 η 5 (by omega)) cv_X5_count mk_L_57 rfl rfl rfl (ng := 7) rfl (by decide) (fun _ => rfl) (fun _ => rfl) (fun _ => rfl) rfl rfl rfl ⟨Nat.le_of_ble_eq_true rfl, Nat.le_of_ble_eq_true rfl⟩ (Nat.le_of_ble_eq_true rfl) ⟨by (try dsimp only); omega, by (try dsimp only); omega⟩ dL_heap_446 rfl (fun ζ4 => ?_)
    refine w_iload_n X 2 rfl dL_heap_449 ?_
    refine w_ic_gt X 493 dL_heap_450 (by decide) (fun c450 => by exfalso; exact (by rw [he_k] at c450; exact fin_5 hI rfl c450)) (fun c450 => ?_)
    refine w_aload_n X 0 rfl dL_heap_453 ?_
    refine w_bipush X (nI 6) dL_heap_454 (by decide +kernel) ?_
    refine w_meV X hA (U := (Nat → Nat → Nat → Int32)) (gr := [rtC g art (aliv 0) (asur 0) (zz 3), rcC g aliv (zz 0), rcC g asur (zz 1)]) (gs1 := fun ζ5 => [maC g am (ast 0) (art 0) (alas 0) (atx 0) (ahi 0), stC g ast σ, rtC g art (aliv 0) (asur 0) (zz 3), rcC g aliv (zz 0), rcC g asur (zz 1), rcC g alas (ζ5 2), hiC g ahi (fun i => had i 0) η]) [0, 1, 5, 6] [2, 3, 4] 0 0 (q_X5_count l g am ast art alas atx ahi had σ ζ4 η 6 (by omega)) cv_X5_count mk_L_57 rfl rfl rfl (ng := 7) rfl (by decide) (fun _ => rfl) (fun _ => rfl) (fun _ => rfl) rfl rfl rfl ⟨Nat.le_of_ble_eq_true rfl, Nat.le_of_ble_eq_true rfl⟩ (Nat.le_of_ble_eq_true rfl) ⟨by (try dsimp only); omega, by (try dsimp only); omega⟩ dL_heap_456 rfl (fun ζ5 => ?_)
    refine w_iload_n X 1 rfl dL_heap_459 ?_
    refine w_aload_n X 0 rfl dL_heap_460 ?_
    refine w_bipush X (nI 8) dL_heap_461 (by decide +kernel) ?_
    refine w_meV X hA (U := (Nat → Nat → Nat → Int32)) (gr := [rtC g art (aliv 0) (asur 0) (zz 3), rcC g aliv (zz 0), rcC g asur (zz 1)]) (gs1 := fun ζ6 => [maC g am (ast 0) (art 0) (alas 0) (atx 0) (ahi 0), stC g ast σ, rtC g art (aliv 0) (asur 0) (zz 3), rcC g aliv (zz 0), rcC g asur (zz 1), rcC g alas (ζ6 2), hiC g ahi (fun i => had i 0) η]) [0, 1, 5, 6] [2, 3, 4] 0 0 (q_X5_count l g am ast art alas atx ahi had σ ζ5 η 8 (by omega)) cv_X5_count mk_L_57 rfl rfl rfl (ng := 7) rfl (by decide) (fun _ => rfl) (fun _ => rfl) (fun _ => rfl) rfl rfl rfl ⟨Nat.le_of_ble_eq_true rfl, Nat.le_of_ble_eq_true rfl⟩ (Nat.le_of_ble_eq_true rfl) ⟨by (try dsimp only); omega, by (try dsimp only); omega⟩ dL_heap_463 rfl (fun ζ6 => ?_)
    refine w_iadd X dL_heap_466 ?_
    refine w_ic_ne X 493 dL_heap_467 (by decide) (fun c467 => by exfalso; exact c467 (fin_6 hJ he_k)) (fun c467 => ?_)
    refine w_aload_n X 0 rfl dL_heap_470 ?_
    refine w_iconst X (nI 1) dL_heap_471 (by decide +kernel) ?_
    refine w_meV X hA (U := (Nat → Nat → Nat → Int32)) (gr := [rtC g art (aliv 0) (asur 0) (zz 3), rcC g aliv (zz 0), rcC g asur (zz 1)]) (gs1 := fun ζ7 => [maC g am (ast 0) (art 0) (alas 0) (atx 0) (ahi 0), stC g ast σ, rtC g art (aliv 0) (asur 0) (zz 3), rcC g aliv (zz 0), rcC g asur (zz 1), rcC g alas (ζ7 2), hiC g ahi (fun i => had i 0) η]) [0, 1, 5, 6] [2, 3, 4] 0 0 (q_X5_count l g am ast art alas atx ahi had σ ζ6 η 1 (by omega)) cv_X5_count mk_L_57 rfl rfl rfl (ng := 7) rfl (by decide) (fun _ => rfl) (fun _ => rfl) (fun _ => rfl) rfl rfl rfl ⟨Nat.le_of_ble_eq_true rfl, Nat.le_of_ble_eq_true rfl⟩ (Nat.le_of_ble_eq_true rfl) ⟨by (try dsimp only); omega, by (try dsimp only); omega⟩ dL_heap_472 rfl (fun ζ7 => ?_)
    refine w_iload_n X 1 rfl dL_heap_475 ?_
    refine w_ic_gt X 493 dL_heap_476 (by decide) (fun c476 => by exfalso; exact (fin_1 hI he_k).1 c476) (fun c476 => ?_)
    refine w_aload_n X 0 rfl dL_heap_479 ?_
    refine w_iconst X (nI 1) dL_heap_480 (by decide +kernel) ?_
    refine w_meV X hA (U := (Nat → Nat → Nat → Int32)) (gr := [rtC g art (aliv 0) (asur 0) (zz 3), rcC g aliv (zz 0), rcC g asur (zz 1)]) (gs1 := fun ζ8 => [maC g am (ast 0) (art 0) (alas 0) (atx 0) (ahi 0), stC g ast σ, rtC g art (aliv 0) (asur 0) (zz 3), rcC g aliv (zz 0), rcC g asur (zz 1), rcC g alas (ζ8 2), hiC g ahi (fun i => had i 0) η]) [0, 1, 5, 6] [2, 3, 4] 0 0 (q_X5_count l g am ast art alas atx ahi had σ ζ7 η 1 (by omega)) cv_X5_count mk_L_57 rfl rfl rfl (ng := 7) rfl (by decide) (fun _ => rfl) (fun _ => rfl) (fun _ => rfl) rfl rfl rfl ⟨Nat.le_of_ble_eq_true rfl, Nat.le_of_ble_eq_true rfl⟩ (Nat.le_of_ble_eq_true rfl) ⟨by (try dsimp only); omega, by (try dsimp only); omega⟩ dL_heap_481 rfl (fun ζ8 => ?_)
    refine w_iload X 4 rfl dL_heap_484 ?_
    refine w_ic_lt X 493 dL_heap_486 (by decide) (fun c486 => by exfalso; exact (fin_1 hI he_k).2 c486) (fun c486 => ?_)
    refine w_iconst X (nI 1) dL_heap_489 (by decide +kernel) ?_
    refine w_goto X 494 dL_heap_490 (by decide) ?_
    exact w_zret_me X (rw2 (rw2 (rw2 ζ8 0 (zz 0)) 1 (zz 1)) 3 (zz 3)) (rfl) (rfl) (by (try dsimp only); omega) (by (try dsimp only); omega) (rfl) dL_heap_494
  · refine w_iload X 5 rfl dL_heap_22 ?_
    refine w_bf_eq X 406 dL_heap_24 (by decide) (fun c24 => by exfalso; cases c24) (fun c24 => ?_)
    refine w_aload_n X 0 rfl dL_heap_27 ?_
    refine w_iload X 6 rfl dL_heap_28 ?_
    refine w_mpS V (U := (Nat → Nat → Nat → Int32)) (gr := [hiC g ahi (fun i => had i 0) η]) (gs1 := fun ζ9 => [maC g am (ast 0) (art 0) (alas 0) (atx 0) (ahi 0), stC g ast σ, rtC g art (aliv 0) (asur 0) (ζ9 3), rcC g aliv (ζ9 0), rcC g asur (ζ9 1), rcC g alas (ζ9 2), hiC g ahi (fun i => had i 0) η]) [0, 1, 2, 3, 4, 5] [6] (m_L_is l g hfl am ast art aliv asur alas atx ahi σ (rw2 (rw2 (rw2 (rw2 ζ 0 (zz 0)) 1 (zz 1)) 2 (zz 2)) 3 (zz 3)) k (hI) (by omega)) cs_L_is mk_L_43 rfl rfl rfl (ng := 7) rfl (by decide) (fun _ => rfl) (fun _ => rfl) (fun _ => rfl) ⟨Nat.le_of_ble_eq_true rfl, Nat.le_of_ble_eq_true rfl⟩ (Nat.le_of_ble_eq_true rfl) ⟨by (try dsimp only); omega, by (try dsimp only); omega⟩ dL_heap_30 rfl (fun ζ9 => ?_)
    refine w_bf_eq X 400 dL_heap_33 (by decide) (fun c33 => ?_) (fun c33 => ?_)
    · have hkk : k < 24 := by omega
      have hnu := has_no hI hkk c33
      refine w_iinc X (nI (k + 1)) 6 rfl (nI_1 _) dL_heap_400 (by decide) ?_
      refine w_goto X 15 dL_heap_403 (by decide) ?_
      have e1_1 : nI (cn (fun o => nz (σ 0 o)) k) = nI (cn (fun o => nz (σ 0 o)) (k + 1)) := by rw [ob_u hI hkk hnu]
      have e1_2 : nI (s2N (toP σ k) 24) = nI (s2N (toP σ (k + 1)) 24) := by rw [rf_n hnu]
      have e1_3 : nI (s2N (nnP σ) k) = nI (s2N (nnP σ) (k + 1)) := by rw [ld_u hI hkk hnu]
      have e1_4 : nI (cn (fun o => nz (σ 5 o)) k) = nI (cn (fun o => nz (σ 5 o)) (k + 1)) := by rw [rt_u hI hkk hnu]
      refine w_widen (k := 6 * (k + 1)) (n := 36 * (k + 1)) (by omega) (by omega) ?_
      exact w_all [1, 2, 3, 4, 5, 6, 0] (rfl) (rfl) (by rw [← e1_1, ← e1_2, ← e1_3, ← e1_4]; rfl) (ih15 (k + 1, ζ9) (by omega) (by omega))
    · have hkk : k < 24 := by omega
      have hu := (has_us hI.1 hkk).mp c33
      obtain ⟨a, z, d, q, ga, gz1, gz2, gdq, gq, e1, e2, e3, e4, e5⟩ := ob_n hI hkk hu
      have hin := us_in hkk hu e1
      have ed : (σ 2 k).toNatClampNeg = d := by rw [e2, nI_clamp (by omega)]
      have ez : (σ 3 k).toNatClampNeg = z := by rw [e3, nI_clamp (by omega)]
      have at1 := at_hit hJ hkk hin (c := d) (by omega) (by omega) (by omega)
      have at2 := at_hit hJ hkk hin (c := d + z - 1) (by omega) (by omega) (by omega)
      refine w_aload_n X 0 rfl dL_heap_36 ?_
      refine w_iload X 6 rfl dL_heap_37 ?_
      refine w_iconst X (nI 0) dL_heap_39 (by decide +kernel) ?_
      refine w_meV X hA (U := (Nat → Nat → Nat → Int32)) (gr := [hiC g ahi (fun i => had i 0) η]) (gs1 := fun ζ10 => [maC g am (ast 0) (art 0) (alas 0) (atx 0) (ahi 0), stC g ast σ, rtC g art (aliv 0) (asur 0) (ζ10 3), rcC g aliv (ζ10 0), rcC g asur (ζ10 1), rcC g alas (ζ10 2), hiC g ahi (fun i => had i 0) η]) [0, 1, 2, 3, 4, 5] [6] 0 0 (q_X5_object l g am ast art aliv asur alas atx ahi σ ζ9 k 0 (hkk) (by omega) (c33)) cv_X5_object mk_L_32 rfl rfl rfl (ng := 7) rfl (by decide) (fun _ => rfl) (fun _ => rfl) (fun _ => rfl) rfl rfl rfl ⟨Nat.le_of_ble_eq_true rfl, Nat.le_of_ble_eq_true rfl⟩ (Nat.le_of_ble_eq_true rfl) ⟨by (try dsimp only); omega, by (try dsimp only); omega⟩ dL_heap_40 rfl (fun ζ10 => ?_)
      rw [show opC σ k 0 = nI a from e1]
      refine w_istore X dL_heap_43 (by decide) ?_
      refine w_aload_n X 1 rfl dL_heap_45 ?_
      refine w_iload X 7 rfl dL_heap_46 ?_
      refine w_iconst X (nI 1) dL_heap_48 (by decide +kernel) ?_
      refine w_meV X hA (U := (Nat → Nat → Nat → Int32)) (gr := [hiC g ahi (fun i => had i 0) η]) (gs1 := fun ζ11 => [maC g am (ast 0) (art 0) (alas 0) (atx 0) (ahi 0), stC g ast σ, rtC g art (aliv 0) (asur 0) (ζ11 3), rcC g aliv (ζ11 0), rcC g asur (ζ11 1), rcC g alas (ζ11 2), hiC g ahi (fun i => had i 0) η]) [0, 1, 2, 3, 4, 5] [6] 0 0 (q_X5_object l g am ast art aliv asur alas atx ahi σ ζ10 k 1 (hkk) (by omega) (c33)) cv_X5_object mk_L_32 rfl rfl rfl (ng := 7) rfl (by decide) (fun _ => rfl) (fun _ => rfl) (fun _ => rfl) rfl rfl rfl ⟨Nat.le_of_ble_eq_true rfl, Nat.le_of_ble_eq_true rfl⟩ (Nat.le_of_ble_eq_true rfl) ⟨by (try dsimp only); omega, by (try dsimp only); omega⟩ dL_heap_49 rfl (fun ζ11 => ?_)
      rw [show opC σ k 1 = nI d from e2]
      refine w_istore X dL_heap_52 (by decide) ?_
      refine w_aload_n X 2 rfl dL_heap_54 ?_
      refine w_iload X 8 rfl dL_heap_55 ?_
      refine w_iconst X (nI 2) dL_heap_57 (by decide +kernel) ?_
      refine w_meV X hA (U := (Nat → Nat → Nat → Int32)) (gr := [hiC g ahi (fun i => had i 0) η]) (gs1 := fun ζ12 => [maC g am (ast 0) (art 0) (alas 0) (atx 0) (ahi 0), stC g ast σ, rtC g art (aliv 0) (asur 0) (ζ12 3), rcC g aliv (ζ12 0), rcC g asur (ζ12 1), rcC g alas (ζ12 2), hiC g ahi (fun i => had i 0) η]) [0, 1, 2, 3, 4, 5] [6] 0 0 (q_X5_object l g am ast art aliv asur alas atx ahi σ ζ11 k 2 (hkk) (by omega) (c33)) cv_X5_object mk_L_32 rfl rfl rfl (ng := 7) rfl (by decide) (fun _ => rfl) (fun _ => rfl) (fun _ => rfl) rfl rfl rfl ⟨Nat.le_of_ble_eq_true rfl, Nat.le_of_ble_eq_true rfl⟩ (Nat.le_of_ble_eq_true rfl) ⟨by (try dsimp only); omega, by (try dsimp only); omega⟩ dL_heap_58 rfl (fun ζ12 => ?_)
      rw [show opC σ k 2 = nI z from e3]
      refine w_istore X dL_heap_61 (by decide) ?_
      refine w_aload_n X 3 rfl dL_heap_63 ?_
      refine w_iload X 2 rfl dL_heap_64 ?_
      refine w_iconst X (nI 0) dL_heap_66 (by decide +kernel) ?_
      refine w_meV X hA (U := (Nat → Nat → Nat → Int32)) (gr := [hiC g ahi (fun i => had i 0) η]) (gs1 := fun ζ13 => [maC g am (ast 0) (art 0) (alas 0) (atx 0) (ahi 0), stC g ast σ, rtC g art (aliv 0) (asur 0) (ζ13 3), rcC g aliv (ζ13 0), rcC g asur (ζ13 1), rcC g alas (ζ13 2), hiC g ahi (fun i => had i 0) η]) [0, 1, 2, 3, 4, 5] [6] 0 0 (q_X5_arena l g am ast art aliv asur alas atx ahi σ ζ12 a 0 (ga) (by omega)) cv_X5_arena mk_L_47 rfl rfl rfl (ng := 7) rfl (by decide) (fun _ => rfl) (fun _ => rfl) (fun _ => rfl) rfl rfl rfl ⟨Nat.le_of_ble_eq_true rfl, Nat.le_of_ble_eq_true rfl⟩ (Nat.le_of_ble_eq_true rfl) ⟨by (try dsimp only); omega, by (try dsimp only); omega⟩ dL_heap_67 rfl (fun ζ13 => ?_)
      refine w_iconst X (nI 1) dL_heap_70 (by decide +kernel) ?_
      refine w_ic_ne X 129 dL_heap_71 (by decide) (fun c71 => by exfalso; exact c71 (ar_1 ga e5)) (fun c71 => ?_)
      refine w_iload X 1 rfl dL_heap_74 ?_
      refine w_if_lt X 129 dL_heap_76 (by decide) (fun c76 => by exfalso; exact ng_nI (by omega) c76) (fun c76 => ?_)
      refine w_iload X 1 rfl dL_heap_79 ?_
      refine w_iload X 0 rfl dL_heap_81 ?_
      refine w_iadd_n X dL_heap_83 ?_
      refine w_aload_n X 3 rfl dL_heap_84 ?_
      refine w_iload X 2 rfl dL_heap_85 ?_
      refine w_iconst X (nI 1) dL_heap_87 (by decide +kernel) ?_
      refine w_meV X hA (U := (Nat → Nat → Nat → Int32)) (gr := [hiC g ahi (fun i => had i 0) η]) (gs1 := fun ζ14 => [maC g am (ast 0) (art 0) (alas 0) (atx 0) (ahi 0), stC g ast σ, rtC g art (aliv 0) (asur 0) (ζ14 3), rcC g aliv (ζ14 0), rcC g asur (ζ14 1), rcC g alas (ζ14 2), hiC g ahi (fun i => had i 0) η]) [0, 1, 2, 3, 4, 5] [6] 0 0 (q_X5_arena l g am ast art aliv asur alas atx ahi σ ζ13 a 1 (ga) (by omega)) cv_X5_arena mk_L_47 rfl rfl rfl (ng := 7) rfl (by decide) (fun _ => rfl) (fun _ => rfl) (fun _ => rfl) rfl rfl rfl ⟨Nat.le_of_ble_eq_true rfl, Nat.le_of_ble_eq_true rfl⟩ (Nat.le_of_ble_eq_true rfl) ⟨by (try dsimp only); omega, by (try dsimp only); omega⟩ dL_heap_88 rfl (fun ζ14 => ?_)
      rw [show apC σ a 1 = nI q from e4]
      refine w_nc_gt X (by omega) (by omega) 129 dL_heap_91 (by decide) (fun c91 => by exfalso; omega) (fun c91 => ?_)
      refine w_aload_n X 3 rfl dL_heap_94 ?_
      refine w_iload X 2 rfl dL_heap_95 ?_
      refine w_iload X 1 rfl dL_heap_97 ?_
      refine w_roV X [0, 1] 0 0 (q_X5_at l g am ast art alas atx ahi σ a d (ga) (by omega)) cv_X5_at mk_L_50 rfl rfl rfl rfl rfl ⟨Nat.le_of_ble_eq_true rfl, Nat.le_of_ble_eq_true rfl⟩ (Nat.le_of_ble_eq_true rfl) ⟨by (try dsimp only); omega, by (try dsimp only); omega⟩ dL_heap_99 rfl ?_
      rw [at1]
      refine w_iload X 9 rfl dL_heap_102 ?_
      refine w_nc_ne X (by omega) (by omega) 129 dL_heap_104 (by decide) (fun c104 => by exfalso; omega) (fun c104 => ?_)
      refine w_aload_n X 3 rfl dL_heap_107 ?_
      refine w_iload X 2 rfl dL_heap_108 ?_
      refine w_iload X 1 rfl dL_heap_110 ?_
      refine w_iload X 0 rfl dL_heap_112 ?_
      refine w_iadd_n X dL_heap_114 ?_
      refine w_iconst X (nI 1) dL_heap_115 (by decide +kernel) ?_
      refine w_isub_n X (by omega) dL_heap_116 ?_
      refine w_roV X [0, 1] 0 0 (q_X5_at l g am ast art alas atx ahi σ a ((d + z) - 1) (ga) (by omega)) cv_X5_at mk_L_50 rfl rfl rfl rfl rfl ⟨Nat.le_of_ble_eq_true rfl, Nat.le_of_ble_eq_true rfl⟩ (Nat.le_of_ble_eq_true rfl) ⟨by (try dsimp only); omega, by (try dsimp only); omega⟩ dL_heap_117 rfl ?_
      rw [at2]
      refine w_iload X 9 rfl dL_heap_120 ?_
      refine w_nc_ne X (by omega) (by omega) 129 dL_heap_122 (by decide) (fun c122 => by exfalso; omega) (fun c122 => ?_)
      refine w_iconst X (nI 1) dL_heap_125 (by decide +kernel) ?_
      refine w_goto X 130 dL_heap_126 (by decide) ?_
      refine w_istore X dL_heap_130 (by decide) ?_
      refine w_iconst X (nI 3) dL_heap_132 (by decide +kernel) ?_
      refine w_istore X dL_heap_133 (by decide) ?_
      have e2_3 : nI (s2N (nnP σ) k) = nI (ldN σ k 0) := by rw [ld_0]
      refine w_widen (k := 6 * k + 2 + 2 * 0) (n := 36 * k + 12 + 12 * 0) (by omega) (by omega) ?_
      refine w_all [5, 6, 7, 8, 9, 1, 10, 4, 3, 2, 0] (rfl) (rfl) (by rw [← e2_3]; rfl) (w_loopK (st := []) (pc := 135) X (V := Nat × (Nat → Nat → Nat → Int32)) (fun (v135 : Nat × (Nat → Nat → Nat → Int32)) => 2 - v135.1) (fun (v135 : Nat × (Nat → Nat → Nat → Int32)) => (v135.1 ≤ 2)) (fun (v135 : Nat × (Nat → Nat → Nat → Int32)) => 6 * k + 2 + 2 * v135.1) (fun (v135 : Nat × (Nat → Nat → Nat → Int32)) => 36 * k + 12 + 12 * v135.1) (fun (v135 : Nat × (Nat → Nat → Nat → Int32)) => [(0, .ref (am 0)), (1, .int (nI (cn (fun o => nz (σ 0 o)) k))), (2, .int (nI (s2N (toP σ k) 24))), (3, .int (nI (ldN σ k v135.1))), (4, .int (nI (cn (fun o => nz (σ 5 o)) k))), (5, .int (bI (true))), (6, .int (nI k)), (7, .int (nI a)), (8, .int (nI d)), (9, .int (nI z)), (10, .int (nI (v135.1 + 3)))]) (fun (v135 : Nat × (Nat → Nat → Nat → Int32)) => [maC g am (ast 0) (art 0) (alas 0) (atx 0) (ahi 0), stC g ast σ, rtC g art (aliv 0) (asur 0) (v135.2 3), rcC g aliv (v135.2 0), rcC g asur (v135.2 1), rcC g alas (v135.2 2), hiC g ahi (fun i => had i 0) η]) (fun v135 hv135 ih135 => ?_) (0, ζ14) (by omega))
      obtain ⟨g_, yy⟩ := v135
      have hg := hv135
      try dsimp only at hg ih135 ⊢
      refine w_iload X 10 rfl dL_heap_135 ?_
      refine w_iconst X (nI 5) dL_heap_137 (by decide +kernel) ?_
      refine w_nc_ge X (by omega) (by omega) 198 dL_heap_138 (by decide) (fun c138 => ?_) (fun c138 => ?_)
      · have he_g_ : g_ = 2 := by omega
        refine w_iload X 5 rfl dL_heap_198 ?_
        refine w_bf_eq X 307 dL_heap_200 (by decide) (fun c200 => by exfalso; cases c200) (fun c200 => ?_)
        refine w_aload_n X 0 rfl dL_heap_203 ?_
        refine w_iload X 6 rfl dL_heap_204 ?_
        refine w_bipush X (nI 7) dL_heap_206 (by decide +kernel) ?_
        refine w_meV X hA (U := (Nat → Nat → Nat → Int32)) (gr := [hiC g ahi (fun i => had i 0) η]) (gs1 := fun ζ15 => [maC g am (ast 0) (art 0) (alas 0) (atx 0) (ahi 0), stC g ast σ, rtC g art (aliv 0) (asur 0) (ζ15 3), rcC g aliv (ζ15 0), rcC g asur (ζ15 1), rcC g alas (ζ15 2), hiC g ahi (fun i => had i 0) η]) [0, 1, 2, 3, 4, 5] [6] 0 0 (q_X5_object l g am ast art aliv asur alas atx ahi σ (rw2 (rw2 (rw2 (rw2 ζ14 0 (yy 0)) 1 (yy 1)) 2 (yy 2)) 3 (yy 3)) k 7 (hkk) (by omega) (c33)) cv_X5_object mk_L_32 rfl rfl rfl (ng := 7) rfl (by decide) (fun _ => rfl) (fun _ => rfl) (fun _ => rfl) rfl rfl rfl ⟨Nat.le_of_ble_eq_true rfl, Nat.le_of_ble_eq_true rfl⟩ (Nat.le_of_ble_eq_true rfl) ⟨by (try dsimp only); omega, by (try dsimp only); omega⟩ dL_heap_208 rfl (fun ζ15 => ?_)
        refine w_iconst X (nI 1) dL_heap_211 (by decide +kernel) ?_
        refine w_ic_ne X 219 dL_heap_212 (by decide) (fun c212 => ?_) (fun c212 => ?_)
        · refine w_iconst X (nI 0) dL_heap_219 (by decide +kernel) ?_
          refine w_aload_n X 0 rfl dL_heap_220 ?_
          refine w_iload X 6 rfl dL_heap_221 ?_
          refine w_bipush X (nI 11) dL_heap_223 (by decide +kernel) ?_
          refine w_meV X hA (U := (Nat → Nat → Nat → Int32)) (gr := [hiC g ahi (fun i => had i 0) η]) (gs1 := fun ζ16 => [maC g am (ast 0) (art 0) (alas 0) (atx 0) (ahi 0), stC g ast σ, rtC g art (aliv 0) (asur 0) (ζ16 3), rcC g aliv (ζ16 0), rcC g asur (ζ16 1), rcC g alas (ζ16 2), hiC g ahi (fun i => had i 0) η]) [0, 1, 2, 3, 4, 5] [6] 0 0 (q_X5_object l g am ast art aliv asur alas atx ahi σ ζ15 k 11 (hkk) (by omega) (c33)) cv_X5_object mk_L_32 rfl rfl rfl (ng := 7) rfl (by decide) (fun _ => rfl) (fun _ => rfl) (fun _ => rfl) rfl rfl rfl ⟨Nat.le_of_ble_eq_true rfl, Nat.le_of_ble_eq_true rfl⟩ (Nat.le_of_ble_eq_true rfl) ⟨by (try dsimp only); omega, by (try dsimp only); omega⟩ dL_heap_225 rfl (fun ζ16 => ?_)
          refine w_if_lt X 235 dL_heap_228 (by decide) (fun c228 => ?_) (fun c228 => by exfalso; exact c228 (step_lt hI hkk c212))
          refine w_iconst X (nI 0) dL_heap_235 (by decide +kernel) ?_
          refine w_nc_ne X (by omega) (by omega) 307 dL_heap_236 (by decide) (fun c236 => by exfalso; omega) (fun c236 => ?_)
          refine w_aload_n X 0 rfl dL_heap_239 ?_
          refine w_iload X 6 rfl dL_heap_240 ?_
          refine w_bipush X (nI 8) dL_heap_242 (by decide +kernel) ?_
          refine w_meV X hA (U := (Nat → Nat → Nat → Int32)) (gr := [hiC g ahi (fun i => had i 0) η]) (gs1 := fun ζ17 => [maC g am (ast 0) (art 0) (alas 0) (atx 0) (ahi 0), stC g ast σ, rtC g art (aliv 0) (asur 0) (ζ17 3), rcC g aliv (ζ17 0), rcC g asur (ζ17 1), rcC g alas (ζ17 2), hiC g ahi (fun i => had i 0) η]) [0, 1, 2, 3, 4, 5] [6] 0 0 (q_X5_object l g am ast art aliv asur alas atx ahi σ ζ16 k 8 (hkk) (by omega) (c33)) cv_X5_object mk_L_32 rfl rfl rfl (ng := 7) rfl (by decide) (fun _ => rfl) (fun _ => rfl) (fun _ => rfl) rfl rfl rfl ⟨Nat.le_of_ble_eq_true rfl, Nat.le_of_ble_eq_true rfl⟩ (Nat.le_of_ble_eq_true rfl) ⟨by (try dsimp only); omega, by (try dsimp only); omega⟩ dL_heap_244 rfl (fun ζ17 => ?_)
          refine w_aload_n X 0 rfl dL_heap_247 ?_
          refine w_iload X 6 rfl dL_heap_248 ?_
          refine w_bipush X (nI 7) dL_heap_250 (by decide +kernel) ?_
          refine w_meV X hA (U := (Nat → Nat → Nat → Int32)) (gr := [hiC g ahi (fun i => had i 0) η]) (gs1 := fun ζ18 => [maC g am (ast 0) (art 0) (alas 0) (atx 0) (ahi 0), stC g ast σ, rtC g art (aliv 0) (asur 0) (ζ18 3), rcC g aliv (ζ18 0), rcC g asur (ζ18 1), rcC g alas (ζ18 2), hiC g ahi (fun i => had i 0) η]) [0, 1, 2, 3, 4, 5] [6] 0 0 (q_X5_object l g am ast art aliv asur alas atx ahi σ ζ17 k 7 (hkk) (by omega) (c33)) cv_X5_object mk_L_32 rfl rfl rfl (ng := 7) rfl (by decide) (fun _ => rfl) (fun _ => rfl) (fun _ => rfl) rfl rfl rfl ⟨Nat.le_of_ble_eq_true rfl, Nat.le_of_ble_eq_true rfl⟩ (Nat.le_of_ble_eq_true rfl) ⟨by (try dsimp only); omega, by (try dsimp only); omega⟩ dL_heap_252 rfl (fun ζ18 => ?_)
          refine w_ic_lt X 307 dL_heap_255 (by decide) (fun c255 => by exfalso; exact sv_ge hI hkk hu c255) (fun c255 => ?_)
          refine w_aload_n X 0 rfl dL_heap_258 ?_
          refine w_iconst X (nI 0) dL_heap_259 (by decide +kernel) ?_
          refine w_roV X [0, 1] 0 0 (q_X5_setting l g am ast art alas atx ahi σ 0 (by omega)) cv_X5_setting mk_L_53 rfl rfl rfl rfl rfl ⟨Nat.le_of_ble_eq_true rfl, Nat.le_of_ble_eq_true rfl⟩ (Nat.le_of_ble_eq_true rfl) ⟨by (try dsimp only); omega, by (try dsimp only); omega⟩ dL_heap_260 rfl ?_
          refine w_iconst X (nI 1) dL_heap_263 (by decide +kernel) ?_
          refine w_ic_eq X 286 dL_heap_264 (by decide) (fun c264 => ?_) (fun c264 => ?_)
          · refine w_aload_n X 0 rfl dL_heap_286 ?_
            refine w_iload X 6 rfl dL_heap_287 ?_
            refine w_bipush X (nI 9) dL_heap_289 (by decide +kernel) ?_
            refine w_meV X hA (U := (Nat → Nat → Nat → Int32)) (gr := [hiC g ahi (fun i => had i 0) η]) (gs1 := fun ζ19 => [maC g am (ast 0) (art 0) (alas 0) (atx 0) (ahi 0), stC g ast σ, rtC g art (aliv 0) (asur 0) (ζ19 3), rcC g aliv (ζ19 0), rcC g asur (ζ19 1), rcC g alas (ζ19 2), hiC g ahi (fun i => had i 0) η]) [0, 1, 2, 3, 4, 5] [6] 0 0 (q_X5_object l g am ast art aliv asur alas atx ahi σ ζ18 k 9 (hkk) (by omega) (c33)) cv_X5_object mk_L_32 rfl rfl rfl (ng := 7) rfl (by decide) (fun _ => rfl) (fun _ => rfl) (fun _ => rfl) rfl rfl rfl ⟨Nat.le_of_ble_eq_true rfl, Nat.le_of_ble_eq_true rfl⟩ (Nat.le_of_ble_eq_true rfl) ⟨by (try dsimp only); omega, by (try dsimp only); omega⟩ dL_heap_291 rfl (fun ζ19 => ?_)
            refine w_aload_n X 0 rfl dL_heap_294 ?_
            refine w_bipush X (nI 7) dL_heap_295 (by decide +kernel) ?_
            refine w_meV X hA (U := (Nat → Nat → Nat → Int32)) (gr := [rtC g art (aliv 0) (asur 0) (ζ19 3), rcC g aliv (ζ19 0), rcC g asur (ζ19 1)]) (gs1 := fun ζ20 => [maC g am (ast 0) (art 0) (alas 0) (atx 0) (ahi 0), stC g ast σ, rtC g art (aliv 0) (asur 0) (ζ19 3), rcC g aliv (ζ19 0), rcC g asur (ζ19 1), rcC g alas (ζ20 2), hiC g ahi (fun i => had i 0) η]) [0, 1, 5, 6] [2, 3, 4] 0 0 (q_X5_count l g am ast art alas atx ahi had σ ζ19 η 7 (by omega)) cv_X5_count mk_L_57 rfl rfl rfl (ng := 7) rfl (by decide) (fun _ => rfl) (fun _ => rfl) (fun _ => rfl) rfl rfl rfl ⟨Nat.le_of_ble_eq_true rfl, Nat.le_of_ble_eq_true rfl⟩ (Nat.le_of_ble_eq_true rfl) ⟨by (try dsimp only); omega, by (try dsimp only); omega⟩ dL_heap_297 rfl (fun ζ20 => ?_)
            refine w_ic_gt X 307 dL_heap_300 (by decide) (fun c300 => by exfalso; exact laid_le hJ hB hkk c300) (fun c300 => ?_)
            refine w_iconst X (nI 1) dL_heap_303 (by decide +kernel) ?_
            refine w_goto X 308 dL_heap_304 (by decide) ?_
            refine w_istore X dL_heap_308 (by decide) ?_
            refine w_iload X 0 rfl dL_heap_310 ?_
            refine w_nf_eq X (by omega) 371 dL_heap_312 (by decide) (fun c312 => by exfalso; omega) (fun c312 => ?_)
            refine w_aload_n X 1 rfl dL_heap_315 ?_
            refine w_iload X 6 rfl dL_heap_316 ?_
            refine w_meV X hA (U := (Nat → Nat → Nat → Int32)) (gr := [rtC g art (aliv 0) (asur 0) (ζ19 3), rcC g aliv (ζ19 0), rcC g asur (ζ19 1), hiC g ahi (fun i => had i 0) η]) (gs1 := fun ζ21 => [maC g am (ast 0) (art 0) (alas 0) (atx 0) (ahi 0), stC g ast σ, rtC g art (aliv 0) (asur 0) (ζ19 3), rcC g aliv (ζ19 0), rcC g asur (ζ19 1), rcC g alas (ζ21 2), hiC g ahi (fun i => had i 0) η]) [0, 1, 5] [2, 3, 4, 6] 0 0 (q_X5_ifLost l g am ast art alas atx ahi σ ζ20 k (hkk) (c33)) cv_X5_ifLost mk_L_60 rfl rfl rfl (ng := 7) rfl (by decide) (fun _ => rfl) (fun _ => rfl) (fun _ => rfl) rfl rfl rfl ⟨Nat.le_of_ble_eq_true rfl, Nat.le_of_ble_eq_true rfl⟩ (Nat.le_of_ble_eq_true rfl) ⟨by (try dsimp only); omega, by (try dsimp only); omega⟩ dL_heap_318 rfl (fun ζ21 => ?_)
            refine w_aload_n X 1 rfl dL_heap_321 ?_
            refine w_iload X 6 rfl dL_heap_322 ?_
            refine w_bipush X (nI 7) dL_heap_324 (by decide +kernel) ?_
            refine w_meV X hA (U := (Nat → Nat → Nat → Int32)) (gr := [hiC g ahi (fun i => had i 0) η]) (gs1 := fun ζ22 => [maC g am (ast 0) (art 0) (alas 0) (atx 0) (ahi 0), stC g ast σ, rtC g art (aliv 0) (asur 0) (ζ22 3), rcC g aliv (ζ22 0), rcC g asur (ζ22 1), rcC g alas (ζ22 2), hiC g ahi (fun i => had i 0) η]) [0, 1, 2, 3, 4, 5] [6] 0 0 (q_X5_object l g am ast art aliv asur alas atx ahi σ (rw2 ζ19 2 (ζ21 2)) k 7 (hkk) (by omega) (c33)) cv_X5_object mk_L_32 rfl rfl rfl (ng := 7) rfl (by decide) (fun _ => rfl) (fun _ => rfl) (fun _ => rfl) rfl rfl rfl ⟨Nat.le_of_ble_eq_true rfl, Nat.le_of_ble_eq_true rfl⟩ (Nat.le_of_ble_eq_true rfl) ⟨by (try dsimp only); omega, by (try dsimp only); omega⟩ dL_heap_326 rfl (fun ζ22 => ?_)
            refine w_ic_lt X 371 dL_heap_329 (by decide) (fun c329 => by exfalso; exact lost_ge hI hkk c329) (fun c329 => ?_)
            refine w_aload_n X 1 rfl dL_heap_332 ?_
            refine w_iload X 6 rfl dL_heap_333 ?_
            refine w_meV X hA (U := (Nat → Nat → Nat → Int32)) (gr := [rtC g art (aliv 0) (asur 0) (ζ22 3), rcC g aliv (ζ22 0), rcC g asur (ζ22 1), hiC g ahi (fun i => had i 0) η]) (gs1 := fun ζ23 => [maC g am (ast 0) (art 0) (alas 0) (atx 0) (ahi 0), stC g ast σ, rtC g art (aliv 0) (asur 0) (ζ22 3), rcC g aliv (ζ22 0), rcC g asur (ζ22 1), rcC g alas (ζ23 2), hiC g ahi (fun i => had i 0) η]) [0, 1, 5] [2, 3, 4, 6] 0 0 (q_X5_ifLost l g am ast art alas atx ahi σ ζ22 k (hkk) (c33)) cv_X5_ifLost mk_L_60 rfl rfl rfl (ng := 7) rfl (by decide) (fun _ => rfl) (fun _ => rfl) (fun _ => rfl) rfl rfl rfl ⟨Nat.le_of_ble_eq_true rfl, Nat.le_of_ble_eq_true rfl⟩ (Nat.le_of_ble_eq_true rfl) ⟨by (try dsimp only); omega, by (try dsimp only); omega⟩ dL_heap_335 rfl (fun ζ23 => ?_)
            refine w_aload_n X 1 rfl dL_heap_338 ?_
            refine w_iconst X (nI 1) dL_heap_339 (by decide +kernel) ?_
            refine w_meV X hA (U := (Nat → Nat → Nat → Int32)) (gr := [rtC g art (aliv 0) (asur 0) (ζ22 3), rcC g aliv (ζ22 0), rcC g asur (ζ22 1)]) (gs1 := fun ζ24 => [maC g am (ast 0) (art 0) (alas 0) (atx 0) (ahi 0), stC g ast σ, rtC g art (aliv 0) (asur 0) (ζ22 3), rcC g aliv (ζ22 0), rcC g asur (ζ22 1), rcC g alas (ζ24 2), hiC g ahi (fun i => had i 0) η]) [0, 1, 5, 6] [2, 3, 4] 0 0 (q_X5_count l g am ast art alas atx ahi had σ ζ23 η 1 (by omega)) cv_X5_count mk_L_57 rfl rfl rfl (ng := 7) rfl (by decide) (fun _ => rfl) (fun _ => rfl) (fun _ => rfl) rfl rfl rfl ⟨Nat.le_of_ble_eq_true rfl, Nat.le_of_ble_eq_true rfl⟩ (Nat.le_of_ble_eq_true rfl) ⟨by (try dsimp only); omega, by (try dsimp only); omega⟩ dL_heap_340 rfl (fun ζ24 => ?_)
            refine w_ic_gt X 371 dL_heap_343 (by decide) (fun c343 => by exfalso; exact lost_le hI hkk c343) (fun c343 => ?_)
            refine w_aload_n X 1 rfl dL_heap_346 ?_
            refine w_iload X 6 rfl dL_heap_347 ?_
            refine w_bipush X (nI 7) dL_heap_349 (by decide +kernel) ?_
            refine w_meV X hA (U := (Nat → Nat → Nat → Int32)) (gr := [hiC g ahi (fun i => had i 0) η]) (gs1 := fun ζ25 => [maC g am (ast 0) (art 0) (alas 0) (atx 0) (ahi 0), stC g ast σ, rtC g art (aliv 0) (asur 0) (ζ25 3), rcC g aliv (ζ25 0), rcC g asur (ζ25 1), rcC g alas (ζ25 2), hiC g ahi (fun i => had i 0) η]) [0, 1, 2, 3, 4, 5] [6] 0 0 (q_X5_object l g am ast art aliv asur alas atx ahi σ (rw2 ζ22 2 (ζ24 2)) k 7 (hkk) (by omega) (c33)) cv_X5_object mk_L_32 rfl rfl rfl (ng := 7) rfl (by decide) (fun _ => rfl) (fun _ => rfl) (fun _ => rfl) rfl rfl rfl ⟨Nat.le_of_ble_eq_true rfl, Nat.le_of_ble_eq_true rfl⟩ (Nat.le_of_ble_eq_true rfl) ⟨by (try dsimp only); omega, by (try dsimp only); omega⟩ dL_heap_351 rfl (fun ζ25 => ?_)
            refine w_iconst X (nI 1) dL_heap_354 (by decide +kernel) ?_
            refine w_ic_eq X 367 dL_heap_355 (by decide) (fun c355 => by exfalso; exact c212 c355) (fun c355 => ?_)
            refine w_aload_n X 1 rfl dL_heap_358 ?_
            refine w_iload X 6 rfl dL_heap_359 ?_
            refine w_meV X hA (U := (Nat → Nat → Nat → Int32)) (gr := [rtC g art (aliv 0) (asur 0) (ζ25 3), rcC g aliv (ζ25 0), rcC g asur (ζ25 1), hiC g ahi (fun i => had i 0) η]) (gs1 := fun ζ26 => [maC g am (ast 0) (art 0) (alas 0) (atx 0) (ahi 0), stC g ast σ, rtC g art (aliv 0) (asur 0) (ζ25 3), rcC g aliv (ζ25 0), rcC g asur (ζ25 1), rcC g alas (ζ26 2), hiC g ahi (fun i => had i 0) η]) [0, 1, 5] [2, 3, 4, 6] 0 0 (q_X5_ifLost l g am ast art alas atx ahi σ ζ25 k (hkk) (c33)) cv_X5_ifLost mk_L_60 rfl rfl rfl (ng := 7) rfl (by decide) (fun _ => rfl) (fun _ => rfl) (fun _ => rfl) rfl rfl rfl ⟨Nat.le_of_ble_eq_true rfl, Nat.le_of_ble_eq_true rfl⟩ (Nat.le_of_ble_eq_true rfl) ⟨by (try dsimp only); omega, by (try dsimp only); omega⟩ dL_heap_361 rfl (fun ζ26 => ?_)
            refine w_if_ne X 371 dL_heap_364 (by decide) (fun c364 => by exfalso; exact c364 (lost_0 hI hkk c212)) (fun c364 => ?_)
            refine w_iconst X (nI 1) dL_heap_367 (by decide +kernel) ?_
            refine w_goto X 372 dL_heap_368 (by decide) ?_
            refine w_istore X dL_heap_372 (by decide) ?_
            refine w_iload_n X 3 rfl dL_heap_374 ?_
            refine w_aload_n X 1 rfl dL_heap_375 ?_
            refine w_iload X 6 rfl dL_heap_376 ?_
            refine w_bipush X (nI 10) dL_heap_378 (by decide +kernel) ?_
            refine w_meV X hA (U := (Nat → Nat → Nat → Int32)) (gr := [hiC g ahi (fun i => had i 0) η]) (gs1 := fun ζ27 => [maC g am (ast 0) (art 0) (alas 0) (atx 0) (ahi 0), stC g ast σ, rtC g art (aliv 0) (asur 0) (ζ27 3), rcC g aliv (ζ27 0), rcC g asur (ζ27 1), rcC g alas (ζ27 2), hiC g ahi (fun i => had i 0) η]) [0, 1, 2, 3, 4, 5] [6] 0 0 (q_X5_object l g am ast art aliv asur alas atx ahi σ (rw2 ζ25 2 (ζ26 2)) k 10 (hkk) (by omega) (c33)) cv_X5_object mk_L_32 rfl rfl rfl (ng := 7) rfl (by decide) (fun _ => rfl) (fun _ => rfl) (fun _ => rfl) rfl rfl rfl ⟨Nat.le_of_ble_eq_true rfl, Nat.le_of_ble_eq_true rfl⟩ (Nat.le_of_ble_eq_true rfl) ⟨by (try dsimp only); omega, by (try dsimp only); omega⟩ dL_heap_380 rfl (fun ζ27 => ?_)
            refine w_iadd X dL_heap_383 ?_
            refine w_istore_n X dL_heap_384 (by decide) ?_
            refine w_iload X 5 rfl dL_heap_385 ?_
            refine w_aload_n X 2 rfl dL_heap_387 ?_
            refine w_iload X 6 rfl dL_heap_388 ?_
            refine w_iconst X (nI 5) dL_heap_390 (by decide +kernel) ?_
            refine w_meV X hA (U := (Nat → Nat → Nat → Int32)) (gr := [hiC g ahi (fun i => had i 0) η]) (gs1 := fun ζ28 => [maC g am (ast 0) (art 0) (alas 0) (atx 0) (ahi 0), stC g ast σ, rtC g art (aliv 0) (asur 0) (ζ28 3), rcC g aliv (ζ28 0), rcC g asur (ζ28 1), rcC g alas (ζ28 2), hiC g ahi (fun i => had i 0) η]) [0, 1, 2, 3, 4, 5] [6] 0 0 (q_X5_object l g am ast art aliv asur alas atx ahi σ ζ27 k 5 (hkk) (by omega) (c33)) cv_X5_object mk_L_32 rfl rfl rfl (ng := 7) rfl (by decide) (fun _ => rfl) (fun _ => rfl) (fun _ => rfl) rfl rfl rfl ⟨Nat.le_of_ble_eq_true rfl, Nat.le_of_ble_eq_true rfl⟩ (Nat.le_of_ble_eq_true rfl) ⟨by (try dsimp only); omega, by (try dsimp only); omega⟩ dL_heap_391 rfl (fun ζ28 => ?_)
            refine w_iadd X dL_heap_394 ?_
            refine w_istore X dL_heap_395 (by decide) ?_
            refine w_iinc X (nI (cn (fun o => nz (σ 0 o)) k + 1)) 4 rfl (nI_1 _) dL_heap_397 (by decide) ?_
            refine w_iinc X (nI (k + 1)) 6 rfl (nI_1 _) dL_heap_400 (by decide) ?_
            refine w_goto X 15 dL_heap_403 (by decide) ?_
            have e3_1 : nI (cn (fun o => nz (σ 0 o)) k + 1) = nI (cn (fun o => nz (σ 0 o)) (k + 1)) := by rw [ob_t hu]
            have e3_2 : (nI (s2N (toP σ k) 24) + (opC σ k 10)) = nI (s2N (toP σ (k + 1)) 24) := by exact rf_yo rfl hkk hu
            have e3_3 : nI (ldN σ k g_) = nI (s2N (nnP σ) (k + 1)) := by rw [he_g_, ld_2]
            have e3_4 : (nI (cn (fun o => nz (σ 5 o)) k) + (opC σ k 5)) = nI (cn (fun o => nz (σ 5 o)) (k + 1)) := by exact rt_o
            refine w_widen (k := 6 * (k + 1)) (n := 36 * (k + 1)) (by omega) (by omega) ?_
            exact w_all [5, 1, 3, 6, 2, 4, 0] (rfl) (rfl) (by rw [← e3_1, ← e3_2, ← e3_3, ← e3_4]; rfl) (ih15 (k + 1, ζ28) (by omega) (by omega))
          · refine w_aload_n X 0 rfl dL_heap_267 ?_
            refine w_iload X 6 rfl dL_heap_268 ?_
            refine w_bipush X (nI 8) dL_heap_270 (by decide +kernel) ?_
            refine w_meV X hA (U := (Nat → Nat → Nat → Int32)) (gr := [hiC g ahi (fun i => had i 0) η]) (gs1 := fun ζ29 => [maC g am (ast 0) (art 0) (alas 0) (atx 0) (ahi 0), stC g ast σ, rtC g art (aliv 0) (asur 0) (ζ29 3), rcC g aliv (ζ29 0), rcC g asur (ζ29 1), rcC g alas (ζ29 2), hiC g ahi (fun i => had i 0) η]) [0, 1, 2, 3, 4, 5] [6] 0 0 (q_X5_object l g am ast art aliv asur alas atx ahi σ ζ18 k 8 (hkk) (by omega) (c33)) cv_X5_object mk_L_32 rfl rfl rfl (ng := 7) rfl (by decide) (fun _ => rfl) (fun _ => rfl) (fun _ => rfl) rfl rfl rfl ⟨Nat.le_of_ble_eq_true rfl, Nat.le_of_ble_eq_true rfl⟩ (Nat.le_of_ble_eq_true rfl) ⟨by (try dsimp only); omega, by (try dsimp only); omega⟩ dL_heap_272 rfl (fun ζ29 => ?_)
            refine w_aload_n X 0 rfl dL_heap_275 ?_
            refine w_iload X 6 rfl dL_heap_276 ?_
            refine w_bipush X (nI 7) dL_heap_278 (by decide +kernel) ?_
            refine w_meV X hA (U := (Nat → Nat → Nat → Int32)) (gr := [hiC g ahi (fun i => had i 0) η]) (gs1 := fun ζ30 => [maC g am (ast 0) (art 0) (alas 0) (atx 0) (ahi 0), stC g ast σ, rtC g art (aliv 0) (asur 0) (ζ30 3), rcC g aliv (ζ30 0), rcC g asur (ζ30 1), rcC g alas (ζ30 2), hiC g ahi (fun i => had i 0) η]) [0, 1, 2, 3, 4, 5] [6] 0 0 (q_X5_object l g am ast art aliv asur alas atx ahi σ ζ29 k 7 (hkk) (by omega) (c33)) cv_X5_object mk_L_32 rfl rfl rfl (ng := 7) rfl (by decide) (fun _ => rfl) (fun _ => rfl) (fun _ => rfl) rfl rfl rfl ⟨Nat.le_of_ble_eq_true rfl, Nat.le_of_ble_eq_true rfl⟩ (Nat.le_of_ble_eq_true rfl) ⟨by (try dsimp only); omega, by (try dsimp only); omega⟩ dL_heap_280 rfl (fun ζ30 => ?_)
            refine w_ic_ne X 307 dL_heap_283 (by decide) (fun c283 => by exfalso; exact c283 (sv_eq hI hkk hu c264)) (fun c283 => ?_)
            refine w_aload_n X 0 rfl dL_heap_286 ?_
            refine w_iload X 6 rfl dL_heap_287 ?_
            refine w_bipush X (nI 9) dL_heap_289 (by decide +kernel) ?_
            refine w_meV X hA (U := (Nat → Nat → Nat → Int32)) (gr := [hiC g ahi (fun i => had i 0) η]) (gs1 := fun ζ31 => [maC g am (ast 0) (art 0) (alas 0) (atx 0) (ahi 0), stC g ast σ, rtC g art (aliv 0) (asur 0) (ζ31 3), rcC g aliv (ζ31 0), rcC g asur (ζ31 1), rcC g alas (ζ31 2), hiC g ahi (fun i => had i 0) η]) [0, 1, 2, 3, 4, 5] [6] 0 0 (q_X5_object l g am ast art aliv asur alas atx ahi σ ζ30 k 9 (hkk) (by omega) (c33)) cv_X5_object mk_L_32 rfl rfl rfl (ng := 7) rfl (by decide) (fun _ => rfl) (fun _ => rfl) (fun _ => rfl) rfl rfl rfl ⟨Nat.le_of_ble_eq_true rfl, Nat.le_of_ble_eq_true rfl⟩ (Nat.le_of_ble_eq_true rfl) ⟨by (try dsimp only); omega, by (try dsimp only); omega⟩ dL_heap_291 rfl (fun ζ31 => ?_)
            refine w_aload_n X 0 rfl dL_heap_294 ?_
            refine w_bipush X (nI 7) dL_heap_295 (by decide +kernel) ?_
            refine w_meV X hA (U := (Nat → Nat → Nat → Int32)) (gr := [rtC g art (aliv 0) (asur 0) (ζ31 3), rcC g aliv (ζ31 0), rcC g asur (ζ31 1)]) (gs1 := fun ζ32 => [maC g am (ast 0) (art 0) (alas 0) (atx 0) (ahi 0), stC g ast σ, rtC g art (aliv 0) (asur 0) (ζ31 3), rcC g aliv (ζ31 0), rcC g asur (ζ31 1), rcC g alas (ζ32 2), hiC g ahi (fun i => had i 0) η]) [0, 1, 5, 6] [2, 3, 4] 0 0 (q_X5_count l g am ast art alas atx ahi had σ ζ31 η 7 (by omega)) cv_X5_count mk_L_57 rfl rfl rfl (ng := 7) rfl (by decide) (fun _ => rfl) (fun _ => rfl) (fun _ => rfl) rfl rfl rfl ⟨Nat.le_of_ble_eq_true rfl, Nat.le_of_ble_eq_true rfl⟩ (Nat.le_of_ble_eq_true rfl) ⟨by (try dsimp only); omega, by (try dsimp only); omega⟩ dL_heap_297 rfl (fun ζ32 => ?_)
            refine w_ic_gt X 307 dL_heap_300 (by decide) (fun c300 => by exfalso; exact laid_le hJ hB hkk c300) (fun c300 => ?_)
            refine w_iconst X (nI 1) dL_heap_303 (by decide +kernel) ?_
            refine w_goto X 308 dL_heap_304 (by decide) ?_
            refine w_istore X dL_heap_308 (by decide) ?_
            refine w_iload X 0 rfl dL_heap_310 ?_
            refine w_nf_eq X (by omega) 371 dL_heap_312 (by decide) (fun c312 => by exfalso; omega) (fun c312 => ?_)
            refine w_aload_n X 1 rfl dL_heap_315 ?_
            refine w_iload X 6 rfl dL_heap_316 ?_
            refine w_meV X hA (U := (Nat → Nat → Nat → Int32)) (gr := [rtC g art (aliv 0) (asur 0) (ζ31 3), rcC g aliv (ζ31 0), rcC g asur (ζ31 1), hiC g ahi (fun i => had i 0) η]) (gs1 := fun ζ33 => [maC g am (ast 0) (art 0) (alas 0) (atx 0) (ahi 0), stC g ast σ, rtC g art (aliv 0) (asur 0) (ζ31 3), rcC g aliv (ζ31 0), rcC g asur (ζ31 1), rcC g alas (ζ33 2), hiC g ahi (fun i => had i 0) η]) [0, 1, 5] [2, 3, 4, 6] 0 0 (q_X5_ifLost l g am ast art alas atx ahi σ ζ32 k (hkk) (c33)) cv_X5_ifLost mk_L_60 rfl rfl rfl (ng := 7) rfl (by decide) (fun _ => rfl) (fun _ => rfl) (fun _ => rfl) rfl rfl rfl ⟨Nat.le_of_ble_eq_true rfl, Nat.le_of_ble_eq_true rfl⟩ (Nat.le_of_ble_eq_true rfl) ⟨by (try dsimp only); omega, by (try dsimp only); omega⟩ dL_heap_318 rfl (fun ζ33 => ?_)
            refine w_aload_n X 1 rfl dL_heap_321 ?_
            refine w_iload X 6 rfl dL_heap_322 ?_
            refine w_bipush X (nI 7) dL_heap_324 (by decide +kernel) ?_
            refine w_meV X hA (U := (Nat → Nat → Nat → Int32)) (gr := [hiC g ahi (fun i => had i 0) η]) (gs1 := fun ζ34 => [maC g am (ast 0) (art 0) (alas 0) (atx 0) (ahi 0), stC g ast σ, rtC g art (aliv 0) (asur 0) (ζ34 3), rcC g aliv (ζ34 0), rcC g asur (ζ34 1), rcC g alas (ζ34 2), hiC g ahi (fun i => had i 0) η]) [0, 1, 2, 3, 4, 5] [6] 0 0 (q_X5_object l g am ast art aliv asur alas atx ahi σ (rw2 ζ31 2 (ζ33 2)) k 7 (hkk) (by omega) (c33)) cv_X5_object mk_L_32 rfl rfl rfl (ng := 7) rfl (by decide) (fun _ => rfl) (fun _ => rfl) (fun _ => rfl) rfl rfl rfl ⟨Nat.le_of_ble_eq_true rfl, Nat.le_of_ble_eq_true rfl⟩ (Nat.le_of_ble_eq_true rfl) ⟨by (try dsimp only); omega, by (try dsimp only); omega⟩ dL_heap_326 rfl (fun ζ34 => ?_)
            refine w_ic_lt X 371 dL_heap_329 (by decide) (fun c329 => by exfalso; exact lost_ge hI hkk c329) (fun c329 => ?_)
            refine w_aload_n X 1 rfl dL_heap_332 ?_
            refine w_iload X 6 rfl dL_heap_333 ?_
            refine w_meV X hA (U := (Nat → Nat → Nat → Int32)) (gr := [rtC g art (aliv 0) (asur 0) (ζ34 3), rcC g aliv (ζ34 0), rcC g asur (ζ34 1), hiC g ahi (fun i => had i 0) η]) (gs1 := fun ζ35 => [maC g am (ast 0) (art 0) (alas 0) (atx 0) (ahi 0), stC g ast σ, rtC g art (aliv 0) (asur 0) (ζ34 3), rcC g aliv (ζ34 0), rcC g asur (ζ34 1), rcC g alas (ζ35 2), hiC g ahi (fun i => had i 0) η]) [0, 1, 5] [2, 3, 4, 6] 0 0 (q_X5_ifLost l g am ast art alas atx ahi σ ζ34 k (hkk) (c33)) cv_X5_ifLost mk_L_60 rfl rfl rfl (ng := 7) rfl (by decide) (fun _ => rfl) (fun _ => rfl) (fun _ => rfl) rfl rfl rfl ⟨Nat.le_of_ble_eq_true rfl, Nat.le_of_ble_eq_true rfl⟩ (Nat.le_of_ble_eq_true rfl) ⟨by (try dsimp only); omega, by (try dsimp only); omega⟩ dL_heap_335 rfl (fun ζ35 => ?_)
            refine w_aload_n X 1 rfl dL_heap_338 ?_
            refine w_iconst X (nI 1) dL_heap_339 (by decide +kernel) ?_
            refine w_meV X hA (U := (Nat → Nat → Nat → Int32)) (gr := [rtC g art (aliv 0) (asur 0) (ζ34 3), rcC g aliv (ζ34 0), rcC g asur (ζ34 1)]) (gs1 := fun ζ36 => [maC g am (ast 0) (art 0) (alas 0) (atx 0) (ahi 0), stC g ast σ, rtC g art (aliv 0) (asur 0) (ζ34 3), rcC g aliv (ζ34 0), rcC g asur (ζ34 1), rcC g alas (ζ36 2), hiC g ahi (fun i => had i 0) η]) [0, 1, 5, 6] [2, 3, 4] 0 0 (q_X5_count l g am ast art alas atx ahi had σ ζ35 η 1 (by omega)) cv_X5_count mk_L_57 rfl rfl rfl (ng := 7) rfl (by decide) (fun _ => rfl) (fun _ => rfl) (fun _ => rfl) rfl rfl rfl ⟨Nat.le_of_ble_eq_true rfl, Nat.le_of_ble_eq_true rfl⟩ (Nat.le_of_ble_eq_true rfl) ⟨by (try dsimp only); omega, by (try dsimp only); omega⟩ dL_heap_340 rfl (fun ζ36 => ?_)
            refine w_ic_gt X 371 dL_heap_343 (by decide) (fun c343 => by exfalso; exact lost_le hI hkk c343) (fun c343 => ?_)
            refine w_aload_n X 1 rfl dL_heap_346 ?_
            refine w_iload X 6 rfl dL_heap_347 ?_
            refine w_bipush X (nI 7) dL_heap_349 (by decide +kernel) ?_
            refine w_meV X hA (U := (Nat → Nat → Nat → Int32)) (gr := [hiC g ahi (fun i => had i 0) η]) (gs1 := fun ζ37 => [maC g am (ast 0) (art 0) (alas 0) (atx 0) (ahi 0), stC g ast σ, rtC g art (aliv 0) (asur 0) (ζ37 3), rcC g aliv (ζ37 0), rcC g asur (ζ37 1), rcC g alas (ζ37 2), hiC g ahi (fun i => had i 0) η]) [0, 1, 2, 3, 4, 5] [6] 0 0 (q_X5_object l g am ast art aliv asur alas atx ahi σ (rw2 ζ34 2 (ζ36 2)) k 7 (hkk) (by omega) (c33)) cv_X5_object mk_L_32 rfl rfl rfl (ng := 7) rfl (by decide) (fun _ => rfl) (fun _ => rfl) (fun _ => rfl) rfl rfl rfl ⟨Nat.le_of_ble_eq_true rfl, Nat.le_of_ble_eq_true rfl⟩ (Nat.le_of_ble_eq_true rfl) ⟨by (try dsimp only); omega, by (try dsimp only); omega⟩ dL_heap_351 rfl (fun ζ37 => ?_)
            refine w_iconst X (nI 1) dL_heap_354 (by decide +kernel) ?_
            refine w_ic_eq X 367 dL_heap_355 (by decide) (fun c355 => by exfalso; exact c212 c355) (fun c355 => ?_)
            refine w_aload_n X 1 rfl dL_heap_358 ?_
            refine w_iload X 6 rfl dL_heap_359 ?_
            refine w_meV X hA (U := (Nat → Nat → Nat → Int32)) (gr := [rtC g art (aliv 0) (asur 0) (ζ37 3), rcC g aliv (ζ37 0), rcC g asur (ζ37 1), hiC g ahi (fun i => had i 0) η]) (gs1 := fun ζ38 => [maC g am (ast 0) (art 0) (alas 0) (atx 0) (ahi 0), stC g ast σ, rtC g art (aliv 0) (asur 0) (ζ37 3), rcC g aliv (ζ37 0), rcC g asur (ζ37 1), rcC g alas (ζ38 2), hiC g ahi (fun i => had i 0) η]) [0, 1, 5] [2, 3, 4, 6] 0 0 (q_X5_ifLost l g am ast art alas atx ahi σ ζ37 k (hkk) (c33)) cv_X5_ifLost mk_L_60 rfl rfl rfl (ng := 7) rfl (by decide) (fun _ => rfl) (fun _ => rfl) (fun _ => rfl) rfl rfl rfl ⟨Nat.le_of_ble_eq_true rfl, Nat.le_of_ble_eq_true rfl⟩ (Nat.le_of_ble_eq_true rfl) ⟨by (try dsimp only); omega, by (try dsimp only); omega⟩ dL_heap_361 rfl (fun ζ38 => ?_)
            refine w_if_ne X 371 dL_heap_364 (by decide) (fun c364 => by exfalso; exact c364 (lost_0 hI hkk c212)) (fun c364 => ?_)
            refine w_iconst X (nI 1) dL_heap_367 (by decide +kernel) ?_
            refine w_goto X 372 dL_heap_368 (by decide) ?_
            refine w_istore X dL_heap_372 (by decide) ?_
            refine w_iload_n X 3 rfl dL_heap_374 ?_
            refine w_aload_n X 1 rfl dL_heap_375 ?_
            refine w_iload X 6 rfl dL_heap_376 ?_
            refine w_bipush X (nI 10) dL_heap_378 (by decide +kernel) ?_
            refine w_meV X hA (U := (Nat → Nat → Nat → Int32)) (gr := [hiC g ahi (fun i => had i 0) η]) (gs1 := fun ζ39 => [maC g am (ast 0) (art 0) (alas 0) (atx 0) (ahi 0), stC g ast σ, rtC g art (aliv 0) (asur 0) (ζ39 3), rcC g aliv (ζ39 0), rcC g asur (ζ39 1), rcC g alas (ζ39 2), hiC g ahi (fun i => had i 0) η]) [0, 1, 2, 3, 4, 5] [6] 0 0 (q_X5_object l g am ast art aliv asur alas atx ahi σ (rw2 ζ37 2 (ζ38 2)) k 10 (hkk) (by omega) (c33)) cv_X5_object mk_L_32 rfl rfl rfl (ng := 7) rfl (by decide) (fun _ => rfl) (fun _ => rfl) (fun _ => rfl) rfl rfl rfl ⟨Nat.le_of_ble_eq_true rfl, Nat.le_of_ble_eq_true rfl⟩ (Nat.le_of_ble_eq_true rfl) ⟨by (try dsimp only); omega, by (try dsimp only); omega⟩ dL_heap_380 rfl (fun ζ39 => ?_)
            refine w_iadd X dL_heap_383 ?_
            refine w_istore_n X dL_heap_384 (by decide) ?_
            refine w_iload X 5 rfl dL_heap_385 ?_
            refine w_aload_n X 2 rfl dL_heap_387 ?_
            refine w_iload X 6 rfl dL_heap_388 ?_
            refine w_iconst X (nI 5) dL_heap_390 (by decide +kernel) ?_
            refine w_meV X hA (U := (Nat → Nat → Nat → Int32)) (gr := [hiC g ahi (fun i => had i 0) η]) (gs1 := fun ζ40 => [maC g am (ast 0) (art 0) (alas 0) (atx 0) (ahi 0), stC g ast σ, rtC g art (aliv 0) (asur 0) (ζ40 3), rcC g aliv (ζ40 0), rcC g asur (ζ40 1), rcC g alas (ζ40 2), hiC g ahi (fun i => had i 0) η]) [0, 1, 2, 3, 4, 5] [6] 0 0 (q_X5_object l g am ast art aliv asur alas atx ahi σ ζ39 k 5 (hkk) (by omega) (c33)) cv_X5_object mk_L_32 rfl rfl rfl (ng := 7) rfl (by decide) (fun _ => rfl) (fun _ => rfl) (fun _ => rfl) rfl rfl rfl ⟨Nat.le_of_ble_eq_true rfl, Nat.le_of_ble_eq_true rfl⟩ (Nat.le_of_ble_eq_true rfl) ⟨by (try dsimp only); omega, by (try dsimp only); omega⟩ dL_heap_391 rfl (fun ζ40 => ?_)
            refine w_iadd X dL_heap_394 ?_
            refine w_istore X dL_heap_395 (by decide) ?_
            refine w_iinc X (nI (cn (fun o => nz (σ 0 o)) k + 1)) 4 rfl (nI_1 _) dL_heap_397 (by decide) ?_
            refine w_iinc X (nI (k + 1)) 6 rfl (nI_1 _) dL_heap_400 (by decide) ?_
            refine w_goto X 15 dL_heap_403 (by decide) ?_
            have e4_1 : nI (cn (fun o => nz (σ 0 o)) k + 1) = nI (cn (fun o => nz (σ 0 o)) (k + 1)) := by rw [ob_t hu]
            have e4_2 : (nI (s2N (toP σ k) 24) + (opC σ k 10)) = nI (s2N (toP σ (k + 1)) 24) := by exact rf_yo rfl hkk hu
            have e4_3 : nI (ldN σ k g_) = nI (s2N (nnP σ) (k + 1)) := by rw [he_g_, ld_2]
            have e4_4 : (nI (cn (fun o => nz (σ 5 o)) k) + (opC σ k 5)) = nI (cn (fun o => nz (σ 5 o)) (k + 1)) := by exact rt_o
            refine w_widen (k := 6 * (k + 1)) (n := 36 * (k + 1)) (by omega) (by omega) ?_
            exact w_all [5, 1, 3, 6, 2, 4, 0] (rfl) (rfl) (by rw [← e4_1, ← e4_2, ← e4_3, ← e4_4]; rfl) (ih15 (k + 1, ζ40) (by omega) (by omega))
        · refine w_iconst X (nI 1) dL_heap_215 (by decide +kernel) ?_
          refine w_goto X 220 dL_heap_216 (by decide) ?_
          refine w_aload_n X 0 rfl dL_heap_220 ?_
          refine w_iload X 6 rfl dL_heap_221 ?_
          refine w_bipush X (nI 11) dL_heap_223 (by decide +kernel) ?_
          refine w_meV X hA (U := (Nat → Nat → Nat → Int32)) (gr := [hiC g ahi (fun i => had i 0) η]) (gs1 := fun ζ41 => [maC g am (ast 0) (art 0) (alas 0) (atx 0) (ahi 0), stC g ast σ, rtC g art (aliv 0) (asur 0) (ζ41 3), rcC g aliv (ζ41 0), rcC g asur (ζ41 1), rcC g alas (ζ41 2), hiC g ahi (fun i => had i 0) η]) [0, 1, 2, 3, 4, 5] [6] 0 0 (q_X5_object l g am ast art aliv asur alas atx ahi σ ζ15 k 11 (hkk) (by omega) (c33)) cv_X5_object mk_L_32 rfl rfl rfl (ng := 7) rfl (by decide) (fun _ => rfl) (fun _ => rfl) (fun _ => rfl) rfl rfl rfl ⟨Nat.le_of_ble_eq_true rfl, Nat.le_of_ble_eq_true rfl⟩ (Nat.le_of_ble_eq_true rfl) ⟨by (try dsimp only); omega, by (try dsimp only); omega⟩ dL_heap_225 rfl (fun ζ41 => ?_)
          refine w_if_lt X 235 dL_heap_228 (by decide) (fun c228 => by exfalso; exact step_ge hI hkk c212 c228) (fun c228 => ?_)
          refine w_iconst X (nI 1) dL_heap_231 (by decide +kernel) ?_
          refine w_goto X 236 dL_heap_232 (by decide) ?_
          refine w_nc_ne X (by omega) (by omega) 307 dL_heap_236 (by decide) (fun c236 => by exfalso; omega) (fun c236 => ?_)
          refine w_aload_n X 0 rfl dL_heap_239 ?_
          refine w_iload X 6 rfl dL_heap_240 ?_
          refine w_bipush X (nI 8) dL_heap_242 (by decide +kernel) ?_
          refine w_meV X hA (U := (Nat → Nat → Nat → Int32)) (gr := [hiC g ahi (fun i => had i 0) η]) (gs1 := fun ζ42 => [maC g am (ast 0) (art 0) (alas 0) (atx 0) (ahi 0), stC g ast σ, rtC g art (aliv 0) (asur 0) (ζ42 3), rcC g aliv (ζ42 0), rcC g asur (ζ42 1), rcC g alas (ζ42 2), hiC g ahi (fun i => had i 0) η]) [0, 1, 2, 3, 4, 5] [6] 0 0 (q_X5_object l g am ast art aliv asur alas atx ahi σ ζ41 k 8 (hkk) (by omega) (c33)) cv_X5_object mk_L_32 rfl rfl rfl (ng := 7) rfl (by decide) (fun _ => rfl) (fun _ => rfl) (fun _ => rfl) rfl rfl rfl ⟨Nat.le_of_ble_eq_true rfl, Nat.le_of_ble_eq_true rfl⟩ (Nat.le_of_ble_eq_true rfl) ⟨by (try dsimp only); omega, by (try dsimp only); omega⟩ dL_heap_244 rfl (fun ζ42 => ?_)
          refine w_aload_n X 0 rfl dL_heap_247 ?_
          refine w_iload X 6 rfl dL_heap_248 ?_
          refine w_bipush X (nI 7) dL_heap_250 (by decide +kernel) ?_
          refine w_meV X hA (U := (Nat → Nat → Nat → Int32)) (gr := [hiC g ahi (fun i => had i 0) η]) (gs1 := fun ζ43 => [maC g am (ast 0) (art 0) (alas 0) (atx 0) (ahi 0), stC g ast σ, rtC g art (aliv 0) (asur 0) (ζ43 3), rcC g aliv (ζ43 0), rcC g asur (ζ43 1), rcC g alas (ζ43 2), hiC g ahi (fun i => had i 0) η]) [0, 1, 2, 3, 4, 5] [6] 0 0 (q_X5_object l g am ast art aliv asur alas atx ahi σ ζ42 k 7 (hkk) (by omega) (c33)) cv_X5_object mk_L_32 rfl rfl rfl (ng := 7) rfl (by decide) (fun _ => rfl) (fun _ => rfl) (fun _ => rfl) rfl rfl rfl ⟨Nat.le_of_ble_eq_true rfl, Nat.le_of_ble_eq_true rfl⟩ (Nat.le_of_ble_eq_true rfl) ⟨by (try dsimp only); omega, by (try dsimp only); omega⟩ dL_heap_252 rfl (fun ζ43 => ?_)
          refine w_ic_lt X 307 dL_heap_255 (by decide) (fun c255 => by exfalso; exact sv_ge hI hkk hu c255) (fun c255 => ?_)
          refine w_aload_n X 0 rfl dL_heap_258 ?_
          refine w_iconst X (nI 0) dL_heap_259 (by decide +kernel) ?_
          refine w_roV X [0, 1] 0 0 (q_X5_setting l g am ast art alas atx ahi σ 0 (by omega)) cv_X5_setting mk_L_53 rfl rfl rfl rfl rfl ⟨Nat.le_of_ble_eq_true rfl, Nat.le_of_ble_eq_true rfl⟩ (Nat.le_of_ble_eq_true rfl) ⟨by (try dsimp only); omega, by (try dsimp only); omega⟩ dL_heap_260 rfl ?_
          refine w_iconst X (nI 1) dL_heap_263 (by decide +kernel) ?_
          refine w_ic_eq X 286 dL_heap_264 (by decide) (fun c264 => ?_) (fun c264 => ?_)
          · refine w_aload_n X 0 rfl dL_heap_286 ?_
            refine w_iload X 6 rfl dL_heap_287 ?_
            refine w_bipush X (nI 9) dL_heap_289 (by decide +kernel) ?_
            refine w_meV X hA (U := (Nat → Nat → Nat → Int32)) (gr := [hiC g ahi (fun i => had i 0) η]) (gs1 := fun ζ44 => [maC g am (ast 0) (art 0) (alas 0) (atx 0) (ahi 0), stC g ast σ, rtC g art (aliv 0) (asur 0) (ζ44 3), rcC g aliv (ζ44 0), rcC g asur (ζ44 1), rcC g alas (ζ44 2), hiC g ahi (fun i => had i 0) η]) [0, 1, 2, 3, 4, 5] [6] 0 0 (q_X5_object l g am ast art aliv asur alas atx ahi σ ζ43 k 9 (hkk) (by omega) (c33)) cv_X5_object mk_L_32 rfl rfl rfl (ng := 7) rfl (by decide) (fun _ => rfl) (fun _ => rfl) (fun _ => rfl) rfl rfl rfl ⟨Nat.le_of_ble_eq_true rfl, Nat.le_of_ble_eq_true rfl⟩ (Nat.le_of_ble_eq_true rfl) ⟨by (try dsimp only); omega, by (try dsimp only); omega⟩ dL_heap_291 rfl (fun ζ44 => ?_)
            refine w_aload_n X 0 rfl dL_heap_294 ?_
            refine w_bipush X (nI 7) dL_heap_295 (by decide +kernel) ?_
            refine w_meV X hA (U := (Nat → Nat → Nat → Int32)) (gr := [rtC g art (aliv 0) (asur 0) (ζ44 3), rcC g aliv (ζ44 0), rcC g asur (ζ44 1)]) (gs1 := fun ζ45 => [maC g am (ast 0) (art 0) (alas 0) (atx 0) (ahi 0), stC g ast σ, rtC g art (aliv 0) (asur 0) (ζ44 3), rcC g aliv (ζ44 0), rcC g asur (ζ44 1), rcC g alas (ζ45 2), hiC g ahi (fun i => had i 0) η]) [0, 1, 5, 6] [2, 3, 4] 0 0 (q_X5_count l g am ast art alas atx ahi had σ ζ44 η 7 (by omega)) cv_X5_count mk_L_57 rfl rfl rfl (ng := 7) rfl (by decide) (fun _ => rfl) (fun _ => rfl) (fun _ => rfl) rfl rfl rfl ⟨Nat.le_of_ble_eq_true rfl, Nat.le_of_ble_eq_true rfl⟩ (Nat.le_of_ble_eq_true rfl) ⟨by (try dsimp only); omega, by (try dsimp only); omega⟩ dL_heap_297 rfl (fun ζ45 => ?_)
            refine w_ic_gt X 307 dL_heap_300 (by decide) (fun c300 => by exfalso; exact laid_le hJ hB hkk c300) (fun c300 => ?_)
            refine w_iconst X (nI 1) dL_heap_303 (by decide +kernel) ?_
            refine w_goto X 308 dL_heap_304 (by decide) ?_
            refine w_istore X dL_heap_308 (by decide) ?_
            refine w_iload X 0 rfl dL_heap_310 ?_
            refine w_nf_eq X (by omega) 371 dL_heap_312 (by decide) (fun c312 => by exfalso; omega) (fun c312 => ?_)
            refine w_aload_n X 1 rfl dL_heap_315 ?_
            refine w_iload X 6 rfl dL_heap_316 ?_
            refine w_meV X hA (U := (Nat → Nat → Nat → Int32)) (gr := [rtC g art (aliv 0) (asur 0) (ζ44 3), rcC g aliv (ζ44 0), rcC g asur (ζ44 1), hiC g ahi (fun i => had i 0) η]) (gs1 := fun ζ46 => [maC g am (ast 0) (art 0) (alas 0) (atx 0) (ahi 0), stC g ast σ, rtC g art (aliv 0) (asur 0) (ζ44 3), rcC g aliv (ζ44 0), rcC g asur (ζ44 1), rcC g alas (ζ46 2), hiC g ahi (fun i => had i 0) η]) [0, 1, 5] [2, 3, 4, 6] 0 0 (q_X5_ifLost l g am ast art alas atx ahi σ ζ45 k (hkk) (c33)) cv_X5_ifLost mk_L_60 rfl rfl rfl (ng := 7) rfl (by decide) (fun _ => rfl) (fun _ => rfl) (fun _ => rfl) rfl rfl rfl ⟨Nat.le_of_ble_eq_true rfl, Nat.le_of_ble_eq_true rfl⟩ (Nat.le_of_ble_eq_true rfl) ⟨by (try dsimp only); omega, by (try dsimp only); omega⟩ dL_heap_318 rfl (fun ζ46 => ?_)
            refine w_aload_n X 1 rfl dL_heap_321 ?_
            refine w_iload X 6 rfl dL_heap_322 ?_
            refine w_bipush X (nI 7) dL_heap_324 (by decide +kernel) ?_
            refine w_meV X hA (U := (Nat → Nat → Nat → Int32)) (gr := [hiC g ahi (fun i => had i 0) η]) (gs1 := fun ζ47 => [maC g am (ast 0) (art 0) (alas 0) (atx 0) (ahi 0), stC g ast σ, rtC g art (aliv 0) (asur 0) (ζ47 3), rcC g aliv (ζ47 0), rcC g asur (ζ47 1), rcC g alas (ζ47 2), hiC g ahi (fun i => had i 0) η]) [0, 1, 2, 3, 4, 5] [6] 0 0 (q_X5_object l g am ast art aliv asur alas atx ahi σ (rw2 ζ44 2 (ζ46 2)) k 7 (hkk) (by omega) (c33)) cv_X5_object mk_L_32 rfl rfl rfl (ng := 7) rfl (by decide) (fun _ => rfl) (fun _ => rfl) (fun _ => rfl) rfl rfl rfl ⟨Nat.le_of_ble_eq_true rfl, Nat.le_of_ble_eq_true rfl⟩ (Nat.le_of_ble_eq_true rfl) ⟨by (try dsimp only); omega, by (try dsimp only); omega⟩ dL_heap_326 rfl (fun ζ47 => ?_)
            refine w_ic_lt X 371 dL_heap_329 (by decide) (fun c329 => by exfalso; exact lost_ge hI hkk c329) (fun c329 => ?_)
            refine w_aload_n X 1 rfl dL_heap_332 ?_
            refine w_iload X 6 rfl dL_heap_333 ?_
            refine w_meV X hA (U := (Nat → Nat → Nat → Int32)) (gr := [rtC g art (aliv 0) (asur 0) (ζ47 3), rcC g aliv (ζ47 0), rcC g asur (ζ47 1), hiC g ahi (fun i => had i 0) η]) (gs1 := fun ζ48 => [maC g am (ast 0) (art 0) (alas 0) (atx 0) (ahi 0), stC g ast σ, rtC g art (aliv 0) (asur 0) (ζ47 3), rcC g aliv (ζ47 0), rcC g asur (ζ47 1), rcC g alas (ζ48 2), hiC g ahi (fun i => had i 0) η]) [0, 1, 5] [2, 3, 4, 6] 0 0 (q_X5_ifLost l g am ast art alas atx ahi σ ζ47 k (hkk) (c33)) cv_X5_ifLost mk_L_60 rfl rfl rfl (ng := 7) rfl (by decide) (fun _ => rfl) (fun _ => rfl) (fun _ => rfl) rfl rfl rfl ⟨Nat.le_of_ble_eq_true rfl, Nat.le_of_ble_eq_true rfl⟩ (Nat.le_of_ble_eq_true rfl) ⟨by (try dsimp only); omega, by (try dsimp only); omega⟩ dL_heap_335 rfl (fun ζ48 => ?_)
            refine w_aload_n X 1 rfl dL_heap_338 ?_
            refine w_iconst X (nI 1) dL_heap_339 (by decide +kernel) ?_
            refine w_meV X hA (U := (Nat → Nat → Nat → Int32)) (gr := [rtC g art (aliv 0) (asur 0) (ζ47 3), rcC g aliv (ζ47 0), rcC g asur (ζ47 1)]) (gs1 := fun ζ49 => [maC g am (ast 0) (art 0) (alas 0) (atx 0) (ahi 0), stC g ast σ, rtC g art (aliv 0) (asur 0) (ζ47 3), rcC g aliv (ζ47 0), rcC g asur (ζ47 1), rcC g alas (ζ49 2), hiC g ahi (fun i => had i 0) η]) [0, 1, 5, 6] [2, 3, 4] 0 0 (q_X5_count l g am ast art alas atx ahi had σ ζ48 η 1 (by omega)) cv_X5_count mk_L_57 rfl rfl rfl (ng := 7) rfl (by decide) (fun _ => rfl) (fun _ => rfl) (fun _ => rfl) rfl rfl rfl ⟨Nat.le_of_ble_eq_true rfl, Nat.le_of_ble_eq_true rfl⟩ (Nat.le_of_ble_eq_true rfl) ⟨by (try dsimp only); omega, by (try dsimp only); omega⟩ dL_heap_340 rfl (fun ζ49 => ?_)
            refine w_ic_gt X 371 dL_heap_343 (by decide) (fun c343 => by exfalso; exact lost_le hI hkk c343) (fun c343 => ?_)
            refine w_aload_n X 1 rfl dL_heap_346 ?_
            refine w_iload X 6 rfl dL_heap_347 ?_
            refine w_bipush X (nI 7) dL_heap_349 (by decide +kernel) ?_
            refine w_meV X hA (U := (Nat → Nat → Nat → Int32)) (gr := [hiC g ahi (fun i => had i 0) η]) (gs1 := fun ζ50 => [maC g am (ast 0) (art 0) (alas 0) (atx 0) (ahi 0), stC g ast σ, rtC g art (aliv 0) (asur 0) (ζ50 3), rcC g aliv (ζ50 0), rcC g asur (ζ50 1), rcC g alas (ζ50 2), hiC g ahi (fun i => had i 0) η]) [0, 1, 2, 3, 4, 5] [6] 0 0 (q_X5_object l g am ast art aliv asur alas atx ahi σ (rw2 ζ47 2 (ζ49 2)) k 7 (hkk) (by omega) (c33)) cv_X5_object mk_L_32 rfl rfl rfl (ng := 7) rfl (by decide) (fun _ => rfl) (fun _ => rfl) (fun _ => rfl) rfl rfl rfl ⟨Nat.le_of_ble_eq_true rfl, Nat.le_of_ble_eq_true rfl⟩ (Nat.le_of_ble_eq_true rfl) ⟨by (try dsimp only); omega, by (try dsimp only); omega⟩ dL_heap_351 rfl (fun ζ50 => ?_)
            refine w_iconst X (nI 1) dL_heap_354 (by decide +kernel) ?_
            refine w_ic_eq X 367 dL_heap_355 (by decide) (fun c355 => ?_) (fun c355 => by exfalso; exact c355 c212)
            refine w_iconst X (nI 1) dL_heap_367 (by decide +kernel) ?_
            refine w_goto X 372 dL_heap_368 (by decide) ?_
            refine w_istore X dL_heap_372 (by decide) ?_
            refine w_iload_n X 3 rfl dL_heap_374 ?_
            refine w_aload_n X 1 rfl dL_heap_375 ?_
            refine w_iload X 6 rfl dL_heap_376 ?_
            refine w_bipush X (nI 10) dL_heap_378 (by decide +kernel) ?_
            refine w_meV X hA (U := (Nat → Nat → Nat → Int32)) (gr := [hiC g ahi (fun i => had i 0) η]) (gs1 := fun ζ51 => [maC g am (ast 0) (art 0) (alas 0) (atx 0) (ahi 0), stC g ast σ, rtC g art (aliv 0) (asur 0) (ζ51 3), rcC g aliv (ζ51 0), rcC g asur (ζ51 1), rcC g alas (ζ51 2), hiC g ahi (fun i => had i 0) η]) [0, 1, 2, 3, 4, 5] [6] 0 0 (q_X5_object l g am ast art aliv asur alas atx ahi σ ζ50 k 10 (hkk) (by omega) (c33)) cv_X5_object mk_L_32 rfl rfl rfl (ng := 7) rfl (by decide) (fun _ => rfl) (fun _ => rfl) (fun _ => rfl) rfl rfl rfl ⟨Nat.le_of_ble_eq_true rfl, Nat.le_of_ble_eq_true rfl⟩ (Nat.le_of_ble_eq_true rfl) ⟨by (try dsimp only); omega, by (try dsimp only); omega⟩ dL_heap_380 rfl (fun ζ51 => ?_)
            refine w_iadd X dL_heap_383 ?_
            refine w_istore_n X dL_heap_384 (by decide) ?_
            refine w_iload X 5 rfl dL_heap_385 ?_
            refine w_aload_n X 2 rfl dL_heap_387 ?_
            refine w_iload X 6 rfl dL_heap_388 ?_
            refine w_iconst X (nI 5) dL_heap_390 (by decide +kernel) ?_
            refine w_meV X hA (U := (Nat → Nat → Nat → Int32)) (gr := [hiC g ahi (fun i => had i 0) η]) (gs1 := fun ζ52 => [maC g am (ast 0) (art 0) (alas 0) (atx 0) (ahi 0), stC g ast σ, rtC g art (aliv 0) (asur 0) (ζ52 3), rcC g aliv (ζ52 0), rcC g asur (ζ52 1), rcC g alas (ζ52 2), hiC g ahi (fun i => had i 0) η]) [0, 1, 2, 3, 4, 5] [6] 0 0 (q_X5_object l g am ast art aliv asur alas atx ahi σ ζ51 k 5 (hkk) (by omega) (c33)) cv_X5_object mk_L_32 rfl rfl rfl (ng := 7) rfl (by decide) (fun _ => rfl) (fun _ => rfl) (fun _ => rfl) rfl rfl rfl ⟨Nat.le_of_ble_eq_true rfl, Nat.le_of_ble_eq_true rfl⟩ (Nat.le_of_ble_eq_true rfl) ⟨by (try dsimp only); omega, by (try dsimp only); omega⟩ dL_heap_391 rfl (fun ζ52 => ?_)
            refine w_iadd X dL_heap_394 ?_
            refine w_istore X dL_heap_395 (by decide) ?_
            refine w_iinc X (nI (cn (fun o => nz (σ 0 o)) k + 1)) 4 rfl (nI_1 _) dL_heap_397 (by decide) ?_
            refine w_iinc X (nI (k + 1)) 6 rfl (nI_1 _) dL_heap_400 (by decide) ?_
            refine w_goto X 15 dL_heap_403 (by decide) ?_
            have e5_1 : nI (cn (fun o => nz (σ 0 o)) k + 1) = nI (cn (fun o => nz (σ 0 o)) (k + 1)) := by rw [ob_t hu]
            have e5_2 : (nI (s2N (toP σ k) 24) + (opC σ k 10)) = nI (s2N (toP σ (k + 1)) 24) := by exact rf_yo rfl hkk hu
            have e5_3 : nI (ldN σ k g_) = nI (s2N (nnP σ) (k + 1)) := by rw [he_g_, ld_2]
            have e5_4 : (nI (cn (fun o => nz (σ 5 o)) k) + (opC σ k 5)) = nI (cn (fun o => nz (σ 5 o)) (k + 1)) := by exact rt_o
            refine w_widen (k := 6 * (k + 1)) (n := 36 * (k + 1)) (by omega) (by omega) ?_
            exact w_all [5, 1, 3, 6, 2, 4, 0] (rfl) (rfl) (by rw [← e5_1, ← e5_2, ← e5_3, ← e5_4]; rfl) (ih15 (k + 1, ζ52) (by omega) (by omega))
          · refine w_aload_n X 0 rfl dL_heap_267 ?_
            refine w_iload X 6 rfl dL_heap_268 ?_
            refine w_bipush X (nI 8) dL_heap_270 (by decide +kernel) ?_
            refine w_meV X hA (U := (Nat → Nat → Nat → Int32)) (gr := [hiC g ahi (fun i => had i 0) η]) (gs1 := fun ζ53 => [maC g am (ast 0) (art 0) (alas 0) (atx 0) (ahi 0), stC g ast σ, rtC g art (aliv 0) (asur 0) (ζ53 3), rcC g aliv (ζ53 0), rcC g asur (ζ53 1), rcC g alas (ζ53 2), hiC g ahi (fun i => had i 0) η]) [0, 1, 2, 3, 4, 5] [6] 0 0 (q_X5_object l g am ast art aliv asur alas atx ahi σ ζ43 k 8 (hkk) (by omega) (c33)) cv_X5_object mk_L_32 rfl rfl rfl (ng := 7) rfl (by decide) (fun _ => rfl) (fun _ => rfl) (fun _ => rfl) rfl rfl rfl ⟨Nat.le_of_ble_eq_true rfl, Nat.le_of_ble_eq_true rfl⟩ (Nat.le_of_ble_eq_true rfl) ⟨by (try dsimp only); omega, by (try dsimp only); omega⟩ dL_heap_272 rfl (fun ζ53 => ?_)
            refine w_aload_n X 0 rfl dL_heap_275 ?_
            refine w_iload X 6 rfl dL_heap_276 ?_
            refine w_bipush X (nI 7) dL_heap_278 (by decide +kernel) ?_
            refine w_meV X hA (U := (Nat → Nat → Nat → Int32)) (gr := [hiC g ahi (fun i => had i 0) η]) (gs1 := fun ζ54 => [maC g am (ast 0) (art 0) (alas 0) (atx 0) (ahi 0), stC g ast σ, rtC g art (aliv 0) (asur 0) (ζ54 3), rcC g aliv (ζ54 0), rcC g asur (ζ54 1), rcC g alas (ζ54 2), hiC g ahi (fun i => had i 0) η]) [0, 1, 2, 3, 4, 5] [6] 0 0 (q_X5_object l g am ast art aliv asur alas atx ahi σ ζ53 k 7 (hkk) (by omega) (c33)) cv_X5_object mk_L_32 rfl rfl rfl (ng := 7) rfl (by decide) (fun _ => rfl) (fun _ => rfl) (fun _ => rfl) rfl rfl rfl ⟨Nat.le_of_ble_eq_true rfl, Nat.le_of_ble_eq_true rfl⟩ (Nat.le_of_ble_eq_true rfl) ⟨by (try dsimp only); omega, by (try dsimp only); omega⟩ dL_heap_280 rfl (fun ζ54 => ?_)
            refine w_ic_ne X 307 dL_heap_283 (by decide) (fun c283 => by exfalso; exact c283 (sv_eq hI hkk hu c264)) (fun c283 => ?_)
            refine w_aload_n X 0 rfl dL_heap_286 ?_
            refine w_iload X 6 rfl dL_heap_287 ?_
            refine w_bipush X (nI 9) dL_heap_289 (by decide +kernel) ?_
            refine w_meV X hA (U := (Nat → Nat → Nat → Int32)) (gr := [hiC g ahi (fun i => had i 0) η]) (gs1 := fun ζ55 => [maC g am (ast 0) (art 0) (alas 0) (atx 0) (ahi 0), stC g ast σ, rtC g art (aliv 0) (asur 0) (ζ55 3), rcC g aliv (ζ55 0), rcC g asur (ζ55 1), rcC g alas (ζ55 2), hiC g ahi (fun i => had i 0) η]) [0, 1, 2, 3, 4, 5] [6] 0 0 (q_X5_object l g am ast art aliv asur alas atx ahi σ ζ54 k 9 (hkk) (by omega) (c33)) cv_X5_object mk_L_32 rfl rfl rfl (ng := 7) rfl (by decide) (fun _ => rfl) (fun _ => rfl) (fun _ => rfl) rfl rfl rfl ⟨Nat.le_of_ble_eq_true rfl, Nat.le_of_ble_eq_true rfl⟩ (Nat.le_of_ble_eq_true rfl) ⟨by (try dsimp only); omega, by (try dsimp only); omega⟩ dL_heap_291 rfl (fun ζ55 => ?_)
            refine w_aload_n X 0 rfl dL_heap_294 ?_
            refine w_bipush X (nI 7) dL_heap_295 (by decide +kernel) ?_
            refine w_meV X hA (U := (Nat → Nat → Nat → Int32)) (gr := [rtC g art (aliv 0) (asur 0) (ζ55 3), rcC g aliv (ζ55 0), rcC g asur (ζ55 1)]) (gs1 := fun ζ56 => [maC g am (ast 0) (art 0) (alas 0) (atx 0) (ahi 0), stC g ast σ, rtC g art (aliv 0) (asur 0) (ζ55 3), rcC g aliv (ζ55 0), rcC g asur (ζ55 1), rcC g alas (ζ56 2), hiC g ahi (fun i => had i 0) η]) [0, 1, 5, 6] [2, 3, 4] 0 0 (q_X5_count l g am ast art alas atx ahi had σ ζ55 η 7 (by omega)) cv_X5_count mk_L_57 rfl rfl rfl (ng := 7) rfl (by decide) (fun _ => rfl) (fun _ => rfl) (fun _ => rfl) rfl rfl rfl ⟨Nat.le_of_ble_eq_true rfl, Nat.le_of_ble_eq_true rfl⟩ (Nat.le_of_ble_eq_true rfl) ⟨by (try dsimp only); omega, by (try dsimp only); omega⟩ dL_heap_297 rfl (fun ζ56 => ?_)
            refine w_ic_gt X 307 dL_heap_300 (by decide) (fun c300 => by exfalso; exact laid_le hJ hB hkk c300) (fun c300 => ?_)
            refine w_iconst X (nI 1) dL_heap_303 (by decide +kernel) ?_
            refine w_goto X 308 dL_heap_304 (by decide) ?_
            refine w_istore X dL_heap_308 (by decide) ?_
            refine w_iload X 0 rfl dL_heap_310 ?_
            refine w_nf_eq X (by omega) 371 dL_heap_312 (by decide) (fun c312 => by exfalso; omega) (fun c312 => ?_)
            refine w_aload_n X 1 rfl dL_heap_315 ?_
            refine w_iload X 6 rfl dL_heap_316 ?_
            refine w_meV X hA (U := (Nat → Nat → Nat → Int32)) (gr := [rtC g art (aliv 0) (asur 0) (ζ55 3), rcC g aliv (ζ55 0), rcC g asur (ζ55 1), hiC g ahi (fun i => had i 0) η]) (gs1 := fun ζ57 => [maC g am (ast 0) (art 0) (alas 0) (atx 0) (ahi 0), stC g ast σ, rtC g art (aliv 0) (asur 0) (ζ55 3), rcC g aliv (ζ55 0), rcC g asur (ζ55 1), rcC g alas (ζ57 2), hiC g ahi (fun i => had i 0) η]) [0, 1, 5] [2, 3, 4, 6] 0 0 (q_X5_ifLost l g am ast art alas atx ahi σ ζ56 k (hkk) (c33)) cv_X5_ifLost mk_L_60 rfl rfl rfl (ng := 7) rfl (by decide) (fun _ => rfl) (fun _ => rfl) (fun _ => rfl) rfl rfl rfl ⟨Nat.le_of_ble_eq_true rfl, Nat.le_of_ble_eq_true rfl⟩ (Nat.le_of_ble_eq_true rfl) ⟨by (try dsimp only); omega, by (try dsimp only); omega⟩ dL_heap_318 rfl (fun ζ57 => ?_)
            refine w_aload_n X 1 rfl dL_heap_321 ?_
            refine w_iload X 6 rfl dL_heap_322 ?_
            refine w_bipush X (nI 7) dL_heap_324 (by decide +kernel) ?_
            refine w_meV X hA (U := (Nat → Nat → Nat → Int32)) (gr := [hiC g ahi (fun i => had i 0) η]) (gs1 := fun ζ58 => [maC g am (ast 0) (art 0) (alas 0) (atx 0) (ahi 0), stC g ast σ, rtC g art (aliv 0) (asur 0) (ζ58 3), rcC g aliv (ζ58 0), rcC g asur (ζ58 1), rcC g alas (ζ58 2), hiC g ahi (fun i => had i 0) η]) [0, 1, 2, 3, 4, 5] [6] 0 0 (q_X5_object l g am ast art aliv asur alas atx ahi σ (rw2 ζ55 2 (ζ57 2)) k 7 (hkk) (by omega) (c33)) cv_X5_object mk_L_32 rfl rfl rfl (ng := 7) rfl (by decide) (fun _ => rfl) (fun _ => rfl) (fun _ => rfl) rfl rfl rfl ⟨Nat.le_of_ble_eq_true rfl, Nat.le_of_ble_eq_true rfl⟩ (Nat.le_of_ble_eq_true rfl) ⟨by (try dsimp only); omega, by (try dsimp only); omega⟩ dL_heap_326 rfl (fun ζ58 => ?_)
            refine w_ic_lt X 371 dL_heap_329 (by decide) (fun c329 => by exfalso; exact lost_ge hI hkk c329) (fun c329 => ?_)
            refine w_aload_n X 1 rfl dL_heap_332 ?_
            refine w_iload X 6 rfl dL_heap_333 ?_
            refine w_meV X hA (U := (Nat → Nat → Nat → Int32)) (gr := [rtC g art (aliv 0) (asur 0) (ζ58 3), rcC g aliv (ζ58 0), rcC g asur (ζ58 1), hiC g ahi (fun i => had i 0) η]) (gs1 := fun ζ59 => [maC g am (ast 0) (art 0) (alas 0) (atx 0) (ahi 0), stC g ast σ, rtC g art (aliv 0) (asur 0) (ζ58 3), rcC g aliv (ζ58 0), rcC g asur (ζ58 1), rcC g alas (ζ59 2), hiC g ahi (fun i => had i 0) η]) [0, 1, 5] [2, 3, 4, 6] 0 0 (q_X5_ifLost l g am ast art alas atx ahi σ ζ58 k (hkk) (c33)) cv_X5_ifLost mk_L_60 rfl rfl rfl (ng := 7) rfl (by decide) (fun _ => rfl) (fun _ => rfl) (fun _ => rfl) rfl rfl rfl ⟨Nat.le_of_ble_eq_true rfl, Nat.le_of_ble_eq_true rfl⟩ (Nat.le_of_ble_eq_true rfl) ⟨by (try dsimp only); omega, by (try dsimp only); omega⟩ dL_heap_335 rfl (fun ζ59 => ?_)
            refine w_aload_n X 1 rfl dL_heap_338 ?_
            refine w_iconst X (nI 1) dL_heap_339 (by decide +kernel) ?_
            refine w_meV X hA (U := (Nat → Nat → Nat → Int32)) (gr := [rtC g art (aliv 0) (asur 0) (ζ58 3), rcC g aliv (ζ58 0), rcC g asur (ζ58 1)]) (gs1 := fun ζ60 => [maC g am (ast 0) (art 0) (alas 0) (atx 0) (ahi 0), stC g ast σ, rtC g art (aliv 0) (asur 0) (ζ58 3), rcC g aliv (ζ58 0), rcC g asur (ζ58 1), rcC g alas (ζ60 2), hiC g ahi (fun i => had i 0) η]) [0, 1, 5, 6] [2, 3, 4] 0 0 (q_X5_count l g am ast art alas atx ahi had σ ζ59 η 1 (by omega)) cv_X5_count mk_L_57 rfl rfl rfl (ng := 7) rfl (by decide) (fun _ => rfl) (fun _ => rfl) (fun _ => rfl) rfl rfl rfl ⟨Nat.le_of_ble_eq_true rfl, Nat.le_of_ble_eq_true rfl⟩ (Nat.le_of_ble_eq_true rfl) ⟨by (try dsimp only); omega, by (try dsimp only); omega⟩ dL_heap_340 rfl (fun ζ60 => ?_)
            refine w_ic_gt X 371 dL_heap_343 (by decide) (fun c343 => by exfalso; exact lost_le hI hkk c343) (fun c343 => ?_)
            refine w_aload_n X 1 rfl dL_heap_346 ?_
            refine w_iload X 6 rfl dL_heap_347 ?_
            refine w_bipush X (nI 7) dL_heap_349 (by decide +kernel) ?_
            refine w_meV X hA (U := (Nat → Nat → Nat → Int32)) (gr := [hiC g ahi (fun i => had i 0) η]) (gs1 := fun ζ61 => [maC g am (ast 0) (art 0) (alas 0) (atx 0) (ahi 0), stC g ast σ, rtC g art (aliv 0) (asur 0) (ζ61 3), rcC g aliv (ζ61 0), rcC g asur (ζ61 1), rcC g alas (ζ61 2), hiC g ahi (fun i => had i 0) η]) [0, 1, 2, 3, 4, 5] [6] 0 0 (q_X5_object l g am ast art aliv asur alas atx ahi σ (rw2 ζ58 2 (ζ60 2)) k 7 (hkk) (by omega) (c33)) cv_X5_object mk_L_32 rfl rfl rfl (ng := 7) rfl (by decide) (fun _ => rfl) (fun _ => rfl) (fun _ => rfl) rfl rfl rfl ⟨Nat.le_of_ble_eq_true rfl, Nat.le_of_ble_eq_true rfl⟩ (Nat.le_of_ble_eq_true rfl) ⟨by (try dsimp only); omega, by (try dsimp only); omega⟩ dL_heap_351 rfl (fun ζ61 => ?_)
            refine w_iconst X (nI 1) dL_heap_354 (by decide +kernel) ?_
            refine w_ic_eq X 367 dL_heap_355 (by decide) (fun c355 => ?_) (fun c355 => by exfalso; exact c355 c212)
            refine w_iconst X (nI 1) dL_heap_367 (by decide +kernel) ?_
            refine w_goto X 372 dL_heap_368 (by decide) ?_
            refine w_istore X dL_heap_372 (by decide) ?_
            refine w_iload_n X 3 rfl dL_heap_374 ?_
            refine w_aload_n X 1 rfl dL_heap_375 ?_
            refine w_iload X 6 rfl dL_heap_376 ?_
            refine w_bipush X (nI 10) dL_heap_378 (by decide +kernel) ?_
            refine w_meV X hA (U := (Nat → Nat → Nat → Int32)) (gr := [hiC g ahi (fun i => had i 0) η]) (gs1 := fun ζ62 => [maC g am (ast 0) (art 0) (alas 0) (atx 0) (ahi 0), stC g ast σ, rtC g art (aliv 0) (asur 0) (ζ62 3), rcC g aliv (ζ62 0), rcC g asur (ζ62 1), rcC g alas (ζ62 2), hiC g ahi (fun i => had i 0) η]) [0, 1, 2, 3, 4, 5] [6] 0 0 (q_X5_object l g am ast art aliv asur alas atx ahi σ ζ61 k 10 (hkk) (by omega) (c33)) cv_X5_object mk_L_32 rfl rfl rfl (ng := 7) rfl (by decide) (fun _ => rfl) (fun _ => rfl) (fun _ => rfl) rfl rfl rfl ⟨Nat.le_of_ble_eq_true rfl, Nat.le_of_ble_eq_true rfl⟩ (Nat.le_of_ble_eq_true rfl) ⟨by (try dsimp only); omega, by (try dsimp only); omega⟩ dL_heap_380 rfl (fun ζ62 => ?_)
            refine w_iadd X dL_heap_383 ?_
            refine w_istore_n X dL_heap_384 (by decide) ?_
            refine w_iload X 5 rfl dL_heap_385 ?_
            refine w_aload_n X 2 rfl dL_heap_387 ?_
            refine w_iload X 6 rfl dL_heap_388 ?_
            refine w_iconst X (nI 5) dL_heap_390 (by decide +kernel) ?_
            refine w_meV X hA (U := (Nat → Nat → Nat → Int32)) (gr := [hiC g ahi (fun i => had i 0) η]) (gs1 := fun ζ63 => [maC g am (ast 0) (art 0) (alas 0) (atx 0) (ahi 0), stC g ast σ, rtC g art (aliv 0) (asur 0) (ζ63 3), rcC g aliv (ζ63 0), rcC g asur (ζ63 1), rcC g alas (ζ63 2), hiC g ahi (fun i => had i 0) η]) [0, 1, 2, 3, 4, 5] [6] 0 0 (q_X5_object l g am ast art aliv asur alas atx ahi σ ζ62 k 5 (hkk) (by omega) (c33)) cv_X5_object mk_L_32 rfl rfl rfl (ng := 7) rfl (by decide) (fun _ => rfl) (fun _ => rfl) (fun _ => rfl) rfl rfl rfl ⟨Nat.le_of_ble_eq_true rfl, Nat.le_of_ble_eq_true rfl⟩ (Nat.le_of_ble_eq_true rfl) ⟨by (try dsimp only); omega, by (try dsimp only); omega⟩ dL_heap_391 rfl (fun ζ63 => ?_)
            refine w_iadd X dL_heap_394 ?_
            refine w_istore X dL_heap_395 (by decide) ?_
            refine w_iinc X (nI (cn (fun o => nz (σ 0 o)) k + 1)) 4 rfl (nI_1 _) dL_heap_397 (by decide) ?_
            refine w_iinc X (nI (k + 1)) 6 rfl (nI_1 _) dL_heap_400 (by decide) ?_
            refine w_goto X 15 dL_heap_403 (by decide) ?_
            have e6_1 : nI (cn (fun o => nz (σ 0 o)) k + 1) = nI (cn (fun o => nz (σ 0 o)) (k + 1)) := by rw [ob_t hu]
            have e6_2 : (nI (s2N (toP σ k) 24) + (opC σ k 10)) = nI (s2N (toP σ (k + 1)) 24) := by exact rf_yo rfl hkk hu
            have e6_3 : nI (ldN σ k g_) = nI (s2N (nnP σ) (k + 1)) := by rw [he_g_, ld_2]
            have e6_4 : (nI (cn (fun o => nz (σ 5 o)) k) + (opC σ k 5)) = nI (cn (fun o => nz (σ 5 o)) (k + 1)) := by exact rt_o
            refine w_widen (k := 6 * (k + 1)) (n := 36 * (k + 1)) (by omega) (by omega) ?_
            exact w_all [5, 1, 3, 6, 2, 4, 0] (rfl) (rfl) (by rw [← e6_1, ← e6_2, ← e6_3, ← e6_4]; rfl) (ih15 (k + 1, ζ63) (by omega) (by omega))
      · refine w_iload X 5 rfl dL_heap_141 ?_
        refine w_bf_eq X 198 dL_heap_143 (by decide) (fun c143 => by exfalso; cases c143) (fun c143 => ?_)
        refine w_aload_n X 0 rfl dL_heap_146 ?_
        refine w_iload X 6 rfl dL_heap_147 ?_
        refine w_iload X 10 rfl dL_heap_149 ?_
        refine w_meV X hA (U := (Nat → Nat → Nat → Int32)) (gr := [hiC g ahi (fun i => had i 0) η]) (gs1 := fun ζ64 => [maC g am (ast 0) (art 0) (alas 0) (atx 0) (ahi 0), stC g ast σ, rtC g art (aliv 0) (asur 0) (ζ64 3), rcC g aliv (ζ64 0), rcC g asur (ζ64 1), rcC g alas (ζ64 2), hiC g ahi (fun i => had i 0) η]) [0, 1, 2, 3, 4, 5] [6] 0 0 (q_X5_object l g am ast art aliv asur alas atx ahi σ (rw2 (rw2 (rw2 (rw2 ζ14 0 (yy 0)) 1 (yy 1)) 2 (yy 2)) 3 (yy 3)) k (g_ + 3) (hkk) (by omega) (c33)) cv_X5_object mk_L_32 rfl rfl rfl (ng := 7) rfl (by decide) (fun _ => rfl) (fun _ => rfl) (fun _ => rfl) rfl rfl rfl ⟨Nat.le_of_ble_eq_true rfl, Nat.le_of_ble_eq_true rfl⟩ (Nat.le_of_ble_eq_true rfl) ⟨by (try dsimp only); omega, by (try dsimp only); omega⟩ dL_heap_151 rfl (fun ζ64 => ?_)
        rw [op_f hkk (by omega)]
        refine w_istore X dL_heap_154 (by decide) ?_
        refine w_iload X 0 rfl dL_heap_156 ?_
        refine w_iconst X (-1) dL_heap_158 (by decide +kernel) ?_
        refine w_ic_eq X 171 dL_heap_159 (by decide) (fun c159 => ?_) (fun c159 => ?_)
        · refine w_iconst X (nI 1) dL_heap_171 (by decide +kernel) ?_
          refine w_goto X 176 dL_heap_172 (by decide) ?_
          refine w_istore X dL_heap_176 (by decide) ?_
          refine w_iload_n X 5 rfl dL_heap_178 ?_
          refine w_iload X 1 rfl dL_heap_179 ?_
          refine w_iconst X (-1) dL_heap_181 (by decide +kernel) ?_
          refine w_ic_ne X 189 dL_heap_182 (by decide) (fun c182 => by exfalso; exact c182 c159) (fun c182 => ?_)
          refine w_iconst X (nI 0) dL_heap_185 (by decide +kernel) ?_
          refine w_goto X 190 dL_heap_186 (by decide) ?_
          refine w_iadd_n X dL_heap_190 ?_
          refine w_istore_n X dL_heap_191 (by decide) ?_
          refine w_iinc X (nI (g_ + 3 + 1)) 11 rfl (nI_1 _) dL_heap_192 (by decide) ?_
          refine w_goto X 135 dL_heap_195 (by decide) ?_
          have e7_3 : nI ((ldN σ k g_) + 0) = nI (ldN σ k (g_ + 1)) := by rw [← ld_n c159, nI_add]
          have e7_10 : nI (g_ + 3 + 1) = nI ((g_ + 1) + 3) := by rw [show g_ + 3 + 1 = g_ + 1 + 3 by omega]
          refine w_widen (k := 6 * k + 2 + 2 * (g_ + 1)) (n := 36 * k + 12 + 12 * (g_ + 1)) (by omega) (by omega) ?_
          exact w_all [4, 5, 6, 1, 7, 2, 8, 9, 10, 11, 0] (rfl) (rfl) (by rw [← e7_3, ← e7_10]; rfl) (ih135 (g_ + 1, ζ64) (by omega) (by omega))
        · have hg2 : g_ < 2 := by omega
          obtain ⟨t, ht, et, ut⟩ := fld_to hI hkk hg2 c159
          rw [et]
          refine w_aload_n X 1 rfl dL_heap_162 ?_
          refine w_iload X 0 rfl dL_heap_163 ?_
          refine w_mpS V (U := (Nat → Nat → Nat → Int32)) (gr := [hiC g ahi (fun i => had i 0) η]) (gs1 := fun ζ65 => [maC g am (ast 0) (art 0) (alas 0) (atx 0) (ahi 0), stC g ast σ, rtC g art (aliv 0) (asur 0) (ζ65 3), rcC g aliv (ζ65 0), rcC g asur (ζ65 1), rcC g alas (ζ65 2), hiC g ahi (fun i => had i 0) η]) [0, 1, 2, 3, 4, 5] [6] (m_L_is l g hfl am ast art aliv asur alas atx ahi σ ζ64 t (hI) (ht)) cs_L_is mk_L_43 rfl rfl rfl (ng := 7) rfl (by decide) (fun _ => rfl) (fun _ => rfl) (fun _ => rfl) ⟨Nat.le_of_ble_eq_true rfl, Nat.le_of_ble_eq_true rfl⟩ (Nat.le_of_ble_eq_true rfl) ⟨by (try dsimp only); omega, by (try dsimp only); omega⟩ dL_heap_165 rfl (fun ζ65 => ?_)
          refine w_bf_eq X 175 dL_heap_168 (by decide) (fun c168 => by exfalso; rw [(has_us hI.1 ht).mpr ut] at c168; cases c168) (fun c168 => ?_)
          refine w_iconst X (nI 1) dL_heap_171 (by decide +kernel) ?_
          refine w_goto X 176 dL_heap_172 (by decide) ?_
          refine w_istore X dL_heap_176 (by decide) ?_
          refine w_iload_n X 5 rfl dL_heap_178 ?_
          refine w_iload X 1 rfl dL_heap_179 ?_
          refine w_iconst X (-1) dL_heap_181 (by decide +kernel) ?_
          refine w_ic_ne X 189 dL_heap_182 (by decide) (fun c182 => ?_) (fun c182 => by exfalso; exact nI_ne (by omega) c182)
          refine w_iconst X (nI 1) dL_heap_189 (by decide +kernel) ?_
          refine w_iadd_n X dL_heap_190 ?_
          refine w_istore_n X dL_heap_191 (by decide) ?_
          refine w_iinc X (nI (g_ + 3 + 1)) 11 rfl (nI_1 _) dL_heap_192 (by decide) ?_
          refine w_goto X 135 dL_heap_195 (by decide) ?_
          have e8_3 : nI ((ldN σ k g_) + 1) = nI (ldN σ k (g_ + 1)) := by rw [← ld_y c159, nI_add]
          have e8_10 : nI (g_ + 3 + 1) = nI ((g_ + 1) + 3) := by rw [show g_ + 3 + 1 = g_ + 1 + 3 by omega]
          refine w_widen (k := 6 * k + 2 + 2 * (g_ + 1)) (n := 36 * k + 12 + 12 * (g_ + 1)) (by omega) (by omega) ?_
          exact w_all [4, 5, 6, 1, 7, 2, 8, 9, 10, 11, 0] (rfl) (rfl) (by rw [← e8_3, ← e8_10]; rfl) (ih135 (g_ + 1, ζ65) (by omega) (by omega))
