/-! MarkArenas: the digest, the buffer -/
def okD (d : UInt64) : Prop := d = 0 ∨ ∃ v k : Nat, v < 4503599627370496 ∧ k ≤ 60 ∧ d = dB v k
theorem sh52 : ∀ k, k < 61 → lN (1023 - k) <<< ((nI 52).toInt64 &&& 63) = lN ((1023 - k) * 4503599627370496) := by decide +kernel
theorem bits_sum {v k : Nat} (hk : k ≤ 60) : lN (1023 - k) <<< ((nI 52).toInt64 &&& 63) + lN v = (dB v k).toInt64 := by
  rw [sh52 k (by omega), lN_add]
  rfl
set_option maxRecDepth 100000 in
set_option maxHeartbeats 4000000 in
theorem m_X5_bitsOf0 (l : Launch) (g : GG) (x : UInt64) (hd : x = 0) : MRO l g yX5_bitsOf cX5_bitsOf 7 (some .long) 0 [.double (x)] [] (some (.long (0))) := by
  refine mk_ro (by decide +kernel) (Nat.le_of_ble_eq_true rfl) (fun p e s m below meth c X => ?_)
  refine w_dload_n X 0 rfl dX5_bitsOf_0 ?_
  refine w_dconst0 X dX5_bitsOf_1 ?_
  refine w_dcmp X dX5_bitsOf_2 ?_
  refine w_if_gt X 8 dX5_bitsOf_3 (by decide) (fun c3 => by exfalso; subst hd; revert c3; decide +kernel) (fun c3 => ?_)
  refine w_lconst X 0 dX5_bitsOf_6 (by decide +kernel) ?_
  exact w_lret_ro X (by first | rfl | (subst he_i; rfl) | simp (decide := true) [c3, bI]) dX5_bitsOf_7
set_option maxRecDepth 100000 in
set_option maxHeartbeats 4000000 in
theorem m_X5_bitsOf1 (l : Launch) (g : GG) (x : UInt64) (v : Nat) (q : Nat) (hv : v < 4503599627370496) (hq : q ≤ 60) (hd : x = dB v q) : MRO l g yX5_bitsOf cX5_bitsOf 7 (some .long) 0 [.double (x)] [] (some (.long (x.toInt64))) := by
  refine mk_ro (by decide +kernel) (Nat.le_of_ble_eq_true rfl) (fun p e s m below meth c X => ?_)
  refine w_dload_n X 0 rfl dX5_bitsOf_0 ?_
  refine w_dconst0 X dX5_bitsOf_1 ?_
  refine w_dcmp X dX5_bitsOf_2 ?_
  refine w_if_gt X 8 dX5_bitsOf_3 (by decide) (fun c3 => ?_) (fun c3 => by exfalso; exact c3 (by rw [hd]; exact dB_pos hv (by omega)))
  refine w_dload_n X 0 rfl dX5_bitsOf_8 ?_
  refine w_dstore_n X dX5_bitsOf_9 (by decide) ?_
  refine w_ldc2 X kk_X5_339 dX5_bitsOf_10 ?_
  refine w_lstore X dX5_bitsOf_13 (by decide) ?_
  refine w_iconst X (nI 1) dX5_bitsOf_15 (by decide +kernel) ?_
  refine w_istore X dX5_bitsOf_16 (by decide) ?_
  have e0_2 : x = dB v (q - 0) := by rw [hd]; rfl
  have e0_4 : (1023 : Int64) = lN (1023 - 0) := by decide +kernel
  refine w_all [3, 2, 1, 0] (rfl) (rfl) (by rw [← e0_2, ← e0_4]; rfl) (w_loop (st := []) (pc := 18) X (V := Nat) (fun (j : Nat) => q - j) (fun (j : Nat) => (j ≤ q)) (fun (j : Nat) => [(0, .double (x)), (2, .double (dB v (q - j))), (4, .long (lN (1023 - j))), (6, .int (nI (j + 1)))]) (fun (j : Nat) => []) (fun j hv18 ih18 => ?_) 0 (by omega))
  have hj := hv18
  try dsimp only at ih18 ⊢
  refine w_iload X 3 rfl dX5_bitsOf_18 ?_
  refine w_sipush X (nI 1023) dX5_bitsOf_20 (by decide +kernel) ?_
  refine w_nc_ge X (by omega) (by omega) 50 dX5_bitsOf_23 (by decide) (fun c23 => by exfalso; omega) (fun c23 => ?_)
  refine w_dload_n X 1 rfl dX5_bitsOf_26 ?_
  refine w_dconst1 X dX5_bitsOf_27 ?_
  refine w_dcmp X dX5_bitsOf_28 ?_
  refine w_if_ge X 50 dX5_bitsOf_29 (by decide) (fun c29 => ?_) (fun c29 => ?_)
  · have hz : j = q := by
      rcases Nat.lt_or_ge j q with h | h
      · rw [dB_lt1 hv (by omega) (by omega)] at c29; exact absurd c29 (by decide)
      · omega
    refine w_lload X 2 rfl dX5_bitsOf_50 ?_
    refine w_bipush X (nI 52) dX5_bitsOf_52 (by decide +kernel) ?_
    refine w_lshl X dX5_bitsOf_54 ?_
    refine w_dload_n X 1 rfl dX5_bitsOf_55 ?_
    refine w_dconst1 X dX5_bitsOf_56 ?_
    refine w_dsub X dX5_bitsOf_57 (by rw [show q - j = 0 by omega]; exact (frac_of hv).1) ?_
    refine w_ldc2d X kk_X5_343 dX5_bitsOf_58 ?_
    refine w_dmul X dX5_bitsOf_61 (by rw [show q - j = 0 by omega]; exact (frac_of hv).2.1) ?_
    refine w_d2l X dX5_bitsOf_62 ?_
    refine w_ladd X dX5_bitsOf_63 ?_
    exact w_lret_ro X (by rw [show q - j = 0 by omega, (frac_of hv).2.2, hz, bits_sum hq, hd]) dX5_bitsOf_64
  · have hz : j < q := by
      rcases Nat.lt_or_ge j q with h | h
      · exact h
      · rw [show q - j = 0 by omega] at c29; exact absurd (dB_ge1 hv) c29
    refine w_dload_n X 1 rfl dX5_bitsOf_32 ?_
    refine w_ldc2d X kk_X5_341 dX5_bitsOf_33 ?_
    refine w_dmul X dX5_bitsOf_36 (by rw [show q - j = (q - (j + 1)) + 1 by omega, dB_two hv (by omega)]; exact dB_nan hv) ?_
    refine w_dstore_n X dX5_bitsOf_37 (by decide) ?_
    refine w_lload X 2 rfl dX5_bitsOf_38 ?_
    refine w_lconst X 1 dX5_bitsOf_40 (by decide +kernel) ?_
    refine w_lsub X dX5_bitsOf_41 ?_
    refine w_lstore X dX5_bitsOf_42 (by decide) ?_
    refine w_iinc X (nI (j + 1 + 1)) 3 rfl (nI_1 _) dX5_bitsOf_44 (by decide) ?_
    refine w_goto X 18 dX5_bitsOf_47 (by decide) ?_
    have e1_2 : FP.dmul (dB v (q - j)) (4611686018427387904 : UInt64) = dB v (q - (j + 1)) := by rw [show q - j = (q - (j + 1)) + 1 by omega, dB_two hv (by omega)]
    have e1_4 : (lN (1023 - j)) - 1 = lN (1023 - (j + 1)) := by rw [show (1 : Int64) = lN 1 from rfl, lN_sub (by omega), show 1023 - j - 1 = 1023 - (j + 1) by omega]
    exact w_all [3, 2, 1, 0] (rfl) (rfl) (by rw [← e1_2, ← e1_4]; rfl) (ih18 (j + 1) (by omega) (by omega))
theorem m_X5_bitsOf (l : Launch) (g : GG) (x : UInt64) (hd : okD x) : MRO l g yX5_bitsOf cX5_bitsOf 7 (some .long) 0 [.double (x)] [] (some (.long (x.toInt64))) := by
  rcases hd with h | ⟨v, q, hv, hq, h⟩
  · have := m_X5_bitsOf0 l g x h
    subst h
    exact this
  · exact m_X5_bitsOf1 l g x v q hv hq h
def woL (σ : Nat → Nat → Int32) (j : Nat) (h : Int64) : Nat → Int64
  | 0 => 31 * h + (nI j).toInt64
  | w + 1 => 31 * woL σ j h w + (opC σ j w).toInt64
def woC (σ : Nat → Nat → Int32) (j : Nat) (h : Int64) : Int64 := 31 * (31 * woL σ j h 12 + (gvC σ (nI j) (nI 0)).toInt64) + (lostC σ (nI j)).toInt64
def waL (σ : Nat → Nat → Int32) (k : Nat) (h : Int64) : Nat → Int64
  | 0 => h
  | w + 1 => 31 * waL σ k h w + (apC σ k w).toInt64
def waC (σ : Nat → Nat → Int32) (k : Nat) (h : Int64) : Int64 := 31 * waL σ k h 8 + (rsC σ (nI k) (nI 1)).toInt64
def dg1 (σ η : Nat → Nat → Int32) : Nat → Int64
  | 0 => 2741
  | w + 1 => 31 * dg1 σ η w + (ctC σ η w).toInt64
def dg2 (σ : Nat → Nat → Int32) (h : Int64) : Nat → Int64
  | 0 => h
  | w + 1 => 31 * dg2 σ h w + (σ 11 w).toInt64
def dg3 (σ : Nat → Nat → Int32) (h : Int64) : Nat → Int64
  | 0 => h
  | j + 1 => if hasB σ (nI j) = true then woC σ j (dg3 σ h j) else dg3 σ h j
def dg4 (σ : Nat → Nat → Int32) (h : Int64) : Nat → Int64
  | 0 => h
  | k + 1 => waC σ k (dg4 σ h k)
def dgS (σ η : Nat → Nat → Int32) : Int64 := 31 * (31 * dg4 σ (dg3 σ (dg2 σ (dg1 σ η 11) 2) 24) 6 + (bsO σ 6).1.toInt64) + (shC σ).toInt64
def dgC (σ τ η : Nat → Nat → Int32) : Int64 := lcL τ 60 0 (31 * dgS σ η + (τ 1 0).toInt64)
set_option maxRecDepth 100000 in
set_option maxHeartbeats 4000000 in
theorem m_X5_withObject (l : Launch) (g : GG) (am : Nat → Nat) (ast : Nat → Nat) (art : Nat → Nat) (aliv : Nat → Nat) (asur : Nat → Nat) (alas : Nat → Nat) (atx : Nat → Nat) (ahi : Nat → Nat) (σ : Nat → Nat → Int32) (ζ : Nat → Nat → Nat → Int32) (h : Int64) (j : Nat) (hj : j < 24) : MME (U := (Nat → Nat → Nat → Int32)) l g yX5_withObject cX5_withObject 7 (some .long) 5 0 0 [.ref (am 0), .long (h), .int (nI j)] [maC g am (ast 0) (art 0) (alas 0) (atx 0) (ahi 0), stC g ast σ, rtC g art (aliv 0) (asur 0) (ζ 3), rcC g aliv (ζ 0), rcC g asur (ζ 1), rcC g alas (ζ 2)] (some (.long (woC σ j h))) (fun ζ' => [maC g am (ast 0) (art 0) (alas 0) (atx 0) (ahi 0), stC g ast σ, rtC g art (aliv 0) (asur 0) (ζ' 3), rcC g aliv (ζ' 0), rcC g asur (ζ' 1), rcC g alas (ζ' 2)]) := by
  refine mk_me (by decide +kernel) (Nat.le_of_ble_eq_true rfl) (fun p e s m below meth c A hA X => ?_)
  refine w_ldc2 X kk_X5_315 dX5_withObject_0 ?_
  refine w_lload_n X 1 rfl dX5_withObject_3 ?_
  refine w_lmul X dX5_withObject_4 ?_
  refine w_iload_n X 2 rfl dX5_withObject_5 ?_
  refine w_i2l X dX5_withObject_6 ?_
  refine w_ladd X dX5_withObject_7 ?_
  refine w_lstore X dX5_withObject_8 (by decide) ?_
  refine w_iconst X (nI 0) dX5_withObject_10 (by decide +kernel) ?_
  refine w_istore X dX5_withObject_11 (by decide) ?_
  have e0_4 : ((31 : Int64) * h) + ((nI (j)).toInt64) = woL σ j h 0 := by rfl
  refine w_all [2, 4, 1, 0] (rfl) (rfl) (by rw [← e0_4]; rfl) (w_loop (st := []) (pc := 13) X (V := Nat × (Nat → Nat → Nat → Int32)) (fun (v13 : Nat × (Nat → Nat → Nat → Int32)) => 12 - v13.1) (fun (v13 : Nat × (Nat → Nat → Nat → Int32)) => (v13.1 ≤ 12)) (fun (v13 : Nat × (Nat → Nat → Nat → Int32)) => [(0, .ref (am 0)), (3, .int (nI j)), (4, .long (woL σ j h v13.1)), (6, .int (nI v13.1))]) (fun (v13 : Nat × (Nat → Nat → Nat → Int32)) => [maC g am (ast 0) (art 0) (alas 0) (atx 0) (ahi 0), stC g ast σ, rtC g art (aliv 0) (asur 0) (v13.2 3), rcC g aliv (v13.2 0), rcC g asur (v13.2 1), rcC g alas (v13.2 2)]) (fun v13 hv13 ih13 => ?_) (0, ζ) (by omega))
  obtain ⟨i, y⟩ := v13
  have hi := hv13
  try dsimp only at hi ih13 ⊢
  refine w_iload X 3 rfl dX5_withObject_13 ?_
  refine w_bipush X (nI 12) dX5_withObject_15 (by decide +kernel) ?_
  refine w_nc_ge X (by omega) (by omega) 43 dX5_withObject_17 (by decide) (fun c17 => ?_) (fun c17 => ?_)
  · have he_i : i = 12 := by omega
    refine w_ldc2 X kk_X5_315 dX5_withObject_43 ?_
    refine w_lload X 2 rfl dX5_withObject_46 ?_
    refine w_lmul X dX5_withObject_48 ?_
    refine w_aload_n X 0 rfl dX5_withObject_49 ?_
    refine w_get X 0 0 rfl rfl rfl in_X5 1 (by decide) fk_X5_19 rfl dX5_withObject_50 ?_
    refine w_aload_n X 0 rfl dX5_withObject_53 ?_
    refine w_get X 0 0 rfl rfl rfl in_X5 0 (by decide) fk_X5_10 rfl dX5_withObject_54 ?_
    refine w_iload_n X 1 rfl dX5_withObject_57 ?_
    refine w_iconst X (nI 0) dX5_withObject_58 (by decide +kernel) ?_
    refine w_muV X hA (gr := [maC g am (ast 0) (art 0) (alas 0) (atx 0) (ahi 0), rcC g alas (y 2)]) (gs1 := [maC g am (ast 0) (art 0) (alas 0) (atx 0) (ahi 0), stC g ast σ, rtC g art (aliv 0) (asur 0) (y 3), rcC g aliv (rsL σ (y 0) (agI σ (nI (j))) (nI (0))), rcC g asur (rsS σ (y 0) (y 1) (agI σ (nI (j))) (nI (0))), rcC g alas (y 2)]) [2, 3, 4, 1] [0, 5] 2 0 (m_X2_addressIfGiven l g art (y 3) aliv (y 0) asur (y 1) ast σ (nI (j)) (nI (0))) cv_X2_addressIfGiven mk_X5_297 rfl rfl rfl (ng := 6) rfl (by decide) rfl rfl rfl rfl rfl rfl ⟨Nat.le_of_ble_eq_true rfl, Nat.le_of_ble_eq_true rfl⟩ (Nat.le_of_ble_eq_true rfl) ⟨Nat.le_of_ble_eq_true rfl, Nat.le_of_ble_eq_true rfl⟩ dX5_withObject_59 rfl ?_
    generalize hn1 : rsL σ (y 0) (agI σ (nI (j))) (nI (0)) = ρv1
    generalize hn2 : rsS σ (y 0) (y 1) (agI σ (nI (j))) (nI (0)) = ρv2
    rw [gvC_of]
    refine w_i2l X dX5_withObject_62 ?_
    refine w_ladd X dX5_withObject_63 ?_
    refine w_lstore X dX5_withObject_64 (by decide) ?_
    refine w_ldc2 X kk_X5_315 dX5_withObject_66 ?_
    refine w_lload X 0 rfl dX5_withObject_69 ?_
    refine w_lmul X dX5_withObject_71 ?_
    refine w_aload_n X 1 rfl dX5_withObject_72 ?_
    refine w_iload_n X 2 rfl dX5_withObject_73 ?_
    refine w_meV X hA (U := (Nat → Nat → Nat → Int32)) (gr := [rtC g art (aliv 0) (asur 0) (y 3), rcC g aliv ρv1, rcC g asur ρv2]) (gs1 := fun ζ1 => [maC g am (ast 0) (art 0) (alas 0) (atx 0) (ahi 0), stC g ast σ, rtC g art (aliv 0) (asur 0) (y 3), rcC g aliv ρv1, rcC g asur ρv2, rcC g alas (ζ1 2)]) [0, 1, 5] [2, 3, 4] 0 0 (m_X5_lostWith l g am ast art alas atx ahi σ (rw2 ζ 2 (y 2)) (nI (j))) cv_X5_lostWith mk_X5_300 rfl rfl rfl (ng := 6) rfl (by decide) (fun _ => rfl) (fun _ => rfl) (fun _ => rfl) rfl rfl rfl ⟨Nat.le_of_ble_eq_true rfl, Nat.le_of_ble_eq_true rfl⟩ (Nat.le_of_ble_eq_true rfl) ⟨Nat.le_of_ble_eq_true rfl, Nat.le_of_ble_eq_true rfl⟩ dX5_withObject_74 rfl (fun ζ1 => ?_)
    refine w_i2l X dX5_withObject_77 ?_
    refine w_ladd X dX5_withObject_78 ?_
    exact w_lret_me X (rw2 (rw2 (rw2 ζ1 0 ρv1) 1 ρv2) 3 (y 3)) (by rw [he_i]; rfl) (rfl) (Nat.le_of_ble_eq_true rfl) (Nat.le_of_ble_eq_true rfl) dX5_withObject_79
  · refine w_ldc2 X kk_X5_315 dX5_withObject_20 ?_
    refine w_lload X 2 rfl dX5_withObject_23 ?_
    refine w_lmul X dX5_withObject_25 ?_
    refine w_aload_n X 0 rfl dX5_withObject_26 ?_
    refine w_iload_n X 1 rfl dX5_withObject_27 ?_
    refine w_iload X 3 rfl dX5_withObject_28 ?_
    refine w_meV X hA (U := (Nat → Nat → Nat → Int32)) (gr := []) (gs1 := fun ζ2 => [maC g am (ast 0) (art 0) (alas 0) (atx 0) (ahi 0), stC g ast σ, rtC g art (aliv 0) (asur 0) (ζ2 3), rcC g aliv (ζ2 0), rcC g asur (ζ2 1), rcC g alas (ζ2 2)]) [0, 1, 2, 3, 4, 5] [] 0 0 (m_X5_objectProperty l g am ast art aliv asur alas atx ahi σ (rw2 (rw2 (rw2 (rw2 ζ 0 (y 0)) 1 (y 1)) 2 (y 2)) 3 (y 3)) j i (by omega) (by omega)) cv_X5_objectProperty mk_X5_215 rfl rfl rfl (ng := 6) rfl (by decide) (fun _ => rfl) (fun _ => rfl) (fun _ => rfl) rfl rfl rfl ⟨Nat.le_of_ble_eq_true rfl, Nat.le_of_ble_eq_true rfl⟩ (Nat.le_of_ble_eq_true rfl) ⟨Nat.le_of_ble_eq_true rfl, Nat.le_of_ble_eq_true rfl⟩ dX5_withObject_30 rfl (fun ζ2 => ?_)
    refine w_i2l X dX5_withObject_33 ?_
    refine w_ladd X dX5_withObject_34 ?_
    refine w_lstore X dX5_withObject_35 (by decide) ?_
    refine w_iinc X (nI (i + 1)) 3 rfl (nI_1 _) dX5_withObject_37 (by decide) ?_
    refine w_goto X 13 dX5_withObject_40 (by decide) ?_
    have e1_4 : ((31 : Int64) * (woL σ j h i)) + (((opC σ j i)).toInt64) = woL σ j h (i + 1) := by rfl
    exact w_all [2, 3, 1, 0] (rfl) (rfl) (by rw [← e1_4]; rfl) (ih13 (i + 1, ζ2) (by omega) (by omega))
set_option maxRecDepth 100000 in
set_option maxHeartbeats 4000000 in
theorem m_X5_withArena (l : Launch) (g : GG) (am : Nat → Nat) (ast : Nat → Nat) (art : Nat → Nat) (aliv : Nat → Nat) (asur : Nat → Nat) (alas : Nat → Nat) (atx : Nat → Nat) (ahi : Nat → Nat) (σ : Nat → Nat → Int32) (ζ : Nat → Nat → Nat → Int32) (h : Int64) (k : Nat) (hk : k < 6) : MME (U := (Nat → Nat → Nat → Int32)) l g yX5_withArena cX5_withArena 7 (some .long) 5 0 0 [.ref (am 0), .long (h), .int (nI k)] [maC g am (ast 0) (art 0) (alas 0) (atx 0) (ahi 0), stC g ast σ, rtC g art (aliv 0) (asur 0) (ζ 3), rcC g aliv (ζ 0), rcC g asur (ζ 1), rcC g alas (ζ 2)] (some (.long (waC σ k h))) (fun ζ' => [maC g am (ast 0) (art 0) (alas 0) (atx 0) (ahi 0), stC g ast σ, rtC g art (aliv 0) (asur 0) (ζ' 3), rcC g aliv (ζ' 0), rcC g asur (ζ' 1), rcC g alas (ζ' 2)]) := by
  refine mk_me (by decide +kernel) (Nat.le_of_ble_eq_true rfl) (fun p e s m below meth c A hA X => ?_)
  refine w_lload_n X 1 rfl dX5_withArena_0 ?_
  refine w_lstore X dX5_withArena_1 (by decide) ?_
  refine w_iconst X (nI 0) dX5_withArena_3 (by decide +kernel) ?_
  refine w_istore X dX5_withArena_4 (by decide) ?_
  have e0_4 : h = waL σ k h 0 := by rfl
  refine w_all [2, 4, 1, 0] (rfl) (rfl) (by rw [← e0_4]; rfl) (w_loop (st := []) (pc := 6) X (V := Nat × (Nat → Nat → Nat → Int32)) (fun (v6 : Nat × (Nat → Nat → Nat → Int32)) => 8 - v6.1) (fun (v6 : Nat × (Nat → Nat → Nat → Int32)) => (v6.1 ≤ 8)) (fun (v6 : Nat × (Nat → Nat → Nat → Int32)) => [(0, .ref (am 0)), (3, .int (nI k)), (4, .long (waL σ k h v6.1)), (6, .int (nI v6.1))]) (fun (v6 : Nat × (Nat → Nat → Nat → Int32)) => [maC g am (ast 0) (art 0) (alas 0) (atx 0) (ahi 0), stC g ast σ, rtC g art (aliv 0) (asur 0) (v6.2 3), rcC g aliv (v6.2 0), rcC g asur (v6.2 1), rcC g alas (v6.2 2)]) (fun v6 hv6 ih6 => ?_) (0, ζ) (by omega))
  obtain ⟨i, y⟩ := v6
  have hi := hv6
  try dsimp only at hi ih6 ⊢
  refine w_iload X 3 rfl dX5_withArena_6 ?_
  refine w_bipush X (nI 8) dX5_withArena_8 (by decide +kernel) ?_
  refine w_nc_ge X (by omega) (by omega) 36 dX5_withArena_10 (by decide) (fun c10 => ?_) (fun c10 => ?_)
  · have he_i : i = 8 := by omega
    refine w_ldc2 X kk_X5_315 dX5_withArena_36 ?_
    refine w_lload X 2 rfl dX5_withArena_39 ?_
    refine w_lmul X dX5_withArena_41 ?_
    refine w_aload_n X 0 rfl dX5_withArena_42 ?_
    refine w_get X 0 0 rfl rfl rfl in_X5 1 (by decide) fk_X5_19 rfl dX5_withArena_43 ?_
    refine w_aload_n X 0 rfl dX5_withArena_46 ?_
    refine w_get X 0 0 rfl rfl rfl in_X5 0 (by decide) fk_X5_10 rfl dX5_withArena_47 ?_
    refine w_iload_n X 1 rfl dX5_withArena_50 ?_
    refine w_iconst X (nI 1) dX5_withArena_51 (by decide +kernel) ?_
    refine w_muV X hA (gr := [maC g am (ast 0) (art 0) (alas 0) (atx 0) (ahi 0), rcC g alas (y 2)]) (gs1 := [maC g am (ast 0) (art 0) (alas 0) (atx 0) (ahi 0), stC g ast σ, rtC g art (aliv 0) (asur 0) (y 3), rcC g aliv (rsL σ (y 0) (nI (k)) (nI (1))), rcC g asur (rsS σ (y 0) (y 1) (nI (k)) (nI (1))), rcC g alas (y 2)]) [2, 3, 4, 1] [0, 5] 2 0 (m_X2_reason l g art (y 3) aliv (y 0) asur (y 1) ast σ (nI (k)) (nI (1))) cv_X2_reason mk_X5_124 rfl rfl rfl (ng := 6) rfl (by decide) rfl rfl rfl rfl rfl rfl ⟨Nat.le_of_ble_eq_true rfl, Nat.le_of_ble_eq_true rfl⟩ (Nat.le_of_ble_eq_true rfl) ⟨Nat.le_of_ble_eq_true rfl, Nat.le_of_ble_eq_true rfl⟩ dX5_withArena_52 rfl ?_
    generalize hn1 : rsL σ (y 0) (nI (k)) (nI (1)) = ρv1
    generalize hn2 : rsS σ (y 0) (y 1) (nI (k)) (nI (1)) = ρv2
    rw [rsC_of]
    refine w_i2l X dX5_withArena_55 ?_
    refine w_ladd X dX5_withArena_56 ?_
    exact w_lret_me X (rw2 (rw2 (rw2 (rw2 ζ 0 ρv1) 1 ρv2) 2 (y 2)) 3 (y 3)) (by rw [he_i]; rfl) (rfl) (Nat.le_of_ble_eq_true rfl) (Nat.le_of_ble_eq_true rfl) dX5_withArena_57
  · refine w_ldc2 X kk_X5_315 dX5_withArena_13 ?_
    refine w_lload X 2 rfl dX5_withArena_16 ?_
    refine w_lmul X dX5_withArena_18 ?_
    refine w_aload_n X 0 rfl dX5_withArena_19 ?_
    refine w_iload_n X 1 rfl dX5_withArena_20 ?_
    refine w_iload X 3 rfl dX5_withArena_21 ?_
    refine w_meV X hA (U := (Nat → Nat → Nat → Int32)) (gr := []) (gs1 := fun ζ1 => [maC g am (ast 0) (art 0) (alas 0) (atx 0) (ahi 0), stC g ast σ, rtC g art (aliv 0) (asur 0) (ζ1 3), rcC g aliv (ζ1 0), rcC g asur (ζ1 1), rcC g alas (ζ1 2)]) [0, 1, 2, 3, 4, 5] [] 0 0 (m_X5_arenaProperty l g am ast art aliv asur alas atx ahi σ (rw2 (rw2 (rw2 (rw2 ζ 0 (y 0)) 1 (y 1)) 2 (y 2)) 3 (y 3)) k i (by omega) (by omega)) cv_X5_arenaProperty mk_X5_239 rfl rfl rfl (ng := 6) rfl (by decide) (fun _ => rfl) (fun _ => rfl) (fun _ => rfl) rfl rfl rfl ⟨Nat.le_of_ble_eq_true rfl, Nat.le_of_ble_eq_true rfl⟩ (Nat.le_of_ble_eq_true rfl) ⟨Nat.le_of_ble_eq_true rfl, Nat.le_of_ble_eq_true rfl⟩ dX5_withArena_23 rfl (fun ζ1 => ?_)
    refine w_i2l X dX5_withArena_26 ?_
    refine w_ladd X dX5_withArena_27 ?_
    refine w_lstore X dX5_withArena_28 (by decide) ?_
    refine w_iinc X (nI (i + 1)) 3 rfl (nI_1 _) dX5_withArena_30 (by decide) ?_
    refine w_goto X 6 dX5_withArena_33 (by decide) ?_
    have e1_4 : ((31 : Int64) * (waL σ k h i)) + (((apC σ k i)).toInt64) = waL σ k h (i + 1) := by rfl
    exact w_all [2, 3, 1, 0] (rfl) (rfl) (by rw [← e1_4]; rfl) (ih6 (i + 1, ζ1) (by omega) (by omega))
set_option maxRecDepth 100000 in
set_option maxHeartbeats 4000000 in
theorem m_X5_digest (l : Launch) (g : GG) (am : Nat → Nat) (ast : Nat → Nat) (art : Nat → Nat) (aliv : Nat → Nat) (asur : Nat → Nat) (alas : Nat → Nat) (atx : Nat → Nat) (ahi : Nat → Nat) (had : Nat → Nat → Nat) (σ : Nat → Nat → Int32) (ζ : Nat → Nat → Nat → Int32) (τ : Nat → Nat → Int32) (η : Nat → Nat → Int32) (hN : 0 < mkL σ 6 → vf_n64 (FP.ddiv (FP.i2d (cellsL σ (trC σ (-1)) 24)) (FP.i2d (mkL σ 6)))) (hD : okD (shC σ)) : MME (U := (Nat → Nat → Nat → Int32)) l g yX5_digest cX5_digest 4 (some .long) 6 0 0 [.ref (am 0)] [maC g am (ast 0) (art 0) (alas 0) (atx 0) (ahi 0), stC g ast σ, rtC g art (aliv 0) (asur 0) (ζ 3), rcC g aliv (ζ 0), rcC g asur (ζ 1), rcC g alas (ζ 2), txC g atx τ, hiC g ahi (fun i => had i 0) η] (some (.long (dgC σ τ η))) (fun ζ' => [maC g am (ast 0) (art 0) (alas 0) (atx 0) (ahi 0), stC g ast σ, rtC g art (aliv 0) (asur 0) (ζ' 3), rcC g aliv (ζ' 0), rcC g asur (ζ' 1), rcC g alas (ζ' 2), txC g atx τ, hiC g ahi (fun i => had i 0) η]) := by
  refine mk_me (by decide +kernel) (Nat.le_of_ble_eq_true rfl) (fun p e s m below meth c A hA X => ?_)
  refine w_ldc2 X kk_X5_313 dX5_digest_0 ?_
  refine w_lstore_n X dX5_digest_3 (by decide) ?_
  refine w_iconst X (nI 0) dX5_digest_4 (by decide +kernel) ?_
  refine w_istore_n X dX5_digest_5 (by decide) ?_
  have e0_1 : (2741 : Int64) = dg1 σ η 0 := by rfl
  refine w_all [2, 1, 0] (rfl) (rfl) (by rw [← e0_1]; rfl) (w_loop (st := []) (pc := 6) X (V := Nat × (Nat → Nat → Nat → Int32)) (fun (v6 : Nat × (Nat → Nat → Nat → Int32)) => 11 - v6.1) (fun (v6 : Nat × (Nat → Nat → Nat → Int32)) => (v6.1 ≤ 11)) (fun (v6 : Nat × (Nat → Nat → Nat → Int32)) => [(0, .ref (am 0)), (1, .long (dg1 σ η v6.1)), (3, .int (nI v6.1))]) (fun (v6 : Nat × (Nat → Nat → Nat → Int32)) => [maC g am (ast 0) (art 0) (alas 0) (atx 0) (ahi 0), stC g ast σ, rtC g art (aliv 0) (asur 0) (v6.2 3), rcC g aliv (v6.2 0), rcC g asur (v6.2 1), rcC g alas (v6.2 2), txC g atx τ, hiC g ahi (fun i => had i 0) η]) (fun v6 hv6 ih6 => ?_) (0, ζ) (by omega))
  obtain ⟨i1, y6⟩ := v6
  have hi1 := hv6
  try dsimp only at hi1 ih6 ⊢
  refine w_iload_n X 2 rfl dX5_digest_6 ?_
  refine w_bipush X (nI 11) dX5_digest_7 (by decide +kernel) ?_
  refine w_nc_ge X (by omega) (by omega) 31 dX5_digest_9 (by decide) (fun c9 => ?_) (fun c9 => ?_)
  · have he_i1 : i1 = 11 := by omega
    refine w_iconst X (nI 0) dX5_digest_31 (by decide +kernel) ?_
    refine w_istore_n X dX5_digest_32 (by decide) ?_
    have e1_1 : dg1 σ η i1 = dg2 σ (dg1 σ η 11) 0 := by rw [he_i1]; rfl
    refine w_all [1, 2, 0] (rfl) (rfl) (by rw [← e1_1]; rfl) (w_loop (st := []) (pc := 33) X (V := Nat × (Nat → Nat → Nat → Int32)) (fun (v33 : Nat × (Nat → Nat → Nat → Int32)) => 2 - v33.1) (fun (v33 : Nat × (Nat → Nat → Nat → Int32)) => (v33.1 ≤ 2)) (fun (v33 : Nat × (Nat → Nat → Nat → Int32)) => [(0, .ref (am 0)), (1, .long (dg2 σ (dg1 σ η 11) v33.1)), (3, .int (nI v33.1))]) (fun (v33 : Nat × (Nat → Nat → Nat → Int32)) => [maC g am (ast 0) (art 0) (alas 0) (atx 0) (ahi 0), stC g ast σ, rtC g art (aliv 0) (asur 0) (v33.2 3), rcC g aliv (v33.2 0), rcC g asur (v33.2 1), rcC g alas (v33.2 2), txC g atx τ, hiC g ahi (fun i => had i 0) η]) (fun v33 hv33 ih33 => ?_) (0, y6) (by omega))
    obtain ⟨i2, y33⟩ := v33
    have hi2 := hv33
    try dsimp only at hi2 ih33 ⊢
    refine w_iload_n X 2 rfl dX5_digest_33 ?_
    refine w_iconst X (nI 2) dX5_digest_34 (by decide +kernel) ?_
    refine w_nc_ge X (by omega) (by omega) 61 dX5_digest_35 (by decide) (fun c35 => ?_) (fun c35 => ?_)
    · have he_i2 : i2 = 2 := by omega
      refine w_iconst X (nI 0) dX5_digest_61 (by decide +kernel) ?_
      refine w_istore_n X dX5_digest_62 (by decide) ?_
      have e2_1 : dg2 σ (dg1 σ η 11) i2 = dg3 σ (dg2 σ (dg1 σ η 11) 2) 0 := by rw [he_i2]; rfl
      refine w_all [1, 2, 0] (rfl) (rfl) (by rw [← e2_1]; rfl) (w_loop (st := []) (pc := 63) X (V := Nat × (Nat → Nat → Nat → Int32)) (fun (v63 : Nat × (Nat → Nat → Nat → Int32)) => 24 - v63.1) (fun (v63 : Nat × (Nat → Nat → Nat → Int32)) => (v63.1 ≤ 24)) (fun (v63 : Nat × (Nat → Nat → Nat → Int32)) => [(0, .ref (am 0)), (1, .long (dg3 σ (dg2 σ (dg1 σ η 11) 2) v63.1)), (3, .int (nI v63.1))]) (fun (v63 : Nat × (Nat → Nat → Nat → Int32)) => [maC g am (ast 0) (art 0) (alas 0) (atx 0) (ahi 0), stC g ast σ, rtC g art (aliv 0) (asur 0) (v63.2 3), rcC g aliv (v63.2 0), rcC g asur (v63.2 1), rcC g alas (v63.2 2), txC g atx τ, hiC g ahi (fun i => had i 0) η]) (fun v63 hv63 ih63 => ?_) (0, y33) (by omega))
      obtain ⟨i3, y63⟩ := v63
      have hi3 := hv63
      try dsimp only at hi3 ih63 ⊢
      refine w_iload_n X 2 rfl dX5_digest_63 ?_
      refine w_bipush X (nI 24) dX5_digest_64 (by decide +kernel) ?_
      refine w_nc_ge X (by omega) (by omega) 93 dX5_digest_66 (by decide) (fun c66 => ?_) (fun c66 => ?_)
      · have he_i3 : i3 = 24 := by omega
        refine w_iconst X (nI 0) dX5_digest_93 (by decide +kernel) ?_
        refine w_istore_n X dX5_digest_94 (by decide) ?_
        have e3_1 : dg3 σ (dg2 σ (dg1 σ η 11) 2) i3 = dg4 σ (dg3 σ (dg2 σ (dg1 σ η 11) 2) 24) 0 := by rw [he_i3]; rfl
        refine w_all [1, 2, 0] (rfl) (rfl) (by rw [← e3_1]; rfl) (w_loop (st := []) (pc := 95) X (V := Nat × (Nat → Nat → Nat → Int32)) (fun (v95 : Nat × (Nat → Nat → Nat → Int32)) => 6 - v95.1) (fun (v95 : Nat × (Nat → Nat → Nat → Int32)) => (v95.1 ≤ 6)) (fun (v95 : Nat × (Nat → Nat → Nat → Int32)) => [(0, .ref (am 0)), (1, .long (dg4 σ (dg3 σ (dg2 σ (dg1 σ η 11) 2) 24) v95.1)), (3, .int (nI v95.1))]) (fun (v95 : Nat × (Nat → Nat → Nat → Int32)) => [maC g am (ast 0) (art 0) (alas 0) (atx 0) (ahi 0), stC g ast σ, rtC g art (aliv 0) (asur 0) (v95.2 3), rcC g aliv (v95.2 0), rcC g asur (v95.2 1), rcC g alas (v95.2 2), txC g atx τ, hiC g ahi (fun i => had i 0) η]) (fun v95 hv95 ih95 => ?_) (0, y63) (by omega))
        obtain ⟨i4, y95⟩ := v95
        have hi4 := hv95
        try dsimp only at hi4 ih95 ⊢
        refine w_iload_n X 2 rfl dX5_digest_95 ?_
        refine w_bipush X (nI 6) dX5_digest_96 (by decide +kernel) ?_
        refine w_nc_ge X (by omega) (by omega) 114 dX5_digest_98 (by decide) (fun c98 => ?_) (fun c98 => ?_)
        · have he_i4 : i4 = 6 := by omega
          refine w_ldc2 X kk_X5_315 dX5_digest_114 ?_
          refine w_lload_n X 1 rfl dX5_digest_117 ?_
          refine w_lmul X dX5_digest_118 ?_
          refine w_aload_n X 0 rfl dX5_digest_119 ?_
          refine w_meV X hA (U := (Nat → Nat → Nat → Int32)) (gr := [rcC g alas (y95 2), txC g atx τ, hiC g ahi (fun i => had i 0) η]) (gs1 := fun ζ1 => [maC g am (ast 0) (art 0) (alas 0) (atx 0) (ahi 0), stC g ast σ, rtC g art (aliv 0) (asur 0) (ζ1 3), rcC g aliv (ζ1 0), rcC g asur (ζ1 1), rcC g alas (y95 2), txC g atx τ, hiC g ahi (fun i => had i 0) η]) [0, 1, 2, 3, 4] [5, 6, 7] 0 0 (m_X5_best l g am ast art aliv asur alas atx ahi σ (rw2 (rw2 (rw2 ζ 0 (y95 0)) 1 (y95 1)) 3 (y95 3))) cv_X5_best mk_X5_324 rfl rfl rfl (ng := 8) rfl (by decide) (fun _ => rfl) (fun _ => rfl) (fun _ => rfl) rfl rfl rfl ⟨Nat.le_of_ble_eq_true rfl, Nat.le_of_ble_eq_true rfl⟩ (Nat.le_of_ble_eq_true rfl) ⟨Nat.le_of_ble_eq_true rfl, Nat.le_of_ble_eq_true rfl⟩ dX5_digest_120 rfl (fun ζ1 => ?_)
          refine w_i2l X dX5_digest_123 ?_
          refine w_ladd X dX5_digest_124 ?_
          refine w_lstore_n X dX5_digest_125 (by decide) ?_
          refine w_ldc2 X kk_X5_315 dX5_digest_126 ?_
          refine w_lload_n X 0 rfl dX5_digest_129 ?_
          refine w_lmul X dX5_digest_130 ?_
          refine w_aload_n X 1 rfl dX5_digest_131 ?_
          refine w_meV X hA (U := (Nat → Nat → Nat → Int32)) (gr := [rtC g art (aliv 0) (asur 0) (ζ1 3), rcC g aliv (ζ1 0), rcC g asur (ζ1 1), txC g atx τ, hiC g ahi (fun i => had i 0) η]) (gs1 := fun ζ2 => [maC g am (ast 0) (art 0) (alas 0) (atx 0) (ahi 0), stC g ast σ, rtC g art (aliv 0) (asur 0) (ζ1 3), rcC g aliv (ζ1 0), rcC g asur (ζ1 1), rcC g alas (ζ2 2), txC g atx τ, hiC g ahi (fun i => had i 0) η]) [0, 1, 5] [2, 3, 4, 6, 7] 0 0 (m_X5_livingShare l g am ast art alas atx ahi σ (rw2 ζ1 2 (y95 2)) (hN)) cv_X5_livingShare mk_X5_327 rfl rfl rfl (ng := 8) rfl (by decide) (fun _ => rfl) (fun _ => rfl) (fun _ => rfl) rfl rfl rfl ⟨Nat.le_of_ble_eq_true rfl, Nat.le_of_ble_eq_true rfl⟩ (Nat.le_of_ble_eq_true rfl) ⟨Nat.le_of_ble_eq_true rfl, Nat.le_of_ble_eq_true rfl⟩ dX5_digest_132 rfl (fun ζ2 => ?_)
          refine w_roS X [] (m_X5_bitsOf l g (shC σ) (hD)) cs_X5_bitsOf mk_X5_331 rfl rfl ⟨Nat.le_of_ble_eq_true rfl, Nat.le_of_ble_eq_true rfl⟩ (Nat.le_of_ble_eq_true rfl) ⟨Nat.le_of_ble_eq_true rfl, Nat.le_of_ble_eq_true rfl⟩ dX5_digest_135 rfl ?_
          refine w_ladd X dX5_digest_138 ?_
          refine w_lstore_n X dX5_digest_139 (by decide) ?_
          refine w_aload_n X 1 rfl dX5_digest_140 ?_
          refine w_get X 0 0 rfl rfl rfl in_X5 3 (by decide) fk_X5_33 rfl dX5_digest_141 ?_
          refine w_ldc2 X kk_X5_315 dX5_digest_144 ?_
          refine w_lload_n X 0 rfl dX5_digest_147 ?_
          refine w_lmul X dX5_digest_148 ?_
          refine w_aload_n X 1 rfl dX5_digest_149 ?_
          refine w_get X 0 0 rfl rfl rfl in_X5 3 (by decide) fk_X5_33 rfl dX5_digest_150 ?_
          refine w_get X 6 0 rfl rfl rfl in_X4 1 (by decide) fk_X5_167 rfl dX5_digest_153 ?_
          refine w_i2l X dX5_digest_156 ?_
          refine w_ladd X dX5_digest_157 ?_
          refine w_roV X [6] 6 0 (m_X4_withCodes l g atx τ (((31 : Int64) * (((31 : Int64) * (((31 : Int64) * (dg4 σ (dg3 σ (dg2 σ (dg1 σ η 11) 2) 24) i4)) + ((((bsO σ 6).1)).toInt64))) + ((shC σ).toInt64))) + (((τ 1 0)).toInt64))) cv_X4_withCodes mk_X5_335 rfl rfl rfl rfl rfl ⟨Nat.le_of_ble_eq_true rfl, Nat.le_of_ble_eq_true rfl⟩ (Nat.le_of_ble_eq_true rfl) ⟨Nat.le_of_ble_eq_true rfl, Nat.le_of_ble_eq_true rfl⟩ dX5_digest_158 rfl ?_
          exact w_lret_me X (rw2 ζ1 2 (ζ2 2)) (by rw [he_i4]; rfl) (rfl) (Nat.le_of_ble_eq_true rfl) (Nat.le_of_ble_eq_true rfl) dX5_digest_161
        · refine w_aload_n X 0 rfl dX5_digest_101 ?_
          refine w_lload_n X 1 rfl dX5_digest_102 ?_
          refine w_iload_n X 2 rfl dX5_digest_103 ?_
          refine w_meV X hA (U := (Nat → Nat → Nat → Int32)) (gr := [txC g atx τ, hiC g ahi (fun i => had i 0) η]) (gs1 := fun ζ3 => [maC g am (ast 0) (art 0) (alas 0) (atx 0) (ahi 0), stC g ast σ, rtC g art (aliv 0) (asur 0) (ζ3 3), rcC g aliv (ζ3 0), rcC g asur (ζ3 1), rcC g alas (ζ3 2), txC g atx τ, hiC g ahi (fun i => had i 0) η]) [0, 1, 2, 3, 4, 5] [6, 7] 0 0 (m_X5_withArena l g am ast art aliv asur alas atx ahi σ (rw2 (rw2 (rw2 (rw2 ζ 0 (y95 0)) 1 (y95 1)) 2 (y95 2)) 3 (y95 3)) (dg4 σ (dg3 σ (dg2 σ (dg1 σ η 11) 2) 24) i4) i4 (by omega)) cv_X5_withArena mk_X5_321 rfl rfl rfl (ng := 8) rfl (by decide) (fun _ => rfl) (fun _ => rfl) (fun _ => rfl) rfl rfl rfl ⟨Nat.le_of_ble_eq_true rfl, Nat.le_of_ble_eq_true rfl⟩ (Nat.le_of_ble_eq_true rfl) ⟨Nat.le_of_ble_eq_true rfl, Nat.le_of_ble_eq_true rfl⟩ dX5_digest_104 rfl (fun ζ3 => ?_)
          refine w_lstore_n X dX5_digest_107 (by decide) ?_
          refine w_iinc X (nI (i4 + 1)) 2 rfl (nI_1 _) dX5_digest_108 (by decide) ?_
          refine w_goto X 95 dX5_digest_111 (by decide) ?_
          have e4_1 : waC σ i4 (dg4 σ (dg3 σ (dg2 σ (dg1 σ η 11) 2) 24) i4) = dg4 σ (dg3 σ (dg2 σ (dg1 σ η 11) 2) 24) (i4 + 1) := by rfl
          exact w_all [2, 1, 0] (rfl) (rfl) (by rw [← e4_1]; rfl) (ih95 (i4 + 1, ζ3) (by omega) (by omega))
      · refine w_aload_n X 0 rfl dX5_digest_69 ?_
        refine w_get X 0 0 rfl rfl rfl in_X5 0 (by decide) fk_X5_10 rfl dX5_digest_70 ?_
        refine w_iload_n X 2 rfl dX5_digest_73 ?_
        refine w_roV X [1] 1 0 (m_X3_has l g ast σ (nI (i3))) cv_X3_has mk_X5_198 rfl rfl rfl rfl rfl ⟨Nat.le_of_ble_eq_true rfl, Nat.le_of_ble_eq_true rfl⟩ (Nat.le_of_ble_eq_true rfl) ⟨Nat.le_of_ble_eq_true rfl, Nat.le_of_ble_eq_true rfl⟩ dX5_digest_74 rfl ?_
        refine w_bf_eq X 87 dX5_digest_77 (by decide) (fun c77 => ?_) (fun c77 => ?_)
        · refine w_iinc X (nI (i3 + 1)) 2 rfl (nI_1 _) dX5_digest_87 (by decide) ?_
          refine w_goto X 63 dX5_digest_90 (by decide) ?_
          have e5_1 : dg3 σ (dg2 σ (dg1 σ η 11) 2) i3 = dg3 σ (dg2 σ (dg1 σ η 11) 2) (i3 + 1) := by simp [dg3, c66, c77]
          exact w_all [1, 2, 0] (rfl) (rfl) (by rw [← e5_1]; rfl) (ih63 (i3 + 1, rw2 (rw2 (rw2 (rw2 ζ 0 (y63 0)) 1 (y63 1)) 2 (y63 2)) 3 (y63 3)) (by omega) (by omega))
        · refine w_aload_n X 0 rfl dX5_digest_80 ?_
          refine w_lload_n X 1 rfl dX5_digest_81 ?_
          refine w_iload_n X 2 rfl dX5_digest_82 ?_
          refine w_meV X hA (U := (Nat → Nat → Nat → Int32)) (gr := [txC g atx τ, hiC g ahi (fun i => had i 0) η]) (gs1 := fun ζ4 => [maC g am (ast 0) (art 0) (alas 0) (atx 0) (ahi 0), stC g ast σ, rtC g art (aliv 0) (asur 0) (ζ4 3), rcC g aliv (ζ4 0), rcC g asur (ζ4 1), rcC g alas (ζ4 2), txC g atx τ, hiC g ahi (fun i => had i 0) η]) [0, 1, 2, 3, 4, 5] [6, 7] 0 0 (m_X5_withObject l g am ast art aliv asur alas atx ahi σ (rw2 (rw2 (rw2 (rw2 ζ 0 (y63 0)) 1 (y63 1)) 2 (y63 2)) 3 (y63 3)) (dg3 σ (dg2 σ (dg1 σ η 11) 2) i3) i3 (by omega)) cv_X5_withObject mk_X5_317 rfl rfl rfl (ng := 8) rfl (by decide) (fun _ => rfl) (fun _ => rfl) (fun _ => rfl) rfl rfl rfl ⟨Nat.le_of_ble_eq_true rfl, Nat.le_of_ble_eq_true rfl⟩ (Nat.le_of_ble_eq_true rfl) ⟨Nat.le_of_ble_eq_true rfl, Nat.le_of_ble_eq_true rfl⟩ dX5_digest_83 rfl (fun ζ4 => ?_)
          refine w_lstore_n X dX5_digest_86 (by decide) ?_
          refine w_iinc X (nI (i3 + 1)) 2 rfl (nI_1 _) dX5_digest_87 (by decide) ?_
          refine w_goto X 63 dX5_digest_90 (by decide) ?_
          have e6_1 : woC σ i3 (dg3 σ (dg2 σ (dg1 σ η 11) 2) i3) = dg3 σ (dg2 σ (dg1 σ η 11) 2) (i3 + 1) := by simp [dg3, c66, c77]
          exact w_all [2, 1, 0] (rfl) (rfl) (by rw [← e6_1]; rfl) (ih63 (i3 + 1, ζ4) (by omega) (by omega))
    · refine w_ldc2 X kk_X5_315 dX5_digest_38 ?_
      refine w_lload_n X 1 rfl dX5_digest_41 ?_
      refine w_lmul X dX5_digest_42 ?_
      refine w_aload_n X 0 rfl dX5_digest_43 ?_
      refine w_get X 0 0 rfl rfl rfl in_X5 0 (by decide) fk_X5_10 rfl dX5_digest_44 ?_
      refine w_get X 1 0 rfl rfl rfl in_X3 11 (by decide) fk_X5_154 rfl dX5_digest_47 ?_
      refine w_iload_n X 2 rfl dX5_digest_50 ?_
      refine w_iald_n X 1 12 0 rfl rfl rfl (by omega) (by decide) dX5_digest_51 ?_
      refine w_i2l X dX5_digest_52 ?_
      refine w_ladd X dX5_digest_53 ?_
      refine w_lstore_n X dX5_digest_54 (by decide) ?_
      refine w_iinc X (nI (i2 + 1)) 2 rfl (nI_1 _) dX5_digest_55 (by decide) ?_
      refine w_goto X 33 dX5_digest_58 (by decide) ?_
      have e7_1 : ((31 : Int64) * (dg2 σ (dg1 σ η 11) i2)) + (((σ 11 i2)).toInt64) = dg2 σ (dg1 σ η 11) (i2 + 1) := by rfl
      exact w_all [2, 1, 0] (rfl) (rfl) (by rw [← e7_1]; rfl) (ih33 (i2 + 1, rw2 (rw2 (rw2 (rw2 ζ 0 (y33 0)) 1 (y33 1)) 2 (y33 2)) 3 (y33 3)) (by omega) (by omega))
  · refine w_ldc2 X kk_X5_315 dX5_digest_12 ?_
    refine w_lload_n X 1 rfl dX5_digest_15 ?_
    refine w_lmul X dX5_digest_16 ?_
    refine w_aload_n X 0 rfl dX5_digest_17 ?_
    refine w_iload_n X 2 rfl dX5_digest_18 ?_
    refine w_meV X hA (U := (Nat → Nat → Nat → Int32)) (gr := [rtC g art (aliv 0) (asur 0) (y6 3), rcC g aliv (y6 0), rcC g asur (y6 1), txC g atx τ]) (gs1 := fun ζ5 => [maC g am (ast 0) (art 0) (alas 0) (atx 0) (ahi 0), stC g ast σ, rtC g art (aliv 0) (asur 0) (y6 3), rcC g aliv (y6 0), rcC g asur (y6 1), rcC g alas (ζ5 2), txC g atx τ, hiC g ahi (fun i => had i 0) η]) [0, 1, 5, 7] [2, 3, 4, 6] 0 0 (m_X5_number l g am ast art alas atx ahi had σ (rw2 ζ 2 (y6 2)) η i1 (by omega)) cv_X5_number mk_X5_270 rfl rfl rfl (ng := 8) rfl (by decide) (fun _ => rfl) (fun _ => rfl) (fun _ => rfl) rfl rfl rfl ⟨Nat.le_of_ble_eq_true rfl, Nat.le_of_ble_eq_true rfl⟩ (Nat.le_of_ble_eq_true rfl) ⟨Nat.le_of_ble_eq_true rfl, Nat.le_of_ble_eq_true rfl⟩ dX5_digest_19 rfl (fun ζ5 => ?_)
    refine w_i2l X dX5_digest_22 ?_
    refine w_ladd X dX5_digest_23 ?_
    refine w_lstore_n X dX5_digest_24 (by decide) ?_
    refine w_iinc X (nI (i1 + 1)) 2 rfl (nI_1 _) dX5_digest_25 (by decide) ?_
    refine w_goto X 6 dX5_digest_28 (by decide) ?_
    have e8_1 : ((31 : Int64) * (dg1 σ η i1)) + (((ctC σ η i1)).toInt64) = dg1 σ η (i1 + 1) := by rfl
    exact w_all [2, 1, 0] (rfl) (rfl) (by rw [← e8_1]; rfl) (ih6 (i1 + 1, rw2 (rw2 (rw2 ζ5 0 (y6 0)) 1 (y6 1)) 3 (y6 3)) (by omega) (by omega))
set_option maxRecDepth 100000 in
set_option maxHeartbeats 4000000 in
theorem m_X5_clearBuffer (l : Launch) (g : GG) (am : Nat → Nat) (ast : Nat → Nat) (art : Nat → Nat) (alas : Nat → Nat) (atx : Nat → Nat) (ahi : Nat → Nat) (τ : Nat → Nat → Int32) : MMU l g yX5_clearBuffer cX5_clearBuffer 2 (some .int) 1 0 0 [.ref (am 0)] [maC g am (ast 0) (art 0) (alas 0) (atx 0) (ahi 0), txC g atx τ] (some (.int (τ 1 0))) [maC g am (ast 0) (art 0) (alas 0) (atx 0) (ahi 0), txC g atx (emptyT τ)] := by
  refine mk_mu (by decide +kernel) (Nat.le_of_ble_eq_true rfl) (fun p e s m below meth c A hA X => ?_)
  refine w_aload_n X 0 rfl dX5_clearBuffer_0 ?_
  refine w_get X 0 0 rfl rfl rfl in_X5 3 (by decide) fk_X5_33 rfl dX5_clearBuffer_1 ?_
  refine w_get X 1 0 rfl rfl rfl in_X4 1 (by decide) fk_X5_167 rfl dX5_clearBuffer_4 ?_
  refine w_istore_n X dX5_clearBuffer_7 (by decide) ?_
  refine w_aload_n X 1 rfl dX5_clearBuffer_8 ?_
  refine w_get X 0 0 rfl rfl rfl in_X5 3 (by decide) fk_X5_33 rfl dX5_clearBuffer_9 ?_
  refine w_muV X hA (gr := [maC g am (ast 0) (art 0) (alas 0) (atx 0) (ahi 0)]) (gs1 := [maC g am (ast 0) (art 0) (alas 0) (atx 0) (ahi 0), txC g atx (emptyT τ)]) [1] [0] 1 0 (m_X4_empty l g atx τ) cv_X4_empty mk_X5_170 rfl rfl rfl (ng := 2) rfl (by decide) rfl rfl rfl rfl rfl rfl ⟨Nat.le_of_ble_eq_true rfl, Nat.le_of_ble_eq_true rfl⟩ (Nat.le_of_ble_eq_true rfl) ⟨Nat.le_of_ble_eq_true rfl, Nat.le_of_ble_eq_true rfl⟩ dX5_clearBuffer_12 rfl ?_
  generalize hn1 : emptyT τ = τv1
  refine w_iload_n X 0 rfl dX5_clearBuffer_15 ?_
  exact w_iret_mu X (by first | rfl | (subst he_i; rfl) | simp (decide := true) [bI]) (rfl) (Nat.le_of_ble_eq_true rfl) (Nat.le_of_ble_eq_true rfl) dX5_clearBuffer_16
set_option maxRecDepth 100000 in
set_option maxHeartbeats 4000000 in
theorem m_X5_firstError (l : Launch) (g : GG) (am : Nat → Nat) (ast : Nat → Nat) (art : Nat → Nat) (alas : Nat → Nat) (atx : Nat → Nat) (ahi : Nat → Nat) (τ : Nat → Nat → Int32) : MRO l g yX5_firstError cX5_firstError 1 (some .int) 4 [.ref (am 0)] [maC g am (ast 0) (art 0) (alas 0) (atx 0) (ahi 0), txC g atx τ] (some (.int (errL τ 60 0 (nI 0)))) := by
  refine mk_ro (by decide +kernel) (Nat.le_of_ble_eq_true rfl) (fun p e s m below meth c X => ?_)
  refine w_aload_n X 0 rfl dX5_firstError_0 ?_
  refine w_get X 0 0 rfl rfl rfl in_X5 3 (by decide) fk_X5_33 rfl dX5_firstError_1 ?_
  refine w_roV X [1] 1 0 (m_X4_errorPlace l g atx τ) cv_X4_errorPlace mk_X5_173 rfl rfl rfl rfl rfl ⟨Nat.le_of_ble_eq_true rfl, Nat.le_of_ble_eq_true rfl⟩ (Nat.le_of_ble_eq_true rfl) ⟨Nat.le_of_ble_eq_true rfl, Nat.le_of_ble_eq_true rfl⟩ dX5_firstError_4 rfl ?_
  exact w_iret_ro X (by first | rfl | (subst he_i; rfl) | simp (decide := true) [bI]) dX5_firstError_7
