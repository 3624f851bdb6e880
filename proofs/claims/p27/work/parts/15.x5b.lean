/-! MarkArenas: best, livingShare -/
theorem rs_dead {σ ρl ρs : Nat → Nat → Int32} {a b : Int32} (h : rsC σ a b = 0) : deadI σ (rsS σ ρl ρs a b) a = deadI σ (suC σ a) a := by
  rw [rsS, rsN_of (ρl := ρ0) (ρs := ρ0) h, if_neg Bool.false_ne_true, su_dead]
set_option maxRecDepth 100000 in
set_option maxHeartbeats 4000000 in
theorem m_X5_best (l : Launch) (g : GG) (am : Nat → Nat) (ast : Nat → Nat) (art : Nat → Nat) (aliv : Nat → Nat) (asur : Nat → Nat) (alas : Nat → Nat) (atx : Nat → Nat) (ahi : Nat → Nat) (σ : Nat → Nat → Int32) (ζ : Nat → Nat → Nat → Int32) : MME (U := (Nat → Nat → Nat → Int32)) l g yX5_best cX5_best 6 (some .int) 4 0 0 [.ref (am 0)] [maC g am (ast 0) (art 0) (alas 0) (atx 0) (ahi 0), stC g ast σ, rtC g art (aliv 0) (asur 0) (ζ 3), rcC g aliv (ζ 0), rcC g asur (ζ 1)] (some (.int ((bsO σ 6).1))) (fun ζ' => [maC g am (ast 0) (art 0) (alas 0) (atx 0) (ahi 0), stC g ast σ, rtC g art (aliv 0) (asur 0) (ζ' 3), rcC g aliv (ζ' 0), rcC g asur (ζ' 1)]) := by
  refine mk_me (by decide +kernel) (Nat.le_of_ble_eq_true rfl) (fun p e s m below meth c A hA X => ?_)
  refine w_iconst X (-1) dX5_best_0 (by decide +kernel) ?_
  refine w_istore_n X dX5_best_1 (by decide) ?_
  refine w_iconst X (-1) dX5_best_2 (by decide +kernel) ?_
  refine w_istore_n X dX5_best_3 (by decide) ?_
  refine w_iconst X (nI 0) dX5_best_4 (by decide +kernel) ?_
  refine w_istore_n X dX5_best_5 (by decide) ?_
  have e0_1 : (-1) = ((bsO σ 0).1) := by rfl
  have e0_2 : (-1) = ((bsO σ 0).2) := by rfl
  refine w_all [3, 2, 1, 0] (rfl) (rfl) (by rw [← e0_1, ← e0_2]; rfl) (w_loop (st := []) (pc := 6) X (V := Nat × (Nat → Nat → Nat → Int32)) (fun (v6 : Nat × (Nat → Nat → Nat → Int32)) => 6 - v6.1) (fun (v6 : Nat × (Nat → Nat → Nat → Int32)) => (v6.1 ≤ 6)) (fun (v6 : Nat × (Nat → Nat → Nat → Int32)) => [(0, .ref (am 0)), (1, .int ((bsO σ v6.1).1)), (2, .int ((bsO σ v6.1).2)), (3, .int (nI v6.1))]) (fun (v6 : Nat × (Nat → Nat → Nat → Int32)) => [maC g am (ast 0) (art 0) (alas 0) (atx 0) (ahi 0), stC g ast σ, rtC g art (aliv 0) (asur 0) (v6.2 3), rcC g aliv (v6.2 0), rcC g asur (v6.2 1)]) (fun v6 hv6 ih6 => ?_) (0, ζ) (by omega))
  obtain ⟨a, z⟩ := v6
  have ha := hv6
  try dsimp only at ha ih6 ⊢
  refine w_iload_n X 3 rfl dX5_best_6 ?_
  refine w_bipush X (nI 6) dX5_best_7 (by decide +kernel) ?_
  refine w_nc_ge X (by omega) (by omega) 90 dX5_best_9 (by decide) (fun c9 => ?_) (fun c9 => ?_)
  · have he_a : a = 6 := by omega
    refine w_iload_n X 1 rfl dX5_best_90 ?_
    exact w_iret_me X (rw2 (rw2 (rw2 ζ 0 (z 0)) 1 (z 1)) 3 (z 3)) (by rw [he_a]) (rfl) (Nat.le_of_ble_eq_true rfl) (Nat.le_of_ble_eq_true rfl) dX5_best_91
  · refine w_iconst X (nI 0) dX5_best_12 (by decide +kernel) ?_
    refine w_istore X dX5_best_13 (by decide) ?_
    have e1_1 : ((bsO σ a).1) = ((bsI σ a (bsO σ a) 0).1) := by rfl
    have e1_2 : ((bsO σ a).2) = ((bsI σ a (bsO σ a) 0).2) := by rfl
    refine w_all [1, 2, 3, 4, 0] (rfl) (rfl) (by rw [← e1_1, ← e1_2]; rfl) (w_loop (st := []) (pc := 15) X (V := Nat × (Nat → Nat → Nat → Int32)) (fun (v15 : Nat × (Nat → Nat → Nat → Int32)) => 6 - v15.1) (fun (v15 : Nat × (Nat → Nat → Nat → Int32)) => (v15.1 ≤ 6)) (fun (v15 : Nat × (Nat → Nat → Nat → Int32)) => [(0, .ref (am 0)), (1, .int ((bsI σ a (bsO σ a) v15.1).1)), (2, .int ((bsI σ a (bsO σ a) v15.1).2)), (3, .int (nI a)), (4, .int (nI v15.1))]) (fun (v15 : Nat × (Nat → Nat → Nat → Int32)) => [maC g am (ast 0) (art 0) (alas 0) (atx 0) (ahi 0), stC g ast σ, rtC g art (aliv 0) (asur 0) (v15.2 3), rcC g aliv (v15.2 0), rcC g asur (v15.2 1)]) (fun v15 hv15 ih15 => ?_) (0, z) (by omega))
    obtain ⟨i, y⟩ := v15
    have hi := hv15
    try dsimp only at hi ih15 ⊢
    refine w_iload X 4 rfl dX5_best_15 ?_
    refine w_bipush X (nI 6) dX5_best_17 (by decide +kernel) ?_
    refine w_nc_ge X (by omega) (by omega) 84 dX5_best_19 (by decide) (fun c19 => ?_) (fun c19 => ?_)
    · have he_i : i = 6 := by omega
      refine w_iinc X (nI (a + 1)) 3 rfl (nI_1 _) dX5_best_84 (by decide) ?_
      refine w_goto X 6 dX5_best_87 (by decide) ?_
      have e2_1 : ((bsI σ a (bsO σ a) i).1) = ((bsO σ (a + 1)).1) := by rw [bsO, ← he_i]
      have e2_2 : ((bsI σ a (bsO σ a) i).2) = ((bsO σ (a + 1)).2) := by rw [bsO, ← he_i]
      exact w_all [1, 2, 3, 0] (rfl) (rfl) (by rw [← e2_1, ← e2_2]; rfl) (ih6 (a + 1, rw2 (rw2 (rw2 ζ 0 (y 0)) 1 (y 1)) 3 (y 3)) (by omega) (by omega))
    · refine w_aload_n X 0 rfl dX5_best_22 ?_
      refine w_get X 0 0 rfl rfl rfl in_X5 1 (by decide) fk_X5_19 rfl dX5_best_23 ?_
      refine w_aload_n X 0 rfl dX5_best_26 ?_
      refine w_get X 0 0 rfl rfl rfl in_X5 0 (by decide) fk_X5_10 rfl dX5_best_27 ?_
      refine w_iload_n X 3 rfl dX5_best_30 ?_
      refine w_iload X 4 rfl dX5_best_31 ?_
      refine w_muV X hA (gr := [maC g am (ast 0) (art 0) (alas 0) (atx 0) (ahi 0)]) (gs1 := [maC g am (ast 0) (art 0) (alas 0) (atx 0) (ahi 0), stC g ast σ, rtC g art (aliv 0) (asur 0) (y 3), rcC g aliv (rsL σ (y 0) (nI (a)) (nI (i))), rcC g asur (rsS σ (y 0) (y 1) (nI (a)) (nI (i)))]) [2, 3, 4, 1] [0] 2 0 (m_X2_reason l g art (y 3) aliv (y 0) asur (y 1) ast σ (nI (a)) (nI (i))) cv_X2_reason mk_X5_124 rfl rfl rfl (ng := 5) rfl (by decide) rfl rfl rfl rfl rfl rfl ⟨Nat.le_of_ble_eq_true rfl, Nat.le_of_ble_eq_true rfl⟩ (Nat.le_of_ble_eq_true rfl) ⟨Nat.le_of_ble_eq_true rfl, Nat.le_of_ble_eq_true rfl⟩ dX5_best_33 rfl ?_
      generalize hn1 : rsL σ (y 0) (nI (a)) (nI (i)) = ρv1
      generalize hn2 : rsS σ (y 0) (y 1) (nI (a)) (nI (i)) = ρv2
      rw [rsC_of]
      refine w_if_ne X 78 dX5_best_36 (by decide) (fun c36 => ?_) (fun c36 => ?_)
      · refine w_iinc X (nI (i + 1)) 4 rfl (nI_1 _) dX5_best_78 (by decide) ?_
        refine w_goto X 15 dX5_best_81 (by decide) ?_
        have e3_1 : ((bsI σ a (bsO σ a) i).1) = ((bsI σ a (bsO σ a) (i + 1)).1) := by rw [bsI, bs1, if_neg c36]
        have e3_2 : ((bsI σ a (bsO σ a) i).2) = ((bsI σ a (bsO σ a) (i + 1)).2) := by rw [bsI, bs1, if_neg c36]
        exact w_all [1, 2, 3, 4, 0] (rfl) (rfl) (by rw [← e3_1, ← e3_2]; rfl) (ih15 (i + 1, rw2 (rw2 (rw2 ζ 0 ρv1) 1 ρv2) 3 (y 3)) (by omega) (by omega))
      · refine w_aload_n X 0 rfl dX5_best_39 ?_
        refine w_get X 0 0 rfl rfl rfl in_X5 1 (by decide) fk_X5_19 rfl dX5_best_40 ?_
        refine w_aload_n X 0 rfl dX5_best_43 ?_
        refine w_get X 0 0 rfl rfl rfl in_X5 0 (by decide) fk_X5_10 rfl dX5_best_44 ?_
        refine w_iload_n X 3 rfl dX5_best_47 ?_
        refine w_roV X [2, 3, 4, 1] 2 0 (m_X2_deadCells l g art (y 3) aliv ρv1 asur ρv2 ast σ (nI (a))) cv_X2_deadCells mk_X5_252 rfl rfl rfl rfl rfl ⟨Nat.le_of_ble_eq_true rfl, Nat.le_of_ble_eq_true rfl⟩ (Nat.le_of_ble_eq_true rfl) ⟨Nat.le_of_ble_eq_true rfl, Nat.le_of_ble_eq_true rfl⟩ dX5_best_48 rfl ?_
        rw [show deadI σ ρv2 (nI a) = deadI σ (suC σ (nI a)) (nI a) from by rw [← hn2]; exact rs_dead c36]
        refine w_istore X dX5_best_51 (by decide) ?_
        refine w_iload X 0 rfl dX5_best_53 ?_
        refine w_iload_n X 3 rfl dX5_best_55 ?_
        refine w_ic_le X 63 dX5_best_56 (by decide) (fun c56 => ?_) (fun c56 => ?_)
        · refine w_iload_n X 2 rfl dX5_best_63 ?_
          refine w_istore_n X dX5_best_64 (by decide) ?_
          refine w_iload X 1 rfl dX5_best_65 ?_
          refine w_iload_n X 3 rfl dX5_best_67 ?_
          refine w_ic_le X 76 dX5_best_68 (by decide) (fun c68 => ?_) (fun c68 => by exfalso; exact c68 c56)
          refine w_iload_n X 3 rfl dX5_best_76 ?_
          refine w_istore_n X dX5_best_77 (by decide) ?_
          refine w_iinc X (nI (i + 1)) 5 rfl (nI_1 _) dX5_best_78 (by decide) ?_
          refine w_goto X 15 dX5_best_81 (by decide) ?_
          have e4_1 : ((bsI σ a (bsO σ a) i).1) = ((bsI σ a (bsO σ a) (i + 1)).1) := by rw [bsI, bs1, if_pos c36, if_pos c56]
          have e4_2 : ((bsI σ a (bsO σ a) i).2) = ((bsI σ a (bsO σ a) (i + 1)).2) := by rw [bsI, bs1, if_pos c36, if_pos c56]
          exact w_all [4, 2, 1, 5, 0] (rfl) (rfl) (by rw [← e4_1, ← e4_2]; rfl) (ih15 (i + 1, rw2 (rw2 (rw2 ζ 0 ρv1) 1 ρv2) 3 (y 3)) (by omega) (by omega))
        · refine w_iload_n X 4 rfl dX5_best_59 ?_
          refine w_goto X 64 dX5_best_60 (by decide) ?_
          refine w_istore_n X dX5_best_64 (by decide) ?_
          refine w_iload X 1 rfl dX5_best_65 ?_
          refine w_iload_n X 3 rfl dX5_best_67 ?_
          refine w_ic_le X 76 dX5_best_68 (by decide) (fun c68 => by exfalso; exact c56 c68) (fun c68 => ?_)
          refine w_iload X 1 rfl dX5_best_71 ?_
          refine w_goto X 77 dX5_best_73 (by decide) ?_
          refine w_istore_n X dX5_best_77 (by decide) ?_
          refine w_iinc X (nI (i + 1)) 5 rfl (nI_1 _) dX5_best_78 (by decide) ?_
          refine w_goto X 15 dX5_best_81 (by decide) ?_
          have e5_1 : nI (a) = ((bsI σ a (bsO σ a) (i + 1)).1) := by rw [bsI, bs1, if_pos c36, if_neg c56]
          have e5_2 : (deadI σ (suC σ (nI a)) (nI a)) = ((bsI σ a (bsO σ a) (i + 1)).2) := by rw [bsI, bs1, if_pos c36, if_neg c56]
          exact w_all [4, 2, 1, 5, 0] (rfl) (rfl) (by rw [← e5_1, ← e5_2]; rfl) (ih15 (i + 1, rw2 (rw2 (rw2 ζ 0 ρv1) 1 ρv2) 3 (y 3)) (by omega) (by omega))
set_option maxRecDepth 100000 in
set_option maxHeartbeats 4000000 in
theorem m_X5_livingShare (l : Launch) (g : GG) (am : Nat → Nat) (ast : Nat → Nat) (art : Nat → Nat) (alas : Nat → Nat) (atx : Nat → Nat) (ahi : Nat → Nat) (σ : Nat → Nat → Int32) (ζ : Nat → Nat → Nat → Int32) (hN : 0 < mkL σ 6 → vf_n64 (FP.ddiv (FP.i2d (cellsL σ (trC σ (-1)) 24)) (FP.i2d (mkL σ 6)))) : MME (U := (Nat → Nat → Nat → Int32)) l g yX5_livingShare cX5_livingShare 3 (some .double) 3 0 0 [.ref (am 0)] [maC g am (ast 0) (art 0) (alas 0) (atx 0) (ahi 0), stC g ast σ, rcC g alas (ζ 2)] (some (.double (shC σ))) (fun ζ' => [maC g am (ast 0) (art 0) (alas 0) (atx 0) (ahi 0), stC g ast σ, rcC g alas (ζ' 2)]) := by
  refine mk_me (by decide +kernel) (Nat.le_of_ble_eq_true rfl) (fun p e s m below meth c A hA X => ?_)
  refine w_iconst X (nI 0) dX5_livingShare_0 (by decide +kernel) ?_
  refine w_istore_n X dX5_livingShare_1 (by decide) ?_
  refine w_iconst X (nI 0) dX5_livingShare_2 (by decide +kernel) ?_
  refine w_istore_n X dX5_livingShare_3 (by decide) ?_
  have e0_1 : nI (0) = (mkL σ 0) := by rfl
  refine w_all [2, 1, 0] (rfl) (rfl) (by rw [← e0_1]; rfl) (w_loop (st := []) (pc := 4) X (V := Nat) (fun (i : Nat) => 6 - i) (fun (i : Nat) => (i ≤ 6)) (fun (i : Nat) => [(0, .ref (am 0)), (1, .int (mkL σ i)), (2, .int (nI i))]) (fun (i : Nat) => [maC g am (ast 0) (art 0) (alas 0) (atx 0) (ahi 0), stC g ast σ, rcC g alas (ζ 2)]) (fun i hv4 ih4 => ?_) 0 (by omega))
  have hi := hv4
  try dsimp only at ih4 ⊢
  refine w_iload_n X 2 rfl dX5_livingShare_4 ?_
  refine w_bipush X (nI 6) dX5_livingShare_5 (by decide +kernel) ?_
  refine w_nc_ge X (by omega) (by omega) 28 dX5_livingShare_7 (by decide) (fun c7 => ?_) (fun c7 => ?_)
  · have he_i : i = 6 := by omega
    refine w_iload_n X 1 rfl dX5_livingShare_28 ?_
    refine w_if_gt X 34 dX5_livingShare_29 (by decide) (fun c29 => ?_) (fun c29 => ?_)
    · refine w_aload_n X 0 rfl dX5_livingShare_34 ?_
      refine w_iconst X (-1) dX5_livingShare_35 (by decide +kernel) ?_
      refine w_muV X hA (gr := []) (gs1 := [maC g am (ast 0) (art 0) (alas 0) (atx 0) (ahi 0), stC g ast σ, rcC g alas (trR σ ((ζ 2)) (-1))]) [0, 1, 2] [] 0 0 (m_X5_traceRoots l g am ast art alas atx ahi σ ζ (-1)) cv_X5_traceRoots mk_X5_233 rfl rfl rfl (ng := 3) rfl (by decide) rfl rfl rfl rfl rfl rfl ⟨Nat.le_of_ble_eq_true rfl, Nat.le_of_ble_eq_true rfl⟩ (Nat.le_of_ble_eq_true rfl) ⟨Nat.le_of_ble_eq_true rfl, Nat.le_of_ble_eq_true rfl⟩ dX5_livingShare_36 rfl ?_
      generalize hn1 : trR σ ((ζ 2)) (-1) = ρv1
      refine w_aload_n X 0 rfl dX5_livingShare_39 ?_
      refine w_get X 0 0 rfl rfl rfl in_X5 2 (by decide) fk_X5_26 rfl dX5_livingShare_40 ?_
      refine w_aload_n X 0 rfl dX5_livingShare_43 ?_
      refine w_get X 0 0 rfl rfl rfl in_X5 0 (by decide) fk_X5_10 rfl dX5_livingShare_44 ?_
      refine w_roV X [2, 1] 2 0 (m_X1_cells l g alas ρv1 ast σ) cv_X1_cells mk_X5_310 rfl rfl rfl rfl rfl ⟨Nat.le_of_ble_eq_true rfl, Nat.le_of_ble_eq_true rfl⟩ (Nat.le_of_ble_eq_true rfl) ⟨Nat.le_of_ble_eq_true rfl, Nat.le_of_ble_eq_true rfl⟩ dX5_livingShare_47 rfl ?_
      rw [show cellsL σ ρv1 24 = cellsL σ (trC σ (-1)) 24 from by rw [← hn1, tr_cells]]
      refine w_i2d X dX5_livingShare_50 ?_
      refine w_iload_n X 1 rfl dX5_livingShare_51 ?_
      refine w_i2d X dX5_livingShare_52 ?_
      refine w_ddiv X dX5_livingShare_53 (by rw [he_i] at c29 ⊢; exact hN c29) ?_
      exact w_dret_me X (rw2 ζ 2 ρv1) (by rw [he_i] at c29 ⊢; rw [shC, if_pos c29]) (rfl) (Nat.le_of_ble_eq_true rfl) (Nat.le_of_ble_eq_true rfl) dX5_livingShare_54
    · refine w_dconst1 X dX5_livingShare_32 ?_
      exact w_dret_me X (ζ) (by rw [he_i] at c29; rw [shC, if_neg c29]) (rfl) (Nat.le_of_ble_eq_true rfl) (Nat.le_of_ble_eq_true rfl) dX5_livingShare_33
  · refine w_iload_n X 1 rfl dX5_livingShare_10 ?_
    refine w_aload_n X 0 rfl dX5_livingShare_11 ?_
    refine w_get X 0 0 rfl rfl rfl in_X5 0 (by decide) fk_X5_10 rfl dX5_livingShare_12 ?_
    refine w_get X 1 0 rfl rfl rfl in_X3 9 (by decide) fk_X5_242 rfl dX5_livingShare_15 ?_
    refine w_iload_n X 2 rfl dX5_livingShare_18 ?_
    refine w_iald_n X 1 10 0 rfl rfl rfl (by omega) (by decide) dX5_livingShare_19 ?_
    refine w_iadd X dX5_livingShare_20 ?_
    refine w_istore_n X dX5_livingShare_21 (by decide) ?_
    refine w_iinc X (nI (i + 1)) 2 rfl (nI_1 _) dX5_livingShare_22 (by decide) ?_
    refine w_goto X 4 dX5_livingShare_25 (by decide) ?_
    have e1_1 : ((mkL σ i) + (σ 9 i)) = (mkL σ (i + 1)) := by rfl
    exact w_all [2, 1, 0] (rfl) (rfl) (by rw [← e1_1]; rfl) (ih4 (i + 1) (by omega) (by omega))
