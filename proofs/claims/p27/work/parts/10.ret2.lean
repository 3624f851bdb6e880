/-! Returning: reason, addressIfGiven, carryOn -/
set_option maxRecDepth 100000 in
set_option maxHeartbeats 4000000 in
theorem m_X2_reason (l : Launch) (g : GG) (ad : Nat → Nat) (τ : Nat → Nat → Int32) (adl : Nat → Nat) (ρl : Nat → Nat → Int32) (ads : Nat → Nat) (ρs : Nat → Nat → Int32) (ad2 : Nat → Nat) (σ : Nat → Nat → Int32) (a : Int32) (b : Int32) : MMU l g yX2_reason cX2_reason 4 (some .int) 3 0 0 [.ref (ad 0), .ref (ad2 0), .int (a), .int (b)] [rtC g ad (adl 0) (ads 0) τ, rcC g adl ρl, rcC g ads ρs, stC g ad2 σ] (some (.int (rsI σ ρl ρs a b))) [rtC g ad (adl 0) (ads 0) τ, rcC g adl (rsL σ ρl a b), rcC g ads (rsS σ ρl ρs a b), stC g ad2 σ] := by
  refine mk_mu (by decide +kernel) (Nat.le_of_ble_eq_true rfl) (fun p e s m below meth c A hA X => ?_)
  refine w_iload_n X 2 rfl dX2_reason_0 ?_
  refine w_iload_n X 3 rfl dX2_reason_1 ?_
  refine w_ic_ne X 7 dX2_reason_2 (by decide) (fun c2 => ?_) (fun c2 => ?_)
  · refine w_aload_n X 1 rfl dX2_reason_7 ?_
    refine w_iload_n X 2 rfl dX2_reason_8 ?_
    refine w_roV X [3] 3 0 (m_X3_isOpen l g ad2 σ (a)) cv_X3_isOpen mk_X2_74 rfl rfl rfl rfl rfl ⟨Nat.le_of_ble_eq_true rfl, Nat.le_of_ble_eq_true rfl⟩ (Nat.le_of_ble_eq_true rfl) ⟨Nat.le_of_ble_eq_true rfl, Nat.le_of_ble_eq_true rfl⟩ dX2_reason_9 rfl ?_
    refine w_bf_eq X 23 dX2_reason_12 (by decide) (fun c12 => ?_) (fun c12 => ?_)
    · refine w_iconst X (nI 2) dX2_reason_23 (by decide +kernel) ?_
      exact w_iret_mu X (by simp [rsI, c2, c12]) (by rw [rsL, rsS, if_pos (by simp [rsN, c2, c12]), if_pos (by simp [rsN, c2, c12])]) (Nat.le_of_ble_eq_true rfl) (Nat.le_of_ble_eq_true rfl) dX2_reason_24
    · refine w_aload_n X 1 rfl dX2_reason_15 ?_
      refine w_iload_n X 3 rfl dX2_reason_16 ?_
      refine w_roV X [3] 3 0 (m_X3_isOpen l g ad2 σ (b)) cv_X3_isOpen mk_X2_74 rfl rfl rfl rfl rfl ⟨Nat.le_of_ble_eq_true rfl, Nat.le_of_ble_eq_true rfl⟩ (Nat.le_of_ble_eq_true rfl) ⟨Nat.le_of_ble_eq_true rfl, Nat.le_of_ble_eq_true rfl⟩ dX2_reason_17 rfl ?_
      refine w_bf_ne X 25 dX2_reason_20 (by decide) (fun c20 => ?_) (fun c20 => ?_)
      · refine w_aload_n X 0 rfl dX2_reason_25 ?_
        refine w_aload_n X 1 rfl dX2_reason_26 ?_
        refine w_iload_n X 2 rfl dX2_reason_27 ?_
        refine w_muV X hA (gr := []) (gs1 := [rtC g ad (adl 0) (ads 0) τ, rcC g adl (livR σ ρl), rcC g ads (survR σ ρl ρs (a)), stC g ad2 σ]) [0, 1, 2, 3] [] 0 0 (m_X2_survey l g ad τ adl ρl ads ρs ad2 σ (a)) cv_X2_survey mk_X2_77 rfl rfl rfl (ng := 4) rfl (by decide) rfl rfl rfl rfl rfl rfl ⟨Nat.le_of_ble_eq_true rfl, Nat.le_of_ble_eq_true rfl⟩ (Nat.le_of_ble_eq_true rfl) ⟨Nat.le_of_ble_eq_true rfl, Nat.le_of_ble_eq_true rfl⟩ dX2_reason_28 rfl ?_
        generalize hn1 : livR σ ρl = ρv1
        generalize hn2 : survR σ ρl ρs (a) = ρv2
        refine w_aload_n X 0 rfl dX2_reason_31 ?_
        refine w_aload_n X 1 rfl dX2_reason_32 ?_
        refine w_roV X [0, 1, 2, 3] 0 0 (m_X2_isKept l g ad τ adl ρv1 ads ρv2 ad2 σ) cv_X2_isKept mk_X2_80 rfl rfl rfl rfl rfl ⟨Nat.le_of_ble_eq_true rfl, Nat.le_of_ble_eq_true rfl⟩ (Nat.le_of_ble_eq_true rfl) ⟨Nat.le_of_ble_eq_true rfl, Nat.le_of_ble_eq_true rfl⟩ dX2_reason_33 rfl ?_
        refine w_bf_eq X 41 dX2_reason_36 (by decide) (fun c36 => ?_) (fun c36 => ?_)
        · refine w_aload_n X 1 rfl dX2_reason_41 ?_
          refine w_iload_n X 3 rfl dX2_reason_42 ?_
          refine w_aload_n X 0 rfl dX2_reason_43 ?_
          refine w_get X 0 0 rfl rfl rfl in_X2 1 (by decide) fk_X2_18 rfl dX2_reason_44 ?_
          refine w_aload_n X 1 rfl dX2_reason_47 ?_
          refine w_roV X [2, 3] 2 0 (m_X1_cells l g ads ρv2 ad2 σ) cv_X1_cells mk_X2_60 rfl rfl rfl rfl rfl ⟨Nat.le_of_ble_eq_true rfl, Nat.le_of_ble_eq_true rfl⟩ (Nat.le_of_ble_eq_true rfl) ⟨Nat.le_of_ble_eq_true rfl, Nat.le_of_ble_eq_true rfl⟩ dX2_reason_48 rfl ?_
          refine w_roV X [3] 3 0 (m_X3_hasRoom l g ad2 σ (b) (cellsL σ ρv2 24)) cv_X3_hasRoom mk_X2_84 rfl rfl rfl rfl rfl ⟨Nat.le_of_ble_eq_true rfl, Nat.le_of_ble_eq_true rfl⟩ (Nat.le_of_ble_eq_true rfl) ⟨Nat.le_of_ble_eq_true rfl, Nat.le_of_ble_eq_true rfl⟩ dX2_reason_51 rfl ?_
          refine w_bf_eq X 61 dX2_reason_54 (by decide) (fun c54 => ?_) (fun c54 => ?_)
          · refine w_iconst X (nI 4) dX2_reason_61 (by decide +kernel) ?_
            exact w_iret_mu X (by subst hn2; subst hn1;  simp [rsI, c2, c12, c20, c36, c54]) (by subst hn2; subst hn1;  rw [rsL, rsS, if_neg (by simp [rsN, c2, c12, c20, c36, c54]), if_neg (by simp [rsN, c2, c12, c20, c36, c54])]) (Nat.le_of_ble_eq_true rfl) (Nat.le_of_ble_eq_true rfl) dX2_reason_62
          · refine w_iconst X (nI 0) dX2_reason_57 (by decide +kernel) ?_
            refine w_goto X 62 dX2_reason_58 (by decide) ?_
            exact w_iret_mu X (by subst hn2; subst hn1;  simp [rsI, c2, c12, c20, c36, c54]) (by subst hn2; subst hn1;  rw [rsL, rsS, if_neg (by simp [rsN, c2, c12, c20, c36, c54]), if_neg (by simp [rsN, c2, c12, c20, c36, c54])]) (Nat.le_of_ble_eq_true rfl) (Nat.le_of_ble_eq_true rfl) dX2_reason_62
        · refine w_iconst X (nI 3) dX2_reason_39 (by decide +kernel) ?_
          exact w_iret_mu X (by subst hn2; subst hn1;  simp [rsI, c2, c12, c20, c36]) (by subst hn2; subst hn1;  rw [rsL, rsS, if_neg (by simp [rsN, c2, c12, c20, c36]), if_neg (by simp [rsN, c2, c12, c20, c36])]) (Nat.le_of_ble_eq_true rfl) (Nat.le_of_ble_eq_true rfl) dX2_reason_40
      · refine w_iconst X (nI 2) dX2_reason_23 (by decide +kernel) ?_
        exact w_iret_mu X (by simp [rsI, c2, c12, c20]) (by rw [rsL, rsS, if_pos (by simp [rsN, c2, c12, c20]), if_pos (by simp [rsN, c2, c12, c20])]) (Nat.le_of_ble_eq_true rfl) (Nat.le_of_ble_eq_true rfl) dX2_reason_24
  · refine w_iconst X (nI 1) dX2_reason_5 (by decide +kernel) ?_
    exact w_iret_mu X (by simp [rsI, c2]) (by rw [rsL, rsS, if_pos (by simp [rsN, c2]), if_pos (by simp [rsN, c2])]) (Nat.le_of_ble_eq_true rfl) (Nat.le_of_ble_eq_true rfl) dX2_reason_6
-- X2_addressIfGiven: not in this claim
set_option maxRecDepth 100000 in
set_option maxHeartbeats 4000000 in
theorem m_X2_carryOn (l : Launch) (g : GG) (ad : Nat → Nat) (τ : Nat → Nat → Int32) (adl : Nat → Nat) (ρl : Nat → Nat → Int32) (ads : Nat → Nat) (ρs : Nat → Nat → Int32) (ad2 : Nat → Nat) (σ : Nat → Nat → Int32) (a : Int32) (k : Nat) (hk : k < 6) : MMU l g yX2_carryOn cX2_carryOn 5 (some .int) 3 0 0 [.ref (ad 0), .ref (ad2 0), .int (a), .int (nI k)] [rtC g ad (adl 0) (ads 0) τ, rcC g adl ρl, rcC g ads ρs, stC g ad2 σ] (some (.int (survR σ ρl ρs a 3 0))) [rtC g ad (adl 0) (ads 0) (ldL σ (livR σ ρl) (survR σ ρl ρs a) τ (nI k) 24), rcC g adl (livR σ ρl), rcC g ads (survR σ ρl ρs a), stC g ad2 (cyL σ (survR σ ρl ρs a) (ldL σ (livR σ ρl) (survR σ ρl ρs a) τ (nI k) 24) k 24)] := by
  refine mk_mu (by decide +kernel) (Nat.le_of_ble_eq_true rfl) (fun p e s m below meth c A hA X => ?_)
  refine w_aload_n X 0 rfl dX2_carryOn_0 ?_
  refine w_aload_n X 1 rfl dX2_carryOn_1 ?_
  refine w_iload_n X 2 rfl dX2_carryOn_2 ?_
  refine w_muV X hA (gr := []) (gs1 := [rtC g ad (adl 0) (ads 0) τ, rcC g adl (livR σ ρl), rcC g ads (survR σ ρl ρs (a)), stC g ad2 σ]) [0, 1, 2, 3] [] 0 0 (m_X2_survey l g ad τ adl ρl ads ρs ad2 σ (a)) cv_X2_survey mk_X2_77 rfl rfl rfl (ng := 4) rfl (by decide) rfl rfl rfl rfl rfl rfl ⟨Nat.le_of_ble_eq_true rfl, Nat.le_of_ble_eq_true rfl⟩ (Nat.le_of_ble_eq_true rfl) ⟨Nat.le_of_ble_eq_true rfl, Nat.le_of_ble_eq_true rfl⟩ dX2_carryOn_3 rfl ?_
  generalize hn1 : livR σ ρl = ρv1
  generalize hn2 : survR σ ρl ρs (a) = ρv2
  refine w_iconst X (nI 0) dX2_carryOn_6 (by decide +kernel) ?_
  refine w_istore X dX2_carryOn_7 (by decide) ?_
  refine w_all [1, 2, 3, 4, 0] (rfl) (rfl) rfl (w_loop (st := []) (pc := 9) X (V := Nat) (fun (i : Nat) => 24 - i) (fun (i : Nat) => (i ≤ 24)) (fun (i : Nat) => [(0, .ref (ad 0)), (1, .ref (ad2 0)), (2, .int (a)), (3, .int (nI k)), (4, .int (nI i))]) (fun (i : Nat) => [rtC g ad (adl 0) (ads 0) (ldL σ ρv1 ρv2 τ (nI k) i), rcC g adl ρv1, rcC g ads ρv2, stC g ad2 σ]) (fun i hv9 ih9 => ?_) 0 (by omega))
  have hi := hv9
  try dsimp only at ih9 ⊢
  refine w_iload X 4 rfl dX2_carryOn_9 ?_
  refine w_bipush X (nI 24) dX2_carryOn_11 (by decide +kernel) ?_
  refine w_nc_ge X (by omega) (by omega) 53 dX2_carryOn_13 (by decide) (fun c13 => ?_) (fun c13 => ?_)
  · have he_i : i = 24 := by omega
    refine w_iconst X (nI 0) dX2_carryOn_53 (by decide +kernel) ?_
    refine w_istore X dX2_carryOn_54 (by decide) ?_
    refine w_all [1, 2, 3, 4, 0] (rfl) (rfl) rfl (w_loop (st := []) (pc := 56) X (V := Nat) (fun (n : Nat) => 24 - n) (fun (n : Nat) => (n ≤ 24)) (fun (n : Nat) => [(0, .ref (ad 0)), (1, .ref (ad2 0)), (2, .int (a)), (3, .int (nI k)), (4, .int (nI n))]) (fun (n : Nat) => [rtC g ad (adl 0) (ads 0) (ldL σ ρv1 ρv2 τ (nI k) i), rcC g adl ρv1, rcC g ads ρv2, stC g ad2 (cyL σ ρv2 (ldL σ ρv1 ρv2 τ (nI k) i) k n)]) (fun n hv56 ih56 => ?_) 0 (by omega))
    have hi2 := hv56
    try dsimp only at ih56 ⊢
    refine w_iload X 4 rfl dX2_carryOn_56 ?_
    refine w_bipush X (nI 24) dX2_carryOn_58 (by decide +kernel) ?_
    refine w_nc_ge X (by omega) (by omega) 95 dX2_carryOn_60 (by decide) (fun c60 => ?_) (fun c60 => ?_)
    · have he_n : n = 24 := by omega
      refine w_aload_n X 0 rfl dX2_carryOn_95 ?_
      refine w_get X 0 0 rfl rfl rfl in_X2 1 (by decide) fk_X2_18 rfl dX2_carryOn_96 ?_
      refine w_get X 2 0 rfl rfl rfl in_X1 3 (by decide) fk_X2_121 rfl dX2_carryOn_99 ?_
      exact w_iret_mu X (by subst hn2; subst hn1;  rfl) (by subst hn2; subst hn1;  rw [he_n, he_i]) (Nat.le_of_ble_eq_true rfl) (Nat.le_of_ble_eq_true rfl) dX2_carryOn_102
    · refine w_aload_n X 0 rfl dX2_carryOn_63 ?_
      refine w_get X 0 0 rfl rfl rfl in_X2 1 (by decide) fk_X2_18 rfl dX2_carryOn_64 ?_
      refine w_iload X 4 rfl dX2_carryOn_67 ?_
      refine w_roV X [2] 2 0 (m_X1_hasMet l g ads ρv2 (nI (n))) cv_X1_hasMet mk_X2_42 rfl rfl rfl rfl rfl ⟨Nat.le_of_ble_eq_true rfl, Nat.le_of_ble_eq_true rfl⟩ (Nat.le_of_ble_eq_true rfl) ⟨Nat.le_of_ble_eq_true rfl, Nat.le_of_ble_eq_true rfl⟩ dX2_carryOn_69 rfl ?_
      refine w_bf_eq X 89 dX2_carryOn_72 (by decide) (fun c72 => ?_) (fun c72 => ?_)
      · refine w_iinc X (nI (n + 1)) 4 rfl (nI_1 _) dX2_carryOn_89 (by decide) ?_
        refine w_goto X 56 dX2_carryOn_92 (by decide) ?_
        exact w_all [1, 2, 3, 4, 0] (rfl) (by subst hn2; subst hn1;  simp [cyL, c60, c72]) rfl (ih56 (n + 1) (by omega) (by omega))
      · refine w_aload_n X 1 rfl dX2_carryOn_75 ?_
        refine w_iload X 4 rfl dX2_carryOn_76 ?_
        refine w_iload_n X 3 rfl dX2_carryOn_78 ?_
        refine w_aload_n X 0 rfl dX2_carryOn_79 ?_
        refine w_get X 0 0 rfl rfl rfl in_X2 2 (by decide) fk_X2_21 rfl dX2_carryOn_80 ?_
        refine w_iload X 4 rfl dX2_carryOn_83 ?_
        refine w_iald_n X 0 1 0 rfl rfl rfl (by omega) (by decide) dX2_carryOn_85 ?_
        refine w_muV X hA (gr := [rtC g ad (adl 0) (ads 0) (ldL σ ρv1 ρv2 τ (nI k) i), rcC g adl ρv1, rcC g ads ρv2]) (gs1 := [rtC g ad (adl 0) (ads 0) (ldL σ ρv1 ρv2 τ (nI k) i), rcC g adl ρv1, rcC g ads ρv2, stC g ad2 (layS (cyL σ ρv2 (ldL σ ρv1 ρv2 τ (nI k) i) k n) n k ((ldL σ ρv1 ρv2 τ (nI k) i) 0 n))]) [3] [0, 1, 2] 3 0 (m_X3_layAnew l g ad2 (cyL σ ρv2 (ldL σ ρv1 ρv2 τ (nI k) i) k n) n k ((ldL σ ρv1 ρv2 τ (nI k) i) 0 n) (by omega) (by omega)) cv_X3_layAnew mk_X2_117 rfl rfl rfl (ng := 4) rfl (by decide) rfl rfl rfl rfl rfl rfl ⟨Nat.le_of_ble_eq_true rfl, Nat.le_of_ble_eq_true rfl⟩ (Nat.le_of_ble_eq_true rfl) ⟨Nat.le_of_ble_eq_true rfl, Nat.le_of_ble_eq_true rfl⟩ dX2_carryOn_86 rfl ?_
        generalize hn3 : layS (cyL σ ρv2 (ldL σ ρv1 ρv2 τ (nI k) i) k n) n k ((ldL σ ρv1 ρv2 τ (nI k) i) 0 n) = σv3
        refine w_iinc X (nI (n + 1)) 4 rfl (nI_1 _) dX2_carryOn_89 (by decide) ?_
        refine w_goto X 56 dX2_carryOn_92 (by decide) ?_
        exact w_all [1, 2, 3, 4, 0] (rfl) (by subst hn3; subst hn2; subst hn1;  simp [cyL, c60, c72]) rfl (ih56 (n + 1) (by omega) (by omega))
  · refine w_aload_n X 0 rfl dX2_carryOn_16 ?_
    refine w_get X 0 0 rfl rfl rfl in_X2 2 (by decide) fk_X2_21 rfl dX2_carryOn_17 ?_
    refine w_iload X 4 rfl dX2_carryOn_20 ?_
    refine w_aload_n X 0 rfl dX2_carryOn_22 ?_
    refine w_join (V := Int32) X 46 (fun (z : Int32) => (z = if metB ρv2 (nI i) = false then -1 else landI σ ρv1 ρv2 (nI i) (nI k))) (fun (z : Int32) => [(0, .ref (ad 0)), (1, .ref (ad2 0)), (2, .int (a)), (3, .int (nI k)), (4, .int (nI i))]) (fun (z : Int32) => [.int (z), .int (nI i), .ref (ad 1)]) (fun (z : Int32) => [rtC g ad (adl 0) (ads 0) (ldL σ ρv1 ρv2 τ (nI k) i), rcC g adl ρv1, rcC g ads ρv2, stC g ad2 σ]) (fun z hv46 => ?_) (fun J46 => ?_)
    · have hz := hv46
      try dsimp only
      refine w_iast_n X 0 1 0 rfl rfl rfl (by omega) (by decide) (show _ = rtC g ad (adl 0) (ads 0) (rw2 (ldL σ ρv1 ρv2 τ (nI k) i) 0 (upd ((ldL σ ρv1 ρv2 τ (nI k) i) 0) i ((z)))) from rfl) dX2_carryOn_46 ?_
      refine w_iinc X (nI (i + 1)) 4 rfl (nI_1 _) dX2_carryOn_47 (by decide) ?_
      refine w_goto X 9 dX2_carryOn_50 (by decide) ?_
      exact w_all [1, 2, 3, 4, 0] (rfl) (by subst hz; rfl) rfl (ih9 (i + 1) (by omega) (by omega))
    refine w_get X 0 0 rfl rfl rfl in_X2 1 (by decide) fk_X2_18 rfl dX2_carryOn_23 ?_
    refine w_iload X 4 rfl dX2_carryOn_26 ?_
    refine w_roV X [2] 2 0 (m_X1_hasMet l g ads ρv2 (nI (i))) cv_X1_hasMet mk_X2_42 rfl rfl rfl rfl rfl ⟨Nat.le_of_ble_eq_true rfl, Nat.le_of_ble_eq_true rfl⟩ (Nat.le_of_ble_eq_true rfl) ⟨Nat.le_of_ble_eq_true rfl, Nat.le_of_ble_eq_true rfl⟩ dX2_carryOn_28 rfl ?_
    refine w_bf_eq X 45 dX2_carryOn_31 (by decide) (fun c31 => ?_) (fun c31 => ?_)
    · refine w_iconst X (-1) dX2_carryOn_45 (by decide +kernel) ?_
      exact w_all [0, 1, 2, 3, 4] (rfl) (rfl) rfl (J46 (-1) (by simp [c13, c31]))
    · refine w_aload_n X 0 rfl dX2_carryOn_34 ?_
      refine w_aload_n X 1 rfl dX2_carryOn_35 ?_
      refine w_iload X 4 rfl dX2_carryOn_36 ?_
      refine w_iload_n X 3 rfl dX2_carryOn_38 ?_
      refine w_roV X [0, 1, 2, 3] 0 0 (m_X2_landing l g ad (ldL σ ρv1 ρv2 τ (nI k) i) adl ρv1 ads ρv2 ad2 σ (nI (i)) (nI (k))) cv_X2_landing mk_X2_97 rfl rfl rfl rfl rfl ⟨Nat.le_of_ble_eq_true rfl, Nat.le_of_ble_eq_true rfl⟩ (Nat.le_of_ble_eq_true rfl) ⟨Nat.le_of_ble_eq_true rfl, Nat.le_of_ble_eq_true rfl⟩ dX2_carryOn_39 rfl ?_
      refine w_goto X 46 dX2_carryOn_42 (by decide) ?_
      exact w_all [0, 1, 2, 3, 4] (rfl) (rfl) rfl (J46 (landI σ ρv1 ρv2 (nI (i)) (nI (k))) (by simp [c13, c31]))
