/-! MarkArenas: what reads -/
theorem tr_met (σ ρ : Nat → Nat → Int32) (w : Int32) : trR σ ρ w 3 0 = trC σ w 3 0 := (tr_agr σ ρ ρ0 w).1
theorem tr_metB (σ ρ : Nat → Nat → Int32) (w x : Int32) : metB (trR σ ρ w) x = metB (trC σ w) x := met_agr (tr_agr σ ρ ρ0 w) x
theorem tr_step (σ ρ : Nat → Nat → Int32) (w x : Int32) : stepI (trR σ ρ w) x = stepI (trC σ w) x := step_agr (tr_agr σ ρ ρ0 w) x
theorem tr_cells (σ ρ : Nat → Nat → Int32) (w : Int32) (n : Nat) : cellsL σ (trR σ ρ w) n = cellsL σ (trC σ w) n := cells_agr (tr_agr σ ρ ρ0 w) n
theorem su_metB (σ ρ ρ' : Nat → Nat → Int32) (a x : Int32) : metB (survR σ ρ ρ' a) x = metB (suC σ a) x := met_agr (surv_agr σ ρ ρ0 ρ' ρ0 a) x
theorem su_cells (σ ρ ρ' : Nat → Nat → Int32) (a : Int32) (n : Nat) : cellsL σ (survR σ ρ ρ' a) n = cellsL σ (suC σ a) n := cells_agr (surv_agr σ ρ ρ0 ρ' ρ0 a) n
theorem su_kept (σ ρ ρ' : Nat → Nat → Int32) (a : Int32) : keptB σ (survR σ ρ ρ' a) = keptB σ (suC σ a) := kept_agr (surv_agr σ ρ ρ0 ρ' ρ0 a)
theorem su_dead (σ ρ ρ' : Nat → Nat → Int32) (a b : Int32) : deadI σ (survR σ ρ ρ' a) b = deadI σ (suC σ a) b := by rw [deadI, deadI, su_cells]
def lostC (σ : Nat → Nat → Int32) (x : Int32) : Int32 := trC σ (-1) 3 0 - trC σ x 3 0
def opC (σ : Nat → Nat → Int32) (j w : Nat) : Int32 := match w with
  | 0 => σ 1 j
  | 1 => σ 2 j
  | 2 => σ 3 j
  | 3 => refI σ (nI j) (nI 0)
  | 4 => refI σ (nI j) (nI 1)
  | 5 => bI (nz (σ 5 j))
  | 6 => bI (nz (σ 6 j))
  | 7 => bI (metB (trC σ (-1)) (nI j))
  | 8 => bI (metB (suC σ (σ 1 j)) (nI j))
  | 9 => σ 7 j
  | 10 => sum2 (fun h f => if refI σ (nI h) (nI f) = nI j then true else false) 24
  | _ => stepI (trC σ (-1)) (nI j)
def apC (σ : Nat → Nat → Int32) (k w : Nat) : Int32 := match w with
  | 0 => bI (isOpB σ (nI k))
  | 1 => σ 9 k
  | 2 => cntI (fun o => isInB σ (nI o) (nI k)) 24
  | 3 => cellsL σ (suC σ (nI k)) 24
  | 4 => deadI σ (suC σ (nI k)) (nI k)
  | 5 => cntI (fun o => if isInB σ (nI o) (nI k) = false then false else nz (σ 6 o)) 24
  | 6 => bI (keptB σ (suC σ (nI k)))
  | _ => σ 10 k
def ctC (σ η : Nat → Nat → Int32) (w : Nat) : Int32 := match w with
  | 0 => cntI (fun o => nz (σ 0 o)) 24
  | 1 => trC σ (-1) 3 0
  | 2 => cntI (fun o => nz (σ 8 o)) 6
  | 3 => cntI (fun o => nz (σ 5 o)) 24
  | 4 => sum2 (fun h f => refP σ false h f) 24
  | 5 => sum2 (fun h f => refP σ true h f) 24
  | 6 => σ 12 0
  | 7 => σ 12 1
  | 8 => σ 12 2
  | 9 => σ 12 3
  | _ => η 2 0
def bs1 (σ : Nat → Nat → Int32) (a i : Nat) (r : Int32 × Int32) : Int32 × Int32 := if rsC σ (nI a) (nI i) = 0 then (if deadI σ (suC σ (nI a)) (nI a) ≤ r.2 then r else (nI a, deadI σ (suC σ (nI a)) (nI a))) else r
def bsI (σ : Nat → Nat → Int32) (a : Nat) (r : Int32 × Int32) : Nat → Int32 × Int32
  | 0 => r
  | i + 1 => bs1 σ a i (bsI σ a r i)
def bsO (σ : Nat → Nat → Int32) : Nat → Int32 × Int32
  | 0 => (-1, -1)
  | a + 1 => bsI σ a (bsO σ a) 6
def mkL (σ : Nat → Nat → Int32) : Nat → Int32
  | 0 => nI 0
  | n + 1 => mkL σ n + σ 9 n
def shC (σ : Nat → Nat → Int32) : UInt64 := if 0 < mkL σ 6 then FP.ddiv (FP.i2d (cellsL σ (trC σ (-1)) 24)) (FP.i2d (mkL σ 6)) else FP.dconst1
set_option maxRecDepth 100000 in
set_option maxHeartbeats 4000000 in
theorem m_X5_traceRoots (l : Launch) (g : GG) (am : Nat → Nat) (ast : Nat → Nat) (art : Nat → Nat) (alas : Nat → Nat) (atx : Nat → Nat) (ahi : Nat → Nat) (σ : Nat → Nat → Int32) (ζ : Nat → Nat → Nat → Int32) (x : Int32) : MMU l g yX5_traceRoots cX5_traceRoots 2 none 2 0 0 [.ref (am 0), .int (x)] [maC g am (ast 0) (art 0) (alas 0) (atx 0) (ahi 0), stC g ast σ, rcC g alas (ζ 2)] (none) [maC g am (ast 0) (art 0) (alas 0) (atx 0) (ahi 0), stC g ast σ, rcC g alas (trR σ (ζ 2) x)] := by
  refine mk_mu (by decide +kernel) (Nat.le_of_ble_eq_true rfl) (fun p e s m below meth c A hA X => ?_)
  refine w_aload_n X 0 rfl dX5_traceRoots_0 ?_
  refine w_get X 0 0 rfl rfl rfl in_X5 2 (by decide) fk_X5_26 rfl dX5_traceRoots_1 ?_
  refine w_aload_n X 0 rfl dX5_traceRoots_4 ?_
  refine w_get X 0 0 rfl rfl rfl in_X5 0 (by decide) fk_X5_10 rfl dX5_traceRoots_5 ?_
  refine w_iload_n X 1 rfl dX5_traceRoots_8 ?_
  refine w_muV X hA (gr := [maC g am (ast 0) (art 0) (alas 0) (atx 0) (ahi 0)]) (gs1 := [maC g am (ast 0) (art 0) (alas 0) (atx 0) (ahi 0), stC g ast σ, rcC g alas (sarL σ (ζ 2) (x) 24)]) [2, 1] [0] 2 0 (m_X1_startAtRoots l g alas (ζ 2) ast σ (x)) cv_X1_startAtRoots mk_X5_303 rfl rfl rfl (ng := 3) rfl (by decide) rfl rfl rfl rfl rfl rfl ⟨Nat.le_of_ble_eq_true rfl, Nat.le_of_ble_eq_true rfl⟩ (Nat.le_of_ble_eq_true rfl) ⟨Nat.le_of_ble_eq_true rfl, Nat.le_of_ble_eq_true rfl⟩ dX5_traceRoots_9 rfl ?_
  generalize hn1 : sarL σ (ζ 2) (x) 24 = ρv1
  refine w_aload_n X 0 rfl dX5_traceRoots_12 ?_
  refine w_get X 0 0 rfl rfl rfl in_X5 2 (by decide) fk_X5_26 rfl dX5_traceRoots_13 ?_
  refine w_aload_n X 0 rfl dX5_traceRoots_16 ?_
  refine w_get X 0 0 rfl rfl rfl in_X5 0 (by decide) fk_X5_10 rfl dX5_traceRoots_17 ?_
  refine w_iconst X (-1) dX5_traceRoots_20 (by decide +kernel) ?_
  refine w_iload_n X 1 rfl dX5_traceRoots_21 ?_
  refine w_muV X hA (gr := [maC g am (ast 0) (art 0) (alas 0) (atx 0) (ahi 0)]) (gs1 := [maC g am (ast 0) (art 0) (alas 0) (atx 0) (ahi 0), stC g ast σ, rcC g alas (folL σ (-1) (x) 24 0 ρv1)]) [2, 1] [0] 2 0 (m_X1_follow l g alas ρv1 ast σ (-1) (x)) cv_X1_follow mk_X5_306 rfl rfl rfl (ng := 3) rfl (by decide) rfl rfl rfl rfl rfl rfl ⟨Nat.le_of_ble_eq_true rfl, Nat.le_of_ble_eq_true rfl⟩ (Nat.le_of_ble_eq_true rfl) ⟨Nat.le_of_ble_eq_true rfl, Nat.le_of_ble_eq_true rfl⟩ dX5_traceRoots_22 rfl ?_
  generalize hn2 : folL σ (-1) (x) 24 0 ρv1 = ρv2
  exact w_vret_mu X (by subst hn2; subst hn1;  rfl) (Nat.le_of_ble_eq_true rfl) (Nat.le_of_ble_eq_true rfl) dX5_traceRoots_25
set_option maxRecDepth 100000 in
set_option maxHeartbeats 4000000 in
theorem m_X5_lostWith (l : Launch) (g : GG) (am : Nat → Nat) (ast : Nat → Nat) (art : Nat → Nat) (alas : Nat → Nat) (atx : Nat → Nat) (ahi : Nat → Nat) (σ : Nat → Nat → Int32) (ζ : Nat → Nat → Nat → Int32) (x : Int32) : MME (U := (Nat → Nat → Nat → Int32)) l g yX5_lostWith cX5_lostWith 3 (some .int) 3 0 0 [.ref (am 0), .int (x)] [maC g am (ast 0) (art 0) (alas 0) (atx 0) (ahi 0), stC g ast σ, rcC g alas (ζ 2)] (some (.int (lostC σ x))) (fun ζ' => [maC g am (ast 0) (art 0) (alas 0) (atx 0) (ahi 0), stC g ast σ, rcC g alas (ζ' 2)]) := by
  refine mk_me (by decide +kernel) (Nat.le_of_ble_eq_true rfl) (fun p e s m below meth c A hA X => ?_)
  refine w_aload_n X 0 rfl dX5_lostWith_0 ?_
  refine w_iconst X (-1) dX5_lostWith_1 (by decide +kernel) ?_
  refine w_muV X hA (gr := []) (gs1 := [maC g am (ast 0) (art 0) (alas 0) (atx 0) (ahi 0), stC g ast σ, rcC g alas (trR σ ((ζ 2)) (-1))]) [0, 1, 2] [] 0 0 (m_X5_traceRoots l g am ast art alas atx ahi σ ζ (-1)) cv_X5_traceRoots mk_X5_233 rfl rfl rfl (ng := 3) rfl (by decide) rfl rfl rfl rfl rfl rfl ⟨Nat.le_of_ble_eq_true rfl, Nat.le_of_ble_eq_true rfl⟩ (Nat.le_of_ble_eq_true rfl) ⟨Nat.le_of_ble_eq_true rfl, Nat.le_of_ble_eq_true rfl⟩ dX5_lostWith_2 rfl ?_
  generalize hn1 : trR σ ((ζ 2)) (-1) = ρv1
  refine w_aload_n X 0 rfl dX5_lostWith_5 ?_
  refine w_get X 0 0 rfl rfl rfl in_X5 2 (by decide) fk_X5_26 rfl dX5_lostWith_6 ?_
  refine w_get X 2 0 rfl rfl rfl in_X1 3 (by decide) fk_X5_143 rfl dX5_lostWith_9 ?_
  refine w_istore_n X dX5_lostWith_12 (by decide) ?_
  refine w_aload_n X 1 rfl dX5_lostWith_13 ?_
  refine w_iload_n X 2 rfl dX5_lostWith_14 ?_
  refine w_muV X hA (gr := []) (gs1 := [maC g am (ast 0) (art 0) (alas 0) (atx 0) (ahi 0), stC g ast σ, rcC g alas (trR σ (ρv1) (x))]) [0, 1, 2] [] 0 0 (m_X5_traceRoots l g am ast art alas atx ahi σ (rw2 ζ 2 ρv1) (x)) cv_X5_traceRoots mk_X5_233 rfl rfl rfl (ng := 3) rfl (by decide) rfl rfl rfl rfl rfl rfl ⟨Nat.le_of_ble_eq_true rfl, Nat.le_of_ble_eq_true rfl⟩ (Nat.le_of_ble_eq_true rfl) ⟨Nat.le_of_ble_eq_true rfl, Nat.le_of_ble_eq_true rfl⟩ dX5_lostWith_15 rfl ?_
  generalize hn2 : trR σ (ρv1) (x) = ρv2
  refine w_iload_n X 0 rfl dX5_lostWith_18 ?_
  refine w_aload_n X 1 rfl dX5_lostWith_19 ?_
  refine w_get X 0 0 rfl rfl rfl in_X5 2 (by decide) fk_X5_26 rfl dX5_lostWith_20 ?_
  refine w_get X 2 0 rfl rfl rfl in_X1 3 (by decide) fk_X5_143 rfl dX5_lostWith_23 ?_
  refine w_isub X dX5_lostWith_26 ?_
  exact w_iret_me X (rw2 ζ 2 ρv2) (by subst hn2; subst hn1;  rw [tr_met, tr_met]; rfl) (rfl) (Nat.le_of_ble_eq_true rfl) (Nat.le_of_ble_eq_true rfl) dX5_lostWith_27
set_option maxRecDepth 100000 in
set_option maxHeartbeats 4000000 in
theorem m_X5_objectProperty (l : Launch) (g : GG) (am : Nat → Nat) (ast : Nat → Nat) (art : Nat → Nat) (aliv : Nat → Nat) (asur : Nat → Nat) (alas : Nat → Nat) (atx : Nat → Nat) (ahi : Nat → Nat) (σ : Nat → Nat → Int32) (ζ : Nat → Nat → Nat → Int32) (j : Nat) (w : Nat) (hj : j < 24) (hw : w < 12) : MME (U := (Nat → Nat → Nat → Int32)) l g yX5_objectProperty cX5_objectProperty 3 (some .int) 3 0 0 [.ref (am 0), .int (nI j), .int (nI w)] [maC g am (ast 0) (art 0) (alas 0) (atx 0) (ahi 0), stC g ast σ, rtC g art (aliv 0) (asur 0) (ζ 3), rcC g aliv (ζ 0), rcC g asur (ζ 1), rcC g alas (ζ 2)] (some (.int (opC σ j w))) (fun ζ' => [maC g am (ast 0) (art 0) (alas 0) (atx 0) (ahi 0), stC g ast σ, rtC g art (aliv 0) (asur 0) (ζ' 3), rcC g aliv (ζ' 0), rcC g asur (ζ' 1), rcC g alas (ζ' 2)]) := by
  refine mk_me (by decide +kernel) (Nat.le_of_ble_eq_true rfl) (fun p e s m below meth c A hA X => ?_)
  refine w_iload_n X 2 rfl dX5_objectProperty_0 ?_
  rcases (show w = 0 ∨ w = 1 ∨ w = 2 ∨ w = 3 ∨ w = 4 ∨ w = 5 ∨ w = 6 ∨ w = 7 ∨ w = 8 ∨ w = 9 ∨ w = 10 ∨ (10 < w) by omega) with c1 | c1 | c1 | c1 | c1 | c1 | c1 | c1 | c1 | c1 | c1 | c1
  · subst c1
    refine w_tableIn X 60 dX5_objectProperty_1 (by decide) (by decide) (by rfl) (by decide) ?_
    refine w_aload_n X 0 rfl dX5_objectProperty_60 ?_
    refine w_get X 0 0 rfl rfl rfl in_X5 0 (by decide) fk_X5_10 rfl dX5_objectProperty_61 ?_
    refine w_get X 1 0 rfl rfl rfl in_X3 1 (by decide) fk_X5_114 rfl dX5_objectProperty_64 ?_
    refine w_iload_n X 1 rfl dX5_objectProperty_67 ?_
    refine w_iald_n X 1 2 0 rfl rfl rfl (by omega) (by decide) dX5_objectProperty_68 ?_
    exact w_iret_me X (ζ) (by first | rfl | (subst he_i; rfl) | simp (decide := true) [bI]) (rfl) (Nat.le_of_ble_eq_true rfl) (Nat.le_of_ble_eq_true rfl) dX5_objectProperty_69
  · subst c1
    refine w_tableIn X 70 dX5_objectProperty_1 (by decide) (by decide) (by rfl) (by decide) ?_
    refine w_aload_n X 0 rfl dX5_objectProperty_70 ?_
    refine w_get X 0 0 rfl rfl rfl in_X5 0 (by decide) fk_X5_10 rfl dX5_objectProperty_71 ?_
    refine w_get X 1 0 rfl rfl rfl in_X3 2 (by decide) fk_X5_218 rfl dX5_objectProperty_74 ?_
    refine w_iload_n X 1 rfl dX5_objectProperty_77 ?_
    refine w_iald_n X 1 3 0 rfl rfl rfl (by omega) (by decide) dX5_objectProperty_78 ?_
    exact w_iret_me X (ζ) (by first | rfl | (subst he_i; rfl) | simp (decide := true) [bI]) (rfl) (Nat.le_of_ble_eq_true rfl) (Nat.le_of_ble_eq_true rfl) dX5_objectProperty_79
  · subst c1
    refine w_tableIn X 80 dX5_objectProperty_1 (by decide) (by decide) (by rfl) (by decide) ?_
    refine w_aload_n X 0 rfl dX5_objectProperty_80 ?_
    refine w_get X 0 0 rfl rfl rfl in_X5 0 (by decide) fk_X5_10 rfl dX5_objectProperty_81 ?_
    refine w_get X 1 0 rfl rfl rfl in_X3 3 (by decide) fk_X5_221 rfl dX5_objectProperty_84 ?_
    refine w_iload_n X 1 rfl dX5_objectProperty_87 ?_
    refine w_iald_n X 1 4 0 rfl rfl rfl (by omega) (by decide) dX5_objectProperty_88 ?_
    exact w_iret_me X (ζ) (by first | rfl | (subst he_i; rfl) | simp (decide := true) [bI]) (rfl) (Nat.le_of_ble_eq_true rfl) (Nat.le_of_ble_eq_true rfl) dX5_objectProperty_89
  · subst c1
    refine w_tableIn X 90 dX5_objectProperty_1 (by decide) (by decide) (by rfl) (by decide) ?_
    refine w_aload_n X 0 rfl dX5_objectProperty_90 ?_
    refine w_get X 0 0 rfl rfl rfl in_X5 0 (by decide) fk_X5_10 rfl dX5_objectProperty_91 ?_
    refine w_iload_n X 1 rfl dX5_objectProperty_94 ?_
    refine w_iconst X (nI 0) dX5_objectProperty_95 (by decide +kernel) ?_
    refine w_roV X [1] 1 0 (m_X3_reference l g ast σ (nI (j)) (nI (0))) cv_X3_reference mk_X5_96 rfl rfl rfl rfl rfl ⟨Nat.le_of_ble_eq_true rfl, Nat.le_of_ble_eq_true rfl⟩ (Nat.le_of_ble_eq_true rfl) ⟨Nat.le_of_ble_eq_true rfl, Nat.le_of_ble_eq_true rfl⟩ dX5_objectProperty_96 rfl ?_
    exact w_iret_me X (ζ) (by first | rfl | (subst he_i; rfl) | simp (decide := true) [bI]) (rfl) (Nat.le_of_ble_eq_true rfl) (Nat.le_of_ble_eq_true rfl) dX5_objectProperty_99
  · subst c1
    refine w_tableIn X 100 dX5_objectProperty_1 (by decide) (by decide) (by rfl) (by decide) ?_
    refine w_aload_n X 0 rfl dX5_objectProperty_100 ?_
    refine w_get X 0 0 rfl rfl rfl in_X5 0 (by decide) fk_X5_10 rfl dX5_objectProperty_101 ?_
    refine w_iload_n X 1 rfl dX5_objectProperty_104 ?_
    refine w_iconst X (nI 1) dX5_objectProperty_105 (by decide +kernel) ?_
    refine w_roV X [1] 1 0 (m_X3_reference l g ast σ (nI (j)) (nI (1))) cv_X3_reference mk_X5_96 rfl rfl rfl rfl rfl ⟨Nat.le_of_ble_eq_true rfl, Nat.le_of_ble_eq_true rfl⟩ (Nat.le_of_ble_eq_true rfl) ⟨Nat.le_of_ble_eq_true rfl, Nat.le_of_ble_eq_true rfl⟩ dX5_objectProperty_106 rfl ?_
    exact w_iret_me X (ζ) (by first | rfl | (subst he_i; rfl) | simp (decide := true) [bI]) (rfl) (Nat.le_of_ble_eq_true rfl) (Nat.le_of_ble_eq_true rfl) dX5_objectProperty_109
  · subst c1
    refine w_tableIn X 110 dX5_objectProperty_1 (by decide) (by decide) (by rfl) (by decide) ?_
    refine w_aload_n X 0 rfl dX5_objectProperty_110 ?_
    refine w_get X 0 0 rfl rfl rfl in_X5 0 (by decide) fk_X5_10 rfl dX5_objectProperty_111 ?_
    refine w_get X 1 0 rfl rfl rfl in_X3 5 (by decide) fk_X5_103 rfl dX5_objectProperty_114 ?_
    refine w_iload_n X 1 rfl dX5_objectProperty_117 ?_
    refine w_zald_n X 1 6 1 rfl rfl rfl (by omega) (by decide) dX5_objectProperty_118 ?_
    refine w_roS X [] (m_X5_oneIf_R l g (σ 5 j)) cs_X5_oneIf mk_X5_107 rfl rfl ⟨Nat.le_of_ble_eq_true rfl, Nat.le_of_ble_eq_true rfl⟩ (Nat.le_of_ble_eq_true rfl) ⟨Nat.le_of_ble_eq_true rfl, Nat.le_of_ble_eq_true rfl⟩ dX5_objectProperty_119 rfl ?_
    exact w_iret_me X (ζ) (by first | rfl | (subst he_i; rfl) | simp (decide := true) [bI]) (rfl) (Nat.le_of_ble_eq_true rfl) (Nat.le_of_ble_eq_true rfl) dX5_objectProperty_122
  · subst c1
    refine w_tableIn X 123 dX5_objectProperty_1 (by decide) (by decide) (by rfl) (by decide) ?_
    refine w_aload_n X 0 rfl dX5_objectProperty_123 ?_
    refine w_get X 0 0 rfl rfl rfl in_X5 0 (by decide) fk_X5_10 rfl dX5_objectProperty_124 ?_
    refine w_get X 1 0 rfl rfl rfl in_X3 6 (by decide) fk_X5_111 rfl dX5_objectProperty_127 ?_
    refine w_iload_n X 1 rfl dX5_objectProperty_130 ?_
    refine w_zald_n X 1 7 1 rfl rfl rfl (by omega) (by decide) dX5_objectProperty_131 ?_
    refine w_roS X [] (m_X5_oneIf_R l g (σ 6 j)) cs_X5_oneIf mk_X5_107 rfl rfl ⟨Nat.le_of_ble_eq_true rfl, Nat.le_of_ble_eq_true rfl⟩ (Nat.le_of_ble_eq_true rfl) ⟨Nat.le_of_ble_eq_true rfl, Nat.le_of_ble_eq_true rfl⟩ dX5_objectProperty_132 rfl ?_
    exact w_iret_me X (ζ) (by first | rfl | (subst he_i; rfl) | simp (decide := true) [bI]) (rfl) (Nat.le_of_ble_eq_true rfl) (Nat.le_of_ble_eq_true rfl) dX5_objectProperty_135
  · subst c1
    refine w_tableIn X 190 dX5_objectProperty_1 (by decide) (by decide) (by rfl) (by decide) ?_
    refine w_aload_n X 0 rfl dX5_objectProperty_190 ?_
    refine w_iconst X (-1) dX5_objectProperty_191 (by decide +kernel) ?_
    refine w_muV X hA (gr := [rtC g art (aliv 0) (asur 0) (ζ 3), rcC g aliv (ζ 0), rcC g asur (ζ 1)]) (gs1 := [maC g am (ast 0) (art 0) (alas 0) (atx 0) (ahi 0), stC g ast σ, rtC g art (aliv 0) (asur 0) (ζ 3), rcC g aliv (ζ 0), rcC g asur (ζ 1), rcC g alas (trR σ ((ζ 2)) (-1))]) [0, 1, 5] [2, 3, 4] 0 0 (m_X5_traceRoots l g am ast art alas atx ahi σ ζ (-1)) cv_X5_traceRoots mk_X5_233 rfl rfl rfl (ng := 6) rfl (by decide) rfl rfl rfl rfl rfl rfl ⟨Nat.le_of_ble_eq_true rfl, Nat.le_of_ble_eq_true rfl⟩ (Nat.le_of_ble_eq_true rfl) ⟨Nat.le_of_ble_eq_true rfl, Nat.le_of_ble_eq_true rfl⟩ dX5_objectProperty_192 rfl ?_
    generalize hn1 : trR σ ((ζ 2)) (-1) = ρv1
    refine w_iload_n X 2 rfl dX5_objectProperty_195 ?_
    refine w_bipush X (nI 7) dX5_objectProperty_196 (by decide +kernel) ?_
    refine w_nc_ne X (by omega) (by omega) 215 dX5_objectProperty_198 (by decide) (fun c198 => by exfalso; omega) (fun c198 => ?_)
    refine w_aload_n X 0 rfl dX5_objectProperty_201 ?_
    refine w_get X 0 0 rfl rfl rfl in_X5 2 (by decide) fk_X5_26 rfl dX5_objectProperty_202 ?_
    refine w_iload_n X 1 rfl dX5_objectProperty_205 ?_
    refine w_roV X [5] 5 0 (m_X1_hasMet l g alas ρv1 (nI (j))) cv_X1_hasMet mk_X5_224 rfl rfl rfl rfl rfl ⟨Nat.le_of_ble_eq_true rfl, Nat.le_of_ble_eq_true rfl⟩ (Nat.le_of_ble_eq_true rfl) ⟨Nat.le_of_ble_eq_true rfl, Nat.le_of_ble_eq_true rfl⟩ dX5_objectProperty_206 rfl ?_
    refine w_roS X [] (m_X5_oneIf l g (metB ρv1 (nI (j)))) cs_X5_oneIf mk_X5_107 rfl rfl ⟨Nat.le_of_ble_eq_true rfl, Nat.le_of_ble_eq_true rfl⟩ (Nat.le_of_ble_eq_true rfl) ⟨Nat.le_of_ble_eq_true rfl, Nat.le_of_ble_eq_true rfl⟩ dX5_objectProperty_209 rfl ?_
    refine w_goto X 223 dX5_objectProperty_212 (by decide) ?_
    exact w_iret_me X (rw2 ζ 2 ρv1) (by subst hn1;  first | (rw [tr_metB]; rfl) | (rw [tr_step]; rfl)) (rfl) (Nat.le_of_ble_eq_true rfl) (Nat.le_of_ble_eq_true rfl) dX5_objectProperty_223
  · subst c1
    refine w_tableIn X 136 dX5_objectProperty_1 (by decide) (by decide) (by rfl) (by decide) ?_
    refine w_aload_n X 0 rfl dX5_objectProperty_136 ?_
    refine w_get X 0 0 rfl rfl rfl in_X5 1 (by decide) fk_X5_19 rfl dX5_objectProperty_137 ?_
    refine w_aload_n X 0 rfl dX5_objectProperty_140 ?_
    refine w_get X 0 0 rfl rfl rfl in_X5 0 (by decide) fk_X5_10 rfl dX5_objectProperty_141 ?_
    refine w_aload_n X 0 rfl dX5_objectProperty_144 ?_
    refine w_get X 0 0 rfl rfl rfl in_X5 0 (by decide) fk_X5_10 rfl dX5_objectProperty_145 ?_
    refine w_get X 1 0 rfl rfl rfl in_X3 1 (by decide) fk_X5_114 rfl dX5_objectProperty_148 ?_
    refine w_iload_n X 1 rfl dX5_objectProperty_151 ?_
    refine w_iald_n X 1 2 0 rfl rfl rfl (by omega) (by decide) dX5_objectProperty_152 ?_
    refine w_muV X hA (gr := [maC g am (ast 0) (art 0) (alas 0) (atx 0) (ahi 0), rcC g alas (ζ 2)]) (gs1 := [maC g am (ast 0) (art 0) (alas 0) (atx 0) (ahi 0), stC g ast σ, rtC g art (aliv 0) (asur 0) (ζ 3), rcC g aliv (livR σ (ζ 0)), rcC g asur (survR σ (ζ 0) (ζ 1) (σ 1 j)), rcC g alas (ζ 2)]) [2, 3, 4, 1] [0, 5] 2 0 (m_X2_survey l g art (ζ 3) aliv (ζ 0) asur (ζ 1) ast σ (σ 1 j)) cv_X2_survey mk_X5_136 rfl rfl rfl (ng := 6) rfl (by decide) rfl rfl rfl rfl rfl rfl ⟨Nat.le_of_ble_eq_true rfl, Nat.le_of_ble_eq_true rfl⟩ (Nat.le_of_ble_eq_true rfl) ⟨Nat.le_of_ble_eq_true rfl, Nat.le_of_ble_eq_true rfl⟩ dX5_objectProperty_153 rfl ?_
    generalize hn2 : livR σ (ζ 0) = ρv2
    generalize hn3 : survR σ (ζ 0) (ζ 1) (σ 1 j) = ρv3
    refine w_aload_n X 0 rfl dX5_objectProperty_156 ?_
    refine w_get X 0 0 rfl rfl rfl in_X5 1 (by decide) fk_X5_19 rfl dX5_objectProperty_157 ?_
    refine w_get X 2 0 rfl rfl rfl in_X2 1 (by decide) fk_X5_140 rfl dX5_objectProperty_160 ?_
    refine w_iload_n X 1 rfl dX5_objectProperty_163 ?_
    refine w_roV X [4] 4 0 (m_X1_hasMet l g asur ρv3 (nI (j))) cv_X1_hasMet mk_X5_224 rfl rfl rfl rfl rfl ⟨Nat.le_of_ble_eq_true rfl, Nat.le_of_ble_eq_true rfl⟩ (Nat.le_of_ble_eq_true rfl) ⟨Nat.le_of_ble_eq_true rfl, Nat.le_of_ble_eq_true rfl⟩ dX5_objectProperty_164 rfl ?_
    refine w_roS X [] (m_X5_oneIf l g (metB ρv3 (nI (j)))) cs_X5_oneIf mk_X5_107 rfl rfl ⟨Nat.le_of_ble_eq_true rfl, Nat.le_of_ble_eq_true rfl⟩ (Nat.le_of_ble_eq_true rfl) ⟨Nat.le_of_ble_eq_true rfl, Nat.le_of_ble_eq_true rfl⟩ dX5_objectProperty_167 rfl ?_
    exact w_iret_me X (rw2 (rw2 ζ 0 ρv2) 1 ρv3) (by subst hn3; subst hn2;  rw [su_metB]; rfl) (rfl) (Nat.le_of_ble_eq_true rfl) (Nat.le_of_ble_eq_true rfl) dX5_objectProperty_170
  · subst c1
    refine w_tableIn X 171 dX5_objectProperty_1 (by decide) (by decide) (by rfl) (by decide) ?_
    refine w_aload_n X 0 rfl dX5_objectProperty_171 ?_
    refine w_get X 0 0 rfl rfl rfl in_X5 0 (by decide) fk_X5_10 rfl dX5_objectProperty_172 ?_
    refine w_get X 1 0 rfl rfl rfl in_X3 7 (by decide) fk_X5_227 rfl dX5_objectProperty_175 ?_
    refine w_iload_n X 1 rfl dX5_objectProperty_178 ?_
    refine w_iald_n X 1 8 0 rfl rfl rfl (by omega) (by decide) dX5_objectProperty_179 ?_
    exact w_iret_me X (ζ) (by first | rfl | (subst he_i; rfl) | simp (decide := true) [bI]) (rfl) (Nat.le_of_ble_eq_true rfl) (Nat.le_of_ble_eq_true rfl) dX5_objectProperty_180
  · subst c1
    refine w_tableIn X 181 dX5_objectProperty_1 (by decide) (by decide) (by rfl) (by decide) ?_
    refine w_aload_n X 0 rfl dX5_objectProperty_181 ?_
    refine w_get X 0 0 rfl rfl rfl in_X5 0 (by decide) fk_X5_10 rfl dX5_objectProperty_182 ?_
    refine w_iload_n X 1 rfl dX5_objectProperty_185 ?_
    refine w_roV X [1] 1 0 (m_X3_referencesTo l g ast σ (nI (j))) cv_X3_referencesTo mk_X5_230 rfl rfl rfl rfl rfl ⟨Nat.le_of_ble_eq_true rfl, Nat.le_of_ble_eq_true rfl⟩ (Nat.le_of_ble_eq_true rfl) ⟨Nat.le_of_ble_eq_true rfl, Nat.le_of_ble_eq_true rfl⟩ dX5_objectProperty_186 rfl ?_
    exact w_iret_me X (ζ) (by first | rfl | (subst he_i; rfl) | simp (decide := true) [bI]) (rfl) (Nat.le_of_ble_eq_true rfl) (Nat.le_of_ble_eq_true rfl) dX5_objectProperty_189
  · obtain rfl : w = 11 := by omega
    refine w_tableOut X 190 dX5_objectProperty_1 (Or.inr (by decide)) (by decide) ?_
    refine w_aload_n X 0 rfl dX5_objectProperty_190 ?_
    refine w_iconst X (-1) dX5_objectProperty_191 (by decide +kernel) ?_
    refine w_muV X hA (gr := [rtC g art (aliv 0) (asur 0) (ζ 3), rcC g aliv (ζ 0), rcC g asur (ζ 1)]) (gs1 := [maC g am (ast 0) (art 0) (alas 0) (atx 0) (ahi 0), stC g ast σ, rtC g art (aliv 0) (asur 0) (ζ 3), rcC g aliv (ζ 0), rcC g asur (ζ 1), rcC g alas (trR σ ((ζ 2)) (-1))]) [0, 1, 5] [2, 3, 4] 0 0 (m_X5_traceRoots l g am ast art alas atx ahi σ ζ (-1)) cv_X5_traceRoots mk_X5_233 rfl rfl rfl (ng := 6) rfl (by decide) rfl rfl rfl rfl rfl rfl ⟨Nat.le_of_ble_eq_true rfl, Nat.le_of_ble_eq_true rfl⟩ (Nat.le_of_ble_eq_true rfl) ⟨Nat.le_of_ble_eq_true rfl, Nat.le_of_ble_eq_true rfl⟩ dX5_objectProperty_192 rfl ?_
    generalize hn4 : trR σ ((ζ 2)) (-1) = ρv4
    refine w_iload_n X 2 rfl dX5_objectProperty_195 ?_
    refine w_bipush X (nI 7) dX5_objectProperty_196 (by decide +kernel) ?_
    refine w_nc_ne X (by omega) (by omega) 215 dX5_objectProperty_198 (by decide) (fun c198 => ?_) (fun c198 => by exfalso; omega)
    refine w_aload_n X 0 rfl dX5_objectProperty_215 ?_
    refine w_get X 0 0 rfl rfl rfl in_X5 2 (by decide) fk_X5_26 rfl dX5_objectProperty_216 ?_
    refine w_iload_n X 1 rfl dX5_objectProperty_219 ?_
    refine w_roV X [5] 5 0 (m_X1_stepsTo l g alas ρv4 (nI (j))) cv_X1_stepsTo mk_X5_236 rfl rfl rfl rfl rfl ⟨Nat.le_of_ble_eq_true rfl, Nat.le_of_ble_eq_true rfl⟩ (Nat.le_of_ble_eq_true rfl) ⟨Nat.le_of_ble_eq_true rfl, Nat.le_of_ble_eq_true rfl⟩ dX5_objectProperty_220 rfl ?_
    exact w_iret_me X (rw2 ζ 2 ρv4) (by subst hn4;  first | (rw [tr_metB]; rfl) | (rw [tr_step]; rfl)) (rfl) (Nat.le_of_ble_eq_true rfl) (Nat.le_of_ble_eq_true rfl) dX5_objectProperty_223
set_option maxRecDepth 100000 in
set_option maxHeartbeats 4000000 in
theorem m_X5_arenaProperty (l : Launch) (g : GG) (am : Nat → Nat) (ast : Nat → Nat) (art : Nat → Nat) (aliv : Nat → Nat) (asur : Nat → Nat) (alas : Nat → Nat) (atx : Nat → Nat) (ahi : Nat → Nat) (σ : Nat → Nat → Int32) (ζ : Nat → Nat → Nat → Int32) (k : Nat) (w : Nat) (hk : k < 6) (hw : w < 8) : MME (U := (Nat → Nat → Nat → Int32)) l g yX5_arenaProperty cX5_arenaProperty 3 (some .int) 3 0 0 [.ref (am 0), .int (nI k), .int (nI w)] [maC g am (ast 0) (art 0) (alas 0) (atx 0) (ahi 0), stC g ast σ, rtC g art (aliv 0) (asur 0) (ζ 3), rcC g aliv (ζ 0), rcC g asur (ζ 1), rcC g alas (ζ 2)] (some (.int (apC σ k w))) (fun ζ' => [maC g am (ast 0) (art 0) (alas 0) (atx 0) (ahi 0), stC g ast σ, rtC g art (aliv 0) (asur 0) (ζ' 3), rcC g aliv (ζ' 0), rcC g asur (ζ' 1), rcC g alas (ζ' 2)]) := by
  refine mk_me (by decide +kernel) (Nat.le_of_ble_eq_true rfl) (fun p e s m below meth c A hA X => ?_)
  refine w_iload_n X 2 rfl dX5_arenaProperty_0 ?_
  rcases (show w = 0 ∨ w = 1 ∨ w = 2 ∨ w = 3 ∨ w = 4 ∨ w = 5 ∨ w = 6 ∨ (6 < w) by omega) with c1 | c1 | c1 | c1 | c1 | c1 | c1 | c1
  · subst c1
    refine w_tableIn X 44 dX5_arenaProperty_1 (by decide) (by decide) (by rfl) (by decide) ?_
    refine w_aload_n X 0 rfl dX5_arenaProperty_44 ?_
    refine w_get X 0 0 rfl rfl rfl in_X5 0 (by decide) fk_X5_10 rfl dX5_arenaProperty_45 ?_
    refine w_iload_n X 1 rfl dX5_arenaProperty_48 ?_
    refine w_roV X [1] 1 0 (m_X3_isOpen l g ast σ (nI (k))) cv_X3_isOpen mk_X5_74 rfl rfl rfl rfl rfl ⟨Nat.le_of_ble_eq_true rfl, Nat.le_of_ble_eq_true rfl⟩ (Nat.le_of_ble_eq_true rfl) ⟨Nat.le_of_ble_eq_true rfl, Nat.le_of_ble_eq_true rfl⟩ dX5_arenaProperty_49 rfl ?_
    refine w_roS X [] (m_X5_oneIf l g (isOpB σ (nI (k)))) cs_X5_oneIf mk_X5_107 rfl rfl ⟨Nat.le_of_ble_eq_true rfl, Nat.le_of_ble_eq_true rfl⟩ (Nat.le_of_ble_eq_true rfl) ⟨Nat.le_of_ble_eq_true rfl, Nat.le_of_ble_eq_true rfl⟩ dX5_arenaProperty_52 rfl ?_
    exact w_iret_me X (ζ) (by first | rfl | (subst he_i; rfl) | simp (decide := true) [bI]) (rfl) (Nat.le_of_ble_eq_true rfl) (Nat.le_of_ble_eq_true rfl) dX5_arenaProperty_55
  · subst c1
    refine w_tableIn X 56 dX5_arenaProperty_1 (by decide) (by decide) (by rfl) (by decide) ?_
    refine w_aload_n X 0 rfl dX5_arenaProperty_56 ?_
    refine w_get X 0 0 rfl rfl rfl in_X5 0 (by decide) fk_X5_10 rfl dX5_arenaProperty_57 ?_
    refine w_get X 1 0 rfl rfl rfl in_X3 9 (by decide) fk_X5_242 rfl dX5_arenaProperty_60 ?_
    refine w_iload_n X 1 rfl dX5_arenaProperty_63 ?_
    refine w_iald_n X 1 10 0 rfl rfl rfl (by omega) (by decide) dX5_arenaProperty_64 ?_
    exact w_iret_me X (ζ) (by first | rfl | (subst he_i; rfl) | simp (decide := true) [bI]) (rfl) (Nat.le_of_ble_eq_true rfl) (Nat.le_of_ble_eq_true rfl) dX5_arenaProperty_65
  · subst c1
    refine w_tableIn X 66 dX5_arenaProperty_1 (by decide) (by decide) (by rfl) (by decide) ?_
    refine w_aload_n X 0 rfl dX5_arenaProperty_66 ?_
    refine w_get X 0 0 rfl rfl rfl in_X5 0 (by decide) fk_X5_10 rfl dX5_arenaProperty_67 ?_
    refine w_iload_n X 1 rfl dX5_arenaProperty_70 ?_
    refine w_roV X [1] 1 0 (m_X3_objectsIn l g ast σ (nI (k))) cv_X3_objectsIn mk_X5_245 rfl rfl rfl rfl rfl ⟨Nat.le_of_ble_eq_true rfl, Nat.le_of_ble_eq_true rfl⟩ (Nat.le_of_ble_eq_true rfl) ⟨Nat.le_of_ble_eq_true rfl, Nat.le_of_ble_eq_true rfl⟩ dX5_arenaProperty_71 rfl ?_
    exact w_iret_me X (ζ) (by first | rfl | (subst he_i; rfl) | simp (decide := true) [bI]) (rfl) (Nat.le_of_ble_eq_true rfl) (Nat.le_of_ble_eq_true rfl) dX5_arenaProperty_74
  · subst c1
    refine w_tableIn X 75 dX5_arenaProperty_1 (by decide) (by decide) (by rfl) (by decide) ?_
    refine w_aload_n X 0 rfl dX5_arenaProperty_75 ?_
    refine w_get X 0 0 rfl rfl rfl in_X5 1 (by decide) fk_X5_19 rfl dX5_arenaProperty_76 ?_
    refine w_aload_n X 0 rfl dX5_arenaProperty_79 ?_
    refine w_get X 0 0 rfl rfl rfl in_X5 0 (by decide) fk_X5_10 rfl dX5_arenaProperty_80 ?_
    refine w_iload_n X 1 rfl dX5_arenaProperty_83 ?_
    refine w_muV X hA (gr := [maC g am (ast 0) (art 0) (alas 0) (atx 0) (ahi 0), rcC g alas (ζ 2)]) (gs1 := [maC g am (ast 0) (art 0) (alas 0) (atx 0) (ahi 0), stC g ast σ, rtC g art (aliv 0) (asur 0) (ζ 3), rcC g aliv (livR σ (ζ 0)), rcC g asur (survR σ (ζ 0) (ζ 1) (nI (k))), rcC g alas (ζ 2)]) [2, 3, 4, 1] [0, 5] 2 0 (m_X2_survey l g art (ζ 3) aliv (ζ 0) asur (ζ 1) ast σ (nI (k))) cv_X2_survey mk_X5_136 rfl rfl rfl (ng := 6) rfl (by decide) rfl rfl rfl rfl rfl rfl ⟨Nat.le_of_ble_eq_true rfl, Nat.le_of_ble_eq_true rfl⟩ (Nat.le_of_ble_eq_true rfl) ⟨Nat.le_of_ble_eq_true rfl, Nat.le_of_ble_eq_true rfl⟩ dX5_arenaProperty_84 rfl ?_
    generalize hn1 : livR σ (ζ 0) = ρv1
    generalize hn2 : survR σ (ζ 0) (ζ 1) (nI (k)) = ρv2
    refine w_aload_n X 0 rfl dX5_arenaProperty_87 ?_
    refine w_get X 0 0 rfl rfl rfl in_X5 1 (by decide) fk_X5_19 rfl dX5_arenaProperty_88 ?_
    refine w_aload_n X 0 rfl dX5_arenaProperty_91 ?_
    refine w_get X 0 0 rfl rfl rfl in_X5 0 (by decide) fk_X5_10 rfl dX5_arenaProperty_92 ?_
    refine w_roV X [2, 3, 4, 1] 2 0 (m_X2_survivingCells l g art (ζ 3) aliv ρv1 asur ρv2 ast σ) cv_X2_survivingCells mk_X5_248 rfl rfl rfl rfl rfl ⟨Nat.le_of_ble_eq_true rfl, Nat.le_of_ble_eq_true rfl⟩ (Nat.le_of_ble_eq_true rfl) ⟨Nat.le_of_ble_eq_true rfl, Nat.le_of_ble_eq_true rfl⟩ dX5_arenaProperty_95 rfl ?_
    exact w_iret_me X (rw2 (rw2 ζ 0 ρv1) 1 ρv2) (by subst hn2; subst hn1;  rw [su_cells]; rfl) (rfl) (Nat.le_of_ble_eq_true rfl) (Nat.le_of_ble_eq_true rfl) dX5_arenaProperty_98
  · subst c1
    refine w_tableIn X 99 dX5_arenaProperty_1 (by decide) (by decide) (by rfl) (by decide) ?_
    refine w_aload_n X 0 rfl dX5_arenaProperty_99 ?_
    refine w_get X 0 0 rfl rfl rfl in_X5 1 (by decide) fk_X5_19 rfl dX5_arenaProperty_100 ?_
    refine w_aload_n X 0 rfl dX5_arenaProperty_103 ?_
    refine w_get X 0 0 rfl rfl rfl in_X5 0 (by decide) fk_X5_10 rfl dX5_arenaProperty_104 ?_
    refine w_iload_n X 1 rfl dX5_arenaProperty_107 ?_
    refine w_muV X hA (gr := [maC g am (ast 0) (art 0) (alas 0) (atx 0) (ahi 0), rcC g alas (ζ 2)]) (gs1 := [maC g am (ast 0) (art 0) (alas 0) (atx 0) (ahi 0), stC g ast σ, rtC g art (aliv 0) (asur 0) (ζ 3), rcC g aliv (livR σ (ζ 0)), rcC g asur (survR σ (ζ 0) (ζ 1) (nI (k))), rcC g alas (ζ 2)]) [2, 3, 4, 1] [0, 5] 2 0 (m_X2_survey l g art (ζ 3) aliv (ζ 0) asur (ζ 1) ast σ (nI (k))) cv_X2_survey mk_X5_136 rfl rfl rfl (ng := 6) rfl (by decide) rfl rfl rfl rfl rfl rfl ⟨Nat.le_of_ble_eq_true rfl, Nat.le_of_ble_eq_true rfl⟩ (Nat.le_of_ble_eq_true rfl) ⟨Nat.le_of_ble_eq_true rfl, Nat.le_of_ble_eq_true rfl⟩ dX5_arenaProperty_108 rfl ?_
    generalize hn3 : livR σ (ζ 0) = ρv3
    generalize hn4 : survR σ (ζ 0) (ζ 1) (nI (k)) = ρv4
    refine w_aload_n X 0 rfl dX5_arenaProperty_111 ?_
    refine w_get X 0 0 rfl rfl rfl in_X5 1 (by decide) fk_X5_19 rfl dX5_arenaProperty_112 ?_
    refine w_aload_n X 0 rfl dX5_arenaProperty_115 ?_
    refine w_get X 0 0 rfl rfl rfl in_X5 0 (by decide) fk_X5_10 rfl dX5_arenaProperty_116 ?_
    refine w_iload_n X 1 rfl dX5_arenaProperty_119 ?_
    refine w_roV X [2, 3, 4, 1] 2 0 (m_X2_deadCells l g art (ζ 3) aliv ρv3 asur ρv4 ast σ (nI (k))) cv_X2_deadCells mk_X5_252 rfl rfl rfl rfl rfl ⟨Nat.le_of_ble_eq_true rfl, Nat.le_of_ble_eq_true rfl⟩ (Nat.le_of_ble_eq_true rfl) ⟨Nat.le_of_ble_eq_true rfl, Nat.le_of_ble_eq_true rfl⟩ dX5_arenaProperty_120 rfl ?_
    exact w_iret_me X (rw2 (rw2 ζ 0 ρv3) 1 ρv4) (by subst hn4; subst hn3;  rw [su_dead]; rfl) (rfl) (Nat.le_of_ble_eq_true rfl) (Nat.le_of_ble_eq_true rfl) dX5_arenaProperty_123
  · subst c1
    refine w_tableIn X 124 dX5_arenaProperty_1 (by decide) (by decide) (by rfl) (by decide) ?_
    refine w_aload_n X 0 rfl dX5_arenaProperty_124 ?_
    refine w_get X 0 0 rfl rfl rfl in_X5 0 (by decide) fk_X5_10 rfl dX5_arenaProperty_125 ?_
    refine w_iload_n X 1 rfl dX5_arenaProperty_128 ?_
    refine w_roV X [1] 1 0 (m_X3_pinnedIn l g ast σ (nI (k))) cv_X3_pinnedIn mk_X5_118 rfl rfl rfl rfl rfl ⟨Nat.le_of_ble_eq_true rfl, Nat.le_of_ble_eq_true rfl⟩ (Nat.le_of_ble_eq_true rfl) ⟨Nat.le_of_ble_eq_true rfl, Nat.le_of_ble_eq_true rfl⟩ dX5_arenaProperty_129 rfl ?_
    exact w_iret_me X (ζ) (by first | rfl | (subst he_i; rfl) | simp (decide := true) [bI]) (rfl) (Nat.le_of_ble_eq_true rfl) (Nat.le_of_ble_eq_true rfl) dX5_arenaProperty_132
  · subst c1
    refine w_tableIn X 133 dX5_arenaProperty_1 (by decide) (by decide) (by rfl) (by decide) ?_
    refine w_aload_n X 0 rfl dX5_arenaProperty_133 ?_
    refine w_get X 0 0 rfl rfl rfl in_X5 1 (by decide) fk_X5_19 rfl dX5_arenaProperty_134 ?_
    refine w_aload_n X 0 rfl dX5_arenaProperty_137 ?_
    refine w_get X 0 0 rfl rfl rfl in_X5 0 (by decide) fk_X5_10 rfl dX5_arenaProperty_138 ?_
    refine w_iload_n X 1 rfl dX5_arenaProperty_141 ?_
    refine w_muV X hA (gr := [maC g am (ast 0) (art 0) (alas 0) (atx 0) (ahi 0), rcC g alas (ζ 2)]) (gs1 := [maC g am (ast 0) (art 0) (alas 0) (atx 0) (ahi 0), stC g ast σ, rtC g art (aliv 0) (asur 0) (ζ 3), rcC g aliv (livR σ (ζ 0)), rcC g asur (survR σ (ζ 0) (ζ 1) (nI (k))), rcC g alas (ζ 2)]) [2, 3, 4, 1] [0, 5] 2 0 (m_X2_survey l g art (ζ 3) aliv (ζ 0) asur (ζ 1) ast σ (nI (k))) cv_X2_survey mk_X5_136 rfl rfl rfl (ng := 6) rfl (by decide) rfl rfl rfl rfl rfl rfl ⟨Nat.le_of_ble_eq_true rfl, Nat.le_of_ble_eq_true rfl⟩ (Nat.le_of_ble_eq_true rfl) ⟨Nat.le_of_ble_eq_true rfl, Nat.le_of_ble_eq_true rfl⟩ dX5_arenaProperty_142 rfl ?_
    generalize hn5 : livR σ (ζ 0) = ρv5
    generalize hn6 : survR σ (ζ 0) (ζ 1) (nI (k)) = ρv6
    refine w_aload_n X 0 rfl dX5_arenaProperty_145 ?_
    refine w_get X 0 0 rfl rfl rfl in_X5 1 (by decide) fk_X5_19 rfl dX5_arenaProperty_146 ?_
    refine w_aload_n X 0 rfl dX5_arenaProperty_149 ?_
    refine w_get X 0 0 rfl rfl rfl in_X5 0 (by decide) fk_X5_10 rfl dX5_arenaProperty_150 ?_
    refine w_roV X [2, 3, 4, 1] 2 0 (m_X2_isKept l g art (ζ 3) aliv ρv5 asur ρv6 ast σ) cv_X2_isKept mk_X5_256 rfl rfl rfl rfl rfl ⟨Nat.le_of_ble_eq_true rfl, Nat.le_of_ble_eq_true rfl⟩ (Nat.le_of_ble_eq_true rfl) ⟨Nat.le_of_ble_eq_true rfl, Nat.le_of_ble_eq_true rfl⟩ dX5_arenaProperty_153 rfl ?_
    refine w_roS X [] (m_X5_oneIf l g (keptB σ ρv6)) cs_X5_oneIf mk_X5_107 rfl rfl ⟨Nat.le_of_ble_eq_true rfl, Nat.le_of_ble_eq_true rfl⟩ (Nat.le_of_ble_eq_true rfl) ⟨Nat.le_of_ble_eq_true rfl, Nat.le_of_ble_eq_true rfl⟩ dX5_arenaProperty_156 rfl ?_
    exact w_iret_me X (rw2 (rw2 ζ 0 ρv5) 1 ρv6) (by subst hn6; subst hn5;  rw [su_kept]; rfl) (rfl) (Nat.le_of_ble_eq_true rfl) (Nat.le_of_ble_eq_true rfl) dX5_arenaProperty_159
  · obtain rfl : w = 7 := by omega
    refine w_tableOut X 160 dX5_arenaProperty_1 (Or.inr (by decide)) (by decide) ?_
    refine w_aload_n X 0 rfl dX5_arenaProperty_160 ?_
    refine w_get X 0 0 rfl rfl rfl in_X5 0 (by decide) fk_X5_10 rfl dX5_arenaProperty_161 ?_
    refine w_get X 1 0 rfl rfl rfl in_X3 10 (by decide) fk_X5_260 rfl dX5_arenaProperty_164 ?_
    refine w_iload_n X 1 rfl dX5_arenaProperty_167 ?_
    refine w_iald_n X 1 11 0 rfl rfl rfl (by omega) (by decide) dX5_arenaProperty_168 ?_
    exact w_iret_me X (ζ) (by first | rfl | (subst he_i; rfl) | simp (decide := true) [bI]) (rfl) (Nat.le_of_ble_eq_true rfl) (Nat.le_of_ble_eq_true rfl) dX5_arenaProperty_169
set_option maxRecDepth 100000 in
set_option maxHeartbeats 4000000 in
theorem m_X5_number (l : Launch) (g : GG) (am : Nat → Nat) (ast : Nat → Nat) (art : Nat → Nat) (alas : Nat → Nat) (atx : Nat → Nat) (ahi : Nat → Nat) (had : Nat → Nat → Nat) (σ : Nat → Nat → Int32) (ζ : Nat → Nat → Nat → Int32) (η : Nat → Nat → Int32) (w : Nat) (hw : w < 11) : MME (U := (Nat → Nat → Nat → Int32)) l g yX5_number cX5_number 2 (some .int) 3 0 0 [.ref (am 0), .int (nI w)] [maC g am (ast 0) (art 0) (alas 0) (atx 0) (ahi 0), stC g ast σ, rcC g alas (ζ 2), hiC g ahi (fun i => had i 0) η] (some (.int (ctC σ η w))) (fun ζ' => [maC g am (ast 0) (art 0) (alas 0) (atx 0) (ahi 0), stC g ast σ, rcC g alas (ζ' 2), hiC g ahi (fun i => had i 0) η]) := by
  refine mk_me (by decide +kernel) (Nat.le_of_ble_eq_true rfl) (fun p e s m below meth c A hA X => ?_)
  refine w_iload_n X 1 rfl dX5_number_0 ?_
  rcases (show w = 0 ∨ w = 1 ∨ w = 2 ∨ w = 3 ∨ w = 4 ∨ w = 5 ∨ w = 6 ∨ w = 7 ∨ w = 8 ∨ w = 9 ∨ (9 < w) by omega) with c1 | c1 | c1 | c1 | c1 | c1 | c1 | c1 | c1 | c1 | c1
  · subst c1
    refine w_tableIn X 56 dX5_number_1 (by decide) (by decide) (by rfl) (by decide) ?_
    refine w_aload_n X 0 rfl dX5_number_56 ?_
    refine w_get X 0 0 rfl rfl rfl in_X5 0 (by decide) fk_X5_10 rfl dX5_number_57 ?_
    refine w_roV X [1] 1 0 (m_X3_objects l g ast σ) cv_X3_objects mk_X5_273 rfl rfl rfl rfl rfl ⟨Nat.le_of_ble_eq_true rfl, Nat.le_of_ble_eq_true rfl⟩ (Nat.le_of_ble_eq_true rfl) ⟨Nat.le_of_ble_eq_true rfl, Nat.le_of_ble_eq_true rfl⟩ dX5_number_60 rfl ?_
    exact w_iret_me X (ζ) (by first | rfl | (subst he_i; rfl) | simp (decide := true) [bI]) (rfl) (Nat.le_of_ble_eq_true rfl) (Nat.le_of_ble_eq_true rfl) dX5_number_63
  · subst c1
    refine w_tableIn X 64 dX5_number_1 (by decide) (by decide) (by rfl) (by decide) ?_
    refine w_aload_n X 0 rfl dX5_number_64 ?_
    refine w_iconst X (-1) dX5_number_65 (by decide +kernel) ?_
    refine w_muV X hA (gr := [hiC g ahi (fun i => had i 0) η]) (gs1 := [maC g am (ast 0) (art 0) (alas 0) (atx 0) (ahi 0), stC g ast σ, rcC g alas (trR σ ((ζ 2)) (-1)), hiC g ahi (fun i => had i 0) η]) [0, 1, 2] [3] 0 0 (m_X5_traceRoots l g am ast art alas atx ahi σ ζ (-1)) cv_X5_traceRoots mk_X5_233 rfl rfl rfl (ng := 4) rfl (by decide) rfl rfl rfl rfl rfl rfl ⟨Nat.le_of_ble_eq_true rfl, Nat.le_of_ble_eq_true rfl⟩ (Nat.le_of_ble_eq_true rfl) ⟨Nat.le_of_ble_eq_true rfl, Nat.le_of_ble_eq_true rfl⟩ dX5_number_66 rfl ?_
    generalize hn1 : trR σ ((ζ 2)) (-1) = ρv1
    refine w_aload_n X 0 rfl dX5_number_69 ?_
    refine w_get X 0 0 rfl rfl rfl in_X5 2 (by decide) fk_X5_26 rfl dX5_number_70 ?_
    refine w_get X 2 0 rfl rfl rfl in_X1 3 (by decide) fk_X5_143 rfl dX5_number_73 ?_
    exact w_iret_me X (rw2 ζ 2 ρv1) (by subst hn1;  rw [tr_met]; rfl) (rfl) (Nat.le_of_ble_eq_true rfl) (Nat.le_of_ble_eq_true rfl) dX5_number_76
  · subst c1
    refine w_tableIn X 77 dX5_number_1 (by decide) (by decide) (by rfl) (by decide) ?_
    refine w_aload_n X 0 rfl dX5_number_77 ?_
    refine w_get X 0 0 rfl rfl rfl in_X5 0 (by decide) fk_X5_10 rfl dX5_number_78 ?_
    refine w_roV X [1] 1 0 (m_X3_openArenas l g ast σ) cv_X3_openArenas mk_X5_276 rfl rfl rfl rfl rfl ⟨Nat.le_of_ble_eq_true rfl, Nat.le_of_ble_eq_true rfl⟩ (Nat.le_of_ble_eq_true rfl) ⟨Nat.le_of_ble_eq_true rfl, Nat.le_of_ble_eq_true rfl⟩ dX5_number_81 rfl ?_
    exact w_iret_me X (ζ) (by first | rfl | (subst he_i; rfl) | simp (decide := true) [bI]) (rfl) (Nat.le_of_ble_eq_true rfl) (Nat.le_of_ble_eq_true rfl) dX5_number_84
  · subst c1
    refine w_tableIn X 85 dX5_number_1 (by decide) (by decide) (by rfl) (by decide) ?_
    refine w_aload_n X 0 rfl dX5_number_85 ?_
    refine w_get X 0 0 rfl rfl rfl in_X5 0 (by decide) fk_X5_10 rfl dX5_number_86 ?_
    refine w_roV X [1] 1 0 (m_X3_roots l g ast σ) cv_X3_roots mk_X5_279 rfl rfl rfl rfl rfl ⟨Nat.le_of_ble_eq_true rfl, Nat.le_of_ble_eq_true rfl⟩ (Nat.le_of_ble_eq_true rfl) ⟨Nat.le_of_ble_eq_true rfl, Nat.le_of_ble_eq_true rfl⟩ dX5_number_89 rfl ?_
    exact w_iret_me X (ζ) (by first | rfl | (subst he_i; rfl) | simp (decide := true) [bI]) (rfl) (Nat.le_of_ble_eq_true rfl) (Nat.le_of_ble_eq_true rfl) dX5_number_92
  · subst c1
    refine w_tableIn X 93 dX5_number_1 (by decide) (by decide) (by rfl) (by decide) ?_
    refine w_aload_n X 0 rfl dX5_number_93 ?_
    refine w_get X 0 0 rfl rfl rfl in_X5 0 (by decide) fk_X5_10 rfl dX5_number_94 ?_
    refine w_iconst X (nI 0) dX5_number_97 (by decide +kernel) ?_
    refine w_roV X [1] 1 0 (m_X3_references l g ast σ false) cv_X3_references mk_X5_282 rfl rfl rfl rfl rfl ⟨Nat.le_of_ble_eq_true rfl, Nat.le_of_ble_eq_true rfl⟩ (Nat.le_of_ble_eq_true rfl) ⟨Nat.le_of_ble_eq_true rfl, Nat.le_of_ble_eq_true rfl⟩ dX5_number_98 rfl ?_
    exact w_iret_me X (ζ) (by first | rfl | (subst he_i; rfl) | simp (decide := true) [bI]) (rfl) (Nat.le_of_ble_eq_true rfl) (Nat.le_of_ble_eq_true rfl) dX5_number_101
  · subst c1
    refine w_tableIn X 102 dX5_number_1 (by decide) (by decide) (by rfl) (by decide) ?_
    refine w_aload_n X 0 rfl dX5_number_102 ?_
    refine w_get X 0 0 rfl rfl rfl in_X5 0 (by decide) fk_X5_10 rfl dX5_number_103 ?_
    refine w_iconst X (nI 1) dX5_number_106 (by decide +kernel) ?_
    refine w_roV X [1] 1 0 (m_X3_references l g ast σ true) cv_X3_references mk_X5_282 rfl rfl rfl rfl rfl ⟨Nat.le_of_ble_eq_true rfl, Nat.le_of_ble_eq_true rfl⟩ (Nat.le_of_ble_eq_true rfl) ⟨Nat.le_of_ble_eq_true rfl, Nat.le_of_ble_eq_true rfl⟩ dX5_number_107 rfl ?_
    exact w_iret_me X (ζ) (by first | rfl | (subst he_i; rfl) | simp (decide := true) [bI]) (rfl) (Nat.le_of_ble_eq_true rfl) (Nat.le_of_ble_eq_true rfl) dX5_number_110
  · subst c1
    refine w_tableIn X 111 dX5_number_1 (by decide) (by decide) (by rfl) (by decide) ?_
    refine w_aload_n X 0 rfl dX5_number_111 ?_
    refine w_get X 0 0 rfl rfl rfl in_X5 0 (by decide) fk_X5_10 rfl dX5_number_112 ?_
    refine w_get X 1 0 rfl rfl rfl in_X3 12 (by decide) fk_X5_285 rfl dX5_number_115 ?_
    exact w_iret_me X (ζ) (by first | rfl | (subst he_i; rfl) | simp (decide := true) [bI]) (rfl) (Nat.le_of_ble_eq_true rfl) (Nat.le_of_ble_eq_true rfl) dX5_number_118
  · subst c1
    refine w_tableIn X 119 dX5_number_1 (by decide) (by decide) (by rfl) (by decide) ?_
    refine w_aload_n X 0 rfl dX5_number_119 ?_
    refine w_get X 0 0 rfl rfl rfl in_X5 0 (by decide) fk_X5_10 rfl dX5_number_120 ?_
    refine w_get X 1 0 rfl rfl rfl in_X3 13 (by decide) fk_X5_288 rfl dX5_number_123 ?_
    exact w_iret_me X (ζ) (by first | rfl | (subst he_i; rfl) | simp (decide := true) [bI]) (rfl) (Nat.le_of_ble_eq_true rfl) (Nat.le_of_ble_eq_true rfl) dX5_number_126
  · subst c1
    refine w_tableIn X 127 dX5_number_1 (by decide) (by decide) (by rfl) (by decide) ?_
    refine w_aload_n X 0 rfl dX5_number_127 ?_
    refine w_get X 0 0 rfl rfl rfl in_X5 0 (by decide) fk_X5_10 rfl dX5_number_128 ?_
    refine w_get X 1 0 rfl rfl rfl in_X3 14 (by decide) fk_X5_291 rfl dX5_number_131 ?_
    exact w_iret_me X (ζ) (by first | rfl | (subst he_i; rfl) | simp (decide := true) [bI]) (rfl) (Nat.le_of_ble_eq_true rfl) (Nat.le_of_ble_eq_true rfl) dX5_number_134
  · subst c1
    refine w_tableIn X 135 dX5_number_1 (by decide) (by decide) (by rfl) (by decide) ?_
    refine w_aload_n X 0 rfl dX5_number_135 ?_
    refine w_get X 0 0 rfl rfl rfl in_X5 0 (by decide) fk_X5_10 rfl dX5_number_136 ?_
    refine w_get X 1 0 rfl rfl rfl in_X3 15 (by decide) fk_X5_294 rfl dX5_number_139 ?_
    exact w_iret_me X (ζ) (by first | rfl | (subst he_i; rfl) | simp (decide := true) [bI]) (rfl) (Nat.le_of_ble_eq_true rfl) (Nat.le_of_ble_eq_true rfl) dX5_number_142
  · obtain rfl : w = 10 := by omega
    refine w_tableOut X 143 dX5_number_1 (Or.inr (by decide)) (by decide) ?_
    refine w_aload_n X 0 rfl dX5_number_143 ?_
    refine w_get X 0 0 rfl rfl rfl in_X5 4 (by decide) fk_X5_40 rfl dX5_number_144 ?_
    refine w_get X 3 0 rfl rfl rfl in_X0 2 (by decide) fk_X5_205 rfl dX5_number_147 ?_
    exact w_iret_me X (ζ) (by first | rfl | (subst he_i; rfl) | simp (decide := true) [bI]) (rfl) (Nat.le_of_ble_eq_true rfl) (Nat.le_of_ble_eq_true rfl) dX5_number_150
