/-! The model: properties, counts -/
theorem FM.far {σ μ ρ : Nat → Nat → Int32} {q : Nat} (h : FM σ μ ρ q) {j : Nat} (hj : j < 24) : μ 11 j = stepI ρ (nI j) := by
  rw [stepI, if_neg (nI_nlt0 (by omega)), if_neg (nI_nge hj (by decide)), nI_clamp (by omega)]
  rcases h.2.2.2.2.1 j hj with e | ⟨i, hi, e1, e2⟩
  · rw [e.2.2, e.2.1]
  · obtain ⟨k, d, hk, hd, f1, f2, f3, f4, f5, f6⟩ := h.2.2.2.1 i hi
    have hq := h.1
    have : j = k := (nI_eq (by omega) (by omega)).mp (e2.symm.trans f1)
    subst this
    rw [f5, f4]
theorem op_lo {σ : Nat → Nat → Int32} {N : Nat → Int32} (hR : RI σ N) {o w : Nat} (ho : o < 24) (hu : σ 0 o = nI 1) (hw : w < 7) : N (24 + 9 * o + (w + 1)) = opC σ o w := by
  obtain ⟨e1, e2, e3, e4, e5, e6, e7, e8⟩ := hR.at ho hu
  rcases (show w = 0 ∨ w = 1 ∨ w = 2 ∨ w = 3 ∨ w = 4 ∨ w = 5 ∨ w = 6 by omega) with h | h | h | h | h | h | h <;> subst h
  · exact e1
  · exact e2
  · exact e3
  · exact e4.trans (ref_nI σ ho (by decide)).symm
  · exact e5.trans (ref_nI σ ho (by decide)).symm
  · exact e6.trans (bI_nz (hR.1.1 o ho).2.1)
  · exact e7.trans (bI_nz (hR.1.1 o ho).2.2)
theorem ap_0 {σ : Nat → Nat → Int32} {N : Nat → Int32} (hR : RI σ N) {a : Nat} (ha : a < 6) : N (6 + 3 * a) = bI (isOpB σ (nI a)) := by
  rw [(hR.2.2.1 a ha).1, isOp_nz σ ha]
  exact bI_nz (hR.1.2.1 a ha).1
set_option maxRecDepth 100000 in
set_option maxHeartbeats 4000000 in
theorem m_X6_ofObject (l : Launch) (g : GG) (ad : Nat → Nat) (μ : Nat → Nat → Int32) (σ : Nat → Nat → Int32) (o : Nat) (w : Nat) (hR : RI σ (μ 0)) (ho : o < 24) (hw : w < 12) (hu : σ 0 o = nI 1) : MME (U := {μ' : Nat → Nat → Int32 // scr μ μ'}) l g yX6_ofObject cX6_ofObject 3 (some .int) 4 0 0 [.ref (ad 0), .int (nI o), .int (nI w)] [moC g ad μ] (some (.int (opC σ o w))) (fun u => [moC g ad u.1]) := by
  refine mk_me (by decide +kernel) (Nat.le_of_ble_eq_true rfl) (fun p e s m below meth c A hA X => ?_)
  refine w_iload_n X 2 rfl dX6_ofObject_0 ?_
  refine w_bipush X (nI 7) dX6_ofObject_1 (by decide +kernel) ?_
  refine w_nc_ge X (by omega) (by omega) 15 dX6_ofObject_3 (by decide) (fun c3 => ?_) (fun c3 => ?_)
  · refine w_iload_n X 2 rfl dX6_ofObject_15 ?_
    refine w_bipush X (nI 8) dX6_ofObject_16 (by decide +kernel) ?_
    refine w_nc_ne X (by omega) (by omega) 46 dX6_ofObject_18 (by decide) (fun c18 => ?_) (fun c18 => ?_)
    · refine w_aload_n X 0 rfl dX6_ofObject_46 ?_
      refine w_iconst X (-1) dX6_ofObject_47 (by decide +kernel) ?_
      refine w_meV X hA (U := {μ' : Nat → Nat → Int32 // scr μ μ' ∧ ∃ q, FM σ μ' (trC σ (-1)) q}) (gr := []) (gs1 := fun u => [moC g ad u.1]) [0] [] 0 0 (m_X6_meetsAll l g ad μ σ (-1) (hR)) cv_X6_meetsAll mk_X6_60 rfl rfl rfl (ng := 1) rfl (by decide) (fun _ => rfl) (fun _ => rfl) (fun _ => rfl) rfl rfl rfl ⟨Nat.le_of_ble_eq_true rfl, Nat.le_of_ble_eq_true rfl⟩ (Nat.le_of_ble_eq_true rfl) ⟨Nat.le_of_ble_eq_true rfl, Nat.le_of_ble_eq_true rfl⟩ dX6_ofObject_48 rfl (fun u => ?_)
      obtain ⟨μ1, hμ1⟩ := u
      try dsimp only
      have hR1 : RI σ (μ1 0) := hμ1.1.RI hR
      refine w_iload_n X 2 rfl dX6_ofObject_51 ?_
      refine w_bipush X (nI 7) dX6_ofObject_52 (by decide +kernel) ?_
      refine w_nc_ne X (by omega) (by omega) 75 dX6_ofObject_54 (by decide) (fun c54 => ?_) (fun c54 => ?_)
      · refine w_iload_n X 2 rfl dX6_ofObject_75 ?_
        refine w_bipush X (nI 9) dX6_ofObject_76 (by decide +kernel) ?_
        refine w_nc_ne X (by omega) (by omega) 91 dX6_ofObject_78 (by decide) (fun c78 => ?_) (fun c78 => ?_)
        · refine w_iload_n X 2 rfl dX6_ofObject_91 ?_
          refine w_bipush X (nI 10) dX6_ofObject_92 (by decide +kernel) ?_
          refine w_nc_ne X (by omega) (by omega) 105 dX6_ofObject_94 (by decide) (fun c94 => ?_) (fun c94 => ?_)
          · refine w_aload_n X 0 rfl dX6_ofObject_105 ?_
            refine w_get X 0 0 rfl rfl rfl in_X6 11 (by decide) fk_X6_22 rfl dX6_ofObject_106 ?_
            refine w_iload_n X 1 rfl dX6_ofObject_109 ?_
            refine w_iald_n X 0 5 0 rfl rfl rfl (by omega) (by decide) dX6_ofObject_110 ?_
            exact w_iret_me X ⟨μ1, hμ1.1⟩ (by obtain ⟨q, hF⟩ := hμ1.2; rw [hF.far ho, show w = 11 by omega]; rfl) rfl (Nat.le_of_ble_eq_true rfl) (Nat.le_of_ble_eq_true rfl) dX6_ofObject_111
          · refine w_aload_n X 0 rfl dX6_ofObject_97 ?_
            refine w_iload_n X 1 rfl dX6_ofObject_98 ?_
            refine w_roV X [0] 0 0 (m_X6_refersTo l g ad μ1 σ o (by omega) (hR1)) cv_X6_refersTo mk_X6_175 rfl rfl rfl rfl rfl ⟨Nat.le_of_ble_eq_true rfl, Nat.le_of_ble_eq_true rfl⟩ (Nat.le_of_ble_eq_true rfl) ⟨Nat.le_of_ble_eq_true rfl, Nat.le_of_ble_eq_true rfl⟩ dX6_ofObject_99 rfl ?_
            refine w_goto X 111 dX6_ofObject_102 (by decide) ?_
            exact w_iret_me X ⟨μ1, hμ1.1⟩ (by rw [c94]; rfl) rfl (Nat.le_of_ble_eq_true rfl) (Nat.le_of_ble_eq_true rfl) dX6_ofObject_111
        · refine w_aload_n X 0 rfl dX6_ofObject_81 ?_
          refine w_iload_n X 1 rfl dX6_ofObject_82 ?_
          refine w_bipush X (nI 8) dX6_ofObject_83 (by decide +kernel) ?_
          refine w_roV X [0] 0 0 (m_X6_of l g ad μ1 o 8 (by omega) (by omega)) cv_X6_of mk_X6_43 rfl rfl rfl rfl rfl ⟨Nat.le_of_ble_eq_true rfl, Nat.le_of_ble_eq_true rfl⟩ (Nat.le_of_ble_eq_true rfl) ⟨Nat.le_of_ble_eq_true rfl, Nat.le_of_ble_eq_true rfl⟩ dX6_ofObject_85 rfl ?_
          refine w_goto X 111 dX6_ofObject_88 (by decide) ?_
          exact w_iret_me X ⟨μ1, hμ1.1⟩ (by rw [c78, ((hμ1.1.RI hR).at ho hu).2.2.2.2.2.2.2]; rfl) rfl (Nat.le_of_ble_eq_true rfl) (Nat.le_of_ble_eq_true rfl) dX6_ofObject_111
      · refine w_aload_n X 0 rfl dX6_ofObject_57 ?_
        refine w_get X 0 0 rfl rfl rfl in_X6 11 (by decide) fk_X6_22 rfl dX6_ofObject_58 ?_
        refine w_iload_n X 1 rfl dX6_ofObject_61 ?_
        refine w_iald_n X 0 5 0 rfl rfl rfl (by omega) (by decide) dX6_ofObject_62 ?_
        refine w_iconst X (-1) dX6_ofObject_63 (by decide +kernel) ?_
        refine w_ic_ne X 71 dX6_ofObject_64 (by decide) (fun c64 => ?_) (fun c64 => ?_)
        · refine w_iconst X (nI 1) dX6_ofObject_71 (by decide +kernel) ?_
          refine w_goto X 111 dX6_ofObject_72 (by decide) ?_
          exact w_iret_me X ⟨μ1, hμ1.1⟩ (by obtain ⟨q, hF⟩ := hμ1.2; rw [c54, show opC σ o 7 = bI (metB (trC σ (-1)) (nI o)) from rfl, met_pl _ ho, pl_t.mpr (fun z => c64 ((hF.un ho).mpr z))]; rfl) rfl (Nat.le_of_ble_eq_true rfl) (Nat.le_of_ble_eq_true rfl) dX6_ofObject_111
        · refine w_iconst X (nI 0) dX6_ofObject_67 (by decide +kernel) ?_
          refine w_goto X 111 dX6_ofObject_68 (by decide) ?_
          exact w_iret_me X ⟨μ1, hμ1.1⟩ (by obtain ⟨q, hF⟩ := hμ1.2; rw [c54, show opC σ o 7 = bI (metB (trC σ (-1)) (nI o)) from rfl, met_pl _ ho, pl_f.mpr ((hF.un ho).mp c64)]; rfl) rfl (Nat.le_of_ble_eq_true rfl) (Nat.le_of_ble_eq_true rfl) dX6_ofObject_111
    · refine w_aload_n X 0 rfl dX6_ofObject_21 ?_
      refine w_aload_n X 0 rfl dX6_ofObject_22 ?_
      refine w_iload_n X 1 rfl dX6_ofObject_23 ?_
      refine w_iconst X (nI 1) dX6_ofObject_24 (by decide +kernel) ?_
      refine w_roV X [0] 0 0 (m_X6_of l g ad μ o 1 (by omega) (by omega)) cv_X6_of mk_X6_43 rfl rfl rfl rfl rfl ⟨Nat.le_of_ble_eq_true rfl, Nat.le_of_ble_eq_true rfl⟩ (Nat.le_of_ble_eq_true rfl) ⟨Nat.le_of_ble_eq_true rfl, Nat.le_of_ble_eq_true rfl⟩ dX6_ofObject_25 rfl ?_
      obtain ⟨a, ha, ha0⟩ : ∃ a, a < 6 ∧ μ 0 (24 + 9 * o + 1) = nI a := hR.2.2.2.2.1 o ho
      rw [ha0]
      refine w_meV X hA (U := {μ' : Nat → Nat → Int32 // LQP σ μ μ' ∧ LV μ' (suC σ (nI (a)))}) (gr := []) (gs1 := fun u => [moC g ad u.1]) [0] [] 0 0 (m_X6_survives l g ad μ σ (nI (a)) (hR) (nI_nm1 (by omega))) cv_X6_survives mk_X6_75 rfl rfl rfl (ng := 1) rfl (by decide) (fun _ => rfl) (fun _ => rfl) (fun _ => rfl) rfl rfl rfl ⟨Nat.le_of_ble_eq_true rfl, Nat.le_of_ble_eq_true rfl⟩ (Nat.le_of_ble_eq_true rfl) ⟨Nat.le_of_ble_eq_true rfl, Nat.le_of_ble_eq_true rfl⟩ dX6_ofObject_28 rfl (fun u => ?_)
      obtain ⟨μ2, hμ2⟩ := u
      try dsimp only
      refine w_aload_n X 0 rfl dX6_ofObject_31 ?_
      refine w_get X 0 0 rfl rfl rfl in_X6 14 (by decide) fk_X6_28 rfl dX6_ofObject_32 ?_
      refine w_iload_n X 1 rfl dX6_ofObject_35 ?_
      refine w_zald_n X 0 7 1 rfl rfl rfl (by omega) (by decide) dX6_ofObject_36 ?_
      refine w_if_eq X 44 dX6_ofObject_37 (by decide) (fun c37 => ?_) (fun c37 => ?_)
      · refine w_iconst X (nI 0) dX6_ofObject_44 (by decide +kernel) ?_
        exact w_iret_me X ⟨μ2, hμ2.1.1⟩ (by rw [c18, show opC σ o 8 = bI (metB (suC σ (σ 1 o)) (nI o)) from rfl, ← (hR.at ho hu).1, ha0, met_pl _ ho, lv_f hμ2.2 ho c37]; rfl) rfl (Nat.le_of_ble_eq_true rfl) (Nat.le_of_ble_eq_true rfl) dX6_ofObject_45
      · refine w_iconst X (nI 1) dX6_ofObject_40 (by decide +kernel) ?_
        refine w_goto X 45 dX6_ofObject_41 (by decide) ?_
        exact w_iret_me X ⟨μ2, hμ2.1.1⟩ (by rw [c18, show opC σ o 8 = bI (metB (suC σ (σ 1 o)) (nI o)) from rfl, ← (hR.at ho hu).1, ha0, met_pl _ ho, lv_t hμ2.2 ho c37]; rfl) rfl (Nat.le_of_ble_eq_true rfl) (Nat.le_of_ble_eq_true rfl) dX6_ofObject_45
  · refine w_aload_n X 0 rfl dX6_ofObject_6 ?_
    refine w_iload_n X 1 rfl dX6_ofObject_7 ?_
    refine w_iload_n X 2 rfl dX6_ofObject_8 ?_
    refine w_iconst X (nI 1) dX6_ofObject_9 (by decide +kernel) ?_
    refine w_iadd_n X dX6_ofObject_10 ?_
    refine w_roV X [0] 0 0 (m_X6_of l g ad μ o (w + 1) (by omega) (by omega)) cv_X6_of mk_X6_43 rfl rfl rfl rfl rfl ⟨Nat.le_of_ble_eq_true rfl, Nat.le_of_ble_eq_true rfl⟩ (Nat.le_of_ble_eq_true rfl) ⟨Nat.le_of_ble_eq_true rfl, Nat.le_of_ble_eq_true rfl⟩ dX6_ofObject_11 rfl ?_
    exact w_iret_me X ⟨μ, scr.rf _⟩ (by rw [op_lo hR ho hu (by omega)]) rfl (Nat.le_of_ble_eq_true rfl) (Nat.le_of_ble_eq_true rfl) dX6_ofObject_14
set_option maxRecDepth 100000 in
set_option maxHeartbeats 4000000 in
theorem m_X6_ofArena (l : Launch) (g : GG) (ad : Nat → Nat) (μ : Nat → Nat → Int32) (σ : Nat → Nat → Int32) (a : Nat) (w : Nat) (hR : RI σ (μ 0)) (ha : a < 6) (hw : w < 8) : MME (U := {μ' : Nat → Nat → Int32 // scr μ μ'}) l g yX6_ofArena cX6_ofArena 3 (some .int) 5 0 0 [.ref (ad 0), .int (nI a), .int (nI w)] [moC g ad μ] (some (.int (apC σ a w))) (fun u => [moC g ad u.1]) := by
  refine mk_me (by decide +kernel) (Nat.le_of_ble_eq_true rfl) (fun p e s m below meth c A hA X => ?_)
  refine w_iload_n X 2 rfl dX6_ofArena_0 ?_
  rcases (show w = 0 ∨ w = 1 ∨ w = 2 ∨ w = 3 ∨ w = 4 ∨ w = 5 ∨ w = 6 ∨ (6 < w) by omega) with c1 | c1 | c1 | c1 | c1 | c1 | c1 | c1
  · subst c1
    refine w_tableIn X 44 dX6_ofArena_1 (by decide) (by decide) (by rfl) (by decide) ?_
    refine w_aload_n X 0 rfl dX6_ofArena_44 ?_
    refine w_get X 0 0 rfl rfl rfl in_X6 0 (by decide) fk_X6_7 rfl dX6_ofArena_45 ?_
    refine w_bipush X (nI 6) dX6_ofArena_48 (by decide +kernel) ?_
    refine w_iconst X (nI 3) dX6_ofArena_50 (by decide +kernel) ?_
    refine w_iload_n X 1 rfl dX6_ofArena_51 ?_
    refine w_imul_n X dX6_ofArena_52 ?_
    refine w_iadd_n X dX6_ofArena_53 ?_
    refine w_iald_n X 0 1 0 rfl rfl rfl (by omega) (by decide) dX6_ofArena_54 ?_
    exact w_iret_me X ⟨μ, scr.rf _⟩ (by rw [ap_0 hR ha]; rfl) rfl (Nat.le_of_ble_eq_true rfl) (Nat.le_of_ble_eq_true rfl) dX6_ofArena_55
  · subst c1
    refine w_tableIn X 56 dX6_ofArena_1 (by decide) (by decide) (by rfl) (by decide) ?_
    refine w_aload_n X 0 rfl dX6_ofArena_56 ?_
    refine w_iload_n X 1 rfl dX6_ofArena_57 ?_
    refine w_roV X [0] 0 0 (m_X6_mark l g ad μ a (by omega)) cv_X6_mark mk_X6_94 rfl rfl rfl rfl rfl ⟨Nat.le_of_ble_eq_true rfl, Nat.le_of_ble_eq_true rfl⟩ (Nat.le_of_ble_eq_true rfl) ⟨Nat.le_of_ble_eq_true rfl, Nat.le_of_ble_eq_true rfl⟩ dX6_ofArena_58 rfl ?_
    exact w_iret_me X ⟨μ, scr.rf _⟩ (by rw [(hR.2.2.1 a ha).2.1]; rfl) rfl (Nat.le_of_ble_eq_true rfl) (Nat.le_of_ble_eq_true rfl) dX6_ofArena_61
  · subst c1
    refine w_tableIn X 62 dX6_ofArena_1 (by decide) (by decide) (by rfl) (by decide) ?_
    refine w_aload_n X 0 rfl dX6_ofArena_62 ?_
    refine w_iload_n X 1 rfl dX6_ofArena_63 ?_
    refine w_roV X [0] 0 0 (m_X6_objectsIn l g ad μ σ (nI (a)) (hR)) cv_X6_objectsIn mk_X6_181 rfl rfl rfl rfl rfl ⟨Nat.le_of_ble_eq_true rfl, Nat.le_of_ble_eq_true rfl⟩ (Nat.le_of_ble_eq_true rfl) ⟨Nat.le_of_ble_eq_true rfl, Nat.le_of_ble_eq_true rfl⟩ dX6_ofArena_64 rfl ?_
    exact w_iret_me X ⟨μ, scr.rf _⟩ (by rfl) rfl (Nat.le_of_ble_eq_true rfl) (Nat.le_of_ble_eq_true rfl) dX6_ofArena_67
  · subst c1
    refine w_tableIn X 68 dX6_ofArena_1 (by decide) (by decide) (by rfl) (by decide) ?_
    refine w_aload_n X 0 rfl dX6_ofArena_68 ?_
    refine w_iload_n X 1 rfl dX6_ofArena_69 ?_
    refine w_meV X hA (U := {μ' : Nat → Nat → Int32 // LQP σ μ μ' ∧ LV μ' (suC σ (nI (a)))}) (gr := []) (gs1 := fun u => [moC g ad u.1]) [0] [] 0 0 (m_X6_cellsOf l g ad μ σ (nI (a)) (hR) (nI_nm1 (by omega))) cv_X6_cellsOf mk_X6_134 rfl rfl rfl (ng := 1) rfl (by decide) (fun _ => rfl) (fun _ => rfl) (fun _ => rfl) rfl rfl rfl ⟨Nat.le_of_ble_eq_true rfl, Nat.le_of_ble_eq_true rfl⟩ (Nat.le_of_ble_eq_true rfl) ⟨Nat.le_of_ble_eq_true rfl, Nat.le_of_ble_eq_true rfl⟩ dX6_ofArena_70 rfl (fun u => ?_)
    obtain ⟨μ1, hμ1⟩ := u
    try dsimp only
    exact w_iret_me X ⟨μ1, hμ1.1.1⟩ (by rfl) rfl (Nat.le_of_ble_eq_true rfl) (Nat.le_of_ble_eq_true rfl) dX6_ofArena_73
  · subst c1
    refine w_tableIn X 74 dX6_ofArena_1 (by decide) (by decide) (by rfl) (by decide) ?_
    refine w_aload_n X 0 rfl dX6_ofArena_74 ?_
    refine w_iload_n X 1 rfl dX6_ofArena_75 ?_
    refine w_roV X [0] 0 0 (m_X6_mark l g ad μ a (by omega)) cv_X6_mark mk_X6_94 rfl rfl rfl rfl rfl ⟨Nat.le_of_ble_eq_true rfl, Nat.le_of_ble_eq_true rfl⟩ (Nat.le_of_ble_eq_true rfl) ⟨Nat.le_of_ble_eq_true rfl, Nat.le_of_ble_eq_true rfl⟩ dX6_ofArena_76 rfl ?_
    refine w_aload_n X 0 rfl dX6_ofArena_79 ?_
    refine w_iload_n X 1 rfl dX6_ofArena_80 ?_
    refine w_meV X hA (U := {μ' : Nat → Nat → Int32 // LQP σ μ μ' ∧ LV μ' (suC σ (nI (a)))}) (gr := []) (gs1 := fun u => [moC g ad u.1]) [0] [] 0 0 (m_X6_cellsOf l g ad μ σ (nI (a)) (hR) (nI_nm1 (by omega))) cv_X6_cellsOf mk_X6_134 rfl rfl rfl (ng := 1) rfl (by decide) (fun _ => rfl) (fun _ => rfl) (fun _ => rfl) rfl rfl rfl ⟨Nat.le_of_ble_eq_true rfl, Nat.le_of_ble_eq_true rfl⟩ (Nat.le_of_ble_eq_true rfl) ⟨Nat.le_of_ble_eq_true rfl, Nat.le_of_ble_eq_true rfl⟩ dX6_ofArena_81 rfl (fun u => ?_)
    obtain ⟨μ2, hμ2⟩ := u
    try dsimp only
    refine w_isub X dX6_ofArena_84 ?_
    exact w_iret_me X ⟨μ2, hμ2.1.1⟩ (by rw [(hR.2.2.1 a ha).2.1, ← dead_nI σ _ ha]; rfl) rfl (Nat.le_of_ble_eq_true rfl) (Nat.le_of_ble_eq_true rfl) dX6_ofArena_85
  · subst c1
    refine w_tableIn X 86 dX6_ofArena_1 (by decide) (by decide) (by rfl) (by decide) ?_
    refine w_aload_n X 0 rfl dX6_ofArena_86 ?_
    refine w_iload_n X 1 rfl dX6_ofArena_87 ?_
    refine w_roV X [0] 0 0 (m_X6_pinned l g ad μ σ (nI (a)) (hR)) cv_X6_pinned mk_X6_119 rfl rfl rfl rfl rfl ⟨Nat.le_of_ble_eq_true rfl, Nat.le_of_ble_eq_true rfl⟩ (Nat.le_of_ble_eq_true rfl) ⟨Nat.le_of_ble_eq_true rfl, Nat.le_of_ble_eq_true rfl⟩ dX6_ofArena_88 rfl ?_
    exact w_iret_me X ⟨μ, scr.rf _⟩ (by rfl) rfl (Nat.le_of_ble_eq_true rfl) (Nat.le_of_ble_eq_true rfl) dX6_ofArena_91
  · subst c1
    refine w_tableIn X 92 dX6_ofArena_1 (by decide) (by decide) (by rfl) (by decide) ?_
    refine w_aload_n X 0 rfl dX6_ofArena_92 ?_
    refine w_iload_n X 1 rfl dX6_ofArena_93 ?_
    refine w_meV X hA (U := {μ' : Nat → Nat → Int32 // LQP σ μ μ' ∧ LV μ' (suC σ (nI (a)))}) (gr := []) (gs1 := fun u => [moC g ad u.1]) [0] [] 0 0 (m_X6_isKept l g ad μ σ (nI (a)) (hR) (nI_nm1 (by omega))) cv_X6_isKept mk_X6_91 rfl rfl rfl (ng := 1) rfl (by decide) (fun _ => rfl) (fun _ => rfl) (fun _ => rfl) rfl rfl rfl ⟨Nat.le_of_ble_eq_true rfl, Nat.le_of_ble_eq_true rfl⟩ (Nat.le_of_ble_eq_true rfl) ⟨Nat.le_of_ble_eq_true rfl, Nat.le_of_ble_eq_true rfl⟩ dX6_ofArena_94 rfl (fun u => ?_)
    obtain ⟨μ3, hμ3⟩ := u
    try dsimp only
    refine w_bf_eq X 104 dX6_ofArena_97 (by decide) (fun c97 => ?_) (fun c97 => ?_)
    · refine w_iconst X (nI 0) dX6_ofArena_104 (by decide +kernel) ?_
      exact w_iret_me X ⟨μ3, hμ3.1.1⟩ (by rw [show apC σ a 6 = bI (keptB σ (suC σ (nI a))) from rfl, c97]; rfl) rfl (Nat.le_of_ble_eq_true rfl) (Nat.le_of_ble_eq_true rfl) dX6_ofArena_105
    · refine w_iconst X (nI 1) dX6_ofArena_100 (by decide +kernel) ?_
      refine w_goto X 105 dX6_ofArena_101 (by decide) ?_
      exact w_iret_me X ⟨μ3, hμ3.1.1⟩ (by rw [show apC σ a 6 = bI (keptB σ (suC σ (nI a))) from rfl, c97]; rfl) rfl (Nat.le_of_ble_eq_true rfl) (Nat.le_of_ble_eq_true rfl) dX6_ofArena_105
  · obtain rfl : w = 7 := by omega
    refine w_tableOut X 106 dX6_ofArena_1 (Or.inr (by decide)) (by decide) ?_
    refine w_aload_n X 0 rfl dX6_ofArena_106 ?_
    refine w_get X 0 0 rfl rfl rfl in_X6 0 (by decide) fk_X6_7 rfl dX6_ofArena_107 ?_
    refine w_bipush X (nI 6) dX6_ofArena_110 (by decide +kernel) ?_
    refine w_iconst X (nI 3) dX6_ofArena_112 (by decide +kernel) ?_
    refine w_iload_n X 1 rfl dX6_ofArena_113 ?_
    refine w_imul_n X dX6_ofArena_114 ?_
    refine w_iadd_n X dX6_ofArena_115 ?_
    refine w_iconst X (nI 2) dX6_ofArena_116 (by decide +kernel) ?_
    refine w_iadd_n X dX6_ofArena_117 ?_
    refine w_iald_n X 0 1 0 rfl rfl rfl (by omega) (by decide) dX6_ofArena_118 ?_
    exact w_iret_me X ⟨μ, scr.rf _⟩ (by rw [(hR.2.2.1 a ha).2.2]; rfl) rfl (Nat.le_of_ble_eq_true rfl) (Nat.le_of_ble_eq_true rfl) dX6_ofArena_119
set_option maxRecDepth 100000 in
set_option maxHeartbeats 4000000 in
theorem m_X6_counted (l : Launch) (g : GG) (ad : Nat → Nat) (μ : Nat → Nat → Int32) (σ : Nat → Nat → Int32) (η : Nat → Nat → Int32) (w : Nat) (hR : RI σ (μ 0)) (hw : w < 11) (hK : μ 2 0 = η 2 0) : MME (U := {μ' : Nat → Nat → Int32 // scr μ μ'}) l g yX6_counted cX6_counted 2 (some .int) 4 0 0 [.ref (ad 0), .int (nI w)] [moC g ad μ] (some (.int (ctC σ η w))) (fun u => [moC g ad u.1]) := by
  refine mk_me (by decide +kernel) (Nat.le_of_ble_eq_true rfl) (fun p e s m below meth c A hA X => ?_)
  refine w_iload_n X 1 rfl dX6_counted_0 ?_
  refine w_iconst X (nI 1) dX6_counted_1 (by decide +kernel) ?_
  refine w_nc_ne X (by omega) (by omega) 15 dX6_counted_2 (by decide) (fun c2 => ?_) (fun c2 => ?_)
  · refine w_iload_n X 1 rfl dX6_counted_15 ?_
    refine w_iconst X (nI 4) dX6_counted_16 (by decide +kernel) ?_
    refine w_nc_ge X (by omega) (by omega) 51 dX6_counted_17 (by decide) (fun c17 => ?_) (fun c17 => ?_)
    · refine w_iload_n X 1 rfl dX6_counted_51 ?_
      refine w_bipush X (nI 6) dX6_counted_52 (by decide +kernel) ?_
      refine w_nc_ge X (by omega) (by omega) 74 dX6_counted_54 (by decide) (fun c54 => ?_) (fun c54 => ?_)
      · refine w_iload_n X 1 rfl dX6_counted_74 ?_
        refine w_bipush X (nI 10) dX6_counted_75 (by decide +kernel) ?_
        refine w_nc_ge X (by omega) (by omega) 94 dX6_counted_77 (by decide) (fun c77 => ?_) (fun c77 => ?_)
        · refine w_aload_n X 0 rfl dX6_counted_94 ?_
          refine w_get X 0 0 rfl rfl rfl in_X6 2 (by decide) fk_X6_47 rfl dX6_counted_95 ?_
          exact w_iret_me X ⟨μ, scr.rf _⟩ (by rw [hK, show w = 10 by omega]; rfl) rfl (Nat.le_of_ble_eq_true rfl) (Nat.le_of_ble_eq_true rfl) dX6_counted_98
        · refine w_aload_n X 0 rfl dX6_counted_80 ?_
          refine w_get X 0 0 rfl rfl rfl in_X6 0 (by decide) fk_X6_7 rfl dX6_counted_81 ?_
          refine w_iconst X (nI 2) dX6_counted_84 (by decide +kernel) ?_
          refine w_iload_n X 1 rfl dX6_counted_85 ?_
          refine w_iadd_n X dX6_counted_86 ?_
          refine w_bipush X (nI 6) dX6_counted_87 (by decide +kernel) ?_
          refine w_isub_n X (by omega) dX6_counted_89 ?_
          refine w_iald_n X 0 1 0 rfl rfl rfl (by omega) (by decide) dX6_counted_90 ?_
          refine w_goto X 98 dX6_counted_91 (by decide) ?_
          exact w_iret_me X ⟨μ, scr.rf _⟩ (by rcases (show w = 6 ∨ w = 7 ∨ w = 8 ∨ w = 9 by omega) with h | h | h | h <;> subst h; (exact hR.2.1.2.2.1); (exact hR.2.1.2.2.2.1); (exact hR.2.1.2.2.2.2.1); (exact hR.2.1.2.2.2.2.2)) rfl (Nat.le_of_ble_eq_true rfl) (Nat.le_of_ble_eq_true rfl) dX6_counted_98
      · refine w_aload_n X 0 rfl dX6_counted_57 ?_
        refine w_iload_n X 1 rfl dX6_counted_58 ?_
        refine w_iconst X (nI 5) dX6_counted_59 (by decide +kernel) ?_
        refine w_nc_ne X (by omega) (by omega) 67 dX6_counted_60 (by decide) (fun c60 => ?_) (fun c60 => ?_)
        · refine w_iconst X (nI 0) dX6_counted_67 (by decide +kernel) ?_
          refine w_roV X [0] 0 0 (m_X6_references l g ad μ σ false (hR)) cv_X6_references mk_X6_196 rfl rfl rfl rfl rfl ⟨Nat.le_of_ble_eq_true rfl, Nat.le_of_ble_eq_true rfl⟩ (Nat.le_of_ble_eq_true rfl) ⟨Nat.le_of_ble_eq_true rfl, Nat.le_of_ble_eq_true rfl⟩ dX6_counted_68 rfl ?_
          refine w_goto X 98 dX6_counted_71 (by decide) ?_
          exact w_iret_me X ⟨μ, scr.rf _⟩ (by rw [show w = 4 by omega]; rfl) rfl (Nat.le_of_ble_eq_true rfl) (Nat.le_of_ble_eq_true rfl) dX6_counted_98
        · refine w_iconst X (nI 1) dX6_counted_63 (by decide +kernel) ?_
          refine w_goto X 68 dX6_counted_64 (by decide) ?_
          refine w_roV X [0] 0 0 (m_X6_references l g ad μ σ true (hR)) cv_X6_references mk_X6_196 rfl rfl rfl rfl rfl ⟨Nat.le_of_ble_eq_true rfl, Nat.le_of_ble_eq_true rfl⟩ (Nat.le_of_ble_eq_true rfl) ⟨Nat.le_of_ble_eq_true rfl, Nat.le_of_ble_eq_true rfl⟩ dX6_counted_68 rfl ?_
          refine w_goto X 98 dX6_counted_71 (by decide) ?_
          exact w_iret_me X ⟨μ, scr.rf _⟩ (by rw [c60]; rfl) rfl (Nat.le_of_ble_eq_true rfl) (Nat.le_of_ble_eq_true rfl) dX6_counted_98
    · refine w_iload_n X 1 rfl dX6_counted_20 ?_
      refine w_nf_ne X (by omega) 32 dX6_counted_21 (by decide) (fun c21 => ?_) (fun c21 => ?_)
      · refine w_iload_n X 1 rfl dX6_counted_32 ?_
        refine w_iconst X (nI 2) dX6_counted_33 (by decide +kernel) ?_
        refine w_nc_ne X (by omega) (by omega) 44 dX6_counted_34 (by decide) (fun c34 => ?_) (fun c34 => ?_)
        · refine w_aload_n X 0 rfl dX6_counted_44 ?_
          refine w_bipush X (nI 6) dX6_counted_45 (by decide +kernel) ?_
          refine w_roV X [0] 0 0 (m_X6_those l g ad μ σ 6 (Or.inr rfl) (hR)) cv_X6_those mk_X6_190 rfl rfl rfl rfl rfl ⟨Nat.le_of_ble_eq_true rfl, Nat.le_of_ble_eq_true rfl⟩ (Nat.le_of_ble_eq_true rfl) ⟨Nat.le_of_ble_eq_true rfl, Nat.le_of_ble_eq_true rfl⟩ dX6_counted_47 rfl ?_
          exact w_iret_me X ⟨μ, scr.rf _⟩ (by rw [show w = 3 by omega]; rfl) rfl (Nat.le_of_ble_eq_true rfl) (Nat.le_of_ble_eq_true rfl) dX6_counted_50
        · refine w_aload_n X 0 rfl dX6_counted_37 ?_
          refine w_roV X [0] 0 0 (m_X6_opened l g ad μ σ (hR)) cv_X6_opened mk_X6_193 rfl rfl rfl rfl rfl ⟨Nat.le_of_ble_eq_true rfl, Nat.le_of_ble_eq_true rfl⟩ (Nat.le_of_ble_eq_true rfl) ⟨Nat.le_of_ble_eq_true rfl, Nat.le_of_ble_eq_true rfl⟩ dX6_counted_38 rfl ?_
          refine w_goto X 50 dX6_counted_41 (by decide) ?_
          exact w_iret_me X ⟨μ, scr.rf _⟩ (by rw [c34]; rfl) rfl (Nat.le_of_ble_eq_true rfl) (Nat.le_of_ble_eq_true rfl) dX6_counted_50
      · refine w_aload_n X 0 rfl dX6_counted_24 ?_
        refine w_iconst X (nI 0) dX6_counted_25 (by decide +kernel) ?_
        refine w_roV X [0] 0 0 (m_X6_those l g ad μ σ 0 (Or.inl rfl) (hR)) cv_X6_those mk_X6_190 rfl rfl rfl rfl rfl ⟨Nat.le_of_ble_eq_true rfl, Nat.le_of_ble_eq_true rfl⟩ (Nat.le_of_ble_eq_true rfl) ⟨Nat.le_of_ble_eq_true rfl, Nat.le_of_ble_eq_true rfl⟩ dX6_counted_26 rfl ?_
        refine w_goto X 50 dX6_counted_29 (by decide) ?_
        exact w_iret_me X ⟨μ, scr.rf _⟩ (by rw [c21]; rfl) rfl (Nat.le_of_ble_eq_true rfl) (Nat.le_of_ble_eq_true rfl) dX6_counted_50
  · refine w_aload_n X 0 rfl dX6_counted_5 ?_
    refine w_iconst X (-1) dX6_counted_6 (by decide +kernel) ?_
    refine w_meV X hA (U := {μ' : Nat → Nat → Int32 // scr μ μ' ∧ ∃ q, FM σ μ' (trC σ (-1)) q}) (gr := []) (gs1 := fun u => [moC g ad u.1]) [0] [] 0 0 (m_X6_meetsAll l g ad μ σ (-1) (hR)) cv_X6_meetsAll mk_X6_60 rfl rfl rfl (ng := 1) rfl (by decide) (fun _ => rfl) (fun _ => rfl) (fun _ => rfl) rfl rfl rfl ⟨Nat.le_of_ble_eq_true rfl, Nat.le_of_ble_eq_true rfl⟩ (Nat.le_of_ble_eq_true rfl) ⟨Nat.le_of_ble_eq_true rfl, Nat.le_of_ble_eq_true rfl⟩ dX6_counted_7 rfl (fun u => ?_)
    obtain ⟨μ1, hμ1⟩ := u
    try dsimp only
    refine w_aload_n X 0 rfl dX6_counted_10 ?_
    refine w_get X 0 0 rfl rfl rfl in_X6 13 (by decide) fk_X6_54 rfl dX6_counted_11 ?_
    exact w_iret_me X ⟨μ1, hμ1.1⟩ (by obtain ⟨q, hF⟩ := hμ1.2; rw [c2, hF.2.2.1, ← hF.2.1]; rfl) rfl (Nat.le_of_ble_eq_true rfl) (Nat.le_of_ble_eq_true rfl) dX6_counted_14
