/-! State's writes -/
theorem refI_nI {σ : Nat → Nat → Int32} {j f : Nat} (hj : j < 24) (hf : f < 2) : refI σ (nI j) (nI f) = σ 4 (j * 2 + f) := by
  unfold refI
  rw [if_neg (nI_pos (by omega)), if_neg (fun c => absurd ((nI_leI (by decide) (by omega)).mp c) (by omega)), if_neg (nI_pos (by omega)), if_pos ((nI_ltI (by omega) (by decide)).mpr hf), nI_clamp (by omega), nI_clamp (by omega)]
def handS (σ : Nat → Nat → Int32) (k : Nat) : Nat → Nat → Int32 := rw2 (rw2 σ 8 (upd (σ 8) k (nI 1))) 10 (upd (σ 10) k (σ 10 k + nI 1))
def addS (σ : Nat → Nat → Int32) (j k : Nat) (q : Int32) : Nat → Nat → Int32 := rw2 (rw2 (rw2 (rw2 (rw2 (rw2 σ 0 (upd (σ 0) j (nI 1))) 1 (upd (σ 1) j (nI k))) 2 (upd (σ 2) j (σ 9 k))) 3 (upd (σ 3) j q)) 9 (upd (σ 9) k (σ 9 k + q))) 12 (upd (σ 12) 0 (σ 12 0 + nI 1))
def layS (σ : Nat → Nat → Int32) (j k : Nat) (q : Int32) : Nat → Nat → Int32 := rw2 (rw2 (rw2 (rw2 (rw2 σ 1 (upd (σ 1) j (nI k))) 2 (upd (σ 2) j q)) 7 (upd (σ 7) j (σ 7 j + nI 1))) 9 (upd (σ 9) k (σ 9 k + σ 3 j))) 12 (upd (σ 12) 1 (σ 12 1 + nI 1))
def rfS (σ : Nat → Nat → Int32) (h f : Nat) (v : Int32) : Nat → Nat → Int32 := rw2 σ 4 (upd (σ 4) (h * 2 + f) v)
def dropF (σ : Nat → Nat → Int32) (j h f : Nat) : Nat → Nat → Int32 := if h = j then rfS σ h f (-1) else if refI σ (nI h) (nI f) = nI j then rfS σ h f (-1) else σ
def dropL (σ : Nat → Nat → Int32) (j : Nat) : Nat → Nat → Nat → Int32
  | 0 => rw2 (rw2 (rw2 (rw2 σ 0 (upd (σ 0) j (nI 0))) 5 (upd (σ 5) j (nI 0))) 6 (upd (σ 6) j (nI 0))) 7 (upd (σ 7) j (nI 0))
  | h + 1 => dropF (dropF (dropL σ j h) j h 0) j h 1
def freeL (σ : Nat → Nat → Int32) (a : Int32) : Nat → (Nat → Nat → Int32) × Int32
  | 0 => (σ, nI 0)
  | o + 1 => if isInB (freeL σ a o).1 (nI o) a = true then (dropL (freeL σ a o).1 o 24, (freeL σ a o).2 + 1) else freeL σ a o
def freeF (r : (Nat → Nat → Int32) × Int32) (k : Nat) : Nat → Nat → Int32 := rw2 (rw2 (rw2 (rw2 r.1 8 (upd (r.1 8) k (nI 0))) 9 (upd (r.1 9) k (nI 0))) 12 (upd (r.1 12) 2 (r.1 12 2 + r.2))) 12 (upd (upd (r.1 12) 2 (r.1 12 2 + r.2)) 3 (r.1 12 3 + nI 1))
def freeS (σ : Nat → Nat → Int32) (k : Nat) : Nat → Nat → Int32 := freeF (freeL σ (nI k) 24) k
def fit01 (f : Nat → Int32) (n : Nat) : Prop := ∀ i, i < n → fits .boolean (.int (f i)) = true
set_option maxRecDepth 100000 in
set_option maxHeartbeats 4000000 in
theorem m_X3_refer (l : Launch) (g : GG) (ad : Nat → Nat) (σ : Nat → Nat → Int32) (j : Nat) (f : Nat) (v : Int32) (hj : j < 24) (hf : f < 2) : MMU l g yX3_refer cX3_refer 4 none 1 0 0 [.ref (ad 0), .int (nI j), .int (nI f), .int (v)] [stC g ad σ] (none) [stC g ad (rfS σ j f v)] := by
  refine mk_mu (by decide +kernel) (Nat.le_of_ble_eq_true rfl) (fun p e s m below meth c A hA X => ?_)
  refine w_iload_n X 1 rfl dX3_refer_0 ?_
  refine w_roSN X [] (m_X5_isNumber l g (nI (j))) cs_X5_isNumber nk_X3_72 rfl rfl ⟨Nat.le_of_ble_eq_true rfl, Nat.le_of_ble_eq_true rfl⟩ (Nat.le_of_ble_eq_true rfl) ⟨Nat.le_of_ble_eq_true rfl, Nat.le_of_ble_eq_true rfl⟩ dX3_refer_1 rfl ?_
  rw [isNuB_nI hj]
  refine w_bf_eq X 27 dX3_refer_4 (by decide) (fun c4 => by exfalso; cases c4) (fun c4 => ?_)
  refine w_iload_n X 2 rfl dX3_refer_7 ?_
  refine w_if_lt X 27 dX3_refer_8 (by decide) (fun c8 => by exfalso; exact absurd c8 (nI_pos (by omega))) (fun c8 => ?_)
  refine w_iload_n X 2 rfl dX3_refer_11 ?_
  refine w_iconst X (nI 2) dX3_refer_12 (by decide +kernel) ?_
  refine w_nc_ge X (by omega) (by omega) 27 dX3_refer_13 (by decide) (fun c13 => by exfalso; omega) (fun c13 => ?_)
  refine w_aload_n X 0 rfl dX3_refer_16 ?_
  refine w_get X 0 0 rfl rfl rfl in_X3 4 (by decide) fk_X3_25 rfl dX3_refer_17 ?_
  refine w_iload_n X 1 rfl dX3_refer_20 ?_
  refine w_iconst X (nI 2) dX3_refer_21 (by decide +kernel) ?_
  refine w_imul_n X dX3_refer_22 ?_
  refine w_iload_n X 2 rfl dX3_refer_23 ?_
  refine w_iadd_n X dX3_refer_24 ?_
  refine w_iload_n X 3 rfl dX3_refer_25 ?_
  refine w_iast_n X 0 5 0 rfl rfl rfl (by omega) (by decide) (show _ = stC g ad (rw2 σ 4 (upd (σ 4) ((j * 2) + f) ((v)))) from rfl) dX3_refer_26 ?_
  exact w_vret_mu X (rfl) (Nat.le_of_ble_eq_true rfl) (Nat.le_of_ble_eq_true rfl) dX3_refer_27
set_option maxRecDepth 100000 in
set_option maxHeartbeats 4000000 in
theorem m_X3_handOut (l : Launch) (g : GG) (ad : Nat → Nat) (σ : Nat → Nat → Int32) (k : Nat) (hk : k < 6) : MMU l g yX3_handOut cX3_handOut 2 none 1 0 0 [.ref (ad 0), .int (nI k)] [stC g ad σ] (none) [stC g ad (handS σ k)] := by
  refine mk_mu (by decide +kernel) (Nat.le_of_ble_eq_true rfl) (fun p e s m below meth c A hA X => ?_)
  refine w_iload_n X 1 rfl dX3_handOut_0 ?_
  refine w_roSN X [] (m_X5_isArena l g (nI (k))) cs_X5_isArena nk_X3_68 rfl rfl ⟨Nat.le_of_ble_eq_true rfl, Nat.le_of_ble_eq_true rfl⟩ (Nat.le_of_ble_eq_true rfl) ⟨Nat.le_of_ble_eq_true rfl, Nat.le_of_ble_eq_true rfl⟩ dX3_handOut_1 rfl ?_
  rw [isArB_nI hk]
  refine w_bf_eq X 24 dX3_handOut_4 (by decide) (fun c4 => by exfalso; cases c4) (fun c4 => ?_)
  refine w_aload_n X 0 rfl dX3_handOut_7 ?_
  refine w_get X 0 0 rfl rfl rfl in_X3 8 (by decide) fk_X3_37 rfl dX3_handOut_8 ?_
  refine w_iload_n X 1 rfl dX3_handOut_11 ?_
  refine w_iconst X (nI 1) dX3_handOut_12 (by decide +kernel) ?_
  refine w_zast_n X 0 9 1 rfl rfl rfl (by omega) (by decide) (show _ = stC g ad (rw2 σ 8 (upd (σ 8) k (nI (1)))) from rfl) dX3_handOut_13 ?_
  refine w_aload_n X 0 rfl dX3_handOut_14 ?_
  refine w_get X 0 0 rfl rfl rfl in_X3 10 (by decide) fk_X3_43 rfl dX3_handOut_15 ?_
  refine w_iload_n X 1 rfl dX3_handOut_18 ?_
  refine w_dup2 X dX3_handOut_19 rfl rfl ?_
  refine w_iald_n X 0 11 0 rfl rfl rfl (by omega) (by decide) dX3_handOut_20 ?_
  refine w_st (st2 := [.int (σ 10 k), .int (nI k), .ref (ad 11)]) rfl ?_
  refine w_iconst X (nI 1) dX3_handOut_21 (by decide +kernel) ?_
  refine w_iadd X dX3_handOut_22 ?_
  refine w_iast_n X 0 11 0 rfl rfl rfl (by omega) (by decide) (show _ = stC g ad (rw2 (rw2 σ 8 (upd (σ 8) k (nI (1)))) 10 (upd (σ 10) k (((σ 10 k) + nI (1))))) from rfl) dX3_handOut_23 ?_
  exact w_vret_mu X (rfl) (Nat.le_of_ble_eq_true rfl) (Nat.le_of_ble_eq_true rfl) dX3_handOut_24
set_option maxRecDepth 100000 in
set_option maxHeartbeats 4000000 in
theorem m_X3_add (l : Launch) (g : GG) (ad : Nat → Nat) (σ : Nat → Nat → Int32) (j : Nat) (k : Nat) (q : Int32) (hj : j < 24) (hk : k < 6) : MMU l g yX3_add cX3_add 4 none 1 0 0 [.ref (ad 0), .int (nI j), .int (nI k), .int (q)] [stC g ad σ] (none) [stC g ad (addS σ j k q)] := by
  refine mk_mu (by decide +kernel) (Nat.le_of_ble_eq_true rfl) (fun p e s m below meth c A hA X => ?_)
  refine w_iload_n X 1 rfl dX3_add_0 ?_
  refine w_roSN X [] (m_X5_isNumber l g (nI (j))) cs_X5_isNumber nk_X3_72 rfl rfl ⟨Nat.le_of_ble_eq_true rfl, Nat.le_of_ble_eq_true rfl⟩ (Nat.le_of_ble_eq_true rfl) ⟨Nat.le_of_ble_eq_true rfl, Nat.le_of_ble_eq_true rfl⟩ dX3_add_1 rfl ?_
  rw [isNuB_nI hj]
  refine w_bf_eq X 14 dX3_add_4 (by decide) (fun c4 => by exfalso; cases c4) (fun c4 => ?_)
  refine w_iload_n X 2 rfl dX3_add_7 ?_
  refine w_roSN X [] (m_X5_isArena l g (nI (k))) cs_X5_isArena nk_X3_68 rfl rfl ⟨Nat.le_of_ble_eq_true rfl, Nat.le_of_ble_eq_true rfl⟩ (Nat.le_of_ble_eq_true rfl) ⟨Nat.le_of_ble_eq_true rfl, Nat.le_of_ble_eq_true rfl⟩ dX3_add_8 rfl ?_
  rw [isArB_nI hk]
  refine w_bf_ne X 15 dX3_add_11 (by decide) (fun c11 => ?_) (fun c11 => by exfalso; cases c11)
  refine w_aload_n X 0 rfl dX3_add_15 ?_
  refine w_get X 0 0 rfl rfl rfl in_X3 0 (by decide) fk_X3_9 rfl dX3_add_16 ?_
  refine w_iload_n X 1 rfl dX3_add_19 ?_
  refine w_iconst X (nI 1) dX3_add_20 (by decide +kernel) ?_
  refine w_zast_n X 0 1 1 rfl rfl rfl (by omega) (by decide) (show _ = stC g ad (rw2 σ 0 (upd (σ 0) j (nI (1)))) from rfl) dX3_add_21 ?_
  refine w_aload_n X 0 rfl dX3_add_22 ?_
  refine w_get X 0 0 rfl rfl rfl in_X3 1 (by decide) fk_X3_15 rfl dX3_add_23 ?_
  refine w_iload_n X 1 rfl dX3_add_26 ?_
  refine w_iload_n X 2 rfl dX3_add_27 ?_
  refine w_iast_n X 0 2 0 rfl rfl rfl (by omega) (by decide) (show _ = stC g ad (rw2 (rw2 σ 0 (upd (σ 0) j (nI (1)))) 1 (upd (σ 1) j (nI (k)))) from rfl) dX3_add_28 ?_
  refine w_aload_n X 0 rfl dX3_add_29 ?_
  refine w_get X 0 0 rfl rfl rfl in_X3 2 (by decide) fk_X3_19 rfl dX3_add_30 ?_
  refine w_iload_n X 1 rfl dX3_add_33 ?_
  refine w_aload_n X 0 rfl dX3_add_34 ?_
  refine w_get X 0 0 rfl rfl rfl in_X3 9 (by decide) fk_X3_40 rfl dX3_add_35 ?_
  refine w_iload_n X 2 rfl dX3_add_38 ?_
  refine w_iald_n X 0 10 0 rfl rfl rfl (by omega) (by decide) dX3_add_39 ?_
  refine w_st (st2 := [.int (σ 9 k), .int (nI j), .ref (ad 3)]) rfl ?_
  refine w_iast_n X 0 3 0 rfl rfl rfl (by omega) (by decide) (show _ = stC g ad (rw2 (rw2 (rw2 σ 0 (upd (σ 0) j (nI (1)))) 1 (upd (σ 1) j (nI (k)))) 2 (upd (σ 2) j ((σ 9 k)))) from rfl) dX3_add_40 ?_
  refine w_aload_n X 0 rfl dX3_add_41 ?_
  refine w_get X 0 0 rfl rfl rfl in_X3 3 (by decide) fk_X3_22 rfl dX3_add_42 ?_
  refine w_iload_n X 1 rfl dX3_add_45 ?_
  refine w_iload_n X 3 rfl dX3_add_46 ?_
  refine w_iast_n X 0 4 0 rfl rfl rfl (by omega) (by decide) (show _ = stC g ad (rw2 (rw2 (rw2 (rw2 σ 0 (upd (σ 0) j (nI (1)))) 1 (upd (σ 1) j (nI (k)))) 2 (upd (σ 2) j ((σ 9 k)))) 3 (upd (σ 3) j ((q)))) from rfl) dX3_add_47 ?_
  refine w_aload_n X 0 rfl dX3_add_48 ?_
  refine w_get X 0 0 rfl rfl rfl in_X3 9 (by decide) fk_X3_40 rfl dX3_add_49 ?_
  refine w_iload_n X 2 rfl dX3_add_52 ?_
  refine w_dup2 X dX3_add_53 rfl rfl ?_
  refine w_iald_n X 0 10 0 rfl rfl rfl (by omega) (by decide) dX3_add_54 ?_
  refine w_st (st2 := [.int (σ 9 k), .int (nI k), .ref (ad 10)]) rfl ?_
  refine w_iload_n X 3 rfl dX3_add_55 ?_
  refine w_iadd X dX3_add_56 ?_
  refine w_iast_n X 0 10 0 rfl rfl rfl (by omega) (by decide) (show _ = stC g ad (rw2 (rw2 (rw2 (rw2 (rw2 σ 0 (upd (σ 0) j (nI (1)))) 1 (upd (σ 1) j (nI (k)))) 2 (upd (σ 2) j ((σ 9 k)))) 3 (upd (σ 3) j ((q)))) 9 (upd (σ 9) k (((σ 9 k) + (q))))) from rfl) dX3_add_57 ?_
  refine w_aload_n X 0 rfl dX3_add_58 ?_
  refine w_dup X dX3_add_59 rfl ?_
  refine w_get X 0 0 rfl rfl rfl in_X3 12 (by decide) fk_X3_55 rfl dX3_add_60 ?_
  refine w_st (st2 := [.int (σ 12 0), .ref (ad 0)]) rfl ?_
  refine w_iconst X (nI 1) dX3_add_63 (by decide +kernel) ?_
  refine w_iadd X dX3_add_64 ?_
  refine w_put X 0 0 rfl rfl rfl in_X3 tyX3 tyX3_ok nmX3 12 (by decide) fk_X3_55 rfl rfl rfl rfl (Nat.le_of_ble_eq_true rfl) (show _ = stC g ad (rw2 (rw2 (rw2 (rw2 (rw2 (rw2 σ 0 (upd (σ 0) j (nI (1)))) 1 (upd (σ 1) j (nI (k)))) 2 (upd (σ 2) j ((σ 9 k)))) 3 (upd (σ 3) j ((q)))) 9 (upd (σ 9) k (((σ 9 k) + (q))))) 12 (upd (σ 12) 0 (((σ 12 0) + nI (1))))) from rfl) dX3_add_65 ?_
  exact w_vret_mu X (rfl) (Nat.le_of_ble_eq_true rfl) (Nat.le_of_ble_eq_true rfl) dX3_add_68
set_option maxRecDepth 100000 in
set_option maxHeartbeats 4000000 in
theorem m_X3_layAnew (l : Launch) (g : GG) (ad : Nat → Nat) (σ : Nat → Nat → Int32) (j : Nat) (k : Nat) (q : Int32) (hj : j < 24) (hk : k < 6) : MMU l g yX3_layAnew cX3_layAnew 4 none 1 0 0 [.ref (ad 0), .int (nI j), .int (nI k), .int (q)] [stC g ad σ] (none) [stC g ad (layS σ j k q)] := by
  refine mk_mu (by decide +kernel) (Nat.le_of_ble_eq_true rfl) (fun p e s m below meth c A hA X => ?_)
  refine w_iload_n X 1 rfl dX3_layAnew_0 ?_
  refine w_roSN X [] (m_X5_isNumber l g (nI (j))) cs_X5_isNumber nk_X3_72 rfl rfl ⟨Nat.le_of_ble_eq_true rfl, Nat.le_of_ble_eq_true rfl⟩ (Nat.le_of_ble_eq_true rfl) ⟨Nat.le_of_ble_eq_true rfl, Nat.le_of_ble_eq_true rfl⟩ dX3_layAnew_1 rfl ?_
  rw [isNuB_nI hj]
  refine w_bf_eq X 14 dX3_layAnew_4 (by decide) (fun c4 => by exfalso; cases c4) (fun c4 => ?_)
  refine w_iload_n X 2 rfl dX3_layAnew_7 ?_
  refine w_roSN X [] (m_X5_isArena l g (nI (k))) cs_X5_isArena nk_X3_68 rfl rfl ⟨Nat.le_of_ble_eq_true rfl, Nat.le_of_ble_eq_true rfl⟩ (Nat.le_of_ble_eq_true rfl) ⟨Nat.le_of_ble_eq_true rfl, Nat.le_of_ble_eq_true rfl⟩ dX3_layAnew_8 rfl ?_
  rw [isArB_nI hk]
  refine w_bf_ne X 15 dX3_layAnew_11 (by decide) (fun c11 => ?_) (fun c11 => by exfalso; cases c11)
  refine w_aload_n X 0 rfl dX3_layAnew_15 ?_
  refine w_get X 0 0 rfl rfl rfl in_X3 1 (by decide) fk_X3_15 rfl dX3_layAnew_16 ?_
  refine w_iload_n X 1 rfl dX3_layAnew_19 ?_
  refine w_iload_n X 2 rfl dX3_layAnew_20 ?_
  refine w_iast_n X 0 2 0 rfl rfl rfl (by omega) (by decide) (show _ = stC g ad (rw2 σ 1 (upd (σ 1) j (nI (k)))) from rfl) dX3_layAnew_21 ?_
  refine w_aload_n X 0 rfl dX3_layAnew_22 ?_
  refine w_get X 0 0 rfl rfl rfl in_X3 2 (by decide) fk_X3_19 rfl dX3_layAnew_23 ?_
  refine w_iload_n X 1 rfl dX3_layAnew_26 ?_
  refine w_iload_n X 3 rfl dX3_layAnew_27 ?_
  refine w_iast_n X 0 3 0 rfl rfl rfl (by omega) (by decide) (show _ = stC g ad (rw2 (rw2 σ 1 (upd (σ 1) j (nI (k)))) 2 (upd (σ 2) j ((q)))) from rfl) dX3_layAnew_28 ?_
  refine w_aload_n X 0 rfl dX3_layAnew_29 ?_
  refine w_get X 0 0 rfl rfl rfl in_X3 7 (by decide) fk_X3_34 rfl dX3_layAnew_30 ?_
  refine w_iload_n X 1 rfl dX3_layAnew_33 ?_
  refine w_dup2 X dX3_layAnew_34 rfl rfl ?_
  refine w_iald_n X 0 8 0 rfl rfl rfl (by omega) (by decide) dX3_layAnew_35 ?_
  refine w_st (st2 := [.int (σ 7 j), .int (nI j), .ref (ad 8)]) rfl ?_
  refine w_iconst X (nI 1) dX3_layAnew_36 (by decide +kernel) ?_
  refine w_iadd X dX3_layAnew_37 ?_
  refine w_iast_n X 0 8 0 rfl rfl rfl (by omega) (by decide) (show _ = stC g ad (rw2 (rw2 (rw2 σ 1 (upd (σ 1) j (nI (k)))) 2 (upd (σ 2) j ((q)))) 7 (upd (σ 7) j (((σ 7 j) + nI (1))))) from rfl) dX3_layAnew_38 ?_
  refine w_aload_n X 0 rfl dX3_layAnew_39 ?_
  refine w_get X 0 0 rfl rfl rfl in_X3 9 (by decide) fk_X3_40 rfl dX3_layAnew_40 ?_
  refine w_iload_n X 2 rfl dX3_layAnew_43 ?_
  refine w_dup2 X dX3_layAnew_44 rfl rfl ?_
  refine w_iald_n X 0 10 0 rfl rfl rfl (by omega) (by decide) dX3_layAnew_45 ?_
  refine w_st (st2 := [.int (σ 9 k), .int (nI k), .ref (ad 10)]) rfl ?_
  refine w_aload_n X 0 rfl dX3_layAnew_46 ?_
  refine w_get X 0 0 rfl rfl rfl in_X3 3 (by decide) fk_X3_22 rfl dX3_layAnew_47 ?_
  refine w_iload_n X 1 rfl dX3_layAnew_50 ?_
  refine w_iald_n X 0 4 0 rfl rfl rfl (by omega) (by decide) dX3_layAnew_51 ?_
  refine w_st (st2 := [.int (σ 3 j), .int (σ 9 k), .int (nI k), .ref (ad 10)]) rfl ?_
  refine w_iadd X dX3_layAnew_52 ?_
  refine w_iast_n X 0 10 0 rfl rfl rfl (by omega) (by decide) (show _ = stC g ad (rw2 (rw2 (rw2 (rw2 σ 1 (upd (σ 1) j (nI (k)))) 2 (upd (σ 2) j ((q)))) 7 (upd (σ 7) j (((σ 7 j) + nI (1))))) 9 (upd (σ 9) k (((σ 9 k) + (σ 3 j))))) from rfl) dX3_layAnew_53 ?_
  refine w_aload_n X 0 rfl dX3_layAnew_54 ?_
  refine w_dup X dX3_layAnew_55 rfl ?_
  refine w_get X 0 0 rfl rfl rfl in_X3 13 (by decide) fk_X3_59 rfl dX3_layAnew_56 ?_
  refine w_st (st2 := [.int (σ 12 1), .ref (ad 0)]) rfl ?_
  refine w_iconst X (nI 1) dX3_layAnew_59 (by decide +kernel) ?_
  refine w_iadd X dX3_layAnew_60 ?_
  refine w_put X 0 0 rfl rfl rfl in_X3 tyX3 tyX3_ok nmX3 13 (by decide) fk_X3_59 rfl rfl rfl rfl (Nat.le_of_ble_eq_true rfl) (show _ = stC g ad (rw2 (rw2 (rw2 (rw2 (rw2 σ 1 (upd (σ 1) j (nI (k)))) 2 (upd (σ 2) j ((q)))) 7 (upd (σ 7) j (((σ 7 j) + nI (1))))) 9 (upd (σ 9) k (((σ 9 k) + (σ 3 j))))) 12 (upd (σ 12) 1 (((σ 12 1) + nI (1))))) from rfl) dX3_layAnew_61 ?_
  exact w_vret_mu X (rfl) (Nat.le_of_ble_eq_true rfl) (Nat.le_of_ble_eq_true rfl) dX3_layAnew_64
set_option maxRecDepth 100000 in
set_option maxHeartbeats 4000000 in
theorem m_X3_drop (l : Launch) (g : GG) (ad : Nat → Nat) (σ : Nat → Nat → Int32) (j : Nat) (hj : j < 24) : MMU l g yX3_drop cX3_drop 4 none 2 0 0 [.ref (ad 0), .int (nI j)] [stC g ad σ] (none) [stC g ad (dropL σ j 24)] := by
  refine mk_mu (by decide +kernel) (Nat.le_of_ble_eq_true rfl) (fun p e s m below meth c A hA X => ?_)
  refine w_iload_n X 1 rfl dX3_drop_0 ?_
  refine w_roSN X [] (m_X5_isNumber l g (nI (j))) cs_X5_isNumber nk_X3_72 rfl rfl ⟨Nat.le_of_ble_eq_true rfl, Nat.le_of_ble_eq_true rfl⟩ (Nat.le_of_ble_eq_true rfl) ⟨Nat.le_of_ble_eq_true rfl, Nat.le_of_ble_eq_true rfl⟩ dX3_drop_1 rfl ?_
  rw [isNuB_nI hj]
  refine w_bf_ne X 8 dX3_drop_4 (by decide) (fun c4 => ?_) (fun c4 => by exfalso; cases c4)
  refine w_aload_n X 0 rfl dX3_drop_8 ?_
  refine w_get X 0 0 rfl rfl rfl in_X3 0 (by decide) fk_X3_9 rfl dX3_drop_9 ?_
  refine w_iload_n X 1 rfl dX3_drop_12 ?_
  refine w_iconst X (nI 0) dX3_drop_13 (by decide +kernel) ?_
  refine w_zast_n X 0 1 1 rfl rfl rfl (by omega) (by decide) (show _ = stC g ad (rw2 σ 0 (upd (σ 0) j (nI (0)))) from rfl) dX3_drop_14 ?_
  refine w_aload_n X 0 rfl dX3_drop_15 ?_
  refine w_get X 0 0 rfl rfl rfl in_X3 5 (by decide) fk_X3_28 rfl dX3_drop_16 ?_
  refine w_iload_n X 1 rfl dX3_drop_19 ?_
  refine w_iconst X (nI 0) dX3_drop_20 (by decide +kernel) ?_
  refine w_zast_n X 0 6 1 rfl rfl rfl (by omega) (by decide) (show _ = stC g ad (rw2 (rw2 σ 0 (upd (σ 0) j (nI (0)))) 5 (upd (σ 5) j (nI (0)))) from rfl) dX3_drop_21 ?_
  refine w_aload_n X 0 rfl dX3_drop_22 ?_
  refine w_get X 0 0 rfl rfl rfl in_X3 6 (by decide) fk_X3_31 rfl dX3_drop_23 ?_
  refine w_iload_n X 1 rfl dX3_drop_26 ?_
  refine w_iconst X (nI 0) dX3_drop_27 (by decide +kernel) ?_
  refine w_zast_n X 0 7 1 rfl rfl rfl (by omega) (by decide) (show _ = stC g ad (rw2 (rw2 (rw2 σ 0 (upd (σ 0) j (nI (0)))) 5 (upd (σ 5) j (nI (0)))) 6 (upd (σ 6) j (nI (0)))) from rfl) dX3_drop_28 ?_
  refine w_aload_n X 0 rfl dX3_drop_29 ?_
  refine w_get X 0 0 rfl rfl rfl in_X3 7 (by decide) fk_X3_34 rfl dX3_drop_30 ?_
  refine w_iload_n X 1 rfl dX3_drop_33 ?_
  refine w_iconst X (nI 0) dX3_drop_34 (by decide +kernel) ?_
  refine w_iast_n X 0 8 0 rfl rfl rfl (by omega) (by decide) (show _ = stC g ad (rw2 (rw2 (rw2 (rw2 σ 0 (upd (σ 0) j (nI (0)))) 5 (upd (σ 5) j (nI (0)))) 6 (upd (σ 6) j (nI (0)))) 7 (upd (σ 7) j (nI (0)))) from rfl) dX3_drop_35 ?_
  refine w_iconst X (nI 0) dX3_drop_36 (by decide +kernel) ?_
  refine w_istore_n X dX3_drop_37 (by decide) ?_
  refine w_all [1, 2, 0] (rfl) (rfl) rfl (w_loop (st := []) (pc := 38) X (V := Nat) (fun (h : Nat) => 24 - h) (fun (h : Nat) => (h ≤ 24)) (fun (h : Nat) => [(0, .ref (ad 0)), (1, .int (nI j)), (2, .int (nI h))]) (fun (h : Nat) => [stC g ad (dropL σ j h)]) (fun h hv38 ih38 => ?_) 0 (by omega))
  have hh := hv38
  try dsimp only at ih38 ⊢
  refine w_iload_n X 2 rfl dX3_drop_38 ?_
  refine w_bipush X (nI 24) dX3_drop_39 (by decide +kernel) ?_
  refine w_nc_ge X (by omega) (by omega) 85 dX3_drop_41 (by decide) (fun c41 => ?_) (fun c41 => ?_)
  · have he_h : h = 24 := by omega
    exact w_vret_mu X (by rw [he_h]) (Nat.le_of_ble_eq_true rfl) (Nat.le_of_ble_eq_true rfl) dX3_drop_85
  · refine w_iconst X (nI 0) dX3_drop_44 (by decide +kernel) ?_
    refine w_istore_n X dX3_drop_45 (by decide) ?_
    refine w_iload_n X 0 rfl dX3_drop_46 ?_
    refine w_iconst X (nI 2) dX3_drop_47 (by decide +kernel) ?_
    refine w_nc_ge X (by omega) (by omega) 79 dX3_drop_48 (by decide) (fun c48 => by exfalso; omega) (fun c48 => ?_)
    refine w_join (V := (Nat → Nat → Int32)) X 73 (fun (z1 : (Nat → Nat → Int32)) => (z1 = dropF (dropL σ j h) j h 0)) (fun (z1 : (Nat → Nat → Int32)) => [(0, .ref (ad 0)), (1, .int (nI j)), (2, .int (nI h)), (3, .int (nI 0))]) (fun (z1 : (Nat → Nat → Int32)) => []) (fun (z1 : (Nat → Nat → Int32)) => [stC g ad z1]) (fun z1 hv73 => ?_) (fun J73 => ?_)
    · have hz1 := hv73
      try dsimp only
      refine w_iinc X (nI (1)) 3 rfl (nI_1 _) dX3_drop_73 (by decide) ?_
      refine w_goto X 46 dX3_drop_76 (by decide) ?_
      refine w_iload_n X 0 rfl dX3_drop_46 ?_
      refine w_iconst X (nI 2) dX3_drop_47 (by decide +kernel) ?_
      refine w_nc_ge X (by omega) (by omega) 79 dX3_drop_48 (by decide) (fun c48_ => by exfalso; omega) (fun c48_ => ?_)
      refine w_join (V := (Nat → Nat → Int32)) X 73 (fun (z2 : (Nat → Nat → Int32)) => (z2 = dropF (z1) j h 1)) (fun (z2 : (Nat → Nat → Int32)) => [(0, .ref (ad 0)), (1, .int (nI j)), (2, .int (nI h)), (3, .int (nI 1))]) (fun (z2 : (Nat → Nat → Int32)) => []) (fun (z2 : (Nat → Nat → Int32)) => [stC g ad z2]) (fun z2 hv73 => ?_) (fun J73 => ?_)
      · have hz2 := hv73
        try dsimp only
        refine w_iinc X (nI (2)) 3 rfl (nI_1 _) dX3_drop_73 (by decide) ?_
        refine w_goto X 46 dX3_drop_76 (by decide) ?_
        refine w_iload_n X 0 rfl dX3_drop_46 ?_
        refine w_iconst X (nI 2) dX3_drop_47 (by decide +kernel) ?_
        refine w_nc_ge X (by omega) (by omega) 79 dX3_drop_48 (by decide) (fun c48__ => ?_) (fun c48__ => by exfalso; omega)
        refine w_iinc X (nI (h + 1)) 3 rfl (nI_1 _) dX3_drop_79 (by decide) ?_
        refine w_goto X 38 dX3_drop_82 (by decide) ?_
        exact w_all [2, 3, 0] (rfl) (by subst hz2; subst hz1; rfl) rfl (ih38 (h + 1) (by omega) (by omega))
      refine w_iload_n X 3 rfl dX3_drop_51 ?_
      refine w_iload_n X 2 rfl dX3_drop_52 ?_
      refine w_nc_eq X (by omega) (by omega) 66 dX3_drop_53 (by decide) (fun c53 => ?_) (fun c53 => ?_)
      · refine w_aload_n X 1 rfl dX3_drop_66 ?_
        refine w_iload_n X 3 rfl dX3_drop_67 ?_
        refine w_iload_n X 0 rfl dX3_drop_68 ?_
        refine w_iconst X (-1) dX3_drop_69 (by decide +kernel) ?_
        refine w_muV X hA (gr := []) (gs1 := [stC g ad (rfS z1 h 1 (-1))]) [0] [] 0 0 (m_X3_refer l g ad z1 h 1 (-1) (by omega) (by omega)) cv_X3_refer mk_X3_87 rfl rfl rfl (ng := 1) rfl (by decide) rfl rfl rfl rfl rfl rfl ⟨Nat.le_of_ble_eq_true rfl, Nat.le_of_ble_eq_true rfl⟩ (Nat.le_of_ble_eq_true rfl) ⟨Nat.le_of_ble_eq_true rfl, Nat.le_of_ble_eq_true rfl⟩ dX3_drop_70 rfl ?_
        exact w_all [1, 2, 3, 0] (rfl) (rfl) rfl (J73 (rfS z1 h 1 (-1)) (by simp only [dropF, c41, c48, c48_, c53, if_true, if_false, reduceIte, not_false_eq_true]))
      · refine w_aload_n X 1 rfl dX3_drop_56 ?_
        refine w_iload_n X 3 rfl dX3_drop_57 ?_
        refine w_iload_n X 0 rfl dX3_drop_58 ?_
        refine w_roV X [0] 0 0 (m_X3_reference l g ad z1 (nI (h)) (nI (1))) cv_X3_reference mk_X3_83 rfl rfl rfl rfl rfl ⟨Nat.le_of_ble_eq_true rfl, Nat.le_of_ble_eq_true rfl⟩ (Nat.le_of_ble_eq_true rfl) ⟨Nat.le_of_ble_eq_true rfl, Nat.le_of_ble_eq_true rfl⟩ dX3_drop_59 rfl ?_
        refine w_iload_n X 2 rfl dX3_drop_62 ?_
        refine w_ic_ne X 73 dX3_drop_63 (by decide) (fun c63 => ?_) (fun c63 => ?_)
        · exact w_all [1, 2, 3, 0] (rfl) (rfl) rfl (J73 z1 (by simp only [dropF, c41, c48, c48_, c53, c63, if_true, if_false, reduceIte, not_false_eq_true]))
        · refine w_aload_n X 1 rfl dX3_drop_66 ?_
          refine w_iload_n X 3 rfl dX3_drop_67 ?_
          refine w_iload_n X 0 rfl dX3_drop_68 ?_
          refine w_iconst X (-1) dX3_drop_69 (by decide +kernel) ?_
          refine w_muV X hA (gr := []) (gs1 := [stC g ad (rfS z1 h 1 (-1))]) [0] [] 0 0 (m_X3_refer l g ad z1 h 1 (-1) (by omega) (by omega)) cv_X3_refer mk_X3_87 rfl rfl rfl (ng := 1) rfl (by decide) rfl rfl rfl rfl rfl rfl ⟨Nat.le_of_ble_eq_true rfl, Nat.le_of_ble_eq_true rfl⟩ (Nat.le_of_ble_eq_true rfl) ⟨Nat.le_of_ble_eq_true rfl, Nat.le_of_ble_eq_true rfl⟩ dX3_drop_70 rfl ?_
          exact w_all [1, 2, 3, 0] (rfl) (rfl) rfl (J73 (rfS z1 h 1 (-1)) (by simp only [dropF, c41, c48, c48_, c53, c63, if_true, if_false, reduceIte, not_false_eq_true]))
    refine w_iload_n X 3 rfl dX3_drop_51 ?_
    refine w_iload_n X 2 rfl dX3_drop_52 ?_
    refine w_nc_eq X (by omega) (by omega) 66 dX3_drop_53 (by decide) (fun c53 => ?_) (fun c53 => ?_)
    · refine w_aload_n X 1 rfl dX3_drop_66 ?_
      refine w_iload_n X 3 rfl dX3_drop_67 ?_
      refine w_iload_n X 0 rfl dX3_drop_68 ?_
      refine w_iconst X (-1) dX3_drop_69 (by decide +kernel) ?_
      refine w_muV X hA (gr := []) (gs1 := [stC g ad (rfS (dropL σ j h) h 0 (-1))]) [0] [] 0 0 (m_X3_refer l g ad (dropL σ j h) h 0 (-1) (by omega) (by omega)) cv_X3_refer mk_X3_87 rfl rfl rfl (ng := 1) rfl (by decide) rfl rfl rfl rfl rfl rfl ⟨Nat.le_of_ble_eq_true rfl, Nat.le_of_ble_eq_true rfl⟩ (Nat.le_of_ble_eq_true rfl) ⟨Nat.le_of_ble_eq_true rfl, Nat.le_of_ble_eq_true rfl⟩ dX3_drop_70 rfl ?_
      exact w_all [1, 2, 3, 0] (rfl) (rfl) rfl (J73 (rfS (dropL σ j h) h 0 (-1)) (by simp only [dropF, c41, c48, c53, if_true, if_false, reduceIte, not_false_eq_true]))
    · refine w_aload_n X 1 rfl dX3_drop_56 ?_
      refine w_iload_n X 3 rfl dX3_drop_57 ?_
      refine w_iload_n X 0 rfl dX3_drop_58 ?_
      refine w_roV X [0] 0 0 (m_X3_reference l g ad (dropL σ j h) (nI (h)) (nI (0))) cv_X3_reference mk_X3_83 rfl rfl rfl rfl rfl ⟨Nat.le_of_ble_eq_true rfl, Nat.le_of_ble_eq_true rfl⟩ (Nat.le_of_ble_eq_true rfl) ⟨Nat.le_of_ble_eq_true rfl, Nat.le_of_ble_eq_true rfl⟩ dX3_drop_59 rfl ?_
      refine w_iload_n X 2 rfl dX3_drop_62 ?_
      refine w_ic_ne X 73 dX3_drop_63 (by decide) (fun c63 => ?_) (fun c63 => ?_)
      · exact w_all [1, 2, 3, 0] (rfl) (rfl) rfl (J73 (dropL σ j h) (by simp only [dropF, c41, c48, c53, c63, if_true, if_false, reduceIte, not_false_eq_true]))
      · refine w_aload_n X 1 rfl dX3_drop_66 ?_
        refine w_iload_n X 3 rfl dX3_drop_67 ?_
        refine w_iload_n X 0 rfl dX3_drop_68 ?_
        refine w_iconst X (-1) dX3_drop_69 (by decide +kernel) ?_
        refine w_muV X hA (gr := []) (gs1 := [stC g ad (rfS (dropL σ j h) h 0 (-1))]) [0] [] 0 0 (m_X3_refer l g ad (dropL σ j h) h 0 (-1) (by omega) (by omega)) cv_X3_refer mk_X3_87 rfl rfl rfl (ng := 1) rfl (by decide) rfl rfl rfl rfl rfl rfl ⟨Nat.le_of_ble_eq_true rfl, Nat.le_of_ble_eq_true rfl⟩ (Nat.le_of_ble_eq_true rfl) ⟨Nat.le_of_ble_eq_true rfl, Nat.le_of_ble_eq_true rfl⟩ dX3_drop_70 rfl ?_
        exact w_all [1, 2, 3, 0] (rfl) (rfl) rfl (J73 (rfS (dropL σ j h) h 0 (-1)) (by simp only [dropF, c41, c48, c53, c63, if_true, if_false, reduceIte, not_false_eq_true]))
set_option maxRecDepth 100000 in
set_option maxHeartbeats 4000000 in
theorem m_X3_free (l : Launch) (g : GG) (ad : Nat → Nat) (σ : Nat → Nat → Int32) (k : Nat) (hk : k < 6) : MMU l g yX3_free cX3_free 4 (some .int) 3 0 0 [.ref (ad 0), .int (nI k)] [stC g ad σ] (some (.int ((freeL σ (nI k) 24).2))) [stC g ad (freeS σ k)] := by
  refine mk_mu (by decide +kernel) (Nat.le_of_ble_eq_true rfl) (fun p e s m below meth c A hA X => ?_)
  refine w_iconst X (nI 0) dX3_free_0 (by decide +kernel) ?_
  refine w_istore_n X dX3_free_1 (by decide) ?_
  refine w_iconst X (nI 0) dX3_free_2 (by decide +kernel) ?_
  refine w_istore_n X dX3_free_3 (by decide) ?_
  have e0_2 : nI (0) = ((freeL σ (nI k) 0).2) := by rfl
  refine w_all [2, 3, 1, 0] (rfl) (rfl) (by rw [← e0_2]; rfl) (w_loop (st := []) (pc := 4) X (V := Nat) (fun (i : Nat) => 24 - i) (fun (i : Nat) => (i ≤ 24)) (fun (i : Nat) => [(0, .ref (ad 0)), (1, .int (nI k)), (2, .int ((freeL σ (nI k) i).2)), (3, .int (nI i))]) (fun (i : Nat) => [stC g ad ((freeL σ (nI k) i).1)]) (fun i hv4 ih4 => ?_) 0 (by omega))
  have hi := hv4
  try dsimp only at ih4 ⊢
  refine w_iload_n X 3 rfl dX3_free_4 ?_
  refine w_bipush X (nI 24) dX3_free_5 (by decide +kernel) ?_
  refine w_nc_ge X (by omega) (by omega) 33 dX3_free_7 (by decide) (fun c7 => ?_) (fun c7 => ?_)
  · have he_i : i = 24 := by omega
    refine w_iload_n X 1 rfl dX3_free_33 ?_
    refine w_roSN X [] (m_X5_isArena l g (nI (k))) cs_X5_isArena nk_X3_68 rfl rfl ⟨Nat.le_of_ble_eq_true rfl, Nat.le_of_ble_eq_true rfl⟩ (Nat.le_of_ble_eq_true rfl) ⟨Nat.le_of_ble_eq_true rfl, Nat.le_of_ble_eq_true rfl⟩ dX3_free_34 rfl ?_
    rw [isArB_nI hk]
    refine w_bf_eq X 54 dX3_free_37 (by decide) (fun c37 => by exfalso; cases c37) (fun c37 => ?_)
    refine w_aload_n X 0 rfl dX3_free_40 ?_
    refine w_get X 0 0 rfl rfl rfl in_X3 8 (by decide) fk_X3_37 rfl dX3_free_41 ?_
    refine w_iload_n X 1 rfl dX3_free_44 ?_
    refine w_iconst X (nI 0) dX3_free_45 (by decide +kernel) ?_
    refine w_zast_n X 0 9 1 rfl rfl rfl (by omega) (by decide) (show _ = stC g ad (rw2 ((freeL σ (nI k) i).1) 8 (upd (((freeL σ (nI k) i).1) 8) k (nI (0)))) from rfl) dX3_free_46 ?_
    refine w_aload_n X 0 rfl dX3_free_47 ?_
    refine w_get X 0 0 rfl rfl rfl in_X3 9 (by decide) fk_X3_40 rfl dX3_free_48 ?_
    refine w_iload_n X 1 rfl dX3_free_51 ?_
    refine w_iconst X (nI 0) dX3_free_52 (by decide +kernel) ?_
    refine w_iast_n X 0 10 0 rfl rfl rfl (by omega) (by decide) (show _ = stC g ad (rw2 (rw2 ((freeL σ (nI k) i).1) 8 (upd (((freeL σ (nI k) i).1) 8) k (nI (0)))) 9 (upd (((freeL σ (nI k) i).1) 9) k (nI (0)))) from rfl) dX3_free_53 ?_
    refine w_aload_n X 0 rfl dX3_free_54 ?_
    refine w_dup X dX3_free_55 rfl ?_
    refine w_get X 0 0 rfl rfl rfl in_X3 14 (by decide) fk_X3_62 rfl dX3_free_56 ?_
    refine w_st (st2 := [.int (((freeL σ (nI k) i).1) 12 2), .ref (ad 0)]) rfl ?_
    refine w_iload_n X 2 rfl dX3_free_59 ?_
    refine w_iadd X dX3_free_60 ?_
    refine w_put X 0 0 rfl rfl rfl in_X3 tyX3 tyX3_ok nmX3 14 (by decide) fk_X3_62 rfl rfl rfl rfl (Nat.le_of_ble_eq_true rfl) (show _ = stC g ad (rw2 (rw2 (rw2 ((freeL σ (nI k) i).1) 8 (upd (((freeL σ (nI k) i).1) 8) k (nI (0)))) 9 (upd (((freeL σ (nI k) i).1) 9) k (nI (0)))) 12 (upd (((freeL σ (nI k) i).1) 12) 2 (((((freeL σ (nI k) i).1) 12 2) + ((freeL σ (nI k) i).2))))) from rfl) dX3_free_61 ?_
    refine w_aload_n X 0 rfl dX3_free_64 ?_
    refine w_dup X dX3_free_65 rfl ?_
    refine w_get X 0 0 rfl rfl rfl in_X3 15 (by decide) fk_X3_65 rfl dX3_free_66 ?_
    refine w_st (st2 := [.int (((freeL σ (nI k) i).1) 12 3), .ref (ad 0)]) rfl ?_
    refine w_iconst X (nI 1) dX3_free_69 (by decide +kernel) ?_
    refine w_iadd X dX3_free_70 ?_
    refine w_put X 0 0 rfl rfl rfl in_X3 tyX3 tyX3_ok nmX3 15 (by decide) fk_X3_65 rfl rfl rfl rfl (Nat.le_of_ble_eq_true rfl) (show _ = stC g ad (rw2 (rw2 (rw2 ((freeL σ (nI k) i).1) 8 (upd (((freeL σ (nI k) i).1) 8) k (nI (0)))) 9 (upd (((freeL σ (nI k) i).1) 9) k (nI (0)))) 12 (upd (upd (((freeL σ (nI k) i).1) 12) 2 (((((freeL σ (nI k) i).1) 12 2) + ((freeL σ (nI k) i).2)))) 3 (((((freeL σ (nI k) i).1) 12 3) + nI (1))))) from rfl) dX3_free_71 ?_
    refine w_iload_n X 2 rfl dX3_free_74 ?_
    exact w_iret_mu X (by rw [he_i]) (by rw [freeS, ← he_i]; rfl) (Nat.le_of_ble_eq_true rfl) (Nat.le_of_ble_eq_true rfl) dX3_free_75
  · refine w_aload_n X 0 rfl dX3_free_10 ?_
    refine w_iload_n X 3 rfl dX3_free_11 ?_
    refine w_iload_n X 1 rfl dX3_free_12 ?_
    refine w_roV X [0] 0 0 (m_X3_isIn l g ad ((freeL σ (nI k) i).1) (nI (i)) (nI (k))) cv_X3_isIn mk_X3_75 rfl rfl rfl rfl rfl ⟨Nat.le_of_ble_eq_true rfl, Nat.le_of_ble_eq_true rfl⟩ (Nat.le_of_ble_eq_true rfl) ⟨Nat.le_of_ble_eq_true rfl, Nat.le_of_ble_eq_true rfl⟩ dX3_free_13 rfl ?_
    refine w_bf_eq X 27 dX3_free_16 (by decide) (fun c16 => ?_) (fun c16 => ?_)
    · refine w_iinc X (nI (i + 1)) 3 rfl (nI_1 _) dX3_free_27 (by decide) ?_
      refine w_goto X 4 dX3_free_30 (by decide) ?_
      have e1_2 : ((freeL σ (nI k) i).2) = ((freeL σ (nI k) (i + 1)).2) := by simp [freeL, c7, c16]
      exact w_all [1, 2, 3, 0] (rfl) (by  simp [freeL, c7, c16]) (by rw [← e1_2]; rfl) (ih4 (i + 1) (by omega) (by omega))
    · refine w_aload_n X 0 rfl dX3_free_19 ?_
      refine w_iload_n X 3 rfl dX3_free_20 ?_
      refine w_muV X hA (gr := []) (gs1 := [stC g ad (dropL ((freeL σ (nI k) i).1) i 24)]) [0] [] 0 0 (m_X3_drop l g ad ((freeL σ (nI k) i).1) i (by omega)) cv_X3_drop mk_X3_79 rfl rfl rfl (ng := 1) rfl (by decide) rfl rfl rfl rfl rfl rfl ⟨Nat.le_of_ble_eq_true rfl, Nat.le_of_ble_eq_true rfl⟩ (Nat.le_of_ble_eq_true rfl) ⟨Nat.le_of_ble_eq_true rfl, Nat.le_of_ble_eq_true rfl⟩ dX3_free_21 rfl ?_
      generalize hn1 : dropL ((freeL σ (nI k) i).1) i 24 = σv1
      refine w_iinc X (((freeL σ (nI k) i).2) + 1) 2 rfl rfl dX3_free_24 (by decide) ?_
      refine w_iinc X (nI (i + 1)) 3 rfl (nI_1 _) dX3_free_27 (by decide) ?_
      refine w_goto X 4 dX3_free_30 (by decide) ?_
      have e2_2 : (((freeL σ (nI k) i).2) + 1) = ((freeL σ (nI k) (i + 1)).2) := by simp [freeL, c7, c16]
      exact w_all [2, 3, 1, 0] (rfl) (by subst hn1;  simp [freeL, c7, c16]) (by rw [← e2_2]; rfl) (ih4 (i + 1) (by omega) (by omega))
/-! copyFrom: the rows of booleans one by one -/
def cpU (f h : Nat → Int32) (i : Nat) : Nat → Int32 := fun k => if k < i then f k else h k
theorem cpU_0 (f h : Nat → Int32) : cpU f h 0 = h := funext fun k => if_neg (Nat.not_lt_zero k)
theorem cpU_s (f h : Nat → Int32) (i : Nat) : upd (cpU f h i) i (f i) = cpU f h (i + 1) := funext fun k => by
  show (if k = i then f i else if k < i then f k else h k) = if k < i + 1 then f k else h k
  by_cases e : k = i
  · rw [if_pos e, if_pos (by omega), e]
  · rw [if_neg e]
    by_cases e2 : k < i
    · rw [if_pos e2, if_pos (by omega)]
    · rw [if_neg e2, if_neg (by omega)]
theorem cpU_in {f h : Nat → Int32} {i j : Nat} (hj : j < i) : cpU f h i j = f j := if_pos hj
theorem fit_01 {x : Int32} (h : fits .boolean (.int x) = true) : x = 0 ∨ x = 1 := by simpa [fits] using h
def cpA (σ σ2 : Nat → Nat → Int32) (i : Nat) : Nat → Nat → Int32 := rw2 (rw2 (rw2 σ 0 (cpU (σ2 0) (σ 0) i)) 5 (cpU (σ2 5) (σ 5) i)) 6 (cpU (σ2 6) (σ 6) i)
theorem cpA_0 (g : GG) (ad : Nat → Nat) (σ σ2 : Nat → Nat → Int32) : stC g ad σ = stC g ad (cpA σ σ2 0) := by
  unfold cpA
  rw [cpU_0, cpU_0, cpU_0]
  rfl
theorem cpA_s (g : GG) (ad : Nat → Nat) (σ σ2 : Nat → Nat → Int32) (i : Nat) : stC g ad (rw2 (rw2 (rw2 (cpA σ σ2 i) 0 (upd (cpU (σ2 0) (σ 0) i) i (σ2 0 i))) 5 (upd (cpU (σ2 5) (σ 5) i) i (σ2 5 i))) 6 (upd (cpU (σ2 6) (σ 6) i) i (σ2 6 i))) = stC g ad (cpA σ σ2 (i + 1)) := by
  rw [cpU_s, cpU_s, cpU_s]
  rfl
def cpR (σ σ2 : Nat → Nat → Int32) : Nat → Nat → Int32 := rw2 (rw2 (rw2 σ 0 (σ2 0)) 5 (σ2 5)) 6 (σ2 6)
def cpB (σ σ2 : Nat → Nat → Int32) (i : Nat) : Nat → Nat → Int32 := rw2 (cpR σ σ2) 8 (cpU (σ2 8) (σ 8) i)
theorem cpB_0 (g : GG) (ad : Nat → Nat) (σ σ2 : Nat → Nat → Int32) : stC g ad (cpR σ σ2) = stC g ad (cpB σ σ2 0) := by
  unfold cpB
  rw [cpU_0]
  rfl
theorem cpB_s (g : GG) (ad : Nat → Nat) (σ σ2 : Nat → Nat → Int32) (i : Nat) : stC g ad (rw2 (cpB σ σ2 i) 8 (upd (cpU (σ2 8) (σ 8) i) i (σ2 8 i))) = stC g ad (cpB σ σ2 (i + 1)) := by
  rw [cpU_s]
  rfl
section WE
variable {p : Program} {l : Launch} {e : Env} {R : Room} {s : State} {m : MethodId} {args : Array Value} {below : List Frame} {meth : Method} {c : Code} {g : GG} {SS : Heap → List Loc → Prop} {nL : Nat} {Q : State → Prop} {kc ks : Nat} {lv : List (Nat × Value)} {st : List Value} {gs : List va_W} {pc : Nat} {A : Nat → Prop}
/-- a row of a cell is named otherwise, alike within its length -/
theorem w_ext (gi gj : Nat) {G G' : va_W} {a n : Nat} {cA : ClassId} {f f' : Nat → Int32} (hG : gs[gi]? = some G) (hj : G[gj]? = some (a, .inl (cA, n, .inl f))) (h : ∀ j, j < n → f j = f' j) (hG' : G.set gj (a, .inl (cA, n, .inl f')) = G')
    (kk : WW p l e R s m args below meth c g (va_D A) SS nL Q kc ks lv st (gs.set gi G') pc) : WW p l e R s m args below meth c g (va_D A) SS nL Q kc ks lv st gs pc := by
  intro H locs ls hP hD hS hl
  subst hG'
  have hj2 : gj < G.length := (List.getElem?_eq_some_iff.mp hj).1
  have hx := fl_lt gs gi G hG gj _ hj
  have he : gs.flatten.set (((gs.take gi).map List.length).sum + gj) (a, .inl (cA, n, .inl f)) = gs.flatten := by
    obtain ⟨h1, h2⟩ := List.getElem?_eq_some_iff.mp hx
    rw [← h2]
    exact List.set_getElem_self h1
  have hP2 := va_P_re (k := ((gs.take gi).map List.length).sum + gj) (x := (a, .inl (cA, n, .inl f))) (x' := (a, .inl (cA, n, .inl f'))) (by rw [he]; exact hP) (fun q => by
    show H[a]? = some (vp_cell cA (n, .inl f'))
    rw [← vp_ext h]
    exact q)
  have hD2 := va_D_re (k := ((gs.take gi).map List.length).sum + gj) (x := (a, .inl (cA, n, .inl f))) (x' := (a, .inl (cA, n, .inl f'))) (by rw [he]; exact hD) rfl
  rw [fl_set gs gi G hG gj _ hj2] at hP2 hD2
  exact kk H locs ls hP2 hD2 hS hl
end WE
set_option maxRecDepth 100000 in
set_option maxHeartbeats 4000000 in
theorem m_X3_copyFrom (l : Launch) (g : GG) (ad : Nat → Nat) (σ : Nat → Nat → Int32) (ad2 : Nat → Nat) (σ2 : Nat → Nat → Int32) (b0 : fit01 (σ2 0) 24) (b5 : fit01 (σ2 5) 24) (b6 : fit01 (σ2 6) 24) (b8 : fit01 (σ2 8) 6) : MMU l g yX3_copyFrom cX3_copyFrom 3 none 1 0 0 [.ref (ad 0), .ref (ad2 0)] [stC g ad σ, stC g ad2 σ2] (none) [stC g ad σ2, stC g ad2 σ2] := by
  refine mk_mu (by decide +kernel) (Nat.le_of_ble_eq_true rfl) (fun p e s m below meth c A hA X => ?_)
  refine w_iconst X (nI 0) dX3_copyFrom_0 (by decide +kernel) ?_
  refine w_istore_n X dX3_copyFrom_1 (by decide) ?_
  refine w_all [1, 2, 0] (rfl) (by rw [← cpA_0]) rfl (w_loop (st := []) (pc := 2) X (V := Nat) (fun (i : Nat) => 24 - i) (fun (i : Nat) => (i ≤ 24)) (fun (i : Nat) => [(0, .ref (ad 0)), (1, .ref (ad2 0)), (2, .int (nI i))]) (fun (i : Nat) => [stC g ad (cpA σ σ2 i), stC g ad2 σ2]) (fun i hv2 ih2 => ?_) 0 (by omega))
  have hi := hv2
  try dsimp only at ih2 ⊢
  refine w_iload_n X 2 rfl dX3_copyFrom_2 ?_
  refine w_bipush X (nI 24) dX3_copyFrom_3 (by decide +kernel) ?_
  refine w_nc_ge X (by omega) (by omega) 50 dX3_copyFrom_5 (by decide) (fun c5 => ?_) (fun c5 => ?_)
  · have he_i : i = 24 := by omega
    refine w_ext 0 1 (G := stC g ad _) (f' := σ2 0) rfl rfl (fun j hj => cpU_in (by omega)) (show _ = stC g ad (rw2 (cpA σ σ2 i) 0 (σ2 0)) from rfl) ?_
    refine w_ext 0 6 (G := stC g ad _) (f' := σ2 5) rfl rfl (fun j hj => cpU_in (by omega)) (show _ = stC g ad (rw2 (rw2 (cpA σ σ2 i) 0 (σ2 0)) 5 (σ2 5)) from rfl) ?_
    refine w_ext 0 7 (G := stC g ad _) (f' := σ2 6) rfl rfl (fun j hj => cpU_in (by omega)) (show _ = stC g ad (rw2 (rw2 (rw2 (cpA σ σ2 i) 0 (σ2 0)) 5 (σ2 5)) 6 (σ2 6)) from rfl) ?_
    refine w_gs (gs2 := [stC g ad (cpR σ σ2), stC g ad2 σ2]) rfl ?_
    refine w_iconst X (nI 0) dX3_copyFrom_50 (by decide +kernel) ?_
    refine w_istore_n X dX3_copyFrom_51 (by decide) ?_
    refine w_all [1, 2, 0] (rfl) (by rw [← cpB_0]) rfl (w_loop (st := []) (pc := 52) X (V := Nat) (fun (i : Nat) => 6 - i) (fun (i : Nat) => (i ≤ 6)) (fun (i : Nat) => [(0, .ref (ad 0)), (1, .ref (ad2 0)), (2, .int (nI i))]) (fun (i : Nat) => [stC g ad (cpB σ σ2 i), stC g ad2 σ2]) (fun i hv52 ih52 => ?_) 0 (by omega))
    have hi := hv52
    try dsimp only at ih52 ⊢
    refine w_iload_n X 2 rfl dX3_copyFrom_52 ?_
    refine w_bipush X (nI 6) dX3_copyFrom_53 (by decide +kernel) ?_
    refine w_nc_ge X (by omega) (by omega) 76 dX3_copyFrom_55 (by decide) (fun c55 => ?_) (fun c55 => ?_)
    · have he_i : i = 6 := by omega
      refine w_ext 0 9 (G := stC g ad _) (f' := σ2 8) rfl rfl (fun j hj => cpU_in (by omega)) (show _ = stC g ad (rw2 (cpB σ σ2 i) 8 (σ2 8)) from rfl) ?_
      refine w_gs (gs2 := [stC g ad (rw2 (cpR σ σ2) 8 (σ2 8)), stC g ad2 σ2]) rfl ?_
      refine w_gs (gs2 := [stC g ad (rw2 (rw2 (rw2 (rw2 σ 0 (σ2 0)) 5 (σ2 5)) 6 (σ2 6)) 8 (σ2 8)), stC g ad2 σ2]) rfl ?_
      refine w_aload_n X 1 rfl dX3_copyFrom_76 ?_
      refine w_get X 1 0 rfl rfl rfl in_X3 1 (by decide) fk_X3_15 rfl dX3_copyFrom_77 ?_
      refine w_iconst X (nI 0) dX3_copyFrom_80 (by decide +kernel) ?_
      refine w_aload_n X 0 rfl dX3_copyFrom_81 ?_
      refine w_get X 0 0 rfl rfl rfl in_X3 1 (by decide) fk_X3_15 rfl dX3_copyFrom_82 ?_
      refine w_iconst X (nI 0) dX3_copyFrom_85 (by decide +kernel) ?_
      refine w_bipush X (nI 24) dX3_copyFrom_86 (by decide +kernel) ?_
      refine w_cpy X 1 2 0 2 0 mk_cpy rfl rfl rfl rfl rfl rfl (by decide) (fun _ _ => rfl) (Nat.le_of_ble_eq_true rfl) (by decide +kernel) (show _ = stC g ad (rw2 (rw2 (rw2 (rw2 (rw2 σ 0 (σ2 0)) 5 (σ2 5)) 6 (σ2 6)) 8 (σ2 8)) 1 (σ2 1)) from rfl) dX3_copyFrom_88 ?_
      refine w_aload_n X 1 rfl dX3_copyFrom_91 ?_
      refine w_get X 1 0 rfl rfl rfl in_X3 2 (by decide) fk_X3_19 rfl dX3_copyFrom_92 ?_
      refine w_iconst X (nI 0) dX3_copyFrom_95 (by decide +kernel) ?_
      refine w_aload_n X 0 rfl dX3_copyFrom_96 ?_
      refine w_get X 0 0 rfl rfl rfl in_X3 2 (by decide) fk_X3_19 rfl dX3_copyFrom_97 ?_
      refine w_iconst X (nI 0) dX3_copyFrom_100 (by decide +kernel) ?_
      refine w_bipush X (nI 24) dX3_copyFrom_101 (by decide +kernel) ?_
      refine w_cpy X 1 3 0 3 0 mk_cpy rfl rfl rfl rfl rfl rfl (by decide) (fun _ _ => rfl) (Nat.le_of_ble_eq_true rfl) (by decide +kernel) (show _ = stC g ad (rw2 (rw2 (rw2 (rw2 (rw2 (rw2 σ 0 (σ2 0)) 5 (σ2 5)) 6 (σ2 6)) 8 (σ2 8)) 1 (σ2 1)) 2 (σ2 2)) from rfl) dX3_copyFrom_103 ?_
      refine w_aload_n X 1 rfl dX3_copyFrom_106 ?_
      refine w_get X 1 0 rfl rfl rfl in_X3 3 (by decide) fk_X3_22 rfl dX3_copyFrom_107 ?_
      refine w_iconst X (nI 0) dX3_copyFrom_110 (by decide +kernel) ?_
      refine w_aload_n X 0 rfl dX3_copyFrom_111 ?_
      refine w_get X 0 0 rfl rfl rfl in_X3 3 (by decide) fk_X3_22 rfl dX3_copyFrom_112 ?_
      refine w_iconst X (nI 0) dX3_copyFrom_115 (by decide +kernel) ?_
      refine w_bipush X (nI 24) dX3_copyFrom_116 (by decide +kernel) ?_
      refine w_cpy X 1 4 0 4 0 mk_cpy rfl rfl rfl rfl rfl rfl (by decide) (fun _ _ => rfl) (Nat.le_of_ble_eq_true rfl) (by decide +kernel) (show _ = stC g ad (rw2 (rw2 (rw2 (rw2 (rw2 (rw2 (rw2 σ 0 (σ2 0)) 5 (σ2 5)) 6 (σ2 6)) 8 (σ2 8)) 1 (σ2 1)) 2 (σ2 2)) 3 (σ2 3)) from rfl) dX3_copyFrom_118 ?_
      refine w_aload_n X 1 rfl dX3_copyFrom_121 ?_
      refine w_get X 1 0 rfl rfl rfl in_X3 4 (by decide) fk_X3_25 rfl dX3_copyFrom_122 ?_
      refine w_iconst X (nI 0) dX3_copyFrom_125 (by decide +kernel) ?_
      refine w_aload_n X 0 rfl dX3_copyFrom_126 ?_
      refine w_get X 0 0 rfl rfl rfl in_X3 4 (by decide) fk_X3_25 rfl dX3_copyFrom_127 ?_
      refine w_iconst X (nI 0) dX3_copyFrom_130 (by decide +kernel) ?_
      refine w_bipush X (nI 48) dX3_copyFrom_131 (by decide +kernel) ?_
      refine w_cpy X 1 5 0 5 0 mk_cpy rfl rfl rfl rfl rfl rfl (by decide) (fun _ _ => rfl) (Nat.le_of_ble_eq_true rfl) (by decide +kernel) (show _ = stC g ad (rw2 (rw2 (rw2 (rw2 (rw2 (rw2 (rw2 (rw2 σ 0 (σ2 0)) 5 (σ2 5)) 6 (σ2 6)) 8 (σ2 8)) 1 (σ2 1)) 2 (σ2 2)) 3 (σ2 3)) 4 (σ2 4)) from rfl) dX3_copyFrom_133 ?_
      refine w_aload_n X 1 rfl dX3_copyFrom_136 ?_
      refine w_get X 1 0 rfl rfl rfl in_X3 7 (by decide) fk_X3_34 rfl dX3_copyFrom_137 ?_
      refine w_iconst X (nI 0) dX3_copyFrom_140 (by decide +kernel) ?_
      refine w_aload_n X 0 rfl dX3_copyFrom_141 ?_
      refine w_get X 0 0 rfl rfl rfl in_X3 7 (by decide) fk_X3_34 rfl dX3_copyFrom_142 ?_
      refine w_iconst X (nI 0) dX3_copyFrom_145 (by decide +kernel) ?_
      refine w_bipush X (nI 24) dX3_copyFrom_146 (by decide +kernel) ?_
      refine w_cpy X 1 8 0 8 0 mk_cpy rfl rfl rfl rfl rfl rfl (by decide) (fun _ _ => rfl) (Nat.le_of_ble_eq_true rfl) (by decide +kernel) (show _ = stC g ad (rw2 (rw2 (rw2 (rw2 (rw2 (rw2 (rw2 (rw2 (rw2 σ 0 (σ2 0)) 5 (σ2 5)) 6 (σ2 6)) 8 (σ2 8)) 1 (σ2 1)) 2 (σ2 2)) 3 (σ2 3)) 4 (σ2 4)) 7 (σ2 7)) from rfl) dX3_copyFrom_148 ?_
      refine w_aload_n X 1 rfl dX3_copyFrom_151 ?_
      refine w_get X 1 0 rfl rfl rfl in_X3 9 (by decide) fk_X3_40 rfl dX3_copyFrom_152 ?_
      refine w_iconst X (nI 0) dX3_copyFrom_155 (by decide +kernel) ?_
      refine w_aload_n X 0 rfl dX3_copyFrom_156 ?_
      refine w_get X 0 0 rfl rfl rfl in_X3 9 (by decide) fk_X3_40 rfl dX3_copyFrom_157 ?_
      refine w_iconst X (nI 0) dX3_copyFrom_160 (by decide +kernel) ?_
      refine w_bipush X (nI 6) dX3_copyFrom_161 (by decide +kernel) ?_
      refine w_cpy X 1 10 0 10 0 mk_cpy rfl rfl rfl rfl rfl rfl (by decide) (fun _ _ => rfl) (Nat.le_of_ble_eq_true rfl) (by decide +kernel) (show _ = stC g ad (rw2 (rw2 (rw2 (rw2 (rw2 (rw2 (rw2 (rw2 (rw2 (rw2 σ 0 (σ2 0)) 5 (σ2 5)) 6 (σ2 6)) 8 (σ2 8)) 1 (σ2 1)) 2 (σ2 2)) 3 (σ2 3)) 4 (σ2 4)) 7 (σ2 7)) 9 (σ2 9)) from rfl) dX3_copyFrom_163 ?_
      refine w_aload_n X 1 rfl dX3_copyFrom_166 ?_
      refine w_get X 1 0 rfl rfl rfl in_X3 10 (by decide) fk_X3_43 rfl dX3_copyFrom_167 ?_
      refine w_iconst X (nI 0) dX3_copyFrom_170 (by decide +kernel) ?_
      refine w_aload_n X 0 rfl dX3_copyFrom_171 ?_
      refine w_get X 0 0 rfl rfl rfl in_X3 10 (by decide) fk_X3_43 rfl dX3_copyFrom_172 ?_
      refine w_iconst X (nI 0) dX3_copyFrom_175 (by decide +kernel) ?_
      refine w_bipush X (nI 6) dX3_copyFrom_176 (by decide +kernel) ?_
      refine w_cpy X 1 11 0 11 0 mk_cpy rfl rfl rfl rfl rfl rfl (by decide) (fun _ _ => rfl) (Nat.le_of_ble_eq_true rfl) (by decide +kernel) (show _ = stC g ad (rw2 (rw2 (rw2 (rw2 (rw2 (rw2 (rw2 (rw2 (rw2 (rw2 (rw2 σ 0 (σ2 0)) 5 (σ2 5)) 6 (σ2 6)) 8 (σ2 8)) 1 (σ2 1)) 2 (σ2 2)) 3 (σ2 3)) 4 (σ2 4)) 7 (σ2 7)) 9 (σ2 9)) 10 (σ2 10)) from rfl) dX3_copyFrom_178 ?_
      refine w_aload_n X 1 rfl dX3_copyFrom_181 ?_
      refine w_get X 1 0 rfl rfl rfl in_X3 11 (by decide) fk_X3_46 rfl dX3_copyFrom_182 ?_
      refine w_iconst X (nI 0) dX3_copyFrom_185 (by decide +kernel) ?_
      refine w_aload_n X 0 rfl dX3_copyFrom_186 ?_
      refine w_get X 0 0 rfl rfl rfl in_X3 11 (by decide) fk_X3_46 rfl dX3_copyFrom_187 ?_
      refine w_iconst X (nI 0) dX3_copyFrom_190 (by decide +kernel) ?_
      refine w_iconst X (nI 2) dX3_copyFrom_191 (by decide +kernel) ?_
      refine w_cpy X 1 12 0 12 0 mk_cpy rfl rfl rfl rfl rfl rfl (by decide) (fun _ _ => rfl) (Nat.le_of_ble_eq_true rfl) (by decide +kernel) (show _ = stC g ad (rw2 (rw2 (rw2 (rw2 (rw2 (rw2 (rw2 (rw2 (rw2 (rw2 (rw2 (rw2 σ 0 (σ2 0)) 5 (σ2 5)) 6 (σ2 6)) 8 (σ2 8)) 1 (σ2 1)) 2 (σ2 2)) 3 (σ2 3)) 4 (σ2 4)) 7 (σ2 7)) 9 (σ2 9)) 10 (σ2 10)) 11 (σ2 11)) from rfl) dX3_copyFrom_192 ?_
      refine w_aload_n X 0 rfl dX3_copyFrom_195 ?_
      refine w_aload_n X 1 rfl dX3_copyFrom_196 ?_
      refine w_get X 1 0 rfl rfl rfl in_X3 12 (by decide) fk_X3_55 rfl dX3_copyFrom_197 ?_
      refine w_put X 0 0 rfl rfl rfl in_X3 tyX3 tyX3_ok nmX3 12 (by decide) fk_X3_55 rfl rfl rfl rfl (Nat.le_of_ble_eq_true rfl) (show _ = stC g ad (rw2 (rw2 (rw2 (rw2 (rw2 (rw2 (rw2 (rw2 (rw2 (rw2 (rw2 (rw2 (rw2 σ 0 (σ2 0)) 5 (σ2 5)) 6 (σ2 6)) 8 (σ2 8)) 1 (σ2 1)) 2 (σ2 2)) 3 (σ2 3)) 4 (σ2 4)) 7 (σ2 7)) 9 (σ2 9)) 10 (σ2 10)) 11 (σ2 11)) 12 (upd (σ 12) 0 ((σ2 12 0)))) from rfl) dX3_copyFrom_200 ?_
      refine w_aload_n X 0 rfl dX3_copyFrom_203 ?_
      refine w_aload_n X 1 rfl dX3_copyFrom_204 ?_
      refine w_get X 1 0 rfl rfl rfl in_X3 13 (by decide) fk_X3_59 rfl dX3_copyFrom_205 ?_
      refine w_put X 0 0 rfl rfl rfl in_X3 tyX3 tyX3_ok nmX3 13 (by decide) fk_X3_59 rfl rfl rfl rfl (Nat.le_of_ble_eq_true rfl) (show _ = stC g ad (rw2 (rw2 (rw2 (rw2 (rw2 (rw2 (rw2 (rw2 (rw2 (rw2 (rw2 (rw2 (rw2 σ 0 (σ2 0)) 5 (σ2 5)) 6 (σ2 6)) 8 (σ2 8)) 1 (σ2 1)) 2 (σ2 2)) 3 (σ2 3)) 4 (σ2 4)) 7 (σ2 7)) 9 (σ2 9)) 10 (σ2 10)) 11 (σ2 11)) 12 (upd (upd (σ 12) 0 ((σ2 12 0))) 1 ((σ2 12 1)))) from rfl) dX3_copyFrom_208 ?_
      refine w_aload_n X 0 rfl dX3_copyFrom_211 ?_
      refine w_aload_n X 1 rfl dX3_copyFrom_212 ?_
      refine w_get X 1 0 rfl rfl rfl in_X3 14 (by decide) fk_X3_62 rfl dX3_copyFrom_213 ?_
      refine w_put X 0 0 rfl rfl rfl in_X3 tyX3 tyX3_ok nmX3 14 (by decide) fk_X3_62 rfl rfl rfl rfl (Nat.le_of_ble_eq_true rfl) (show _ = stC g ad (rw2 (rw2 (rw2 (rw2 (rw2 (rw2 (rw2 (rw2 (rw2 (rw2 (rw2 (rw2 (rw2 σ 0 (σ2 0)) 5 (σ2 5)) 6 (σ2 6)) 8 (σ2 8)) 1 (σ2 1)) 2 (σ2 2)) 3 (σ2 3)) 4 (σ2 4)) 7 (σ2 7)) 9 (σ2 9)) 10 (σ2 10)) 11 (σ2 11)) 12 (upd (upd (upd (σ 12) 0 ((σ2 12 0))) 1 ((σ2 12 1))) 2 ((σ2 12 2)))) from rfl) dX3_copyFrom_216 ?_
      refine w_aload_n X 0 rfl dX3_copyFrom_219 ?_
      refine w_aload_n X 1 rfl dX3_copyFrom_220 ?_
      refine w_get X 1 0 rfl rfl rfl in_X3 15 (by decide) fk_X3_65 rfl dX3_copyFrom_221 ?_
      refine w_put X 0 0 rfl rfl rfl in_X3 tyX3 tyX3_ok nmX3 15 (by decide) fk_X3_65 rfl rfl rfl rfl (Nat.le_of_ble_eq_true rfl) (show _ = stC g ad (rw2 (rw2 (rw2 (rw2 (rw2 (rw2 (rw2 (rw2 (rw2 (rw2 (rw2 (rw2 (rw2 σ 0 (σ2 0)) 5 (σ2 5)) 6 (σ2 6)) 8 (σ2 8)) 1 (σ2 1)) 2 (σ2 2)) 3 (σ2 3)) 4 (σ2 4)) 7 (σ2 7)) 9 (σ2 9)) 10 (σ2 10)) 11 (σ2 11)) 12 (upd (upd (upd (upd (σ 12) 0 ((σ2 12 0))) 1 ((σ2 12 1))) 2 ((σ2 12 2))) 3 ((σ2 12 3)))) from rfl) dX3_copyFrom_224 ?_
      exact w_vret_mu X (rfl) (Nat.le_of_ble_eq_true rfl) (Nat.le_of_ble_eq_true rfl) dX3_copyFrom_227
    · refine w_aload_n X 0 rfl dX3_copyFrom_58 ?_
      refine w_get X 0 0 rfl rfl rfl in_X3 8 (by decide) fk_X3_37 rfl dX3_copyFrom_59 ?_
      refine w_iload_n X 2 rfl dX3_copyFrom_62 ?_
      refine w_aload_n X 1 rfl dX3_copyFrom_63 ?_
      refine w_get X 1 0 rfl rfl rfl in_X3 8 (by decide) fk_X3_37 rfl dX3_copyFrom_64 ?_
      refine w_iload_n X 2 rfl dX3_copyFrom_67 ?_
      refine w_zald_n X 1 9 1 rfl rfl rfl (by omega) (by decide) dX3_copyFrom_68 ?_
      refine w_zast_n X 0 9 1 rfl rfl rfl (by omega) (by decide) (show _ = stC g ad (rw2 (cpB σ σ2 i) 8 (upd ((cpB σ σ2 i) 8) i ((σ2 8 i)))) from by rw [nar_raw (fit_01 (b8 i (by omega)))]; rfl) dX3_copyFrom_69 ?_
      refine w_iinc X (nI (i + 1)) 2 rfl (nI_1 _) dX3_copyFrom_70 (by decide) ?_
      refine w_goto X 52 dX3_copyFrom_73 (by decide) ?_
      exact w_all [1, 2, 0] (rfl) (by rw [← cpB_s]; rfl) rfl (ih52 (i + 1) (by omega) (by omega))
  · refine w_aload_n X 0 rfl dX3_copyFrom_8 ?_
    refine w_get X 0 0 rfl rfl rfl in_X3 0 (by decide) fk_X3_9 rfl dX3_copyFrom_9 ?_
    refine w_iload_n X 2 rfl dX3_copyFrom_12 ?_
    refine w_aload_n X 1 rfl dX3_copyFrom_13 ?_
    refine w_get X 1 0 rfl rfl rfl in_X3 0 (by decide) fk_X3_9 rfl dX3_copyFrom_14 ?_
    refine w_iload_n X 2 rfl dX3_copyFrom_17 ?_
    refine w_zald_n X 1 1 1 rfl rfl rfl (by omega) (by decide) dX3_copyFrom_18 ?_
    refine w_zast_n X 0 1 1 rfl rfl rfl (by omega) (by decide) (show _ = stC g ad (rw2 (cpA σ σ2 i) 0 (upd ((cpA σ σ2 i) 0) i ((σ2 0 i)))) from by rw [nar_raw (fit_01 (b0 i (by omega)))]; rfl) dX3_copyFrom_19 ?_
    refine w_aload_n X 0 rfl dX3_copyFrom_20 ?_
    refine w_get X 0 0 rfl rfl rfl in_X3 5 (by decide) fk_X3_28 rfl dX3_copyFrom_21 ?_
    refine w_iload_n X 2 rfl dX3_copyFrom_24 ?_
    refine w_aload_n X 1 rfl dX3_copyFrom_25 ?_
    refine w_get X 1 0 rfl rfl rfl in_X3 5 (by decide) fk_X3_28 rfl dX3_copyFrom_26 ?_
    refine w_iload_n X 2 rfl dX3_copyFrom_29 ?_
    refine w_zald_n X 1 6 1 rfl rfl rfl (by omega) (by decide) dX3_copyFrom_30 ?_
    refine w_zast_n X 0 6 1 rfl rfl rfl (by omega) (by decide) (show _ = stC g ad (rw2 (rw2 (cpA σ σ2 i) 0 (upd ((cpA σ σ2 i) 0) i ((σ2 0 i)))) 5 (upd ((cpA σ σ2 i) 5) i ((σ2 5 i)))) from by rw [nar_raw (fit_01 (b5 i (by omega)))]; rfl) dX3_copyFrom_31 ?_
    refine w_aload_n X 0 rfl dX3_copyFrom_32 ?_
    refine w_get X 0 0 rfl rfl rfl in_X3 6 (by decide) fk_X3_31 rfl dX3_copyFrom_33 ?_
    refine w_iload_n X 2 rfl dX3_copyFrom_36 ?_
    refine w_aload_n X 1 rfl dX3_copyFrom_37 ?_
    refine w_get X 1 0 rfl rfl rfl in_X3 6 (by decide) fk_X3_31 rfl dX3_copyFrom_38 ?_
    refine w_iload_n X 2 rfl dX3_copyFrom_41 ?_
    refine w_zald_n X 1 7 1 rfl rfl rfl (by omega) (by decide) dX3_copyFrom_42 ?_
    refine w_zast_n X 0 7 1 rfl rfl rfl (by omega) (by decide) (show _ = stC g ad (rw2 (rw2 (rw2 (cpA σ σ2 i) 0 (upd ((cpA σ σ2 i) 0) i ((σ2 0 i)))) 5 (upd ((cpA σ σ2 i) 5) i ((σ2 5 i)))) 6 (upd ((cpA σ σ2 i) 6) i ((σ2 6 i)))) from by rw [nar_raw (fit_01 (b6 i (by omega)))]; rfl) dX3_copyFrom_43 ?_
    refine w_iinc X (nI (i + 1)) 2 rfl (nI_1 _) dX3_copyFrom_44 (by decide) ?_
    refine w_goto X 2 dX3_copyFrom_47 (by decide) ?_
    exact w_all [1, 2, 0] (rfl) (by rw [← cpA_s]; rfl) rfl (ih2 (i + 1) (by omega) (by omega))
