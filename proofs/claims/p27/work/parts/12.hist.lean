/-! History -/
def nxN (k : Nat) : Nat := if k = 5 then 0 else k + 1
def svN (v : Nat) : Nat := if v < 6 then v + 1 else 6
def ltN (k : Nat) : Nat := if k = 0 then 5 else k - 1
def hiS (η : Nat → Nat → Int32) (k v : Nat) : Nat → Nat → Int32 := rw2 (rw2 η 1 (fun _ => nI k)) 2 (fun _ => nI v)
set_option maxRecDepth 100000 in
set_option maxHeartbeats 4000000 in
theorem m_X0_save_0 (l : Launch) (g : GG) (ad : Nat → Nat) (η : Nat → Nat → Int32) (had : Nat → Nat → Nat) (hσ : Nat → Nat → Nat → Int32) (ad2 : Nat → Nat) (σ : Nat → Nat → Int32) (v : Nat) (hk1 : η 1 0 = nI 0) (hv1 : η 2 0 = nI v) (hv : v ≤ 6) (b0 : fit01 (σ 0) 24) (b5 : fit01 (σ 5) 24) (b6 : fit01 (σ 6) 24) (b8 : fit01 (σ 8) 6) : MMU l g yX0_save cX0_save 2 none 2 0 0 [.ref (ad 0), .ref (ad2 0)] [hiC g ad (fun i => had i 0) η, stC g (had 0) (hσ 0), stC g (had 1) (hσ 1), stC g (had 2) (hσ 2), stC g (had 3) (hσ 3), stC g (had 4) (hσ 4), stC g (had 5) (hσ 5), stC g ad2 σ] (none) [hiC g ad (fun i => had i 0) (hiS η 1 (svN v)), stC g (had 0) σ, stC g (had 1) (hσ 1), stC g (had 2) (hσ 2), stC g (had 3) (hσ 3), stC g (had 4) (hσ 4), stC g (had 5) (hσ 5), stC g ad2 σ] := by
  refine mk_mu (by decide +kernel) (Nat.le_of_ble_eq_true rfl) (fun p e s m below meth c A hA X => ?_)
  refine w_aload_n X 0 rfl dX0_save_0 ?_
  refine w_get X 0 0 rfl rfl rfl in_X0 1 (by decide) fk_X0_16 rfl dX0_save_1 ?_
  refine w_st (st2 := [.int (nI 0)]) (by rw [← hk1] <;> rfl) ?_
  refine w_if_lt X 28 dX0_save_4 (by decide) (fun c4 => by exfalso; exact absurd c4 (nI_pos (by decide))) (fun c4 => ?_)
  refine w_aload_n X 0 rfl dX0_save_7 ?_
  refine w_get X 0 0 rfl rfl rfl in_X0 1 (by decide) fk_X0_16 rfl dX0_save_8 ?_
  refine w_st (st2 := [.int (nI 0)]) (by rw [← hk1] <;> rfl) ?_
  refine w_bipush X (nI 6) dX0_save_11 (by decide +kernel) ?_
  refine w_nc_ge X (by omega) (by omega) 28 dX0_save_13 (by decide) (fun c13 => by exfalso; omega) (fun c13 => ?_)
  refine w_aload_n X 0 rfl dX0_save_16 ?_
  refine w_get X 0 0 rfl rfl rfl in_X0 0 (by decide) fk_X0_11 rfl dX0_save_17 ?_
  refine w_aload_n X 0 rfl dX0_save_20 ?_
  refine w_get X 0 0 rfl rfl rfl in_X0 1 (by decide) fk_X0_16 rfl dX0_save_21 ?_
  refine w_st (st2 := [.int (nI 0), .ref (ad 1)]) (by rw [← hk1] <;> rfl) ?_
  refine w_aald (f := fun i => some ((fun i => had i 0) i)) X 0 1 2 rfl rfl rfl (by omega) (by decide) rfl dX0_save_24 ?_
  refine w_ifnonnull X 29 dX0_save_25 (by decide) ?_
  refine w_aload_n X 0 rfl dX0_save_29 ?_
  refine w_get X 0 0 rfl rfl rfl in_X0 0 (by decide) fk_X0_11 rfl dX0_save_30 ?_
  refine w_aload_n X 0 rfl dX0_save_33 ?_
  refine w_get X 0 0 rfl rfl rfl in_X0 1 (by decide) fk_X0_16 rfl dX0_save_34 ?_
  refine w_st (st2 := [.int (nI 0), .ref (ad 1)]) (by rw [← hk1] <;> rfl) ?_
  refine w_aald (f := fun i => some ((fun i => had i 0) i)) X 0 1 2 rfl rfl rfl (by omega) (by decide) rfl dX0_save_37 ?_
  refine w_aload_n X 1 rfl dX0_save_38 ?_
  refine w_muV X hA (gr := [hiC g ad (fun i => had i 0) η, stC g (had 1) (hσ 1), stC g (had 2) (hσ 2), stC g (had 3) (hσ 3), stC g (had 4) (hσ 4), stC g (had 5) (hσ 5)]) (gs1 := [hiC g ad (fun i => had i 0) η, stC g (had 0) σ, stC g (had 1) (hσ 1), stC g (had 2) (hσ 2), stC g (had 3) (hσ 3), stC g (had 4) (hσ 4), stC g (had 5) (hσ 5), stC g ad2 σ]) [1, 7] [0, 2, 3, 4, 5, 6] 1 0 (m_X3_copyFrom l g (had 0) (hσ 0) ad2 σ (b0) (b5) (b6) (b8)) cv_X3_copyFrom mk_X0_20 rfl rfl rfl (ng := 8) rfl (by decide) rfl rfl rfl rfl rfl rfl ⟨Nat.le_of_ble_eq_true rfl, Nat.le_of_ble_eq_true rfl⟩ (Nat.le_of_ble_eq_true rfl) ⟨Nat.le_of_ble_eq_true rfl, Nat.le_of_ble_eq_true rfl⟩ dX0_save_39 rfl ?_
  refine w_aload_n X 0 rfl dX0_save_42 ?_
  refine w_aload_n X 0 rfl dX0_save_43 ?_
  refine w_get X 0 0 rfl rfl rfl in_X0 1 (by decide) fk_X0_16 rfl dX0_save_44 ?_
  refine w_st (st2 := [.int (nI 0), .ref (ad 0)]) (by rw [← hk1] <;> rfl) ?_
  refine w_iconst X (nI 5) dX0_save_47 (by decide +kernel) ?_
  refine w_nc_ne X (by omega) (by omega) 55 dX0_save_48 (by decide) (fun c48 => ?_) (fun c48 => by exfalso; omega)
  refine w_aload_n X 0 rfl dX0_save_55 ?_
  refine w_get X 0 0 rfl rfl rfl in_X0 1 (by decide) fk_X0_16 rfl dX0_save_56 ?_
  refine w_st (st2 := [.int (nI 0), .ref (ad 0)]) (by rw [← hk1] <;> rfl) ?_
  refine w_iconst X (nI 1) dX0_save_59 (by decide +kernel) ?_
  refine w_iadd_n X dX0_save_60 ?_
  refine w_put X 0 0 rfl rfl rfl in_X0 tyX0 tyX0_ok nmX0 1 (by decide) fk_X0_16 rfl rfl rfl rfl (Nat.le_of_ble_eq_true rfl) (show _ = hiC g ad (fun i => had i 0) (rw2 η 1 (fun _ => nI (1))) from rfl) dX0_save_61 ?_
  refine w_aload_n X 0 rfl dX0_save_64 ?_
  refine w_aload_n X 0 rfl dX0_save_65 ?_
  refine w_get X 0 0 rfl rfl rfl in_X0 2 (by decide) fk_X0_24 rfl dX0_save_66 ?_
  refine w_st (st2 := [.int (η 2 0), .ref (ad 0)]) rfl ?_
  refine w_st (st2 := [.int (nI v), .ref (ad 0)]) (by rw [← hv1] <;> rfl) ?_
  refine w_bipush X (nI 6) dX0_save_69 (by decide +kernel) ?_
  refine w_nc_ge X (by omega) (by omega) 83 dX0_save_71 (by decide) (fun c71 => ?_) (fun c71 => ?_)
  · refine w_bipush X (nI 6) dX0_save_83 (by decide +kernel) ?_
    refine w_put X 0 0 rfl rfl rfl in_X0 tyX0 tyX0_ok nmX0 2 (by decide) fk_X0_24 rfl rfl rfl rfl (Nat.le_of_ble_eq_true rfl) (show _ = hiC g ad (fun i => had i 0) (rw2 (rw2 η 1 (fun _ => nI (1))) 2 (fun _ => nI (6))) from rfl) dX0_save_85 ?_
    exact w_vret_mu X (by rw [hiS, svN, if_neg (by omega)]; rfl) (Nat.le_of_ble_eq_true rfl) (Nat.le_of_ble_eq_true rfl) dX0_save_88
  · refine w_aload_n X 0 rfl dX0_save_74 ?_
    refine w_get X 0 0 rfl rfl rfl in_X0 2 (by decide) fk_X0_24 rfl dX0_save_75 ?_
    refine w_st (st2 := [.int (η 2 0), .ref (ad 0)]) rfl ?_
    refine w_st (st2 := [.int (nI v), .ref (ad 0)]) (by rw [← hv1] <;> rfl) ?_
    refine w_iconst X (nI 1) dX0_save_78 (by decide +kernel) ?_
    refine w_iadd_n X dX0_save_79 ?_
    refine w_goto X 85 dX0_save_80 (by decide) ?_
    refine w_put X 0 0 rfl rfl rfl in_X0 tyX0 tyX0_ok nmX0 2 (by decide) fk_X0_24 rfl rfl rfl rfl (Nat.le_of_ble_eq_true rfl) (show _ = hiC g ad (fun i => had i 0) (rw2 (rw2 η 1 (fun _ => nI (1))) 2 (fun _ => nI (v + 1))) from rfl) dX0_save_85 ?_
    exact w_vret_mu X (by rw [hiS, svN, if_pos c71]; rfl) (Nat.le_of_ble_eq_true rfl) (Nat.le_of_ble_eq_true rfl) dX0_save_88
set_option maxRecDepth 100000 in
set_option maxHeartbeats 4000000 in
theorem m_X0_restore_0 (l : Launch) (g : GG) (ad : Nat → Nat) (η : Nat → Nat → Int32) (had : Nat → Nat → Nat) (hσ : Nat → Nat → Nat → Int32) (ad2 : Nat → Nat) (σ : Nat → Nat → Int32) (v : Nat) (hk1 : η 1 0 = nI 0) (hv1 : η 2 0 = nI v) (hv : v ≤ 6) (hv0 : 1 ≤ v) (b0 : fit01 (hσ 5 0) 24) (b5 : fit01 (hσ 5 5) 24) (b6 : fit01 (hσ 5 6) 24) (b8 : fit01 (hσ 5 8) 6) : MMU l g yX0_restore cX0_restore 3 none 2 0 0 [.ref (ad 0), .ref (ad2 0)] [hiC g ad (fun i => had i 0) η, stC g (had 0) (hσ 0), stC g (had 1) (hσ 1), stC g (had 2) (hσ 2), stC g (had 3) (hσ 3), stC g (had 4) (hσ 4), stC g (had 5) (hσ 5), stC g ad2 σ] (none) [hiC g ad (fun i => had i 0) (hiS η 5 (v - 1)), stC g (had 0) (hσ 0), stC g (had 1) (hσ 1), stC g (had 2) (hσ 2), stC g (had 3) (hσ 3), stC g (had 4) (hσ 4), stC g (had 5) (hσ 5), stC g ad2 (hσ 5)] := by
  refine mk_mu (by decide +kernel) (Nat.le_of_ble_eq_true rfl) (fun p e s m below meth c A hA X => ?_)
  refine w_aload_n X 0 rfl dX0_restore_0 ?_
  refine w_get X 0 0 rfl rfl rfl in_X0 1 (by decide) fk_X0_16 rfl dX0_restore_1 ?_
  refine w_st (st2 := [.int (nI 0)]) (by rw [← hk1] <;> rfl) ?_
  refine w_nf_ne X (by omega) 11 dX0_restore_4 (by decide) (fun c4 => by exfalso; omega) (fun c4 => ?_)
  refine w_iconst X (nI 5) dX0_restore_7 (by decide +kernel) ?_
  refine w_goto X 17 dX0_restore_8 (by decide) ?_
  refine w_istore_n X dX0_restore_17 (by decide) ?_
  refine w_aload_n X 1 rfl dX0_restore_18 ?_
  refine w_get X 0 0 rfl rfl rfl in_X0 2 (by decide) fk_X0_24 rfl dX0_restore_19 ?_
  refine w_st (st2 := [.int (nI v)]) (by rw [← hv1] <;> rfl) ?_
  refine w_if_le X 44 dX0_restore_22 (by decide) (fun c22 => by exfalso; exact absurd c22 (nI_nle (by omega) (by omega))) (fun c22 => ?_)
  refine w_iload_n X 0 rfl dX0_restore_25 ?_
  refine w_if_lt X 44 dX0_restore_26 (by decide) (fun c26 => by exfalso; exact absurd c26 (by decide)) (fun c26 => ?_)
  refine w_iload_n X 0 rfl dX0_restore_29 ?_
  refine w_bipush X (nI 6) dX0_restore_30 (by decide +kernel) ?_
  refine w_nc_ge X (by omega) (by omega) 44 dX0_restore_32 (by decide) (fun c32 => by exfalso; omega) (fun c32 => ?_)
  refine w_aload_n X 1 rfl dX0_restore_35 ?_
  refine w_get X 0 0 rfl rfl rfl in_X0 0 (by decide) fk_X0_11 rfl dX0_restore_36 ?_
  refine w_iload_n X 0 rfl dX0_restore_39 ?_
  refine w_aald (f := fun i => some ((fun i => had i 0) i)) X 0 1 2 rfl rfl rfl (by omega) (by decide) rfl dX0_restore_40 ?_
  refine w_ifnonnull X 45 dX0_restore_41 (by decide) ?_
  refine w_aload_n X 2 rfl dX0_restore_45 ?_
  refine w_aload_n X 1 rfl dX0_restore_46 ?_
  refine w_get X 0 0 rfl rfl rfl in_X0 0 (by decide) fk_X0_11 rfl dX0_restore_47 ?_
  refine w_iload_n X 0 rfl dX0_restore_50 ?_
  refine w_aald (f := fun i => some ((fun i => had i 0) i)) X 0 1 2 rfl rfl rfl (by omega) (by decide) rfl dX0_restore_51 ?_
  refine w_muV X hA (gr := [hiC g ad (fun i => had i 0) η, stC g (had 0) (hσ 0), stC g (had 1) (hσ 1), stC g (had 2) (hσ 2), stC g (had 3) (hσ 3), stC g (had 4) (hσ 4)]) (gs1 := [hiC g ad (fun i => had i 0) η, stC g (had 0) (hσ 0), stC g (had 1) (hσ 1), stC g (had 2) (hσ 2), stC g (had 3) (hσ 3), stC g (had 4) (hσ 4), stC g (had 5) (hσ 5), stC g ad2 (hσ 5)]) [7, 6] [0, 1, 2, 3, 4, 5] 7 0 (m_X3_copyFrom l g ad2 σ (had 5) (hσ 5) (b0) (b5) (b6) (b8)) cv_X3_copyFrom mk_X0_20 rfl rfl rfl (ng := 8) rfl (by decide) rfl rfl rfl rfl rfl rfl ⟨Nat.le_of_ble_eq_true rfl, Nat.le_of_ble_eq_true rfl⟩ (Nat.le_of_ble_eq_true rfl) ⟨Nat.le_of_ble_eq_true rfl, Nat.le_of_ble_eq_true rfl⟩ dX0_restore_52 rfl ?_
  generalize hn1 : (hσ 5) = σv1
  refine w_aload_n X 1 rfl dX0_restore_55 ?_
  refine w_iload_n X 0 rfl dX0_restore_56 ?_
  refine w_put X 0 0 rfl rfl rfl in_X0 tyX0 tyX0_ok nmX0 1 (by decide) fk_X0_16 rfl rfl rfl rfl (Nat.le_of_ble_eq_true rfl) (show _ = hiC g ad (fun i => had i 0) (rw2 η 1 (fun _ => nI (5))) from rfl) dX0_restore_57 ?_
  refine w_aload_n X 1 rfl dX0_restore_60 ?_
  refine w_dup X dX0_restore_61 rfl ?_
  refine w_get X 0 0 rfl rfl rfl in_X0 2 (by decide) fk_X0_24 rfl dX0_restore_62 ?_
  refine w_st (st2 := [.int (η 2 0), .ref (ad 0)]) rfl ?_
  refine w_st (st2 := [.int (nI v), .ref (ad 0)]) (by rw [← hv1] <;> rfl) ?_
  refine w_iconst X (nI 1) dX0_restore_65 (by decide +kernel) ?_
  refine w_isub_n X (by omega) dX0_restore_66 ?_
  refine w_put X 0 0 rfl rfl rfl in_X0 tyX0 tyX0_ok nmX0 2 (by decide) fk_X0_24 rfl rfl rfl rfl (Nat.le_of_ble_eq_true rfl) (show _ = hiC g ad (fun i => had i 0) (rw2 (rw2 η 1 (fun _ => nI (5))) 2 (fun _ => nI (v - 1))) from rfl) dX0_restore_67 ?_
  exact w_vret_mu X (rfl) (Nat.le_of_ble_eq_true rfl) (Nat.le_of_ble_eq_true rfl) dX0_restore_70
set_option maxRecDepth 100000 in
set_option maxHeartbeats 4000000 in
theorem m_X0_save_1 (l : Launch) (g : GG) (ad : Nat → Nat) (η : Nat → Nat → Int32) (had : Nat → Nat → Nat) (hσ : Nat → Nat → Nat → Int32) (ad2 : Nat → Nat) (σ : Nat → Nat → Int32) (v : Nat) (hk1 : η 1 0 = nI 1) (hv1 : η 2 0 = nI v) (hv : v ≤ 6) (b0 : fit01 (σ 0) 24) (b5 : fit01 (σ 5) 24) (b6 : fit01 (σ 6) 24) (b8 : fit01 (σ 8) 6) : MMU l g yX0_save cX0_save 2 none 2 0 0 [.ref (ad 0), .ref (ad2 0)] [hiC g ad (fun i => had i 0) η, stC g (had 0) (hσ 0), stC g (had 1) (hσ 1), stC g (had 2) (hσ 2), stC g (had 3) (hσ 3), stC g (had 4) (hσ 4), stC g (had 5) (hσ 5), stC g ad2 σ] (none) [hiC g ad (fun i => had i 0) (hiS η 2 (svN v)), stC g (had 0) (hσ 0), stC g (had 1) σ, stC g (had 2) (hσ 2), stC g (had 3) (hσ 3), stC g (had 4) (hσ 4), stC g (had 5) (hσ 5), stC g ad2 σ] := by
  refine mk_mu (by decide +kernel) (Nat.le_of_ble_eq_true rfl) (fun p e s m below meth c A hA X => ?_)
  refine w_aload_n X 0 rfl dX0_save_0 ?_
  refine w_get X 0 0 rfl rfl rfl in_X0 1 (by decide) fk_X0_16 rfl dX0_save_1 ?_
  refine w_st (st2 := [.int (nI 1)]) (by rw [← hk1] <;> rfl) ?_
  refine w_if_lt X 28 dX0_save_4 (by decide) (fun c4 => by exfalso; exact absurd c4 (nI_pos (by decide))) (fun c4 => ?_)
  refine w_aload_n X 0 rfl dX0_save_7 ?_
  refine w_get X 0 0 rfl rfl rfl in_X0 1 (by decide) fk_X0_16 rfl dX0_save_8 ?_
  refine w_st (st2 := [.int (nI 1)]) (by rw [← hk1] <;> rfl) ?_
  refine w_bipush X (nI 6) dX0_save_11 (by decide +kernel) ?_
  refine w_nc_ge X (by omega) (by omega) 28 dX0_save_13 (by decide) (fun c13 => by exfalso; omega) (fun c13 => ?_)
  refine w_aload_n X 0 rfl dX0_save_16 ?_
  refine w_get X 0 0 rfl rfl rfl in_X0 0 (by decide) fk_X0_11 rfl dX0_save_17 ?_
  refine w_aload_n X 0 rfl dX0_save_20 ?_
  refine w_get X 0 0 rfl rfl rfl in_X0 1 (by decide) fk_X0_16 rfl dX0_save_21 ?_
  refine w_st (st2 := [.int (nI 1), .ref (ad 1)]) (by rw [← hk1] <;> rfl) ?_
  refine w_aald (f := fun i => some ((fun i => had i 0) i)) X 0 1 2 rfl rfl rfl (by omega) (by decide) rfl dX0_save_24 ?_
  refine w_ifnonnull X 29 dX0_save_25 (by decide) ?_
  refine w_aload_n X 0 rfl dX0_save_29 ?_
  refine w_get X 0 0 rfl rfl rfl in_X0 0 (by decide) fk_X0_11 rfl dX0_save_30 ?_
  refine w_aload_n X 0 rfl dX0_save_33 ?_
  refine w_get X 0 0 rfl rfl rfl in_X0 1 (by decide) fk_X0_16 rfl dX0_save_34 ?_
  refine w_st (st2 := [.int (nI 1), .ref (ad 1)]) (by rw [← hk1] <;> rfl) ?_
  refine w_aald (f := fun i => some ((fun i => had i 0) i)) X 0 1 2 rfl rfl rfl (by omega) (by decide) rfl dX0_save_37 ?_
  refine w_aload_n X 1 rfl dX0_save_38 ?_
  refine w_muV X hA (gr := [hiC g ad (fun i => had i 0) η, stC g (had 0) (hσ 0), stC g (had 2) (hσ 2), stC g (had 3) (hσ 3), stC g (had 4) (hσ 4), stC g (had 5) (hσ 5)]) (gs1 := [hiC g ad (fun i => had i 0) η, stC g (had 0) (hσ 0), stC g (had 1) σ, stC g (had 2) (hσ 2), stC g (had 3) (hσ 3), stC g (had 4) (hσ 4), stC g (had 5) (hσ 5), stC g ad2 σ]) [2, 7] [0, 1, 3, 4, 5, 6] 2 0 (m_X3_copyFrom l g (had 1) (hσ 1) ad2 σ (b0) (b5) (b6) (b8)) cv_X3_copyFrom mk_X0_20 rfl rfl rfl (ng := 8) rfl (by decide) rfl rfl rfl rfl rfl rfl ⟨Nat.le_of_ble_eq_true rfl, Nat.le_of_ble_eq_true rfl⟩ (Nat.le_of_ble_eq_true rfl) ⟨Nat.le_of_ble_eq_true rfl, Nat.le_of_ble_eq_true rfl⟩ dX0_save_39 rfl ?_
  refine w_aload_n X 0 rfl dX0_save_42 ?_
  refine w_aload_n X 0 rfl dX0_save_43 ?_
  refine w_get X 0 0 rfl rfl rfl in_X0 1 (by decide) fk_X0_16 rfl dX0_save_44 ?_
  refine w_st (st2 := [.int (nI 1), .ref (ad 0)]) (by rw [← hk1] <;> rfl) ?_
  refine w_iconst X (nI 5) dX0_save_47 (by decide +kernel) ?_
  refine w_nc_ne X (by omega) (by omega) 55 dX0_save_48 (by decide) (fun c48 => ?_) (fun c48 => by exfalso; omega)
  refine w_aload_n X 0 rfl dX0_save_55 ?_
  refine w_get X 0 0 rfl rfl rfl in_X0 1 (by decide) fk_X0_16 rfl dX0_save_56 ?_
  refine w_st (st2 := [.int (nI 1), .ref (ad 0)]) (by rw [← hk1] <;> rfl) ?_
  refine w_iconst X (nI 1) dX0_save_59 (by decide +kernel) ?_
  refine w_iadd_n X dX0_save_60 ?_
  refine w_put X 0 0 rfl rfl rfl in_X0 tyX0 tyX0_ok nmX0 1 (by decide) fk_X0_16 rfl rfl rfl rfl (Nat.le_of_ble_eq_true rfl) (show _ = hiC g ad (fun i => had i 0) (rw2 η 1 (fun _ => nI (2))) from rfl) dX0_save_61 ?_
  refine w_aload_n X 0 rfl dX0_save_64 ?_
  refine w_aload_n X 0 rfl dX0_save_65 ?_
  refine w_get X 0 0 rfl rfl rfl in_X0 2 (by decide) fk_X0_24 rfl dX0_save_66 ?_
  refine w_st (st2 := [.int (η 2 0), .ref (ad 0)]) rfl ?_
  refine w_st (st2 := [.int (nI v), .ref (ad 0)]) (by rw [← hv1] <;> rfl) ?_
  refine w_bipush X (nI 6) dX0_save_69 (by decide +kernel) ?_
  refine w_nc_ge X (by omega) (by omega) 83 dX0_save_71 (by decide) (fun c71 => ?_) (fun c71 => ?_)
  · refine w_bipush X (nI 6) dX0_save_83 (by decide +kernel) ?_
    refine w_put X 0 0 rfl rfl rfl in_X0 tyX0 tyX0_ok nmX0 2 (by decide) fk_X0_24 rfl rfl rfl rfl (Nat.le_of_ble_eq_true rfl) (show _ = hiC g ad (fun i => had i 0) (rw2 (rw2 η 1 (fun _ => nI (2))) 2 (fun _ => nI (6))) from rfl) dX0_save_85 ?_
    exact w_vret_mu X (by rw [hiS, svN, if_neg (by omega)]; rfl) (Nat.le_of_ble_eq_true rfl) (Nat.le_of_ble_eq_true rfl) dX0_save_88
  · refine w_aload_n X 0 rfl dX0_save_74 ?_
    refine w_get X 0 0 rfl rfl rfl in_X0 2 (by decide) fk_X0_24 rfl dX0_save_75 ?_
    refine w_st (st2 := [.int (η 2 0), .ref (ad 0)]) rfl ?_
    refine w_st (st2 := [.int (nI v), .ref (ad 0)]) (by rw [← hv1] <;> rfl) ?_
    refine w_iconst X (nI 1) dX0_save_78 (by decide +kernel) ?_
    refine w_iadd_n X dX0_save_79 ?_
    refine w_goto X 85 dX0_save_80 (by decide) ?_
    refine w_put X 0 0 rfl rfl rfl in_X0 tyX0 tyX0_ok nmX0 2 (by decide) fk_X0_24 rfl rfl rfl rfl (Nat.le_of_ble_eq_true rfl) (show _ = hiC g ad (fun i => had i 0) (rw2 (rw2 η 1 (fun _ => nI (2))) 2 (fun _ => nI (v + 1))) from rfl) dX0_save_85 ?_
    exact w_vret_mu X (by rw [hiS, svN, if_pos c71]; rfl) (Nat.le_of_ble_eq_true rfl) (Nat.le_of_ble_eq_true rfl) dX0_save_88
set_option maxRecDepth 100000 in
set_option maxHeartbeats 4000000 in
theorem m_X0_restore_1 (l : Launch) (g : GG) (ad : Nat → Nat) (η : Nat → Nat → Int32) (had : Nat → Nat → Nat) (hσ : Nat → Nat → Nat → Int32) (ad2 : Nat → Nat) (σ : Nat → Nat → Int32) (v : Nat) (hk1 : η 1 0 = nI 1) (hv1 : η 2 0 = nI v) (hv : v ≤ 6) (hv0 : 1 ≤ v) (b0 : fit01 (hσ 0 0) 24) (b5 : fit01 (hσ 0 5) 24) (b6 : fit01 (hσ 0 6) 24) (b8 : fit01 (hσ 0 8) 6) : MMU l g yX0_restore cX0_restore 3 none 2 0 0 [.ref (ad 0), .ref (ad2 0)] [hiC g ad (fun i => had i 0) η, stC g (had 0) (hσ 0), stC g (had 1) (hσ 1), stC g (had 2) (hσ 2), stC g (had 3) (hσ 3), stC g (had 4) (hσ 4), stC g (had 5) (hσ 5), stC g ad2 σ] (none) [hiC g ad (fun i => had i 0) (hiS η 0 (v - 1)), stC g (had 0) (hσ 0), stC g (had 1) (hσ 1), stC g (had 2) (hσ 2), stC g (had 3) (hσ 3), stC g (had 4) (hσ 4), stC g (had 5) (hσ 5), stC g ad2 (hσ 0)] := by
  refine mk_mu (by decide +kernel) (Nat.le_of_ble_eq_true rfl) (fun p e s m below meth c A hA X => ?_)
  refine w_aload_n X 0 rfl dX0_restore_0 ?_
  refine w_get X 0 0 rfl rfl rfl in_X0 1 (by decide) fk_X0_16 rfl dX0_restore_1 ?_
  refine w_st (st2 := [.int (nI 1)]) (by rw [← hk1] <;> rfl) ?_
  refine w_nf_ne X (by omega) 11 dX0_restore_4 (by decide) (fun c4 => ?_) (fun c4 => by exfalso; omega)
  refine w_aload_n X 0 rfl dX0_restore_11 ?_
  refine w_get X 0 0 rfl rfl rfl in_X0 1 (by decide) fk_X0_16 rfl dX0_restore_12 ?_
  refine w_st (st2 := [.int (nI 1)]) (by rw [← hk1] <;> rfl) ?_
  refine w_iconst X (nI 1) dX0_restore_15 (by decide +kernel) ?_
  refine w_isub_n X (by omega) dX0_restore_16 ?_
  refine w_istore_n X dX0_restore_17 (by decide) ?_
  refine w_aload_n X 1 rfl dX0_restore_18 ?_
  refine w_get X 0 0 rfl rfl rfl in_X0 2 (by decide) fk_X0_24 rfl dX0_restore_19 ?_
  refine w_st (st2 := [.int (nI v)]) (by rw [← hv1] <;> rfl) ?_
  refine w_if_le X 44 dX0_restore_22 (by decide) (fun c22 => by exfalso; exact absurd c22 (nI_nle (by omega) (by omega))) (fun c22 => ?_)
  refine w_iload_n X 0 rfl dX0_restore_25 ?_
  refine w_if_lt X 44 dX0_restore_26 (by decide) (fun c26 => by exfalso; exact absurd c26 (by decide)) (fun c26 => ?_)
  refine w_iload_n X 0 rfl dX0_restore_29 ?_
  refine w_bipush X (nI 6) dX0_restore_30 (by decide +kernel) ?_
  refine w_nc_ge X (by omega) (by omega) 44 dX0_restore_32 (by decide) (fun c32 => by exfalso; omega) (fun c32 => ?_)
  refine w_aload_n X 1 rfl dX0_restore_35 ?_
  refine w_get X 0 0 rfl rfl rfl in_X0 0 (by decide) fk_X0_11 rfl dX0_restore_36 ?_
  refine w_iload_n X 0 rfl dX0_restore_39 ?_
  refine w_aald (f := fun i => some ((fun i => had i 0) i)) X 0 1 2 rfl rfl rfl (by omega) (by decide) rfl dX0_restore_40 ?_
  refine w_ifnonnull X 45 dX0_restore_41 (by decide) ?_
  refine w_aload_n X 2 rfl dX0_restore_45 ?_
  refine w_aload_n X 1 rfl dX0_restore_46 ?_
  refine w_get X 0 0 rfl rfl rfl in_X0 0 (by decide) fk_X0_11 rfl dX0_restore_47 ?_
  refine w_iload_n X 0 rfl dX0_restore_50 ?_
  refine w_aald (f := fun i => some ((fun i => had i 0) i)) X 0 1 2 rfl rfl rfl (by omega) (by decide) rfl dX0_restore_51 ?_
  refine w_muV X hA (gr := [hiC g ad (fun i => had i 0) η, stC g (had 1) (hσ 1), stC g (had 2) (hσ 2), stC g (had 3) (hσ 3), stC g (had 4) (hσ 4), stC g (had 5) (hσ 5)]) (gs1 := [hiC g ad (fun i => had i 0) η, stC g (had 0) (hσ 0), stC g (had 1) (hσ 1), stC g (had 2) (hσ 2), stC g (had 3) (hσ 3), stC g (had 4) (hσ 4), stC g (had 5) (hσ 5), stC g ad2 (hσ 0)]) [7, 1] [0, 2, 3, 4, 5, 6] 7 0 (m_X3_copyFrom l g ad2 σ (had 0) (hσ 0) (b0) (b5) (b6) (b8)) cv_X3_copyFrom mk_X0_20 rfl rfl rfl (ng := 8) rfl (by decide) rfl rfl rfl rfl rfl rfl ⟨Nat.le_of_ble_eq_true rfl, Nat.le_of_ble_eq_true rfl⟩ (Nat.le_of_ble_eq_true rfl) ⟨Nat.le_of_ble_eq_true rfl, Nat.le_of_ble_eq_true rfl⟩ dX0_restore_52 rfl ?_
  generalize hn1 : (hσ 0) = σv1
  refine w_aload_n X 1 rfl dX0_restore_55 ?_
  refine w_iload_n X 0 rfl dX0_restore_56 ?_
  refine w_put X 0 0 rfl rfl rfl in_X0 tyX0 tyX0_ok nmX0 1 (by decide) fk_X0_16 rfl rfl rfl rfl (Nat.le_of_ble_eq_true rfl) (show _ = hiC g ad (fun i => had i 0) (rw2 η 1 (fun _ => nI (0))) from rfl) dX0_restore_57 ?_
  refine w_aload_n X 1 rfl dX0_restore_60 ?_
  refine w_dup X dX0_restore_61 rfl ?_
  refine w_get X 0 0 rfl rfl rfl in_X0 2 (by decide) fk_X0_24 rfl dX0_restore_62 ?_
  refine w_st (st2 := [.int (η 2 0), .ref (ad 0)]) rfl ?_
  refine w_st (st2 := [.int (nI v), .ref (ad 0)]) (by rw [← hv1] <;> rfl) ?_
  refine w_iconst X (nI 1) dX0_restore_65 (by decide +kernel) ?_
  refine w_isub_n X (by omega) dX0_restore_66 ?_
  refine w_put X 0 0 rfl rfl rfl in_X0 tyX0 tyX0_ok nmX0 2 (by decide) fk_X0_24 rfl rfl rfl rfl (Nat.le_of_ble_eq_true rfl) (show _ = hiC g ad (fun i => had i 0) (rw2 (rw2 η 1 (fun _ => nI (0))) 2 (fun _ => nI (v - 1))) from rfl) dX0_restore_67 ?_
  exact w_vret_mu X (rfl) (Nat.le_of_ble_eq_true rfl) (Nat.le_of_ble_eq_true rfl) dX0_restore_70
set_option maxRecDepth 100000 in
set_option maxHeartbeats 4000000 in
theorem m_X0_save_2 (l : Launch) (g : GG) (ad : Nat → Nat) (η : Nat → Nat → Int32) (had : Nat → Nat → Nat) (hσ : Nat → Nat → Nat → Int32) (ad2 : Nat → Nat) (σ : Nat → Nat → Int32) (v : Nat) (hk1 : η 1 0 = nI 2) (hv1 : η 2 0 = nI v) (hv : v ≤ 6) (b0 : fit01 (σ 0) 24) (b5 : fit01 (σ 5) 24) (b6 : fit01 (σ 6) 24) (b8 : fit01 (σ 8) 6) : MMU l g yX0_save cX0_save 2 none 2 0 0 [.ref (ad 0), .ref (ad2 0)] [hiC g ad (fun i => had i 0) η, stC g (had 0) (hσ 0), stC g (had 1) (hσ 1), stC g (had 2) (hσ 2), stC g (had 3) (hσ 3), stC g (had 4) (hσ 4), stC g (had 5) (hσ 5), stC g ad2 σ] (none) [hiC g ad (fun i => had i 0) (hiS η 3 (svN v)), stC g (had 0) (hσ 0), stC g (had 1) (hσ 1), stC g (had 2) σ, stC g (had 3) (hσ 3), stC g (had 4) (hσ 4), stC g (had 5) (hσ 5), stC g ad2 σ] := by
  refine mk_mu (by decide +kernel) (Nat.le_of_ble_eq_true rfl) (fun p e s m below meth c A hA X => ?_)
  refine w_aload_n X 0 rfl dX0_save_0 ?_
  refine w_get X 0 0 rfl rfl rfl in_X0 1 (by decide) fk_X0_16 rfl dX0_save_1 ?_
  refine w_st (st2 := [.int (nI 2)]) (by rw [← hk1] <;> rfl) ?_
  refine w_if_lt X 28 dX0_save_4 (by decide) (fun c4 => by exfalso; exact absurd c4 (nI_pos (by decide))) (fun c4 => ?_)
  refine w_aload_n X 0 rfl dX0_save_7 ?_
  refine w_get X 0 0 rfl rfl rfl in_X0 1 (by decide) fk_X0_16 rfl dX0_save_8 ?_
  refine w_st (st2 := [.int (nI 2)]) (by rw [← hk1] <;> rfl) ?_
  refine w_bipush X (nI 6) dX0_save_11 (by decide +kernel) ?_
  refine w_nc_ge X (by omega) (by omega) 28 dX0_save_13 (by decide) (fun c13 => by exfalso; omega) (fun c13 => ?_)
  refine w_aload_n X 0 rfl dX0_save_16 ?_
  refine w_get X 0 0 rfl rfl rfl in_X0 0 (by decide) fk_X0_11 rfl dX0_save_17 ?_
  refine w_aload_n X 0 rfl dX0_save_20 ?_
  refine w_get X 0 0 rfl rfl rfl in_X0 1 (by decide) fk_X0_16 rfl dX0_save_21 ?_
  refine w_st (st2 := [.int (nI 2), .ref (ad 1)]) (by rw [← hk1] <;> rfl) ?_
  refine w_aald (f := fun i => some ((fun i => had i 0) i)) X 0 1 2 rfl rfl rfl (by omega) (by decide) rfl dX0_save_24 ?_
  refine w_ifnonnull X 29 dX0_save_25 (by decide) ?_
  refine w_aload_n X 0 rfl dX0_save_29 ?_
  refine w_get X 0 0 rfl rfl rfl in_X0 0 (by decide) fk_X0_11 rfl dX0_save_30 ?_
  refine w_aload_n X 0 rfl dX0_save_33 ?_
  refine w_get X 0 0 rfl rfl rfl in_X0 1 (by decide) fk_X0_16 rfl dX0_save_34 ?_
  refine w_st (st2 := [.int (nI 2), .ref (ad 1)]) (by rw [← hk1] <;> rfl) ?_
  refine w_aald (f := fun i => some ((fun i => had i 0) i)) X 0 1 2 rfl rfl rfl (by omega) (by decide) rfl dX0_save_37 ?_
  refine w_aload_n X 1 rfl dX0_save_38 ?_
  refine w_muV X hA (gr := [hiC g ad (fun i => had i 0) η, stC g (had 0) (hσ 0), stC g (had 1) (hσ 1), stC g (had 3) (hσ 3), stC g (had 4) (hσ 4), stC g (had 5) (hσ 5)]) (gs1 := [hiC g ad (fun i => had i 0) η, stC g (had 0) (hσ 0), stC g (had 1) (hσ 1), stC g (had 2) σ, stC g (had 3) (hσ 3), stC g (had 4) (hσ 4), stC g (had 5) (hσ 5), stC g ad2 σ]) [3, 7] [0, 1, 2, 4, 5, 6] 3 0 (m_X3_copyFrom l g (had 2) (hσ 2) ad2 σ (b0) (b5) (b6) (b8)) cv_X3_copyFrom mk_X0_20 rfl rfl rfl (ng := 8) rfl (by decide) rfl rfl rfl rfl rfl rfl ⟨Nat.le_of_ble_eq_true rfl, Nat.le_of_ble_eq_true rfl⟩ (Nat.le_of_ble_eq_true rfl) ⟨Nat.le_of_ble_eq_true rfl, Nat.le_of_ble_eq_true rfl⟩ dX0_save_39 rfl ?_
  refine w_aload_n X 0 rfl dX0_save_42 ?_
  refine w_aload_n X 0 rfl dX0_save_43 ?_
  refine w_get X 0 0 rfl rfl rfl in_X0 1 (by decide) fk_X0_16 rfl dX0_save_44 ?_
  refine w_st (st2 := [.int (nI 2), .ref (ad 0)]) (by rw [← hk1] <;> rfl) ?_
  refine w_iconst X (nI 5) dX0_save_47 (by decide +kernel) ?_
  refine w_nc_ne X (by omega) (by omega) 55 dX0_save_48 (by decide) (fun c48 => ?_) (fun c48 => by exfalso; omega)
  refine w_aload_n X 0 rfl dX0_save_55 ?_
  refine w_get X 0 0 rfl rfl rfl in_X0 1 (by decide) fk_X0_16 rfl dX0_save_56 ?_
  refine w_st (st2 := [.int (nI 2), .ref (ad 0)]) (by rw [← hk1] <;> rfl) ?_
  refine w_iconst X (nI 1) dX0_save_59 (by decide +kernel) ?_
  refine w_iadd_n X dX0_save_60 ?_
  refine w_put X 0 0 rfl rfl rfl in_X0 tyX0 tyX0_ok nmX0 1 (by decide) fk_X0_16 rfl rfl rfl rfl (Nat.le_of_ble_eq_true rfl) (show _ = hiC g ad (fun i => had i 0) (rw2 η 1 (fun _ => nI (3))) from rfl) dX0_save_61 ?_
  refine w_aload_n X 0 rfl dX0_save_64 ?_
  refine w_aload_n X 0 rfl dX0_save_65 ?_
  refine w_get X 0 0 rfl rfl rfl in_X0 2 (by decide) fk_X0_24 rfl dX0_save_66 ?_
  refine w_st (st2 := [.int (η 2 0), .ref (ad 0)]) rfl ?_
  refine w_st (st2 := [.int (nI v), .ref (ad 0)]) (by rw [← hv1] <;> rfl) ?_
  refine w_bipush X (nI 6) dX0_save_69 (by decide +kernel) ?_
  refine w_nc_ge X (by omega) (by omega) 83 dX0_save_71 (by decide) (fun c71 => ?_) (fun c71 => ?_)
  · refine w_bipush X (nI 6) dX0_save_83 (by decide +kernel) ?_
    refine w_put X 0 0 rfl rfl rfl in_X0 tyX0 tyX0_ok nmX0 2 (by decide) fk_X0_24 rfl rfl rfl rfl (Nat.le_of_ble_eq_true rfl) (show _ = hiC g ad (fun i => had i 0) (rw2 (rw2 η 1 (fun _ => nI (3))) 2 (fun _ => nI (6))) from rfl) dX0_save_85 ?_
    exact w_vret_mu X (by rw [hiS, svN, if_neg (by omega)]; rfl) (Nat.le_of_ble_eq_true rfl) (Nat.le_of_ble_eq_true rfl) dX0_save_88
  · refine w_aload_n X 0 rfl dX0_save_74 ?_
    refine w_get X 0 0 rfl rfl rfl in_X0 2 (by decide) fk_X0_24 rfl dX0_save_75 ?_
    refine w_st (st2 := [.int (η 2 0), .ref (ad 0)]) rfl ?_
    refine w_st (st2 := [.int (nI v), .ref (ad 0)]) (by rw [← hv1] <;> rfl) ?_
    refine w_iconst X (nI 1) dX0_save_78 (by decide +kernel) ?_
    refine w_iadd_n X dX0_save_79 ?_
    refine w_goto X 85 dX0_save_80 (by decide) ?_
    refine w_put X 0 0 rfl rfl rfl in_X0 tyX0 tyX0_ok nmX0 2 (by decide) fk_X0_24 rfl rfl rfl rfl (Nat.le_of_ble_eq_true rfl) (show _ = hiC g ad (fun i => had i 0) (rw2 (rw2 η 1 (fun _ => nI (3))) 2 (fun _ => nI (v + 1))) from rfl) dX0_save_85 ?_
    exact w_vret_mu X (by rw [hiS, svN, if_pos c71]; rfl) (Nat.le_of_ble_eq_true rfl) (Nat.le_of_ble_eq_true rfl) dX0_save_88
set_option maxRecDepth 100000 in
set_option maxHeartbeats 4000000 in
theorem m_X0_restore_2 (l : Launch) (g : GG) (ad : Nat → Nat) (η : Nat → Nat → Int32) (had : Nat → Nat → Nat) (hσ : Nat → Nat → Nat → Int32) (ad2 : Nat → Nat) (σ : Nat → Nat → Int32) (v : Nat) (hk1 : η 1 0 = nI 2) (hv1 : η 2 0 = nI v) (hv : v ≤ 6) (hv0 : 1 ≤ v) (b0 : fit01 (hσ 1 0) 24) (b5 : fit01 (hσ 1 5) 24) (b6 : fit01 (hσ 1 6) 24) (b8 : fit01 (hσ 1 8) 6) : MMU l g yX0_restore cX0_restore 3 none 2 0 0 [.ref (ad 0), .ref (ad2 0)] [hiC g ad (fun i => had i 0) η, stC g (had 0) (hσ 0), stC g (had 1) (hσ 1), stC g (had 2) (hσ 2), stC g (had 3) (hσ 3), stC g (had 4) (hσ 4), stC g (had 5) (hσ 5), stC g ad2 σ] (none) [hiC g ad (fun i => had i 0) (hiS η 1 (v - 1)), stC g (had 0) (hσ 0), stC g (had 1) (hσ 1), stC g (had 2) (hσ 2), stC g (had 3) (hσ 3), stC g (had 4) (hσ 4), stC g (had 5) (hσ 5), stC g ad2 (hσ 1)] := by
  refine mk_mu (by decide +kernel) (Nat.le_of_ble_eq_true rfl) (fun p e s m below meth c A hA X => ?_)
  refine w_aload_n X 0 rfl dX0_restore_0 ?_
  refine w_get X 0 0 rfl rfl rfl in_X0 1 (by decide) fk_X0_16 rfl dX0_restore_1 ?_
  refine w_st (st2 := [.int (nI 2)]) (by rw [← hk1] <;> rfl) ?_
  refine w_nf_ne X (by omega) 11 dX0_restore_4 (by decide) (fun c4 => ?_) (fun c4 => by exfalso; omega)
  refine w_aload_n X 0 rfl dX0_restore_11 ?_
  refine w_get X 0 0 rfl rfl rfl in_X0 1 (by decide) fk_X0_16 rfl dX0_restore_12 ?_
  refine w_st (st2 := [.int (nI 2)]) (by rw [← hk1] <;> rfl) ?_
  refine w_iconst X (nI 1) dX0_restore_15 (by decide +kernel) ?_
  refine w_isub_n X (by omega) dX0_restore_16 ?_
  refine w_istore_n X dX0_restore_17 (by decide) ?_
  refine w_aload_n X 1 rfl dX0_restore_18 ?_
  refine w_get X 0 0 rfl rfl rfl in_X0 2 (by decide) fk_X0_24 rfl dX0_restore_19 ?_
  refine w_st (st2 := [.int (nI v)]) (by rw [← hv1] <;> rfl) ?_
  refine w_if_le X 44 dX0_restore_22 (by decide) (fun c22 => by exfalso; exact absurd c22 (nI_nle (by omega) (by omega))) (fun c22 => ?_)
  refine w_iload_n X 0 rfl dX0_restore_25 ?_
  refine w_if_lt X 44 dX0_restore_26 (by decide) (fun c26 => by exfalso; exact absurd c26 (by decide)) (fun c26 => ?_)
  refine w_iload_n X 0 rfl dX0_restore_29 ?_
  refine w_bipush X (nI 6) dX0_restore_30 (by decide +kernel) ?_
  refine w_nc_ge X (by omega) (by omega) 44 dX0_restore_32 (by decide) (fun c32 => by exfalso; omega) (fun c32 => ?_)
  refine w_aload_n X 1 rfl dX0_restore_35 ?_
  refine w_get X 0 0 rfl rfl rfl in_X0 0 (by decide) fk_X0_11 rfl dX0_restore_36 ?_
  refine w_iload_n X 0 rfl dX0_restore_39 ?_
  refine w_aald (f := fun i => some ((fun i => had i 0) i)) X 0 1 2 rfl rfl rfl (by omega) (by decide) rfl dX0_restore_40 ?_
  refine w_ifnonnull X 45 dX0_restore_41 (by decide) ?_
  refine w_aload_n X 2 rfl dX0_restore_45 ?_
  refine w_aload_n X 1 rfl dX0_restore_46 ?_
  refine w_get X 0 0 rfl rfl rfl in_X0 0 (by decide) fk_X0_11 rfl dX0_restore_47 ?_
  refine w_iload_n X 0 rfl dX0_restore_50 ?_
  refine w_aald (f := fun i => some ((fun i => had i 0) i)) X 0 1 2 rfl rfl rfl (by omega) (by decide) rfl dX0_restore_51 ?_
  refine w_muV X hA (gr := [hiC g ad (fun i => had i 0) η, stC g (had 0) (hσ 0), stC g (had 2) (hσ 2), stC g (had 3) (hσ 3), stC g (had 4) (hσ 4), stC g (had 5) (hσ 5)]) (gs1 := [hiC g ad (fun i => had i 0) η, stC g (had 0) (hσ 0), stC g (had 1) (hσ 1), stC g (had 2) (hσ 2), stC g (had 3) (hσ 3), stC g (had 4) (hσ 4), stC g (had 5) (hσ 5), stC g ad2 (hσ 1)]) [7, 2] [0, 1, 3, 4, 5, 6] 7 0 (m_X3_copyFrom l g ad2 σ (had 1) (hσ 1) (b0) (b5) (b6) (b8)) cv_X3_copyFrom mk_X0_20 rfl rfl rfl (ng := 8) rfl (by decide) rfl rfl rfl rfl rfl rfl ⟨Nat.le_of_ble_eq_true rfl, Nat.le_of_ble_eq_true rfl⟩ (Nat.le_of_ble_eq_true rfl) ⟨Nat.le_of_ble_eq_true rfl, Nat.le_of_ble_eq_true rfl⟩ dX0_restore_52 rfl ?_
  generalize hn1 : (hσ 1) = σv1
  refine w_aload_n X 1 rfl dX0_restore_55 ?_
  refine w_iload_n X 0 rfl dX0_restore_56 ?_
  refine w_put X 0 0 rfl rfl rfl in_X0 tyX0 tyX0_ok nmX0 1 (by decide) fk_X0_16 rfl rfl rfl rfl (Nat.le_of_ble_eq_true rfl) (show _ = hiC g ad (fun i => had i 0) (rw2 η 1 (fun _ => nI (1))) from rfl) dX0_restore_57 ?_
  refine w_aload_n X 1 rfl dX0_restore_60 ?_
  refine w_dup X dX0_restore_61 rfl ?_
  refine w_get X 0 0 rfl rfl rfl in_X0 2 (by decide) fk_X0_24 rfl dX0_restore_62 ?_
  refine w_st (st2 := [.int (η 2 0), .ref (ad 0)]) rfl ?_
  refine w_st (st2 := [.int (nI v), .ref (ad 0)]) (by rw [← hv1] <;> rfl) ?_
  refine w_iconst X (nI 1) dX0_restore_65 (by decide +kernel) ?_
  refine w_isub_n X (by omega) dX0_restore_66 ?_
  refine w_put X 0 0 rfl rfl rfl in_X0 tyX0 tyX0_ok nmX0 2 (by decide) fk_X0_24 rfl rfl rfl rfl (Nat.le_of_ble_eq_true rfl) (show _ = hiC g ad (fun i => had i 0) (rw2 (rw2 η 1 (fun _ => nI (1))) 2 (fun _ => nI (v - 1))) from rfl) dX0_restore_67 ?_
  exact w_vret_mu X (rfl) (Nat.le_of_ble_eq_true rfl) (Nat.le_of_ble_eq_true rfl) dX0_restore_70
set_option maxRecDepth 100000 in
set_option maxHeartbeats 4000000 in
theorem m_X0_save_3 (l : Launch) (g : GG) (ad : Nat → Nat) (η : Nat → Nat → Int32) (had : Nat → Nat → Nat) (hσ : Nat → Nat → Nat → Int32) (ad2 : Nat → Nat) (σ : Nat → Nat → Int32) (v : Nat) (hk1 : η 1 0 = nI 3) (hv1 : η 2 0 = nI v) (hv : v ≤ 6) (b0 : fit01 (σ 0) 24) (b5 : fit01 (σ 5) 24) (b6 : fit01 (σ 6) 24) (b8 : fit01 (σ 8) 6) : MMU l g yX0_save cX0_save 2 none 2 0 0 [.ref (ad 0), .ref (ad2 0)] [hiC g ad (fun i => had i 0) η, stC g (had 0) (hσ 0), stC g (had 1) (hσ 1), stC g (had 2) (hσ 2), stC g (had 3) (hσ 3), stC g (had 4) (hσ 4), stC g (had 5) (hσ 5), stC g ad2 σ] (none) [hiC g ad (fun i => had i 0) (hiS η 4 (svN v)), stC g (had 0) (hσ 0), stC g (had 1) (hσ 1), stC g (had 2) (hσ 2), stC g (had 3) σ, stC g (had 4) (hσ 4), stC g (had 5) (hσ 5), stC g ad2 σ] := by
  refine mk_mu (by decide +kernel) (Nat.le_of_ble_eq_true rfl) (fun p e s m below meth c A hA X => ?_)
  refine w_aload_n X 0 rfl dX0_save_0 ?_
  refine w_get X 0 0 rfl rfl rfl in_X0 1 (by decide) fk_X0_16 rfl dX0_save_1 ?_
  refine w_st (st2 := [.int (nI 3)]) (by rw [← hk1] <;> rfl) ?_
  refine w_if_lt X 28 dX0_save_4 (by decide) (fun c4 => by exfalso; exact absurd c4 (nI_pos (by decide))) (fun c4 => ?_)
  refine w_aload_n X 0 rfl dX0_save_7 ?_
  refine w_get X 0 0 rfl rfl rfl in_X0 1 (by decide) fk_X0_16 rfl dX0_save_8 ?_
  refine w_st (st2 := [.int (nI 3)]) (by rw [← hk1] <;> rfl) ?_
  refine w_bipush X (nI 6) dX0_save_11 (by decide +kernel) ?_
  refine w_nc_ge X (by omega) (by omega) 28 dX0_save_13 (by decide) (fun c13 => by exfalso; omega) (fun c13 => ?_)
  refine w_aload_n X 0 rfl dX0_save_16 ?_
  refine w_get X 0 0 rfl rfl rfl in_X0 0 (by decide) fk_X0_11 rfl dX0_save_17 ?_
  refine w_aload_n X 0 rfl dX0_save_20 ?_
  refine w_get X 0 0 rfl rfl rfl in_X0 1 (by decide) fk_X0_16 rfl dX0_save_21 ?_
  refine w_st (st2 := [.int (nI 3), .ref (ad 1)]) (by rw [← hk1] <;> rfl) ?_
  refine w_aald (f := fun i => some ((fun i => had i 0) i)) X 0 1 2 rfl rfl rfl (by omega) (by decide) rfl dX0_save_24 ?_
  refine w_ifnonnull X 29 dX0_save_25 (by decide) ?_
  refine w_aload_n X 0 rfl dX0_save_29 ?_
  refine w_get X 0 0 rfl rfl rfl in_X0 0 (by decide) fk_X0_11 rfl dX0_save_30 ?_
  refine w_aload_n X 0 rfl dX0_save_33 ?_
  refine w_get X 0 0 rfl rfl rfl in_X0 1 (by decide) fk_X0_16 rfl dX0_save_34 ?_
  refine w_st (st2 := [.int (nI 3), .ref (ad 1)]) (by rw [← hk1] <;> rfl) ?_
  refine w_aald (f := fun i => some ((fun i => had i 0) i)) X 0 1 2 rfl rfl rfl (by omega) (by decide) rfl dX0_save_37 ?_
  refine w_aload_n X 1 rfl dX0_save_38 ?_
  refine w_muV X hA (gr := [hiC g ad (fun i => had i 0) η, stC g (had 0) (hσ 0), stC g (had 1) (hσ 1), stC g (had 2) (hσ 2), stC g (had 4) (hσ 4), stC g (had 5) (hσ 5)]) (gs1 := [hiC g ad (fun i => had i 0) η, stC g (had 0) (hσ 0), stC g (had 1) (hσ 1), stC g (had 2) (hσ 2), stC g (had 3) σ, stC g (had 4) (hσ 4), stC g (had 5) (hσ 5), stC g ad2 σ]) [4, 7] [0, 1, 2, 3, 5, 6] 4 0 (m_X3_copyFrom l g (had 3) (hσ 3) ad2 σ (b0) (b5) (b6) (b8)) cv_X3_copyFrom mk_X0_20 rfl rfl rfl (ng := 8) rfl (by decide) rfl rfl rfl rfl rfl rfl ⟨Nat.le_of_ble_eq_true rfl, Nat.le_of_ble_eq_true rfl⟩ (Nat.le_of_ble_eq_true rfl) ⟨Nat.le_of_ble_eq_true rfl, Nat.le_of_ble_eq_true rfl⟩ dX0_save_39 rfl ?_
  refine w_aload_n X 0 rfl dX0_save_42 ?_
  refine w_aload_n X 0 rfl dX0_save_43 ?_
  refine w_get X 0 0 rfl rfl rfl in_X0 1 (by decide) fk_X0_16 rfl dX0_save_44 ?_
  refine w_st (st2 := [.int (nI 3), .ref (ad 0)]) (by rw [← hk1] <;> rfl) ?_
  refine w_iconst X (nI 5) dX0_save_47 (by decide +kernel) ?_
  refine w_nc_ne X (by omega) (by omega) 55 dX0_save_48 (by decide) (fun c48 => ?_) (fun c48 => by exfalso; omega)
  refine w_aload_n X 0 rfl dX0_save_55 ?_
  refine w_get X 0 0 rfl rfl rfl in_X0 1 (by decide) fk_X0_16 rfl dX0_save_56 ?_
  refine w_st (st2 := [.int (nI 3), .ref (ad 0)]) (by rw [← hk1] <;> rfl) ?_
  refine w_iconst X (nI 1) dX0_save_59 (by decide +kernel) ?_
  refine w_iadd_n X dX0_save_60 ?_
  refine w_put X 0 0 rfl rfl rfl in_X0 tyX0 tyX0_ok nmX0 1 (by decide) fk_X0_16 rfl rfl rfl rfl (Nat.le_of_ble_eq_true rfl) (show _ = hiC g ad (fun i => had i 0) (rw2 η 1 (fun _ => nI (4))) from rfl) dX0_save_61 ?_
  refine w_aload_n X 0 rfl dX0_save_64 ?_
  refine w_aload_n X 0 rfl dX0_save_65 ?_
  refine w_get X 0 0 rfl rfl rfl in_X0 2 (by decide) fk_X0_24 rfl dX0_save_66 ?_
  refine w_st (st2 := [.int (η 2 0), .ref (ad 0)]) rfl ?_
  refine w_st (st2 := [.int (nI v), .ref (ad 0)]) (by rw [← hv1] <;> rfl) ?_
  refine w_bipush X (nI 6) dX0_save_69 (by decide +kernel) ?_
  refine w_nc_ge X (by omega) (by omega) 83 dX0_save_71 (by decide) (fun c71 => ?_) (fun c71 => ?_)
  · refine w_bipush X (nI 6) dX0_save_83 (by decide +kernel) ?_
    refine w_put X 0 0 rfl rfl rfl in_X0 tyX0 tyX0_ok nmX0 2 (by decide) fk_X0_24 rfl rfl rfl rfl (Nat.le_of_ble_eq_true rfl) (show _ = hiC g ad (fun i => had i 0) (rw2 (rw2 η 1 (fun _ => nI (4))) 2 (fun _ => nI (6))) from rfl) dX0_save_85 ?_
    exact w_vret_mu X (by rw [hiS, svN, if_neg (by omega)]; rfl) (Nat.le_of_ble_eq_true rfl) (Nat.le_of_ble_eq_true rfl) dX0_save_88
  · refine w_aload_n X 0 rfl dX0_save_74 ?_
    refine w_get X 0 0 rfl rfl rfl in_X0 2 (by decide) fk_X0_24 rfl dX0_save_75 ?_
    refine w_st (st2 := [.int (η 2 0), .ref (ad 0)]) rfl ?_
    refine w_st (st2 := [.int (nI v), .ref (ad 0)]) (by rw [← hv1] <;> rfl) ?_
    refine w_iconst X (nI 1) dX0_save_78 (by decide +kernel) ?_
    refine w_iadd_n X dX0_save_79 ?_
    refine w_goto X 85 dX0_save_80 (by decide) ?_
    refine w_put X 0 0 rfl rfl rfl in_X0 tyX0 tyX0_ok nmX0 2 (by decide) fk_X0_24 rfl rfl rfl rfl (Nat.le_of_ble_eq_true rfl) (show _ = hiC g ad (fun i => had i 0) (rw2 (rw2 η 1 (fun _ => nI (4))) 2 (fun _ => nI (v + 1))) from rfl) dX0_save_85 ?_
    exact w_vret_mu X (by rw [hiS, svN, if_pos c71]; rfl) (Nat.le_of_ble_eq_true rfl) (Nat.le_of_ble_eq_true rfl) dX0_save_88
set_option maxRecDepth 100000 in
set_option maxHeartbeats 4000000 in
theorem m_X0_restore_3 (l : Launch) (g : GG) (ad : Nat → Nat) (η : Nat → Nat → Int32) (had : Nat → Nat → Nat) (hσ : Nat → Nat → Nat → Int32) (ad2 : Nat → Nat) (σ : Nat → Nat → Int32) (v : Nat) (hk1 : η 1 0 = nI 3) (hv1 : η 2 0 = nI v) (hv : v ≤ 6) (hv0 : 1 ≤ v) (b0 : fit01 (hσ 2 0) 24) (b5 : fit01 (hσ 2 5) 24) (b6 : fit01 (hσ 2 6) 24) (b8 : fit01 (hσ 2 8) 6) : MMU l g yX0_restore cX0_restore 3 none 2 0 0 [.ref (ad 0), .ref (ad2 0)] [hiC g ad (fun i => had i 0) η, stC g (had 0) (hσ 0), stC g (had 1) (hσ 1), stC g (had 2) (hσ 2), stC g (had 3) (hσ 3), stC g (had 4) (hσ 4), stC g (had 5) (hσ 5), stC g ad2 σ] (none) [hiC g ad (fun i => had i 0) (hiS η 2 (v - 1)), stC g (had 0) (hσ 0), stC g (had 1) (hσ 1), stC g (had 2) (hσ 2), stC g (had 3) (hσ 3), stC g (had 4) (hσ 4), stC g (had 5) (hσ 5), stC g ad2 (hσ 2)] := by
  refine mk_mu (by decide +kernel) (Nat.le_of_ble_eq_true rfl) (fun p e s m below meth c A hA X => ?_)
  refine w_aload_n X 0 rfl dX0_restore_0 ?_
  refine w_get X 0 0 rfl rfl rfl in_X0 1 (by decide) fk_X0_16 rfl dX0_restore_1 ?_
  refine w_st (st2 := [.int (nI 3)]) (by rw [← hk1] <;> rfl) ?_
  refine w_nf_ne X (by omega) 11 dX0_restore_4 (by decide) (fun c4 => ?_) (fun c4 => by exfalso; omega)
  refine w_aload_n X 0 rfl dX0_restore_11 ?_
  refine w_get X 0 0 rfl rfl rfl in_X0 1 (by decide) fk_X0_16 rfl dX0_restore_12 ?_
  refine w_st (st2 := [.int (nI 3)]) (by rw [← hk1] <;> rfl) ?_
  refine w_iconst X (nI 1) dX0_restore_15 (by decide +kernel) ?_
  refine w_isub_n X (by omega) dX0_restore_16 ?_
  refine w_istore_n X dX0_restore_17 (by decide) ?_
  refine w_aload_n X 1 rfl dX0_restore_18 ?_
  refine w_get X 0 0 rfl rfl rfl in_X0 2 (by decide) fk_X0_24 rfl dX0_restore_19 ?_
  refine w_st (st2 := [.int (nI v)]) (by rw [← hv1] <;> rfl) ?_
  refine w_if_le X 44 dX0_restore_22 (by decide) (fun c22 => by exfalso; exact absurd c22 (nI_nle (by omega) (by omega))) (fun c22 => ?_)
  refine w_iload_n X 0 rfl dX0_restore_25 ?_
  refine w_if_lt X 44 dX0_restore_26 (by decide) (fun c26 => by exfalso; exact absurd c26 (by decide)) (fun c26 => ?_)
  refine w_iload_n X 0 rfl dX0_restore_29 ?_
  refine w_bipush X (nI 6) dX0_restore_30 (by decide +kernel) ?_
  refine w_nc_ge X (by omega) (by omega) 44 dX0_restore_32 (by decide) (fun c32 => by exfalso; omega) (fun c32 => ?_)
  refine w_aload_n X 1 rfl dX0_restore_35 ?_
  refine w_get X 0 0 rfl rfl rfl in_X0 0 (by decide) fk_X0_11 rfl dX0_restore_36 ?_
  refine w_iload_n X 0 rfl dX0_restore_39 ?_
  refine w_aald (f := fun i => some ((fun i => had i 0) i)) X 0 1 2 rfl rfl rfl (by omega) (by decide) rfl dX0_restore_40 ?_
  refine w_ifnonnull X 45 dX0_restore_41 (by decide) ?_
  refine w_aload_n X 2 rfl dX0_restore_45 ?_
  refine w_aload_n X 1 rfl dX0_restore_46 ?_
  refine w_get X 0 0 rfl rfl rfl in_X0 0 (by decide) fk_X0_11 rfl dX0_restore_47 ?_
  refine w_iload_n X 0 rfl dX0_restore_50 ?_
  refine w_aald (f := fun i => some ((fun i => had i 0) i)) X 0 1 2 rfl rfl rfl (by omega) (by decide) rfl dX0_restore_51 ?_
  refine w_muV X hA (gr := [hiC g ad (fun i => had i 0) η, stC g (had 0) (hσ 0), stC g (had 1) (hσ 1), stC g (had 3) (hσ 3), stC g (had 4) (hσ 4), stC g (had 5) (hσ 5)]) (gs1 := [hiC g ad (fun i => had i 0) η, stC g (had 0) (hσ 0), stC g (had 1) (hσ 1), stC g (had 2) (hσ 2), stC g (had 3) (hσ 3), stC g (had 4) (hσ 4), stC g (had 5) (hσ 5), stC g ad2 (hσ 2)]) [7, 3] [0, 1, 2, 4, 5, 6] 7 0 (m_X3_copyFrom l g ad2 σ (had 2) (hσ 2) (b0) (b5) (b6) (b8)) cv_X3_copyFrom mk_X0_20 rfl rfl rfl (ng := 8) rfl (by decide) rfl rfl rfl rfl rfl rfl ⟨Nat.le_of_ble_eq_true rfl, Nat.le_of_ble_eq_true rfl⟩ (Nat.le_of_ble_eq_true rfl) ⟨Nat.le_of_ble_eq_true rfl, Nat.le_of_ble_eq_true rfl⟩ dX0_restore_52 rfl ?_
  generalize hn1 : (hσ 2) = σv1
  refine w_aload_n X 1 rfl dX0_restore_55 ?_
  refine w_iload_n X 0 rfl dX0_restore_56 ?_
  refine w_put X 0 0 rfl rfl rfl in_X0 tyX0 tyX0_ok nmX0 1 (by decide) fk_X0_16 rfl rfl rfl rfl (Nat.le_of_ble_eq_true rfl) (show _ = hiC g ad (fun i => had i 0) (rw2 η 1 (fun _ => nI (2))) from rfl) dX0_restore_57 ?_
  refine w_aload_n X 1 rfl dX0_restore_60 ?_
  refine w_dup X dX0_restore_61 rfl ?_
  refine w_get X 0 0 rfl rfl rfl in_X0 2 (by decide) fk_X0_24 rfl dX0_restore_62 ?_
  refine w_st (st2 := [.int (η 2 0), .ref (ad 0)]) rfl ?_
  refine w_st (st2 := [.int (nI v), .ref (ad 0)]) (by rw [← hv1] <;> rfl) ?_
  refine w_iconst X (nI 1) dX0_restore_65 (by decide +kernel) ?_
  refine w_isub_n X (by omega) dX0_restore_66 ?_
  refine w_put X 0 0 rfl rfl rfl in_X0 tyX0 tyX0_ok nmX0 2 (by decide) fk_X0_24 rfl rfl rfl rfl (Nat.le_of_ble_eq_true rfl) (show _ = hiC g ad (fun i => had i 0) (rw2 (rw2 η 1 (fun _ => nI (2))) 2 (fun _ => nI (v - 1))) from rfl) dX0_restore_67 ?_
  exact w_vret_mu X (rfl) (Nat.le_of_ble_eq_true rfl) (Nat.le_of_ble_eq_true rfl) dX0_restore_70
set_option maxRecDepth 100000 in
set_option maxHeartbeats 4000000 in
theorem m_X0_save_4 (l : Launch) (g : GG) (ad : Nat → Nat) (η : Nat → Nat → Int32) (had : Nat → Nat → Nat) (hσ : Nat → Nat → Nat → Int32) (ad2 : Nat → Nat) (σ : Nat → Nat → Int32) (v : Nat) (hk1 : η 1 0 = nI 4) (hv1 : η 2 0 = nI v) (hv : v ≤ 6) (b0 : fit01 (σ 0) 24) (b5 : fit01 (σ 5) 24) (b6 : fit01 (σ 6) 24) (b8 : fit01 (σ 8) 6) : MMU l g yX0_save cX0_save 2 none 2 0 0 [.ref (ad 0), .ref (ad2 0)] [hiC g ad (fun i => had i 0) η, stC g (had 0) (hσ 0), stC g (had 1) (hσ 1), stC g (had 2) (hσ 2), stC g (had 3) (hσ 3), stC g (had 4) (hσ 4), stC g (had 5) (hσ 5), stC g ad2 σ] (none) [hiC g ad (fun i => had i 0) (hiS η 5 (svN v)), stC g (had 0) (hσ 0), stC g (had 1) (hσ 1), stC g (had 2) (hσ 2), stC g (had 3) (hσ 3), stC g (had 4) σ, stC g (had 5) (hσ 5), stC g ad2 σ] := by
  refine mk_mu (by decide +kernel) (Nat.le_of_ble_eq_true rfl) (fun p e s m below meth c A hA X => ?_)
  refine w_aload_n X 0 rfl dX0_save_0 ?_
  refine w_get X 0 0 rfl rfl rfl in_X0 1 (by decide) fk_X0_16 rfl dX0_save_1 ?_
  refine w_st (st2 := [.int (nI 4)]) (by rw [← hk1] <;> rfl) ?_
  refine w_if_lt X 28 dX0_save_4 (by decide) (fun c4 => by exfalso; exact absurd c4 (nI_pos (by decide))) (fun c4 => ?_)
  refine w_aload_n X 0 rfl dX0_save_7 ?_
  refine w_get X 0 0 rfl rfl rfl in_X0 1 (by decide) fk_X0_16 rfl dX0_save_8 ?_
  refine w_st (st2 := [.int (nI 4)]) (by rw [← hk1] <;> rfl) ?_
  refine w_bipush X (nI 6) dX0_save_11 (by decide +kernel) ?_
  refine w_nc_ge X (by omega) (by omega) 28 dX0_save_13 (by decide) (fun c13 => by exfalso; omega) (fun c13 => ?_)
  refine w_aload_n X 0 rfl dX0_save_16 ?_
  refine w_get X 0 0 rfl rfl rfl in_X0 0 (by decide) fk_X0_11 rfl dX0_save_17 ?_
  refine w_aload_n X 0 rfl dX0_save_20 ?_
  refine w_get X 0 0 rfl rfl rfl in_X0 1 (by decide) fk_X0_16 rfl dX0_save_21 ?_
  refine w_st (st2 := [.int (nI 4), .ref (ad 1)]) (by rw [← hk1] <;> rfl) ?_
  refine w_aald (f := fun i => some ((fun i => had i 0) i)) X 0 1 2 rfl rfl rfl (by omega) (by decide) rfl dX0_save_24 ?_
  refine w_ifnonnull X 29 dX0_save_25 (by decide) ?_
  refine w_aload_n X 0 rfl dX0_save_29 ?_
  refine w_get X 0 0 rfl rfl rfl in_X0 0 (by decide) fk_X0_11 rfl dX0_save_30 ?_
  refine w_aload_n X 0 rfl dX0_save_33 ?_
  refine w_get X 0 0 rfl rfl rfl in_X0 1 (by decide) fk_X0_16 rfl dX0_save_34 ?_
  refine w_st (st2 := [.int (nI 4), .ref (ad 1)]) (by rw [← hk1] <;> rfl) ?_
  refine w_aald (f := fun i => some ((fun i => had i 0) i)) X 0 1 2 rfl rfl rfl (by omega) (by decide) rfl dX0_save_37 ?_
  refine w_aload_n X 1 rfl dX0_save_38 ?_
  refine w_muV X hA (gr := [hiC g ad (fun i => had i 0) η, stC g (had 0) (hσ 0), stC g (had 1) (hσ 1), stC g (had 2) (hσ 2), stC g (had 3) (hσ 3), stC g (had 5) (hσ 5)]) (gs1 := [hiC g ad (fun i => had i 0) η, stC g (had 0) (hσ 0), stC g (had 1) (hσ 1), stC g (had 2) (hσ 2), stC g (had 3) (hσ 3), stC g (had 4) σ, stC g (had 5) (hσ 5), stC g ad2 σ]) [5, 7] [0, 1, 2, 3, 4, 6] 5 0 (m_X3_copyFrom l g (had 4) (hσ 4) ad2 σ (b0) (b5) (b6) (b8)) cv_X3_copyFrom mk_X0_20 rfl rfl rfl (ng := 8) rfl (by decide) rfl rfl rfl rfl rfl rfl ⟨Nat.le_of_ble_eq_true rfl, Nat.le_of_ble_eq_true rfl⟩ (Nat.le_of_ble_eq_true rfl) ⟨Nat.le_of_ble_eq_true rfl, Nat.le_of_ble_eq_true rfl⟩ dX0_save_39 rfl ?_
  refine w_aload_n X 0 rfl dX0_save_42 ?_
  refine w_aload_n X 0 rfl dX0_save_43 ?_
  refine w_get X 0 0 rfl rfl rfl in_X0 1 (by decide) fk_X0_16 rfl dX0_save_44 ?_
  refine w_st (st2 := [.int (nI 4), .ref (ad 0)]) (by rw [← hk1] <;> rfl) ?_
  refine w_iconst X (nI 5) dX0_save_47 (by decide +kernel) ?_
  refine w_nc_ne X (by omega) (by omega) 55 dX0_save_48 (by decide) (fun c48 => ?_) (fun c48 => by exfalso; omega)
  refine w_aload_n X 0 rfl dX0_save_55 ?_
  refine w_get X 0 0 rfl rfl rfl in_X0 1 (by decide) fk_X0_16 rfl dX0_save_56 ?_
  refine w_st (st2 := [.int (nI 4), .ref (ad 0)]) (by rw [← hk1] <;> rfl) ?_
  refine w_iconst X (nI 1) dX0_save_59 (by decide +kernel) ?_
  refine w_iadd_n X dX0_save_60 ?_
  refine w_put X 0 0 rfl rfl rfl in_X0 tyX0 tyX0_ok nmX0 1 (by decide) fk_X0_16 rfl rfl rfl rfl (Nat.le_of_ble_eq_true rfl) (show _ = hiC g ad (fun i => had i 0) (rw2 η 1 (fun _ => nI (5))) from rfl) dX0_save_61 ?_
  refine w_aload_n X 0 rfl dX0_save_64 ?_
  refine w_aload_n X 0 rfl dX0_save_65 ?_
  refine w_get X 0 0 rfl rfl rfl in_X0 2 (by decide) fk_X0_24 rfl dX0_save_66 ?_
  refine w_st (st2 := [.int (η 2 0), .ref (ad 0)]) rfl ?_
  refine w_st (st2 := [.int (nI v), .ref (ad 0)]) (by rw [← hv1] <;> rfl) ?_
  refine w_bipush X (nI 6) dX0_save_69 (by decide +kernel) ?_
  refine w_nc_ge X (by omega) (by omega) 83 dX0_save_71 (by decide) (fun c71 => ?_) (fun c71 => ?_)
  · refine w_bipush X (nI 6) dX0_save_83 (by decide +kernel) ?_
    refine w_put X 0 0 rfl rfl rfl in_X0 tyX0 tyX0_ok nmX0 2 (by decide) fk_X0_24 rfl rfl rfl rfl (Nat.le_of_ble_eq_true rfl) (show _ = hiC g ad (fun i => had i 0) (rw2 (rw2 η 1 (fun _ => nI (5))) 2 (fun _ => nI (6))) from rfl) dX0_save_85 ?_
    exact w_vret_mu X (by rw [hiS, svN, if_neg (by omega)]; rfl) (Nat.le_of_ble_eq_true rfl) (Nat.le_of_ble_eq_true rfl) dX0_save_88
  · refine w_aload_n X 0 rfl dX0_save_74 ?_
    refine w_get X 0 0 rfl rfl rfl in_X0 2 (by decide) fk_X0_24 rfl dX0_save_75 ?_
    refine w_st (st2 := [.int (η 2 0), .ref (ad 0)]) rfl ?_
    refine w_st (st2 := [.int (nI v), .ref (ad 0)]) (by rw [← hv1] <;> rfl) ?_
    refine w_iconst X (nI 1) dX0_save_78 (by decide +kernel) ?_
    refine w_iadd_n X dX0_save_79 ?_
    refine w_goto X 85 dX0_save_80 (by decide) ?_
    refine w_put X 0 0 rfl rfl rfl in_X0 tyX0 tyX0_ok nmX0 2 (by decide) fk_X0_24 rfl rfl rfl rfl (Nat.le_of_ble_eq_true rfl) (show _ = hiC g ad (fun i => had i 0) (rw2 (rw2 η 1 (fun _ => nI (5))) 2 (fun _ => nI (v + 1))) from rfl) dX0_save_85 ?_
    exact w_vret_mu X (by rw [hiS, svN, if_pos c71]; rfl) (Nat.le_of_ble_eq_true rfl) (Nat.le_of_ble_eq_true rfl) dX0_save_88
set_option maxRecDepth 100000 in
set_option maxHeartbeats 4000000 in
theorem m_X0_restore_4 (l : Launch) (g : GG) (ad : Nat → Nat) (η : Nat → Nat → Int32) (had : Nat → Nat → Nat) (hσ : Nat → Nat → Nat → Int32) (ad2 : Nat → Nat) (σ : Nat → Nat → Int32) (v : Nat) (hk1 : η 1 0 = nI 4) (hv1 : η 2 0 = nI v) (hv : v ≤ 6) (hv0 : 1 ≤ v) (b0 : fit01 (hσ 3 0) 24) (b5 : fit01 (hσ 3 5) 24) (b6 : fit01 (hσ 3 6) 24) (b8 : fit01 (hσ 3 8) 6) : MMU l g yX0_restore cX0_restore 3 none 2 0 0 [.ref (ad 0), .ref (ad2 0)] [hiC g ad (fun i => had i 0) η, stC g (had 0) (hσ 0), stC g (had 1) (hσ 1), stC g (had 2) (hσ 2), stC g (had 3) (hσ 3), stC g (had 4) (hσ 4), stC g (had 5) (hσ 5), stC g ad2 σ] (none) [hiC g ad (fun i => had i 0) (hiS η 3 (v - 1)), stC g (had 0) (hσ 0), stC g (had 1) (hσ 1), stC g (had 2) (hσ 2), stC g (had 3) (hσ 3), stC g (had 4) (hσ 4), stC g (had 5) (hσ 5), stC g ad2 (hσ 3)] := by
  refine mk_mu (by decide +kernel) (Nat.le_of_ble_eq_true rfl) (fun p e s m below meth c A hA X => ?_)
  refine w_aload_n X 0 rfl dX0_restore_0 ?_
  refine w_get X 0 0 rfl rfl rfl in_X0 1 (by decide) fk_X0_16 rfl dX0_restore_1 ?_
  refine w_st (st2 := [.int (nI 4)]) (by rw [← hk1] <;> rfl) ?_
  refine w_nf_ne X (by omega) 11 dX0_restore_4 (by decide) (fun c4 => ?_) (fun c4 => by exfalso; omega)
  refine w_aload_n X 0 rfl dX0_restore_11 ?_
  refine w_get X 0 0 rfl rfl rfl in_X0 1 (by decide) fk_X0_16 rfl dX0_restore_12 ?_
  refine w_st (st2 := [.int (nI 4)]) (by rw [← hk1] <;> rfl) ?_
  refine w_iconst X (nI 1) dX0_restore_15 (by decide +kernel) ?_
  refine w_isub_n X (by omega) dX0_restore_16 ?_
  refine w_istore_n X dX0_restore_17 (by decide) ?_
  refine w_aload_n X 1 rfl dX0_restore_18 ?_
  refine w_get X 0 0 rfl rfl rfl in_X0 2 (by decide) fk_X0_24 rfl dX0_restore_19 ?_
  refine w_st (st2 := [.int (nI v)]) (by rw [← hv1] <;> rfl) ?_
  refine w_if_le X 44 dX0_restore_22 (by decide) (fun c22 => by exfalso; exact absurd c22 (nI_nle (by omega) (by omega))) (fun c22 => ?_)
  refine w_iload_n X 0 rfl dX0_restore_25 ?_
  refine w_if_lt X 44 dX0_restore_26 (by decide) (fun c26 => by exfalso; exact absurd c26 (by decide)) (fun c26 => ?_)
  refine w_iload_n X 0 rfl dX0_restore_29 ?_
  refine w_bipush X (nI 6) dX0_restore_30 (by decide +kernel) ?_
  refine w_nc_ge X (by omega) (by omega) 44 dX0_restore_32 (by decide) (fun c32 => by exfalso; omega) (fun c32 => ?_)
  refine w_aload_n X 1 rfl dX0_restore_35 ?_
  refine w_get X 0 0 rfl rfl rfl in_X0 0 (by decide) fk_X0_11 rfl dX0_restore_36 ?_
  refine w_iload_n X 0 rfl dX0_restore_39 ?_
  refine w_aald (f := fun i => some ((fun i => had i 0) i)) X 0 1 2 rfl rfl rfl (by omega) (by decide) rfl dX0_restore_40 ?_
  refine w_ifnonnull X 45 dX0_restore_41 (by decide) ?_
  refine w_aload_n X 2 rfl dX0_restore_45 ?_
  refine w_aload_n X 1 rfl dX0_restore_46 ?_
  refine w_get X 0 0 rfl rfl rfl in_X0 0 (by decide) fk_X0_11 rfl dX0_restore_47 ?_
  refine w_iload_n X 0 rfl dX0_restore_50 ?_
  refine w_aald (f := fun i => some ((fun i => had i 0) i)) X 0 1 2 rfl rfl rfl (by omega) (by decide) rfl dX0_restore_51 ?_
  refine w_muV X hA (gr := [hiC g ad (fun i => had i 0) η, stC g (had 0) (hσ 0), stC g (had 1) (hσ 1), stC g (had 2) (hσ 2), stC g (had 4) (hσ 4), stC g (had 5) (hσ 5)]) (gs1 := [hiC g ad (fun i => had i 0) η, stC g (had 0) (hσ 0), stC g (had 1) (hσ 1), stC g (had 2) (hσ 2), stC g (had 3) (hσ 3), stC g (had 4) (hσ 4), stC g (had 5) (hσ 5), stC g ad2 (hσ 3)]) [7, 4] [0, 1, 2, 3, 5, 6] 7 0 (m_X3_copyFrom l g ad2 σ (had 3) (hσ 3) (b0) (b5) (b6) (b8)) cv_X3_copyFrom mk_X0_20 rfl rfl rfl (ng := 8) rfl (by decide) rfl rfl rfl rfl rfl rfl ⟨Nat.le_of_ble_eq_true rfl, Nat.le_of_ble_eq_true rfl⟩ (Nat.le_of_ble_eq_true rfl) ⟨Nat.le_of_ble_eq_true rfl, Nat.le_of_ble_eq_true rfl⟩ dX0_restore_52 rfl ?_
  generalize hn1 : (hσ 3) = σv1
  refine w_aload_n X 1 rfl dX0_restore_55 ?_
  refine w_iload_n X 0 rfl dX0_restore_56 ?_
  refine w_put X 0 0 rfl rfl rfl in_X0 tyX0 tyX0_ok nmX0 1 (by decide) fk_X0_16 rfl rfl rfl rfl (Nat.le_of_ble_eq_true rfl) (show _ = hiC g ad (fun i => had i 0) (rw2 η 1 (fun _ => nI (3))) from rfl) dX0_restore_57 ?_
  refine w_aload_n X 1 rfl dX0_restore_60 ?_
  refine w_dup X dX0_restore_61 rfl ?_
  refine w_get X 0 0 rfl rfl rfl in_X0 2 (by decide) fk_X0_24 rfl dX0_restore_62 ?_
  refine w_st (st2 := [.int (η 2 0), .ref (ad 0)]) rfl ?_
  refine w_st (st2 := [.int (nI v), .ref (ad 0)]) (by rw [← hv1] <;> rfl) ?_
  refine w_iconst X (nI 1) dX0_restore_65 (by decide +kernel) ?_
  refine w_isub_n X (by omega) dX0_restore_66 ?_
  refine w_put X 0 0 rfl rfl rfl in_X0 tyX0 tyX0_ok nmX0 2 (by decide) fk_X0_24 rfl rfl rfl rfl (Nat.le_of_ble_eq_true rfl) (show _ = hiC g ad (fun i => had i 0) (rw2 (rw2 η 1 (fun _ => nI (3))) 2 (fun _ => nI (v - 1))) from rfl) dX0_restore_67 ?_
  exact w_vret_mu X (rfl) (Nat.le_of_ble_eq_true rfl) (Nat.le_of_ble_eq_true rfl) dX0_restore_70
set_option maxRecDepth 100000 in
set_option maxHeartbeats 4000000 in
theorem m_X0_save_5 (l : Launch) (g : GG) (ad : Nat → Nat) (η : Nat → Nat → Int32) (had : Nat → Nat → Nat) (hσ : Nat → Nat → Nat → Int32) (ad2 : Nat → Nat) (σ : Nat → Nat → Int32) (v : Nat) (hk1 : η 1 0 = nI 5) (hv1 : η 2 0 = nI v) (hv : v ≤ 6) (b0 : fit01 (σ 0) 24) (b5 : fit01 (σ 5) 24) (b6 : fit01 (σ 6) 24) (b8 : fit01 (σ 8) 6) : MMU l g yX0_save cX0_save 2 none 2 0 0 [.ref (ad 0), .ref (ad2 0)] [hiC g ad (fun i => had i 0) η, stC g (had 0) (hσ 0), stC g (had 1) (hσ 1), stC g (had 2) (hσ 2), stC g (had 3) (hσ 3), stC g (had 4) (hσ 4), stC g (had 5) (hσ 5), stC g ad2 σ] (none) [hiC g ad (fun i => had i 0) (hiS η 0 (svN v)), stC g (had 0) (hσ 0), stC g (had 1) (hσ 1), stC g (had 2) (hσ 2), stC g (had 3) (hσ 3), stC g (had 4) (hσ 4), stC g (had 5) σ, stC g ad2 σ] := by
  refine mk_mu (by decide +kernel) (Nat.le_of_ble_eq_true rfl) (fun p e s m below meth c A hA X => ?_)
  refine w_aload_n X 0 rfl dX0_save_0 ?_
  refine w_get X 0 0 rfl rfl rfl in_X0 1 (by decide) fk_X0_16 rfl dX0_save_1 ?_
  refine w_st (st2 := [.int (nI 5)]) (by rw [← hk1] <;> rfl) ?_
  refine w_if_lt X 28 dX0_save_4 (by decide) (fun c4 => by exfalso; exact absurd c4 (nI_pos (by decide))) (fun c4 => ?_)
  refine w_aload_n X 0 rfl dX0_save_7 ?_
  refine w_get X 0 0 rfl rfl rfl in_X0 1 (by decide) fk_X0_16 rfl dX0_save_8 ?_
  refine w_st (st2 := [.int (nI 5)]) (by rw [← hk1] <;> rfl) ?_
  refine w_bipush X (nI 6) dX0_save_11 (by decide +kernel) ?_
  refine w_nc_ge X (by omega) (by omega) 28 dX0_save_13 (by decide) (fun c13 => by exfalso; omega) (fun c13 => ?_)
  refine w_aload_n X 0 rfl dX0_save_16 ?_
  refine w_get X 0 0 rfl rfl rfl in_X0 0 (by decide) fk_X0_11 rfl dX0_save_17 ?_
  refine w_aload_n X 0 rfl dX0_save_20 ?_
  refine w_get X 0 0 rfl rfl rfl in_X0 1 (by decide) fk_X0_16 rfl dX0_save_21 ?_
  refine w_st (st2 := [.int (nI 5), .ref (ad 1)]) (by rw [← hk1] <;> rfl) ?_
  refine w_aald (f := fun i => some ((fun i => had i 0) i)) X 0 1 2 rfl rfl rfl (by omega) (by decide) rfl dX0_save_24 ?_
  refine w_ifnonnull X 29 dX0_save_25 (by decide) ?_
  refine w_aload_n X 0 rfl dX0_save_29 ?_
  refine w_get X 0 0 rfl rfl rfl in_X0 0 (by decide) fk_X0_11 rfl dX0_save_30 ?_
  refine w_aload_n X 0 rfl dX0_save_33 ?_
  refine w_get X 0 0 rfl rfl rfl in_X0 1 (by decide) fk_X0_16 rfl dX0_save_34 ?_
  refine w_st (st2 := [.int (nI 5), .ref (ad 1)]) (by rw [← hk1] <;> rfl) ?_
  refine w_aald (f := fun i => some ((fun i => had i 0) i)) X 0 1 2 rfl rfl rfl (by omega) (by decide) rfl dX0_save_37 ?_
  refine w_aload_n X 1 rfl dX0_save_38 ?_
  refine w_muV X hA (gr := [hiC g ad (fun i => had i 0) η, stC g (had 0) (hσ 0), stC g (had 1) (hσ 1), stC g (had 2) (hσ 2), stC g (had 3) (hσ 3), stC g (had 4) (hσ 4)]) (gs1 := [hiC g ad (fun i => had i 0) η, stC g (had 0) (hσ 0), stC g (had 1) (hσ 1), stC g (had 2) (hσ 2), stC g (had 3) (hσ 3), stC g (had 4) (hσ 4), stC g (had 5) σ, stC g ad2 σ]) [6, 7] [0, 1, 2, 3, 4, 5] 6 0 (m_X3_copyFrom l g (had 5) (hσ 5) ad2 σ (b0) (b5) (b6) (b8)) cv_X3_copyFrom mk_X0_20 rfl rfl rfl (ng := 8) rfl (by decide) rfl rfl rfl rfl rfl rfl ⟨Nat.le_of_ble_eq_true rfl, Nat.le_of_ble_eq_true rfl⟩ (Nat.le_of_ble_eq_true rfl) ⟨Nat.le_of_ble_eq_true rfl, Nat.le_of_ble_eq_true rfl⟩ dX0_save_39 rfl ?_
  refine w_aload_n X 0 rfl dX0_save_42 ?_
  refine w_aload_n X 0 rfl dX0_save_43 ?_
  refine w_get X 0 0 rfl rfl rfl in_X0 1 (by decide) fk_X0_16 rfl dX0_save_44 ?_
  refine w_st (st2 := [.int (nI 5), .ref (ad 0)]) (by rw [← hk1] <;> rfl) ?_
  refine w_iconst X (nI 5) dX0_save_47 (by decide +kernel) ?_
  refine w_nc_ne X (by omega) (by omega) 55 dX0_save_48 (by decide) (fun c48 => by exfalso; omega) (fun c48 => ?_)
  refine w_iconst X (nI 0) dX0_save_51 (by decide +kernel) ?_
  refine w_goto X 61 dX0_save_52 (by decide) ?_
  refine w_put X 0 0 rfl rfl rfl in_X0 tyX0 tyX0_ok nmX0 1 (by decide) fk_X0_16 rfl rfl rfl rfl (Nat.le_of_ble_eq_true rfl) (show _ = hiC g ad (fun i => had i 0) (rw2 η 1 (fun _ => nI (0))) from rfl) dX0_save_61 ?_
  refine w_aload_n X 0 rfl dX0_save_64 ?_
  refine w_aload_n X 0 rfl dX0_save_65 ?_
  refine w_get X 0 0 rfl rfl rfl in_X0 2 (by decide) fk_X0_24 rfl dX0_save_66 ?_
  refine w_st (st2 := [.int (η 2 0), .ref (ad 0)]) rfl ?_
  refine w_st (st2 := [.int (nI v), .ref (ad 0)]) (by rw [← hv1] <;> rfl) ?_
  refine w_bipush X (nI 6) dX0_save_69 (by decide +kernel) ?_
  refine w_nc_ge X (by omega) (by omega) 83 dX0_save_71 (by decide) (fun c71 => ?_) (fun c71 => ?_)
  · refine w_bipush X (nI 6) dX0_save_83 (by decide +kernel) ?_
    refine w_put X 0 0 rfl rfl rfl in_X0 tyX0 tyX0_ok nmX0 2 (by decide) fk_X0_24 rfl rfl rfl rfl (Nat.le_of_ble_eq_true rfl) (show _ = hiC g ad (fun i => had i 0) (rw2 (rw2 η 1 (fun _ => nI (0))) 2 (fun _ => nI (6))) from rfl) dX0_save_85 ?_
    exact w_vret_mu X (by rw [hiS, svN, if_neg (by omega)]; rfl) (Nat.le_of_ble_eq_true rfl) (Nat.le_of_ble_eq_true rfl) dX0_save_88
  · refine w_aload_n X 0 rfl dX0_save_74 ?_
    refine w_get X 0 0 rfl rfl rfl in_X0 2 (by decide) fk_X0_24 rfl dX0_save_75 ?_
    refine w_st (st2 := [.int (η 2 0), .ref (ad 0)]) rfl ?_
    refine w_st (st2 := [.int (nI v), .ref (ad 0)]) (by rw [← hv1] <;> rfl) ?_
    refine w_iconst X (nI 1) dX0_save_78 (by decide +kernel) ?_
    refine w_iadd_n X dX0_save_79 ?_
    refine w_goto X 85 dX0_save_80 (by decide) ?_
    refine w_put X 0 0 rfl rfl rfl in_X0 tyX0 tyX0_ok nmX0 2 (by decide) fk_X0_24 rfl rfl rfl rfl (Nat.le_of_ble_eq_true rfl) (show _ = hiC g ad (fun i => had i 0) (rw2 (rw2 η 1 (fun _ => nI (0))) 2 (fun _ => nI (v + 1))) from rfl) dX0_save_85 ?_
    exact w_vret_mu X (by rw [hiS, svN, if_pos c71]; rfl) (Nat.le_of_ble_eq_true rfl) (Nat.le_of_ble_eq_true rfl) dX0_save_88
set_option maxRecDepth 100000 in
set_option maxHeartbeats 4000000 in
theorem m_X0_restore_5 (l : Launch) (g : GG) (ad : Nat → Nat) (η : Nat → Nat → Int32) (had : Nat → Nat → Nat) (hσ : Nat → Nat → Nat → Int32) (ad2 : Nat → Nat) (σ : Nat → Nat → Int32) (v : Nat) (hk1 : η 1 0 = nI 5) (hv1 : η 2 0 = nI v) (hv : v ≤ 6) (hv0 : 1 ≤ v) (b0 : fit01 (hσ 4 0) 24) (b5 : fit01 (hσ 4 5) 24) (b6 : fit01 (hσ 4 6) 24) (b8 : fit01 (hσ 4 8) 6) : MMU l g yX0_restore cX0_restore 3 none 2 0 0 [.ref (ad 0), .ref (ad2 0)] [hiC g ad (fun i => had i 0) η, stC g (had 0) (hσ 0), stC g (had 1) (hσ 1), stC g (had 2) (hσ 2), stC g (had 3) (hσ 3), stC g (had 4) (hσ 4), stC g (had 5) (hσ 5), stC g ad2 σ] (none) [hiC g ad (fun i => had i 0) (hiS η 4 (v - 1)), stC g (had 0) (hσ 0), stC g (had 1) (hσ 1), stC g (had 2) (hσ 2), stC g (had 3) (hσ 3), stC g (had 4) (hσ 4), stC g (had 5) (hσ 5), stC g ad2 (hσ 4)] := by
  refine mk_mu (by decide +kernel) (Nat.le_of_ble_eq_true rfl) (fun p e s m below meth c A hA X => ?_)
  refine w_aload_n X 0 rfl dX0_restore_0 ?_
  refine w_get X 0 0 rfl rfl rfl in_X0 1 (by decide) fk_X0_16 rfl dX0_restore_1 ?_
  refine w_st (st2 := [.int (nI 5)]) (by rw [← hk1] <;> rfl) ?_
  refine w_nf_ne X (by omega) 11 dX0_restore_4 (by decide) (fun c4 => ?_) (fun c4 => by exfalso; omega)
  refine w_aload_n X 0 rfl dX0_restore_11 ?_
  refine w_get X 0 0 rfl rfl rfl in_X0 1 (by decide) fk_X0_16 rfl dX0_restore_12 ?_
  refine w_st (st2 := [.int (nI 5)]) (by rw [← hk1] <;> rfl) ?_
  refine w_iconst X (nI 1) dX0_restore_15 (by decide +kernel) ?_
  refine w_isub_n X (by omega) dX0_restore_16 ?_
  refine w_istore_n X dX0_restore_17 (by decide) ?_
  refine w_aload_n X 1 rfl dX0_restore_18 ?_
  refine w_get X 0 0 rfl rfl rfl in_X0 2 (by decide) fk_X0_24 rfl dX0_restore_19 ?_
  refine w_st (st2 := [.int (nI v)]) (by rw [← hv1] <;> rfl) ?_
  refine w_if_le X 44 dX0_restore_22 (by decide) (fun c22 => by exfalso; exact absurd c22 (nI_nle (by omega) (by omega))) (fun c22 => ?_)
  refine w_iload_n X 0 rfl dX0_restore_25 ?_
  refine w_if_lt X 44 dX0_restore_26 (by decide) (fun c26 => by exfalso; exact absurd c26 (by decide)) (fun c26 => ?_)
  refine w_iload_n X 0 rfl dX0_restore_29 ?_
  refine w_bipush X (nI 6) dX0_restore_30 (by decide +kernel) ?_
  refine w_nc_ge X (by omega) (by omega) 44 dX0_restore_32 (by decide) (fun c32 => by exfalso; omega) (fun c32 => ?_)
  refine w_aload_n X 1 rfl dX0_restore_35 ?_
  refine w_get X 0 0 rfl rfl rfl in_X0 0 (by decide) fk_X0_11 rfl dX0_restore_36 ?_
  refine w_iload_n X 0 rfl dX0_restore_39 ?_
  refine w_aald (f := fun i => some ((fun i => had i 0) i)) X 0 1 2 rfl rfl rfl (by omega) (by decide) rfl dX0_restore_40 ?_
  refine w_ifnonnull X 45 dX0_restore_41 (by decide) ?_
  refine w_aload_n X 2 rfl dX0_restore_45 ?_
  refine w_aload_n X 1 rfl dX0_restore_46 ?_
  refine w_get X 0 0 rfl rfl rfl in_X0 0 (by decide) fk_X0_11 rfl dX0_restore_47 ?_
  refine w_iload_n X 0 rfl dX0_restore_50 ?_
  refine w_aald (f := fun i => some ((fun i => had i 0) i)) X 0 1 2 rfl rfl rfl (by omega) (by decide) rfl dX0_restore_51 ?_
  refine w_muV X hA (gr := [hiC g ad (fun i => had i 0) η, stC g (had 0) (hσ 0), stC g (had 1) (hσ 1), stC g (had 2) (hσ 2), stC g (had 3) (hσ 3), stC g (had 5) (hσ 5)]) (gs1 := [hiC g ad (fun i => had i 0) η, stC g (had 0) (hσ 0), stC g (had 1) (hσ 1), stC g (had 2) (hσ 2), stC g (had 3) (hσ 3), stC g (had 4) (hσ 4), stC g (had 5) (hσ 5), stC g ad2 (hσ 4)]) [7, 5] [0, 1, 2, 3, 4, 6] 7 0 (m_X3_copyFrom l g ad2 σ (had 4) (hσ 4) (b0) (b5) (b6) (b8)) cv_X3_copyFrom mk_X0_20 rfl rfl rfl (ng := 8) rfl (by decide) rfl rfl rfl rfl rfl rfl ⟨Nat.le_of_ble_eq_true rfl, Nat.le_of_ble_eq_true rfl⟩ (Nat.le_of_ble_eq_true rfl) ⟨Nat.le_of_ble_eq_true rfl, Nat.le_of_ble_eq_true rfl⟩ dX0_restore_52 rfl ?_
  generalize hn1 : (hσ 4) = σv1
  refine w_aload_n X 1 rfl dX0_restore_55 ?_
  refine w_iload_n X 0 rfl dX0_restore_56 ?_
  refine w_put X 0 0 rfl rfl rfl in_X0 tyX0 tyX0_ok nmX0 1 (by decide) fk_X0_16 rfl rfl rfl rfl (Nat.le_of_ble_eq_true rfl) (show _ = hiC g ad (fun i => had i 0) (rw2 η 1 (fun _ => nI (4))) from rfl) dX0_restore_57 ?_
  refine w_aload_n X 1 rfl dX0_restore_60 ?_
  refine w_dup X dX0_restore_61 rfl ?_
  refine w_get X 0 0 rfl rfl rfl in_X0 2 (by decide) fk_X0_24 rfl dX0_restore_62 ?_
  refine w_st (st2 := [.int (η 2 0), .ref (ad 0)]) rfl ?_
  refine w_st (st2 := [.int (nI v), .ref (ad 0)]) (by rw [← hv1] <;> rfl) ?_
  refine w_iconst X (nI 1) dX0_restore_65 (by decide +kernel) ?_
  refine w_isub_n X (by omega) dX0_restore_66 ?_
  refine w_put X 0 0 rfl rfl rfl in_X0 tyX0 tyX0_ok nmX0 2 (by decide) fk_X0_24 rfl rfl rfl rfl (Nat.le_of_ble_eq_true rfl) (show _ = hiC g ad (fun i => had i 0) (rw2 (rw2 η 1 (fun _ => nI (4))) 2 (fun _ => nI (v - 1))) from rfl) dX0_restore_67 ?_
  exact w_vret_mu X (rfl) (Nat.le_of_ble_eq_true rfl) (Nat.le_of_ble_eq_true rfl) dX0_restore_70
/-- save, for every place of the next one -/
def hiW (g : GG) (ad : Nat → Nat) (had : Nat → Nat → Nat) (hσ : Nat → Nat → Nat → Int32) (η : Nat → Nat → Int32) : List va_W := [hiC g ad (fun i => had i 0) η, stC g (had 0) (hσ 0), stC g (had 1) (hσ 1), stC g (had 2) (hσ 2), stC g (had 3) (hσ 3), stC g (had 4) (hσ 4), stC g (had 5) (hσ 5)]
theorem m_X0_save (l : Launch) (g : GG) (ad : Nat → Nat) (η : Nat → Nat → Int32) (had : Nat → Nat → Nat) (hσ : Nat → Nat → Nat → Int32) (ad2 : Nat → Nat) (σ : Nat → Nat → Int32) (k v : Nat) (hk : k < 6) (hk1 : η 1 0 = nI k) (hv1 : η 2 0 = nI v) (hv : v ≤ 6) (b0 : fit01 (σ 0) 24) (b5 : fit01 (σ 5) 24) (b6 : fit01 (σ 6) 24) (b8 : fit01 (σ 8) 6) : MMU l g yX0_save cX0_save 2 none 2 0 0 [.ref (ad 0), .ref (ad2 0)] (hiW g ad had hσ η ++ [stC g ad2 σ]) none (hiW g ad had (rw2 hσ k σ) (hiS η (nxN k) (svN v)) ++ [stC g ad2 σ]) := by
  rcases (show k = 0 ∨ k = 1 ∨ k = 2 ∨ k = 3 ∨ k = 4 ∨ k = 5 by omega) with h | h | h | h | h | h <;> subst h
  · exact m_X0_save_0 l g ad η had hσ ad2 σ v hk1 hv1 hv b0 b5 b6 b8
  · exact m_X0_save_1 l g ad η had hσ ad2 σ v hk1 hv1 hv b0 b5 b6 b8
  · exact m_X0_save_2 l g ad η had hσ ad2 σ v hk1 hv1 hv b0 b5 b6 b8
  · exact m_X0_save_3 l g ad η had hσ ad2 σ v hk1 hv1 hv b0 b5 b6 b8
  · exact m_X0_save_4 l g ad η had hσ ad2 σ v hk1 hv1 hv b0 b5 b6 b8
  · exact m_X0_save_5 l g ad η had hσ ad2 σ v hk1 hv1 hv b0 b5 b6 b8
theorem m_X0_restore (l : Launch) (g : GG) (ad : Nat → Nat) (η : Nat → Nat → Int32) (had : Nat → Nat → Nat) (hσ : Nat → Nat → Nat → Int32) (ad2 : Nat → Nat) (σ : Nat → Nat → Int32) (k v : Nat) (hk : k < 6) (hk1 : η 1 0 = nI k) (hv1 : η 2 0 = nI v) (hv : v ≤ 6) (hv0 : 1 ≤ v) (b0 : fit01 (hσ (ltN k) 0) 24) (b5 : fit01 (hσ (ltN k) 5) 24) (b6 : fit01 (hσ (ltN k) 6) 24) (b8 : fit01 (hσ (ltN k) 8) 6) : MMU l g yX0_restore cX0_restore 3 none 2 0 0 [.ref (ad 0), .ref (ad2 0)] (hiW g ad had hσ η ++ [stC g ad2 σ]) none (hiW g ad had hσ (hiS η (ltN k) (v - 1)) ++ [stC g ad2 (hσ (ltN k))]) := by
  rcases (show k = 0 ∨ k = 1 ∨ k = 2 ∨ k = 3 ∨ k = 4 ∨ k = 5 by omega) with h | h | h | h | h | h <;> subst h
  · exact m_X0_restore_0 l g ad η had hσ ad2 σ v hk1 hv1 hv hv0 b0 b5 b6 b8
  · exact m_X0_restore_1 l g ad η had hσ ad2 σ v hk1 hv1 hv hv0 b0 b5 b6 b8
  · exact m_X0_restore_2 l g ad η had hσ ad2 σ v hk1 hv1 hv hv0 b0 b5 b6 b8
  · exact m_X0_restore_3 l g ad η had hσ ad2 σ v hk1 hv1 hv hv0 b0 b5 b6 b8
  · exact m_X0_restore_4 l g ad η had hσ ad2 σ v hk1 hv1 hv hv0 b0 b5 b6 b8
  · exact m_X0_restore_5 l g ad η had hσ ad2 σ v hk1 hv1 hv hv0 b0 b5 b6 b8
