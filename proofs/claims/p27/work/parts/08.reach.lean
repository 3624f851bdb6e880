/-! Reach -/
theorem ix_inl {x : Int32} {n : Nat} (hn : n < 2 ^ 31) (h0 : ¬ x < 0) (h1 : x < nI n) : vp_in x n := by
  obtain ⟨j, hj, rfl⟩ := ix_lt hn h0 h1
  exact vp_in_nI hj hn
def metB (ρ : Nat → Nat → Int32) (x : Int32) : Bool := if x < 0 then false else if nI 24 ≤ x then false else if ρ 1 x.toNatClampNeg = -1 then false else true
def plI (ρ : Nat → Nat → Int32) (x : Int32) : Int32 := if x < 0 then -1 else if nI 24 ≤ x then -1 else ρ 1 x.toNatClampNeg
def stepI (ρ : Nat → Nat → Int32) (x : Int32) : Int32 := if x < 0 then -1 else if nI 24 ≤ x then -1 else ρ 2 x.toNatClampNeg
def meetW (ρ : Nat → Nat → Int32) (x s : Int32) : Nat → Nat → Int32 := rw2 (rw2 (rw2 (rw2 ρ 0 (upd (ρ 0) (ρ 3 0).toNatClampNeg x)) 1 (upd (ρ 1) x.toNatClampNeg (ρ 3 0))) 2 (upd (ρ 2) x.toNatClampNeg s)) 3 (fun _ => ρ 3 0 + nI 1)
def meetR (ρ : Nat → Nat → Int32) (x s : Int32) : Nat → Nat → Int32 := if x < 0 then ρ else if nI 24 ≤ x then ρ else if ρ 3 0 < 0 then ρ else if ρ 3 0 < nI 24 then (if ρ 1 x.toNatClampNeg = -1 then meetW ρ x s else ρ) else ρ
def forgetL (ρ : Nat → Nat → Int32) : Nat → Nat → Nat → Int32
  | 0 => rw2 ρ 3 (fun _ => nI 0)
  | n + 1 => rw2 (rw2 (forgetL ρ n) 1 (upd (forgetL ρ n 1) n (-1))) 2 (upd (forgetL ρ n 2) n (-1))
def sarL (σ ρ : Nat → Nat → Int32) (w : Int32) : Nat → Nat → Nat → Int32
  | 0 => forgetL ρ 24
  | n + 1 => if nI n = w then sarL σ ρ w n else if hasB σ (nI n) = false then sarL σ ρ w n else if σ 5 n = 0 then sarL σ ρ w n else meetR (sarL σ ρ w n) (nI n) (nI 0)
def fol1 (σ : Nat → Nat → Int32) (a w : Int32) (ρ : Nat → Nat → Int32) (h s : Int32) (f : Nat) : Nat → Nat → Int32 :=
  if refI σ h (nI f) = w then ρ else if a = -1 then meetR ρ (refI σ h (nI f)) s else if isInB σ (refI σ h (nI f)) a = false then ρ else meetR ρ (refI σ h (nI f)) s
def folS (σ : Nat → Nat → Int32) (a w : Int32) (ρ : Nat → Nat → Int32) (i : Nat) : Nat → Nat → Int32 :=
  fol1 σ a w (fol1 σ a w ρ (ρ 0 i) (stepI ρ (ρ 0 i) + nI 1) 0) (ρ 0 i) (stepI ρ (ρ 0 i) + nI 1) 1
def folL (σ : Nat → Nat → Int32) (a w : Int32) : Nat → Nat → (Nat → Nat → Int32) → Nat → Nat → Int32
  | 0, _, ρ => ρ
  | n + 1, i, ρ => if ρ 3 0 ≤ nI i then ρ else folL σ a w n (i + 1) (folS σ a w ρ i)
def cellsL (σ ρ : Nat → Nat → Int32) : Nat → Int32
  | 0 => nI 0
  | n + 1 => if metB ρ (nI n) = false then cellsL σ ρ n else cellsL σ ρ n + σ 3 n
set_option maxRecDepth 100000 in
set_option maxHeartbeats 4000000 in
theorem m_X1_hasMet (l : Launch) (g : GG) (ad : Nat → Nat) (ρ : Nat → Nat → Int32) (x : Int32) : MRO l g yX1_hasMet cX1_hasMet 2 (some .boolean) 0 [.ref (ad 0), .int (x)] [rcC g ad ρ] (some (.int (bI (metB ρ x)))) := by
  refine mk_ro (by decide +kernel) (Nat.le_of_ble_eq_true rfl) (fun p e s m below meth c X => ?_)
  refine w_iload_n X 1 rfl dX1_hasMet_0 ?_
  refine w_if_lt X 24 dX1_hasMet_1 (by decide) (fun c1 => ?_) (fun c1 => ?_)
  · refine w_iconst X (nI 0) dX1_hasMet_24 (by decide +kernel) ?_
    exact w_zret_ro X (by first | rfl | (subst he_i; rfl) | simp (decide := true) [metB, c1, bI]) (rfl) dX1_hasMet_25
  · refine w_iload_n X 1 rfl dX1_hasMet_4 ?_
    refine w_bipush X (nI 24) dX1_hasMet_5 (by decide +kernel) ?_
    refine w_ic_ge X 24 dX1_hasMet_7 (by decide) (fun c7 => ?_) (fun c7 => ?_)
    · refine w_iconst X (nI 0) dX1_hasMet_24 (by decide +kernel) ?_
      exact w_zret_ro X (by first | rfl | (subst he_i; rfl) | simp (decide := true) [metB, c1, c7, bI]) (rfl) dX1_hasMet_25
    · refine w_aload_n X 0 rfl dX1_hasMet_10 ?_
      refine w_get X 0 0 rfl rfl rfl in_X1 1 (by decide) fk_X1_15 rfl dX1_hasMet_11 ?_
      refine w_iload_n X 1 rfl dX1_hasMet_14 ?_
      refine w_iald X 0 2 0 rfl rfl rfl (ix_in (by decide) c1 c7) dX1_hasMet_15 ?_
      refine w_iconst X (-1) dX1_hasMet_16 (by decide +kernel) ?_
      refine w_ic_eq X 24 dX1_hasMet_17 (by decide) (fun c17 => ?_) (fun c17 => ?_)
      · refine w_iconst X (nI 0) dX1_hasMet_24 (by decide +kernel) ?_
        exact w_zret_ro X (by first | rfl | (subst he_i; rfl) | simp (decide := true) [metB, c1, c7, c17, bI]) (rfl) dX1_hasMet_25
      · refine w_iconst X (nI 1) dX1_hasMet_20 (by decide +kernel) ?_
        refine w_goto X 25 dX1_hasMet_21 (by decide) ?_
        exact w_zret_ro X (by first | rfl | (subst he_i; rfl) | simp (decide := true) [metB, c1, c7, c17, bI]) (rfl) dX1_hasMet_25
set_option maxRecDepth 100000 in
set_option maxHeartbeats 4000000 in
theorem m_X1_placeOf (l : Launch) (g : GG) (ad : Nat → Nat) (ρ : Nat → Nat → Int32) (x : Int32) : MRO l g yX1_placeOf cX1_placeOf 2 (some .int) 0 [.ref (ad 0), .int (x)] [rcC g ad ρ] (some (.int (plI ρ x))) := by
  refine mk_ro (by decide +kernel) (Nat.le_of_ble_eq_true rfl) (fun p e s m below meth c X => ?_)
  refine w_iload_n X 1 rfl dX1_placeOf_0 ?_
  refine w_if_lt X 19 dX1_placeOf_1 (by decide) (fun c1 => ?_) (fun c1 => ?_)
  · refine w_iconst X (-1) dX1_placeOf_19 (by decide +kernel) ?_
    exact w_iret_ro X (by first | rfl | (subst he_i; rfl) | simp (decide := true) [plI, c1, bI]) dX1_placeOf_20
  · refine w_iload_n X 1 rfl dX1_placeOf_4 ?_
    refine w_bipush X (nI 24) dX1_placeOf_5 (by decide +kernel) ?_
    refine w_ic_ge X 19 dX1_placeOf_7 (by decide) (fun c7 => ?_) (fun c7 => ?_)
    · refine w_iconst X (-1) dX1_placeOf_19 (by decide +kernel) ?_
      exact w_iret_ro X (by first | rfl | (subst he_i; rfl) | simp (decide := true) [plI, c1, c7, bI]) dX1_placeOf_20
    · refine w_aload_n X 0 rfl dX1_placeOf_10 ?_
      refine w_get X 0 0 rfl rfl rfl in_X1 1 (by decide) fk_X1_15 rfl dX1_placeOf_11 ?_
      refine w_iload_n X 1 rfl dX1_placeOf_14 ?_
      refine w_iald X 0 2 0 rfl rfl rfl (ix_in (by decide) c1 c7) dX1_placeOf_15 ?_
      refine w_goto X 20 dX1_placeOf_16 (by decide) ?_
      exact w_iret_ro X (by first | rfl | (subst he_i; rfl) | simp (decide := true) [plI, c1, c7, bI]) dX1_placeOf_20
set_option maxRecDepth 100000 in
set_option maxHeartbeats 4000000 in
theorem m_X1_stepsTo (l : Launch) (g : GG) (ad : Nat → Nat) (ρ : Nat → Nat → Int32) (x : Int32) : MRO l g yX1_stepsTo cX1_stepsTo 2 (some .int) 0 [.ref (ad 0), .int (x)] [rcC g ad ρ] (some (.int (stepI ρ x))) := by
  refine mk_ro (by decide +kernel) (Nat.le_of_ble_eq_true rfl) (fun p e s m below meth c X => ?_)
  refine w_iload_n X 1 rfl dX1_stepsTo_0 ?_
  refine w_if_lt X 19 dX1_stepsTo_1 (by decide) (fun c1 => ?_) (fun c1 => ?_)
  · refine w_iconst X (-1) dX1_stepsTo_19 (by decide +kernel) ?_
    exact w_iret_ro X (by first | rfl | (subst he_i; rfl) | simp (decide := true) [stepI, c1, bI]) dX1_stepsTo_20
  · refine w_iload_n X 1 rfl dX1_stepsTo_4 ?_
    refine w_bipush X (nI 24) dX1_stepsTo_5 (by decide +kernel) ?_
    refine w_ic_ge X 19 dX1_stepsTo_7 (by decide) (fun c7 => ?_) (fun c7 => ?_)
    · refine w_iconst X (-1) dX1_stepsTo_19 (by decide +kernel) ?_
      exact w_iret_ro X (by first | rfl | (subst he_i; rfl) | simp (decide := true) [stepI, c1, c7, bI]) dX1_stepsTo_20
    · refine w_aload_n X 0 rfl dX1_stepsTo_10 ?_
      refine w_get X 0 0 rfl rfl rfl in_X1 2 (by decide) fk_X1_18 rfl dX1_stepsTo_11 ?_
      refine w_iload_n X 1 rfl dX1_stepsTo_14 ?_
      refine w_iald X 0 3 0 rfl rfl rfl (ix_in (by decide) c1 c7) dX1_stepsTo_15 ?_
      refine w_goto X 20 dX1_stepsTo_16 (by decide) ?_
      exact w_iret_ro X (by first | rfl | (subst he_i; rfl) | simp (decide := true) [stepI, c1, c7, bI]) dX1_stepsTo_20
set_option maxRecDepth 100000 in
set_option maxHeartbeats 4000000 in
theorem m_X1_meet (l : Launch) (g : GG) (ad : Nat → Nat) (ρ : Nat → Nat → Int32) (x : Int32) (q : Int32) : MMU l g yX1_meet cX1_meet 3 none 0 0 0 [.ref (ad 0), .int (x), .int (q)] [rcC g ad ρ] (none) [rcC g ad (meetR ρ x q)] := by
  refine mk_mu (by decide +kernel) (Nat.le_of_ble_eq_true rfl) (fun p e s m below meth c A hA X => ?_)
  refine w_iload_n X 1 rfl dX1_meet_0 ?_
  refine w_if_lt X 26 dX1_meet_1 (by decide) (fun c1 => ?_) (fun c1 => ?_)
  · exact w_vret_mu X (by rw [meetR, if_pos c1]) (Nat.le_of_ble_eq_true rfl) (Nat.le_of_ble_eq_true rfl) dX1_meet_26
  · refine w_iload_n X 1 rfl dX1_meet_4 ?_
    refine w_bipush X (nI 24) dX1_meet_5 (by decide +kernel) ?_
    refine w_ic_ge X 26 dX1_meet_7 (by decide) (fun c7 => ?_) (fun c7 => ?_)
    · exact w_vret_mu X (by rw [meetR, if_neg c1, if_pos c7]) (Nat.le_of_ble_eq_true rfl) (Nat.le_of_ble_eq_true rfl) dX1_meet_26
    · refine w_aload_n X 0 rfl dX1_meet_10 ?_
      refine w_get X 0 0 rfl rfl rfl in_X1 3 (by decide) fk_X1_21 rfl dX1_meet_11 ?_
      refine w_if_lt X 26 dX1_meet_14 (by decide) (fun c14 => ?_) (fun c14 => ?_)
      · exact w_vret_mu X (by rw [meetR, if_neg c1, if_neg c7, if_pos c14]) (Nat.le_of_ble_eq_true rfl) (Nat.le_of_ble_eq_true rfl) dX1_meet_26
      · refine w_aload_n X 0 rfl dX1_meet_17 ?_
        refine w_get X 0 0 rfl rfl rfl in_X1 3 (by decide) fk_X1_21 rfl dX1_meet_18 ?_
        refine w_bipush X (nI 24) dX1_meet_21 (by decide +kernel) ?_
        refine w_ic_lt X 27 dX1_meet_23 (by decide) (fun c23 => ?_) (fun c23 => ?_)
        · obtain ⟨k, hk, hk2⟩ := ix_lt (n := 24) (by decide) c14 c23
          obtain ⟨j, hj, rfl⟩ := ix_of (n := 24) (by decide) c1 c7
          refine w_aload_n X 0 rfl dX1_meet_27 ?_
          refine w_get X 0 0 rfl rfl rfl in_X1 1 (by decide) fk_X1_15 rfl dX1_meet_28 ?_
          refine w_iload_n X 1 rfl dX1_meet_31 ?_
          refine w_iald_n X 0 2 0 rfl rfl rfl (by omega) (by decide) dX1_meet_32 ?_
          refine w_iconst X (-1) dX1_meet_33 (by decide +kernel) ?_
          refine w_ic_ne X 74 dX1_meet_34 (by decide) (fun c34 => ?_) (fun c34 => ?_)
          · exact w_vret_mu X (by rw [meetR, if_neg c1, if_neg c7, if_neg c14, if_pos c23, nI_clamp (show j < 2 ^ 31 by omega), if_neg c34]) (Nat.le_of_ble_eq_true rfl) (Nat.le_of_ble_eq_true rfl) dX1_meet_74
          · refine w_aload_n X 0 rfl dX1_meet_37 ?_
            refine w_get X 0 0 rfl rfl rfl in_X1 0 (by decide) fk_X1_9 rfl dX1_meet_38 ?_
            refine w_aload_n X 0 rfl dX1_meet_41 ?_
            refine w_get X 0 0 rfl rfl rfl in_X1 3 (by decide) fk_X1_21 rfl dX1_meet_42 ?_
            refine w_st (st2 := [.int (nI k), .ref (ad 1)]) (by rw [← hk2] <;> rfl) ?_
            refine w_iload_n X 1 rfl dX1_meet_45 ?_
            refine w_iast_n X 0 1 0 rfl rfl rfl (by omega) (by decide) (show _ = rcC g ad (rw2 ρ 0 (upd (ρ 0) k (nI (j)))) from rfl) dX1_meet_46 ?_
            refine w_aload_n X 0 rfl dX1_meet_47 ?_
            refine w_get X 0 0 rfl rfl rfl in_X1 1 (by decide) fk_X1_15 rfl dX1_meet_48 ?_
            refine w_iload_n X 1 rfl dX1_meet_51 ?_
            refine w_aload_n X 0 rfl dX1_meet_52 ?_
            refine w_get X 0 0 rfl rfl rfl in_X1 3 (by decide) fk_X1_21 rfl dX1_meet_53 ?_
            refine w_st (st2 := [.int (ρ 3 0), .int (nI j), .ref (ad 2)]) rfl ?_
            refine w_st (st2 := [.int (nI k), .int (nI j), .ref (ad 2)]) (by rw [← hk2] <;> rfl) ?_
            refine w_iast_n X 0 2 0 rfl rfl rfl (by omega) (by decide) (show _ = rcC g ad (rw2 (rw2 ρ 0 (upd (ρ 0) k (nI (j)))) 1 (upd (ρ 1) j (nI (k)))) from rfl) dX1_meet_56 ?_
            refine w_aload_n X 0 rfl dX1_meet_57 ?_
            refine w_get X 0 0 rfl rfl rfl in_X1 2 (by decide) fk_X1_18 rfl dX1_meet_58 ?_
            refine w_iload_n X 1 rfl dX1_meet_61 ?_
            refine w_iload_n X 2 rfl dX1_meet_62 ?_
            refine w_iast_n X 0 3 0 rfl rfl rfl (by omega) (by decide) (show _ = rcC g ad (rw2 (rw2 (rw2 ρ 0 (upd (ρ 0) k (nI (j)))) 1 (upd (ρ 1) j (nI (k)))) 2 (upd (ρ 2) j ((q)))) from rfl) dX1_meet_63 ?_
            refine w_aload_n X 0 rfl dX1_meet_64 ?_
            refine w_dup X dX1_meet_65 rfl ?_
            refine w_get X 0 0 rfl rfl rfl in_X1 3 (by decide) fk_X1_21 rfl dX1_meet_66 ?_
            refine w_st (st2 := [.int (ρ 3 0), .ref (ad 0)]) rfl ?_
            refine w_st (st2 := [.int (nI k), .ref (ad 0)]) (by rw [← hk2] <;> rfl) ?_
            refine w_iconst X (nI 1) dX1_meet_69 (by decide +kernel) ?_
            refine w_iadd_n X dX1_meet_70 ?_
            refine w_put X 0 0 rfl rfl rfl in_X1 tyX1 tyX1_ok nmX1 3 (by decide) fk_X1_21 rfl rfl rfl rfl (Nat.le_of_ble_eq_true rfl) (show _ = rcC g ad (rw2 (rw2 (rw2 (rw2 ρ 0 (upd (ρ 0) k (nI (j)))) 1 (upd (ρ 1) j (nI (k)))) 2 (upd (ρ 2) j ((q)))) 3 (fun _ => nI (k + 1))) from rfl) dX1_meet_71 ?_
            exact w_vret_mu X (by rw [meetR, if_neg c1, if_neg c7, if_neg c14, if_pos c23, nI_clamp (show j < 2 ^ 31 by omega), if_pos c34, meetW, hk2, nI_clamp (show j < 2 ^ 31 by omega), nI_clamp (show k < 2 ^ 31 by omega), nI_add]; rfl) (Nat.le_of_ble_eq_true rfl) (Nat.le_of_ble_eq_true rfl) dX1_meet_74
        · exact w_vret_mu X (by rw [meetR, if_neg c1, if_neg c7, if_neg c14, if_neg c23]) (Nat.le_of_ble_eq_true rfl) (Nat.le_of_ble_eq_true rfl) dX1_meet_26
set_option maxRecDepth 100000 in
set_option maxHeartbeats 4000000 in
theorem m_X1_forget (l : Launch) (g : GG) (ad : Nat → Nat) (ρ : Nat → Nat → Int32) : MMU l g yX1_forget cX1_forget 2 none 0 0 0 [.ref (ad 0)] [rcC g ad ρ] (none) [rcC g ad (forgetL ρ 24)] := by
  refine mk_mu (by decide +kernel) (Nat.le_of_ble_eq_true rfl) (fun p e s m below meth c A hA X => ?_)
  refine w_aload_n X 0 rfl dX1_forget_0 ?_
  refine w_iconst X (nI 0) dX1_forget_1 (by decide +kernel) ?_
  refine w_put X 0 0 rfl rfl rfl in_X1 tyX1 tyX1_ok nmX1 3 (by decide) fk_X1_21 rfl rfl rfl rfl (Nat.le_of_ble_eq_true rfl) (show _ = rcC g ad (rw2 ρ 3 (fun _ => nI (0))) from rfl) dX1_forget_2 ?_
  refine w_iconst X (nI 0) dX1_forget_5 (by decide +kernel) ?_
  refine w_istore_n X dX1_forget_6 (by decide) ?_
  refine w_all [1, 0] (rfl) (rfl) rfl (w_loop (st := []) (pc := 7) X (V := Nat) (fun (i : Nat) => 24 - i) (fun (i : Nat) => (i ≤ 24)) (fun (i : Nat) => [(0, .ref (ad 0)), (1, .int (nI i))]) (fun (i : Nat) => [rcC g ad (forgetL ρ i)]) (fun i hv7 ih7 => ?_) 0 (by omega))
  have hi := hv7
  try dsimp only at ih7 ⊢
  refine w_iload_n X 1 rfl dX1_forget_7 ?_
  refine w_bipush X (nI 24) dX1_forget_8 (by decide +kernel) ?_
  refine w_nc_ge X (by omega) (by omega) 33 dX1_forget_10 (by decide) (fun c10 => ?_) (fun c10 => ?_)
  · have he_i : i = 24 := by omega
    exact w_vret_mu X (by rw [he_i]) (Nat.le_of_ble_eq_true rfl) (Nat.le_of_ble_eq_true rfl) dX1_forget_33
  · refine w_aload_n X 0 rfl dX1_forget_13 ?_
    refine w_get X 0 0 rfl rfl rfl in_X1 1 (by decide) fk_X1_15 rfl dX1_forget_14 ?_
    refine w_iload_n X 1 rfl dX1_forget_17 ?_
    refine w_iconst X (-1) dX1_forget_18 (by decide +kernel) ?_
    refine w_iast_n X 0 2 0 rfl rfl rfl (by omega) (by decide) (show _ = rcC g ad (rw2 (forgetL ρ i) 1 (upd ((forgetL ρ i) 1) i ((-1)))) from rfl) dX1_forget_19 ?_
    refine w_aload_n X 0 rfl dX1_forget_20 ?_
    refine w_get X 0 0 rfl rfl rfl in_X1 2 (by decide) fk_X1_18 rfl dX1_forget_21 ?_
    refine w_iload_n X 1 rfl dX1_forget_24 ?_
    refine w_iconst X (-1) dX1_forget_25 (by decide +kernel) ?_
    refine w_iast_n X 0 3 0 rfl rfl rfl (by omega) (by decide) (show _ = rcC g ad (rw2 (rw2 (forgetL ρ i) 1 (upd ((forgetL ρ i) 1) i ((-1)))) 2 (upd ((forgetL ρ i) 2) i ((-1)))) from rfl) dX1_forget_26 ?_
    refine w_iinc X (nI (i + 1)) 1 rfl (nI_1 _) dX1_forget_27 (by decide) ?_
    refine w_goto X 7 dX1_forget_30 (by decide) ?_
    exact w_all [1, 0] (rfl) (rfl) rfl (ih7 (i + 1) (by omega) (by omega))
set_option maxRecDepth 100000 in
set_option maxHeartbeats 4000000 in
theorem m_X1_startAtRoots (l : Launch) (g : GG) (ad : Nat → Nat) (ρ : Nat → Nat → Int32) (ad2 : Nat → Nat) (σ : Nat → Nat → Int32) (w : Int32) : MMU l g yX1_startAtRoots cX1_startAtRoots 4 none 1 0 0 [.ref (ad 0), .ref (ad2 0), .int (w)] [rcC g ad ρ, stC g ad2 σ] (none) [rcC g ad (sarL σ ρ w 24), stC g ad2 σ] := by
  refine mk_mu (by decide +kernel) (Nat.le_of_ble_eq_true rfl) (fun p e s m below meth c A hA X => ?_)
  refine w_aload_n X 0 rfl dX1_startAtRoots_0 ?_
  refine w_muV X hA (gr := [stC g ad2 σ]) (gs1 := [rcC g ad (forgetL ρ 24), stC g ad2 σ]) [0] [1] 0 0 (m_X1_forget l g ad ρ) cv_X1_forget mk_X1_25 rfl rfl rfl (ng := 2) rfl (by decide) rfl rfl rfl rfl rfl rfl ⟨Nat.le_of_ble_eq_true rfl, Nat.le_of_ble_eq_true rfl⟩ (Nat.le_of_ble_eq_true rfl) ⟨Nat.le_of_ble_eq_true rfl, Nat.le_of_ble_eq_true rfl⟩ dX1_startAtRoots_1 rfl ?_
  generalize hn1 : forgetL ρ 24 = ρv1
  refine w_iconst X (nI 0) dX1_startAtRoots_4 (by decide +kernel) ?_
  refine w_istore_n X dX1_startAtRoots_5 (by decide) ?_
  refine w_all [1, 2, 3, 0] (rfl) (by subst hn1;  rw [sarL]) rfl (w_loop (st := []) (pc := 6) X (V := Nat) (fun (i : Nat) => 24 - i) (fun (i : Nat) => (i ≤ 24)) (fun (i : Nat) => [(0, .ref (ad 0)), (1, .ref (ad2 0)), (2, .int (w)), (3, .int (nI i))]) (fun (i : Nat) => [rcC g ad (sarL σ ρ w i), stC g ad2 σ]) (fun i hv6 ih6 => ?_) 0 (by omega))
  have hi := hv6
  try dsimp only at ih6 ⊢
  refine w_iload_n X 3 rfl dX1_startAtRoots_6 ?_
  refine w_bipush X (nI 24) dX1_startAtRoots_7 (by decide +kernel) ?_
  refine w_nc_ge X (by omega) (by omega) 46 dX1_startAtRoots_9 (by decide) (fun c9 => ?_) (fun c9 => ?_)
  · have he_i : i = 24 := by omega
    exact w_vret_mu X (by rw [he_i]) (Nat.le_of_ble_eq_true rfl) (Nat.le_of_ble_eq_true rfl) dX1_startAtRoots_46
  · refine w_iload_n X 3 rfl dX1_startAtRoots_12 ?_
    refine w_iload_n X 2 rfl dX1_startAtRoots_13 ?_
    refine w_ic_eq X 40 dX1_startAtRoots_14 (by decide) (fun c14 => ?_) (fun c14 => ?_)
    · refine w_iinc X (nI (i + 1)) 3 rfl (nI_1 _) dX1_startAtRoots_40 (by decide) ?_
      refine w_goto X 6 dX1_startAtRoots_43 (by decide) ?_
      exact w_all [1, 2, 3, 0] (rfl) (by subst hn1;  simp [sarL, c9, c14]) rfl (ih6 (i + 1) (by omega) (by omega))
    · refine w_aload_n X 1 rfl dX1_startAtRoots_17 ?_
      refine w_iload_n X 3 rfl dX1_startAtRoots_18 ?_
      refine w_roV X [1] 1 0 (m_X3_has l g ad2 σ (nI (i))) cv_X3_has mk_X1_28 rfl rfl rfl rfl rfl ⟨Nat.le_of_ble_eq_true rfl, Nat.le_of_ble_eq_true rfl⟩ (Nat.le_of_ble_eq_true rfl) ⟨Nat.le_of_ble_eq_true rfl, Nat.le_of_ble_eq_true rfl⟩ dX1_startAtRoots_19 rfl ?_
      refine w_bf_eq X 40 dX1_startAtRoots_22 (by decide) (fun c22 => ?_) (fun c22 => ?_)
      · refine w_iinc X (nI (i + 1)) 3 rfl (nI_1 _) dX1_startAtRoots_40 (by decide) ?_
        refine w_goto X 6 dX1_startAtRoots_43 (by decide) ?_
        exact w_all [1, 2, 3, 0] (rfl) (by subst hn1;  simp [sarL, c9, c14, c22]) rfl (ih6 (i + 1) (by omega) (by omega))
      · refine w_aload_n X 1 rfl dX1_startAtRoots_25 ?_
        refine w_get X 1 0 rfl rfl rfl in_X3 5 (by decide) fk_X1_34 rfl dX1_startAtRoots_26 ?_
        refine w_iload_n X 3 rfl dX1_startAtRoots_29 ?_
        refine w_zald_n X 1 6 1 rfl rfl rfl (by omega) (by decide) dX1_startAtRoots_30 ?_
        refine w_if_eq X 40 dX1_startAtRoots_31 (by decide) (fun c31 => ?_) (fun c31 => ?_)
        · refine w_iinc X (nI (i + 1)) 3 rfl (nI_1 _) dX1_startAtRoots_40 (by decide) ?_
          refine w_goto X 6 dX1_startAtRoots_43 (by decide) ?_
          exact w_all [1, 2, 3, 0] (rfl) (by subst hn1;  simp [sarL, c9, c14, c22, c31]) rfl (ih6 (i + 1) (by omega) (by omega))
        · refine w_aload_n X 0 rfl dX1_startAtRoots_34 ?_
          refine w_iload_n X 3 rfl dX1_startAtRoots_35 ?_
          refine w_iconst X (nI 0) dX1_startAtRoots_36 (by decide +kernel) ?_
          refine w_muV X hA (gr := [stC g ad2 σ]) (gs1 := [rcC g ad (meetR (sarL σ ρ w i) (nI (i)) (nI (0))), stC g ad2 σ]) [0] [1] 0 0 (m_X1_meet l g ad (sarL σ ρ w i) (nI (i)) (nI (0))) cv_X1_meet mk_X1_38 rfl rfl rfl (ng := 2) rfl (by decide) rfl rfl rfl rfl rfl rfl ⟨Nat.le_of_ble_eq_true rfl, Nat.le_of_ble_eq_true rfl⟩ (Nat.le_of_ble_eq_true rfl) ⟨Nat.le_of_ble_eq_true rfl, Nat.le_of_ble_eq_true rfl⟩ dX1_startAtRoots_37 rfl ?_
          generalize hn2 : meetR (sarL σ ρ w i) (nI (i)) (nI (0)) = ρv2
          refine w_iinc X (nI (i + 1)) 3 rfl (nI_1 _) dX1_startAtRoots_40 (by decide) ?_
          refine w_goto X 6 dX1_startAtRoots_43 (by decide) ?_
          exact w_all [1, 2, 3, 0] (rfl) (by subst hn2; subst hn1;  simp [sarL, c9, c14, c22, c31]) rfl (ih6 (i + 1) (by omega) (by omega))
set_option maxRecDepth 100000 in
set_option maxHeartbeats 4000000 in
theorem m_X1_follow (l : Launch) (g : GG) (ad : Nat → Nat) (ρ : Nat → Nat → Int32) (ad2 : Nat → Nat) (σ : Nat → Nat → Int32) (a : Int32) (w : Int32) : MMU l g yX1_follow cX1_follow 9 none 1 0 0 [.ref (ad 0), .ref (ad2 0), .int (a), .int (w)] [rcC g ad ρ, stC g ad2 σ] (none) [rcC g ad (folL σ a w 24 0 ρ), stC g ad2 σ] := by
  refine mk_mu (by decide +kernel) (Nat.le_of_ble_eq_true rfl) (fun p e s m below meth c A hA X => ?_)
  refine w_iconst X (nI 0) dX1_follow_0 (by decide +kernel) ?_
  refine w_istore X dX1_follow_1 (by decide) ?_
  refine w_all [1, 2, 3, 4, 0] (rfl) (rfl) rfl (w_loop (st := []) (pc := 3) X (V := Nat × (Nat → Nat → Int32)) (fun (v3 : Nat × (Nat → Nat → Int32)) => 24 - v3.1) (fun (v3 : Nat × (Nat → Nat → Int32)) => (v3.1 ≤ 24) ∧ (folL σ a w (24 - v3.1) v3.1 v3.2 = folL σ a w 24 0 ρ)) (fun (v3 : Nat × (Nat → Nat → Int32)) => [(0, .ref (ad 0)), (1, .ref (ad2 0)), (2, .int (a)), (3, .int (w)), (4, .int (nI v3.1))]) (fun (v3 : Nat × (Nat → Nat → Int32)) => [rcC g ad v3.2, stC g ad2 σ]) (fun v3 hv3 ih3 => ?_) (0, ρ) ⟨by omega, rfl⟩)
  obtain ⟨i, z⟩ := v3
  obtain ⟨hi, hz⟩ := hv3
  try dsimp only at hi hz ih3 ⊢
  refine w_iload X 4 rfl dX1_follow_3 ?_
  refine w_bipush X (nI 24) dX1_follow_5 (by decide +kernel) ?_
  refine w_nc_ge X (by omega) (by omega) 98 dX1_follow_7 (by decide) (fun c7 => ?_) (fun c7 => ?_)
  · exact w_vret_mu X (by rw [← hz, show 24 - i = 0 by omega, folL]) (Nat.le_of_ble_eq_true rfl) (Nat.le_of_ble_eq_true rfl) dX1_follow_98
  · refine w_iload X 4 rfl dX1_follow_10 ?_
    refine w_aload_n X 0 rfl dX1_follow_12 ?_
    refine w_get X 0 0 rfl rfl rfl in_X1 3 (by decide) fk_X1_21 rfl dX1_follow_13 ?_
    refine w_ic_ge X 98 dX1_follow_16 (by decide) (fun c16 => ?_) (fun c16 => ?_)
    · exact w_vret_mu X (by rw [← hz, show 24 - i = (23 - i) + 1 by omega, folL, if_pos c16]) (Nat.le_of_ble_eq_true rfl) (Nat.le_of_ble_eq_true rfl) dX1_follow_98
    · refine w_aload_n X 0 rfl dX1_follow_19 ?_
      refine w_get X 0 0 rfl rfl rfl in_X1 0 (by decide) fk_X1_9 rfl dX1_follow_20 ?_
      refine w_iload X 4 rfl dX1_follow_23 ?_
      refine w_iald_n X 0 1 0 rfl rfl rfl (by omega) (by decide) dX1_follow_25 ?_
      refine w_istore X dX1_follow_26 (by decide) ?_
      refine w_aload_n X 1 rfl dX1_follow_28 ?_
      refine w_iload X 0 rfl dX1_follow_29 ?_
      refine w_roV X [0] 0 0 (m_X1_stepsTo l g ad z (z 0 i)) cv_X1_stepsTo mk_X1_42 rfl rfl rfl rfl rfl ⟨Nat.le_of_ble_eq_true rfl, Nat.le_of_ble_eq_true rfl⟩ (Nat.le_of_ble_eq_true rfl) ⟨Nat.le_of_ble_eq_true rfl, Nat.le_of_ble_eq_true rfl⟩ dX1_follow_31 rfl ?_
      refine w_iconst X (nI 1) dX1_follow_34 (by decide +kernel) ?_
      refine w_iadd X dX1_follow_35 ?_
      refine w_istore X dX1_follow_36 (by decide) ?_
      refine w_iconst X (nI 0) dX1_follow_38 (by decide +kernel) ?_
      refine w_istore X dX1_follow_39 (by decide) ?_
      refine w_iload X 0 rfl dX1_follow_41 ?_
      refine w_iconst X (nI 2) dX1_follow_43 (by decide +kernel) ?_
      refine w_nc_ge X (by omega) (by omega) 92 dX1_follow_44 (by decide) (fun c44 => by exfalso; omega) (fun c44 => ?_)
      refine w_join (V := (Nat → Nat → Int32)) X 86 (fun (z1 : (Nat → Nat → Int32)) => (z1 = fol1 σ a w z (z 0 i) ((stepI z (z 0 i)) + nI (1)) 0)) (fun (z1 : (Nat → Nat → Int32)) => [(0, .ref (ad 0)), (1, .ref (ad2 0)), (2, .int (a)), (3, .int (w)), (4, .int (nI i)), (5, .int (z 0 i)), (6, .int ((stepI z (z 0 i)) + nI (1))), (7, .int (nI 0))]) (fun (z1 : (Nat → Nat → Int32)) => []) (fun (z1 : (Nat → Nat → Int32)) => [rcC g ad z1, stC g ad2 σ]) (fun z1 hv86 => ?_) (fun J86 => ?_)
      · have hz1 := hv86
        try dsimp only
        refine w_iinc X (nI (1)) 7 rfl (nI_1 _) dX1_follow_86 (by decide) ?_
        refine w_goto X 41 dX1_follow_89 (by decide) ?_
        refine w_iload X 0 rfl dX1_follow_41 ?_
        refine w_iconst X (nI 2) dX1_follow_43 (by decide +kernel) ?_
        refine w_nc_ge X (by omega) (by omega) 92 dX1_follow_44 (by decide) (fun c44_ => by exfalso; omega) (fun c44_ => ?_)
        refine w_join (V := (Nat → Nat → Int32)) X 86 (fun (z2 : (Nat → Nat → Int32)) => (z2 = fol1 σ a w z1 (z 0 i) ((stepI z (z 0 i)) + nI (1)) 1)) (fun (z2 : (Nat → Nat → Int32)) => [(0, .ref (ad 0)), (1, .ref (ad2 0)), (2, .int (a)), (3, .int (w)), (4, .int (nI i)), (5, .int (z 0 i)), (6, .int ((stepI z (z 0 i)) + nI (1))), (7, .int (nI 1))]) (fun (z2 : (Nat → Nat → Int32)) => []) (fun (z2 : (Nat → Nat → Int32)) => [rcC g ad z2, stC g ad2 σ]) (fun z2 hv86 => ?_) (fun J86 => ?_)
        · have hz2 := hv86
          try dsimp only
          refine w_iinc X (nI (2)) 7 rfl (nI_1 _) dX1_follow_86 (by decide) ?_
          refine w_goto X 41 dX1_follow_89 (by decide) ?_
          refine w_iload X 0 rfl dX1_follow_41 ?_
          refine w_iconst X (nI 2) dX1_follow_43 (by decide +kernel) ?_
          refine w_nc_ge X (by omega) (by omega) 92 dX1_follow_44 (by decide) (fun c44__ => ?_) (fun c44__ => by exfalso; omega)
          refine w_iinc X (nI (i + 1)) 5 rfl (nI_1 _) dX1_follow_92 (by decide) ?_
          refine w_goto X 3 dX1_follow_95 (by decide) ?_
          exact w_all [2, 3, 4, 5, 0] (rfl) (rfl) rfl (ih3 (i + 1, z2) (by omega) ⟨by omega, by subst hz2; subst hz1; rw [← hz, show 24 - i = (24 - (i + 1)) + 1 by omega, folL, if_neg c16]; rfl⟩)
        refine w_aload_n X 2 rfl dX1_follow_47 ?_
        refine w_iload X 6 rfl dX1_follow_48 ?_
        refine w_iload X 0 rfl dX1_follow_50 ?_
        refine w_roV X [1] 1 0 (m_X3_reference l g ad2 σ (z 0 i) (nI (1))) cv_X3_reference mk_X1_46 rfl rfl rfl rfl rfl ⟨Nat.le_of_ble_eq_true rfl, Nat.le_of_ble_eq_true rfl⟩ (Nat.le_of_ble_eq_true rfl) ⟨Nat.le_of_ble_eq_true rfl, Nat.le_of_ble_eq_true rfl⟩ dX1_follow_52 rfl ?_
        refine w_istore X dX1_follow_55 (by decide) ?_
        refine w_iload X 0 rfl dX1_follow_57 ?_
        refine w_iload_n X 5 rfl dX1_follow_59 ?_
        refine w_ic_eq X 86 dX1_follow_60 (by decide) (fun c60 => ?_) (fun c60 => ?_)
        · exact w_all [2, 3, 4, 5, 6, 7, 8, 1] (rfl) (rfl) rfl (J86 z1 (by  simp [fol1, c7, c16, c44, c44_, c60]))
        · refine w_iload_n X 4 rfl dX1_follow_63 ?_
          refine w_iconst X (-1) dX1_follow_64 (by decide +kernel) ?_
          refine w_ic_eq X 78 dX1_follow_65 (by decide) (fun c65 => ?_) (fun c65 => ?_)
          · refine w_aload_n X 2 rfl dX1_follow_78 ?_
            refine w_iload X 0 rfl dX1_follow_79 ?_
            refine w_iload X 8 rfl dX1_follow_81 ?_
            refine w_muV X hA (gr := [stC g ad2 σ]) (gs1 := [rcC g ad (meetR z1 (refI σ (z 0 i) (nI (1))) ((stepI z (z 0 i)) + nI (1))), stC g ad2 σ]) [0] [1] 0 0 (m_X1_meet l g ad z1 (refI σ (z 0 i) (nI (1))) ((stepI z (z 0 i)) + nI (1))) cv_X1_meet mk_X1_38 rfl rfl rfl (ng := 2) rfl (by decide) rfl rfl rfl rfl rfl rfl ⟨Nat.le_of_ble_eq_true rfl, Nat.le_of_ble_eq_true rfl⟩ (Nat.le_of_ble_eq_true rfl) ⟨Nat.le_of_ble_eq_true rfl, Nat.le_of_ble_eq_true rfl⟩ dX1_follow_83 rfl ?_
            generalize hn1 : meetR z1 (refI σ (z 0 i) (nI (1))) ((stepI z (z 0 i)) + nI (1)) = ρv1
            exact w_all [2, 3, 4, 5, 6, 7, 8, 1] (rfl) (rfl) rfl (J86 ρv1 (by subst hn1;  simp [fol1, c7, c16, c44, c44_, c60, c65]))
          · refine w_aload_n X 3 rfl dX1_follow_68 ?_
            refine w_iload X 0 rfl dX1_follow_69 ?_
            refine w_iload_n X 4 rfl dX1_follow_71 ?_
            refine w_roV X [1] 1 0 (m_X3_isIn l g ad2 σ (refI σ (z 0 i) (nI (1))) (a)) cv_X3_isIn mk_X1_50 rfl rfl rfl rfl rfl ⟨Nat.le_of_ble_eq_true rfl, Nat.le_of_ble_eq_true rfl⟩ (Nat.le_of_ble_eq_true rfl) ⟨Nat.le_of_ble_eq_true rfl, Nat.le_of_ble_eq_true rfl⟩ dX1_follow_72 rfl ?_
            refine w_bf_eq X 86 dX1_follow_75 (by decide) (fun c75 => ?_) (fun c75 => ?_)
            · exact w_all [2, 3, 4, 5, 6, 7, 8, 1] (rfl) (rfl) rfl (J86 z1 (by  simp [fol1, c7, c16, c44, c44_, c60, c65, c75]))
            · refine w_aload_n X 2 rfl dX1_follow_78 ?_
              refine w_iload X 0 rfl dX1_follow_79 ?_
              refine w_iload X 8 rfl dX1_follow_81 ?_
              refine w_muV X hA (gr := [stC g ad2 σ]) (gs1 := [rcC g ad (meetR z1 (refI σ (z 0 i) (nI (1))) ((stepI z (z 0 i)) + nI (1))), stC g ad2 σ]) [0] [1] 0 0 (m_X1_meet l g ad z1 (refI σ (z 0 i) (nI (1))) ((stepI z (z 0 i)) + nI (1))) cv_X1_meet mk_X1_38 rfl rfl rfl (ng := 2) rfl (by decide) rfl rfl rfl rfl rfl rfl ⟨Nat.le_of_ble_eq_true rfl, Nat.le_of_ble_eq_true rfl⟩ (Nat.le_of_ble_eq_true rfl) ⟨Nat.le_of_ble_eq_true rfl, Nat.le_of_ble_eq_true rfl⟩ dX1_follow_83 rfl ?_
              generalize hn2 : meetR z1 (refI σ (z 0 i) (nI (1))) ((stepI z (z 0 i)) + nI (1)) = ρv2
              exact w_all [2, 3, 4, 5, 6, 7, 8, 1] (rfl) (rfl) rfl (J86 ρv2 (by subst hn2;  simp [fol1, c7, c16, c44, c44_, c60, c65, c75]))
      refine w_aload_n X 4 rfl dX1_follow_47 ?_
      refine w_iload X 2 rfl dX1_follow_48 ?_
      refine w_iload X 0 rfl dX1_follow_50 ?_
      refine w_roV X [1] 1 0 (m_X3_reference l g ad2 σ (z 0 i) (nI (0))) cv_X3_reference mk_X1_46 rfl rfl rfl rfl rfl ⟨Nat.le_of_ble_eq_true rfl, Nat.le_of_ble_eq_true rfl⟩ (Nat.le_of_ble_eq_true rfl) ⟨Nat.le_of_ble_eq_true rfl, Nat.le_of_ble_eq_true rfl⟩ dX1_follow_52 rfl ?_
      refine w_istore X dX1_follow_55 (by decide) ?_
      refine w_iload X 0 rfl dX1_follow_57 ?_
      refine w_iload_n X 7 rfl dX1_follow_59 ?_
      refine w_ic_eq X 86 dX1_follow_60 (by decide) (fun c60 => ?_) (fun c60 => ?_)
      · exact w_all [4, 5, 6, 7, 8, 3, 2, 1] (rfl) (rfl) rfl (J86 z (by  simp [fol1, c7, c16, c44, c60]))
      · refine w_iload_n X 6 rfl dX1_follow_63 ?_
        refine w_iconst X (-1) dX1_follow_64 (by decide +kernel) ?_
        refine w_ic_eq X 78 dX1_follow_65 (by decide) (fun c65 => ?_) (fun c65 => ?_)
        · refine w_aload_n X 4 rfl dX1_follow_78 ?_
          refine w_iload X 0 rfl dX1_follow_79 ?_
          refine w_iload X 2 rfl dX1_follow_81 ?_
          refine w_muV X hA (gr := [stC g ad2 σ]) (gs1 := [rcC g ad (meetR z (refI σ (z 0 i) (nI (0))) ((stepI z (z 0 i)) + nI (1))), stC g ad2 σ]) [0] [1] 0 0 (m_X1_meet l g ad z (refI σ (z 0 i) (nI (0))) ((stepI z (z 0 i)) + nI (1))) cv_X1_meet mk_X1_38 rfl rfl rfl (ng := 2) rfl (by decide) rfl rfl rfl rfl rfl rfl ⟨Nat.le_of_ble_eq_true rfl, Nat.le_of_ble_eq_true rfl⟩ (Nat.le_of_ble_eq_true rfl) ⟨Nat.le_of_ble_eq_true rfl, Nat.le_of_ble_eq_true rfl⟩ dX1_follow_83 rfl ?_
          generalize hn3 : meetR z (refI σ (z 0 i) (nI (0))) ((stepI z (z 0 i)) + nI (1)) = ρv3
          exact w_all [4, 5, 6, 7, 8, 3, 2, 1] (rfl) (rfl) rfl (J86 ρv3 (by subst hn3;  simp [fol1, c7, c16, c44, c60, c65]))
        · refine w_aload_n X 5 rfl dX1_follow_68 ?_
          refine w_iload X 0 rfl dX1_follow_69 ?_
          refine w_iload_n X 6 rfl dX1_follow_71 ?_
          refine w_roV X [1] 1 0 (m_X3_isIn l g ad2 σ (refI σ (z 0 i) (nI (0))) (a)) cv_X3_isIn mk_X1_50 rfl rfl rfl rfl rfl ⟨Nat.le_of_ble_eq_true rfl, Nat.le_of_ble_eq_true rfl⟩ (Nat.le_of_ble_eq_true rfl) ⟨Nat.le_of_ble_eq_true rfl, Nat.le_of_ble_eq_true rfl⟩ dX1_follow_72 rfl ?_
          refine w_bf_eq X 86 dX1_follow_75 (by decide) (fun c75 => ?_) (fun c75 => ?_)
          · exact w_all [4, 5, 6, 7, 8, 3, 2, 1] (rfl) (rfl) rfl (J86 z (by  simp [fol1, c7, c16, c44, c60, c65, c75]))
          · refine w_aload_n X 4 rfl dX1_follow_78 ?_
            refine w_iload X 0 rfl dX1_follow_79 ?_
            refine w_iload X 2 rfl dX1_follow_81 ?_
            refine w_muV X hA (gr := [stC g ad2 σ]) (gs1 := [rcC g ad (meetR z (refI σ (z 0 i) (nI (0))) ((stepI z (z 0 i)) + nI (1))), stC g ad2 σ]) [0] [1] 0 0 (m_X1_meet l g ad z (refI σ (z 0 i) (nI (0))) ((stepI z (z 0 i)) + nI (1))) cv_X1_meet mk_X1_38 rfl rfl rfl (ng := 2) rfl (by decide) rfl rfl rfl rfl rfl rfl ⟨Nat.le_of_ble_eq_true rfl, Nat.le_of_ble_eq_true rfl⟩ (Nat.le_of_ble_eq_true rfl) ⟨Nat.le_of_ble_eq_true rfl, Nat.le_of_ble_eq_true rfl⟩ dX1_follow_83 rfl ?_
            generalize hn4 : meetR z (refI σ (z 0 i) (nI (0))) ((stepI z (z 0 i)) + nI (1)) = ρv4
            exact w_all [4, 5, 6, 7, 8, 3, 2, 1] (rfl) (rfl) rfl (J86 ρv4 (by subst hn4;  simp [fol1, c7, c16, c44, c60, c65, c75]))
set_option maxRecDepth 100000 in
set_option maxHeartbeats 4000000 in
theorem m_X1_cells (l : Launch) (g : GG) (ad : Nat → Nat) (ρ : Nat → Nat → Int32) (ad2 : Nat → Nat) (σ : Nat → Nat → Int32) : MRO l g yX1_cells cX1_cells 4 (some .int) 1 [.ref (ad 0), .ref (ad2 0)] [rcC g ad ρ, stC g ad2 σ] (some (.int (cellsL σ ρ 24))) := by
  refine mk_ro (by decide +kernel) (Nat.le_of_ble_eq_true rfl) (fun p e s m below meth c X => ?_)
  refine w_iconst X (nI 0) dX1_cells_0 (by decide +kernel) ?_
  refine w_istore_n X dX1_cells_1 (by decide) ?_
  refine w_iconst X (nI 0) dX1_cells_2 (by decide +kernel) ?_
  refine w_istore_n X dX1_cells_3 (by decide) ?_
  refine w_all [2, 3, 1, 0] (rfl) (rfl) rfl (w_loop (st := []) (pc := 4) X (V := Nat) (fun (i : Nat) => 24 - i) (fun (i : Nat) => (i ≤ 24)) (fun (i : Nat) => [(0, .ref (ad 0)), (1, .ref (ad2 0)), (2, .int (cellsL σ ρ i)), (3, .int (nI i))]) (fun (i : Nat) => [rcC g ad ρ, stC g ad2 σ]) (fun i hv4 ih4 => ?_) 0 (by omega))
  have hi := hv4
  try dsimp only at ih4 ⊢
  refine w_iload_n X 3 rfl dX1_cells_4 ?_
  refine w_bipush X (nI 24) dX1_cells_5 (by decide +kernel) ?_
  refine w_nc_ge X (by omega) (by omega) 33 dX1_cells_7 (by decide) (fun c7 => ?_) (fun c7 => ?_)
  · have he_i : i = 24 := by omega
    refine w_iload_n X 2 rfl dX1_cells_33 ?_
    exact w_iret_ro X (by rw [he_i]) dX1_cells_34
  · refine w_aload_n X 0 rfl dX1_cells_10 ?_
    refine w_iload_n X 3 rfl dX1_cells_11 ?_
    refine w_roV X [0] 0 0 (m_X1_hasMet l g ad ρ (nI (i))) cv_X1_hasMet mk_X1_54 rfl rfl rfl rfl rfl ⟨Nat.le_of_ble_eq_true rfl, Nat.le_of_ble_eq_true rfl⟩ (Nat.le_of_ble_eq_true rfl) ⟨Nat.le_of_ble_eq_true rfl, Nat.le_of_ble_eq_true rfl⟩ dX1_cells_12 rfl ?_
    refine w_bf_eq X 27 dX1_cells_15 (by decide) (fun c15 => ?_) (fun c15 => ?_)
    · refine w_iinc X (nI (i + 1)) 3 rfl (nI_1 _) dX1_cells_27 (by decide) ?_
      refine w_goto X 4 dX1_cells_30 (by decide) ?_
      have e1_2 : (cellsL σ ρ i) = (cellsL σ ρ (i + 1)) := by simp [cellsL, c7, c15]
      exact w_all [1, 2, 3, 0] (rfl) (rfl) (by rw [← e1_2]; rfl) (ih4 (i + 1) (by omega) (by omega))
    · refine w_iload_n X 2 rfl dX1_cells_18 ?_
      refine w_aload_n X 1 rfl dX1_cells_19 ?_
      refine w_get X 1 0 rfl rfl rfl in_X3 3 (by decide) fk_X1_57 rfl dX1_cells_20 ?_
      refine w_iload_n X 3 rfl dX1_cells_23 ?_
      refine w_iald_n X 1 4 0 rfl rfl rfl (by omega) (by decide) dX1_cells_24 ?_
      refine w_iadd X dX1_cells_25 ?_
      refine w_istore_n X dX1_cells_26 (by decide) ?_
      refine w_iinc X (nI (i + 1)) 3 rfl (nI_1 _) dX1_cells_27 (by decide) ?_
      refine w_goto X 4 dX1_cells_30 (by decide) ?_
      have e2_2 : ((cellsL σ ρ i) + (σ 3 i)) = (cellsL σ ρ (i + 1)) := by simp [cellsL, c7, c15]
      exact w_all [2, 3, 1, 0] (rfl) (rfl) (by rw [← e2_2]; rfl) (ih4 (i + 1) (by omega) (by omega))
