/-! Returning -/
def livR (σ ρl : Nat → Nat → Int32) : Nat → Nat → Int32 := folL σ (-1) (-1) 24 0 (sarL σ ρl (-1) 24)
def surA (σ ρl ρs : Nat → Nat → Int32) (a : Int32) : Nat → Nat → Nat → Int32
  | 0 => forgetL ρs 24
  | n + 1 => if isInB σ (nI n) a = false then surA σ ρl ρs a n else if metB ρl (nI n) = false then surA σ ρl ρs a n else meetR (surA σ ρl ρs a n) (nI n) (nI 0)
def rem1 (σ : Nat → Nat → Int32) (a : Int32) (ρ : Nat → Nat → Int32) (h f : Nat) : Nat → Nat → Int32 :=
  if isInB σ (refI σ (nI h) (nI f)) a = false then ρ else meetR ρ (refI σ (nI h) (nI f)) (nI 0)
def remS (σ : Nat → Nat → Int32) (a : Int32) (ρ : Nat → Nat → Int32) (h : Nat) : Nat → Nat → Int32 :=
  if isInB σ (nI h) a = true then ρ else rem1 σ a (rem1 σ a ρ h 0) h 1
def remL (σ : Nat → Nat → Int32) (a : Int32) (ρ : Nat → Nat → Int32) : Nat → Nat → Nat → Int32
  | 0 => ρ
  | h + 1 => remS σ a (remL σ a ρ h) h
def surB (σ ρl ρs : Nat → Nat → Int32) (a : Int32) : Nat → Nat → Int32 := if σ 11 0 = nI 1 then remL σ a (surA σ ρl ρs a 24) 24 else surA σ ρl ρs a 24
def survR (σ ρl ρs : Nat → Nat → Int32) (a : Int32) : Nat → Nat → Int32 := folL σ a (-1) 24 0 (surB σ (livR σ ρl) ρs a)
def anyB (p : Nat → Bool) (n : Nat) : Bool := if ffst p n 0 = n then false else true
theorem anyB_none {p : Nat → Bool} {n : Nat} (h : ∀ j, j < n → p j = false) : anyB p n = false := by
  have e := ffst_none (p := p) n 0 (fun j _ h2 => h j (by omega))
  rw [Nat.zero_add] at e
  rw [anyB, if_pos e]
theorem anyB_found {p : Nat → Bool} {n k : Nat} (h : ∀ j, j < k → p j = false) (hk : k < n) (hp : p k = true) : anyB p n = true := by
  have e := ffst_found (p := p) n 0 k (fun j _ h2 => h j h2) (Nat.zero_le _) (by omega) hp
  rw [anyB, e, if_neg (by omega)]
def keptB (σ ρs : Nat → Nat → Int32) : Bool := anyB (fun o => if metB ρs (nI o) = false then false else nz (σ 6 o)) 24
def deadI (σ ρs : Nat → Nat → Int32) (a : Int32) : Int32 := if isArB a = false then nI 0 else σ 9 a.toNatClampNeg - cellsL σ ρs 24
def rsN (σ : Nat → Nat → Int32) (a b : Int32) : Bool := if a = b then true else if isOpB σ a = false then true else if isOpB σ b = false then true else false
def rsL (σ ρl : Nat → Nat → Int32) (a b : Int32) : Nat → Nat → Int32 := if rsN σ a b = true then ρl else livR σ ρl
def rsS (σ ρl ρs : Nat → Nat → Int32) (a b : Int32) : Nat → Nat → Int32 := if rsN σ a b = true then ρs else survR σ ρl ρs a
def rsI (σ ρl ρs : Nat → Nat → Int32) (a b : Int32) : Int32 := if a = b then nI 1 else if isOpB σ a = false then nI 2 else if isOpB σ b = false then nI 2 else if keptB σ (survR σ ρl ρs a) = true then nI 3 else if roomB σ b (cellsL σ (survR σ ρl ρs a) 24) = false then nI 4 else nI 0
def rankI (σ ρl : Nat → Nat → Int32) (x : Int32) : Int32 := if σ 11 1 = nI 1 then x else if isNuB x = false then x else if σ 11 1 = nI 2 then (if metB ρl x = false then nI 24 + σ 2 x.toNatClampNeg else plI ρl x) else σ 2 x.toNatClampNeg
def landL (σ ρl ρs : Nat → Nat → Int32) (r b : Int32) : Nat → Int32
  | 0 => b
  | n + 1 => if metB ρs (nI n) = false then landL σ ρl ρs r b n else if r ≤ rankI σ ρl (nI n) then landL σ ρl ρs r b n else landL σ ρl ρs r b n + σ 3 n
def baseI (σ : Nat → Nat → Int32) (b : Int32) : Int32 := if isArB b = false then nI 0 else σ 9 b.toNatClampNeg
def landI (σ ρl ρs : Nat → Nat → Int32) (x b : Int32) : Int32 := landL σ ρl ρs (rankI σ ρl x) (baseI σ b) 24
def agI (σ : Nat → Nat → Int32) (x : Int32) : Int32 := if hasB σ x = false then -1 else σ 1 x.toNatClampNeg
def givI (σ ρl ρs : Nat → Nat → Int32) (x b : Int32) : Int32 := if ¬ rsI σ ρl ρs (agI σ x) b = 0 then -1 else if metB (rsS σ ρl ρs (agI σ x) b) x = true then landI σ (rsL σ ρl (agI σ x) b) (rsS σ ρl ρs (agI σ x) b) x b else -1
def ldL (σ ρl ρs τ : Nat → Nat → Int32) (b : Int32) : Nat → Nat → Nat → Int32
  | 0 => τ
  | n + 1 => rw2 (ldL σ ρl ρs τ b n) 0 (upd (ldL σ ρl ρs τ b n 0) n (if metB ρs (nI n) = false then -1 else landI σ ρl ρs (nI n) b))
def cyL (σ ρs τ : Nat → Nat → Int32) (k : Nat) : Nat → Nat → Nat → Int32
  | 0 => σ
  | n + 1 => if metB ρs (nI n) = false then cyL σ ρs τ k n else layS (cyL σ ρs τ k n) n k (τ 0 n)
theorem isNuB_in {x : Int32} (h : isNuB x = true) : vp_in x 24 := by
  unfold isNuB at h
  split at h
  · cases h
  · split at h
    · cases h
    · exact ix_in (by decide) (by assumption) (by assumption)
set_option maxRecDepth 100000 in
set_option maxHeartbeats 4000000 in
theorem m_X2_meetRemembered (l : Launch) (g : GG) (ad : Nat → Nat) (τ : Nat → Nat → Int32) (adl : Nat → Nat) (ρl : Nat → Nat → Int32) (ads : Nat → Nat) (ρs : Nat → Nat → Int32) (ad2 : Nat → Nat) (σ : Nat → Nat → Int32) (a : Int32) : MMU l g yX2_meetRemembered cX2_meetRemembered 6 none 1 0 0 [.ref (ad 0), .ref (ad2 0), .int (a)] [rtC g ad (adl 0) (ads 0) τ, rcC g adl ρl, rcC g ads ρs, stC g ad2 σ] (none) [rtC g ad (adl 0) (ads 0) τ, rcC g adl ρl, rcC g ads (remL σ a ρs 24), stC g ad2 σ] := by
  refine mk_mu (by decide +kernel) (Nat.le_of_ble_eq_true rfl) (fun p e s m below meth c A hA X => ?_)
  refine w_iconst X (nI 0) dX2_meetRemembered_0 (by decide +kernel) ?_
  refine w_istore_n X dX2_meetRemembered_1 (by decide) ?_
  refine w_all [1, 2, 3, 0] (rfl) (rfl) rfl (w_loop (st := []) (pc := 2) X (V := Nat) (fun (h : Nat) => 24 - h) (fun (h : Nat) => (h ≤ 24)) (fun (h : Nat) => [(0, .ref (ad 0)), (1, .ref (ad2 0)), (2, .int (a)), (3, .int (nI h))]) (fun (h : Nat) => [rtC g ad (adl 0) (ads 0) τ, rcC g adl ρl, rcC g ads (remL σ a ρs h), stC g ad2 σ]) (fun h hv2 ih2 => ?_) 0 (by omega))
  have hh := hv2
  try dsimp only at ih2 ⊢
  refine w_iload_n X 3 rfl dX2_meetRemembered_2 ?_
  refine w_bipush X (nI 24) dX2_meetRemembered_3 (by decide +kernel) ?_
  refine w_nc_ge X (by omega) (by omega) 67 dX2_meetRemembered_5 (by decide) (fun c5 => ?_) (fun c5 => ?_)
  · have he_h : h = 24 := by omega
    exact w_vret_mu X (by rw [he_h]) (Nat.le_of_ble_eq_true rfl) (Nat.le_of_ble_eq_true rfl) dX2_meetRemembered_67
  · refine w_iconst X (nI 0) dX2_meetRemembered_8 (by decide +kernel) ?_
    refine w_istore X dX2_meetRemembered_9 (by decide) ?_
    refine w_iload X 0 rfl dX2_meetRemembered_11 ?_
    refine w_iconst X (nI 2) dX2_meetRemembered_13 (by decide +kernel) ?_
    refine w_nc_ge X (by omega) (by omega) 61 dX2_meetRemembered_14 (by decide) (fun c14 => by exfalso; omega) (fun c14 => ?_)
    refine w_aload_n X 2 rfl dX2_meetRemembered_17 ?_
    refine w_iload_n X 4 rfl dX2_meetRemembered_18 ?_
    refine w_iload_n X 3 rfl dX2_meetRemembered_19 ?_
    refine w_roV X [3] 3 0 (m_X3_isIn l g ad2 σ (nI (h)) (a)) cv_X3_isIn mk_X2_36 rfl rfl rfl rfl rfl ⟨Nat.le_of_ble_eq_true rfl, Nat.le_of_ble_eq_true rfl⟩ (Nat.le_of_ble_eq_true rfl) ⟨Nat.le_of_ble_eq_true rfl, Nat.le_of_ble_eq_true rfl⟩ dX2_meetRemembered_20 rfl ?_
    refine w_bf_ne X 61 dX2_meetRemembered_23 (by decide) (fun c23 => ?_) (fun c23 => ?_)
    · refine w_iinc X (nI (h + 1)) 4 rfl (nI_1 _) dX2_meetRemembered_61 (by decide) ?_
      refine w_goto X 2 dX2_meetRemembered_64 (by decide) ?_
      exact w_all [2, 3, 4, 0] (rfl) (by first | (rw [remL, remS, if_pos c23]; done) | (rw [remL, remS, if_neg (by rw [c23]; decide)]; subst hz2; subst hz1; rfl)) rfl (ih2 (h + 1) (by omega) (by omega))
    · refine w_join (V := (Nat → Nat → Int32)) X 55 (fun (z1 : (Nat → Nat → Int32)) => (z1 = rem1 σ a (remL σ a ρs h) h 0)) (fun (z1 : (Nat → Nat → Int32)) => [(0, .ref (ad 0)), (1, .ref (ad2 0)), (2, .int (a)), (3, .int (nI h)), (4, .int (nI 0))]) (fun (z1 : (Nat → Nat → Int32)) => []) (fun (z1 : (Nat → Nat → Int32)) => [rtC g ad (adl 0) (ads 0) τ, rcC g adl ρl, rcC g ads z1, stC g ad2 σ]) (fun z1 hv55 => ?_) (fun J55 => ?_)
      · have hz1 := hv55
        try dsimp only
        refine w_iinc X (nI (1)) 4 rfl (nI_1 _) dX2_meetRemembered_55 (by decide) ?_
        refine w_goto X 11 dX2_meetRemembered_58 (by decide) ?_
        refine w_iload X 0 rfl dX2_meetRemembered_11 ?_
        refine w_iconst X (nI 2) dX2_meetRemembered_13 (by decide +kernel) ?_
        refine w_nc_ge X (by omega) (by omega) 61 dX2_meetRemembered_14 (by decide) (fun c14_ => by exfalso; omega) (fun c14_ => ?_)
        refine w_aload_n X 2 rfl dX2_meetRemembered_17 ?_
        refine w_iload_n X 4 rfl dX2_meetRemembered_18 ?_
        refine w_iload_n X 3 rfl dX2_meetRemembered_19 ?_
        refine w_roV X [3] 3 0 (m_X3_isIn l g ad2 σ (nI (h)) (a)) cv_X3_isIn mk_X2_36 rfl rfl rfl rfl rfl ⟨Nat.le_of_ble_eq_true rfl, Nat.le_of_ble_eq_true rfl⟩ (Nat.le_of_ble_eq_true rfl) ⟨Nat.le_of_ble_eq_true rfl, Nat.le_of_ble_eq_true rfl⟩ dX2_meetRemembered_20 rfl ?_
        refine w_bf_ne X 61 dX2_meetRemembered_23 (by decide) (fun c23_ => by exfalso; rw [c23] at c23_; cases c23_) (fun c23_ => ?_)
        refine w_join (V := (Nat → Nat → Int32)) X 55 (fun (z2 : (Nat → Nat → Int32)) => (z2 = rem1 σ a z1 h 1)) (fun (z2 : (Nat → Nat → Int32)) => [(0, .ref (ad 0)), (1, .ref (ad2 0)), (2, .int (a)), (3, .int (nI h)), (4, .int (nI 1))]) (fun (z2 : (Nat → Nat → Int32)) => []) (fun (z2 : (Nat → Nat → Int32)) => [rtC g ad (adl 0) (ads 0) τ, rcC g adl ρl, rcC g ads z2, stC g ad2 σ]) (fun z2 hv55 => ?_) (fun J55 => ?_)
        · have hz2 := hv55
          try dsimp only
          refine w_iinc X (nI (2)) 4 rfl (nI_1 _) dX2_meetRemembered_55 (by decide) ?_
          refine w_goto X 11 dX2_meetRemembered_58 (by decide) ?_
          refine w_iload X 0 rfl dX2_meetRemembered_11 ?_
          refine w_iconst X (nI 2) dX2_meetRemembered_13 (by decide +kernel) ?_
          refine w_nc_ge X (by omega) (by omega) 61 dX2_meetRemembered_14 (by decide) (fun c14__ => ?_) (fun c14__ => by exfalso; omega)
          refine w_iinc X (nI (h + 1)) 4 rfl (nI_1 _) dX2_meetRemembered_61 (by decide) ?_
          refine w_goto X 2 dX2_meetRemembered_64 (by decide) ?_
          exact w_all [2, 3, 4, 0] (rfl) (by first | (rw [remL, remS, if_pos c23]; done) | (rw [remL, remS, if_neg (by rw [c23]; decide)]; subst hz2; subst hz1; rfl)) rfl (ih2 (h + 1) (by omega) (by omega))
        refine w_aload_n X 2 rfl dX2_meetRemembered_26 ?_
        refine w_iload_n X 4 rfl dX2_meetRemembered_27 ?_
        refine w_iload X 0 rfl dX2_meetRemembered_28 ?_
        refine w_roV X [3] 3 0 (m_X3_reference l g ad2 σ (nI (h)) (nI (1))) cv_X3_reference mk_X2_56 rfl rfl rfl rfl rfl ⟨Nat.le_of_ble_eq_true rfl, Nat.le_of_ble_eq_true rfl⟩ (Nat.le_of_ble_eq_true rfl) ⟨Nat.le_of_ble_eq_true rfl, Nat.le_of_ble_eq_true rfl⟩ dX2_meetRemembered_30 rfl ?_
        refine w_istore X dX2_meetRemembered_33 (by decide) ?_
        refine w_aload_n X 3 rfl dX2_meetRemembered_35 ?_
        refine w_iload X 0 rfl dX2_meetRemembered_36 ?_
        refine w_iload_n X 4 rfl dX2_meetRemembered_38 ?_
        refine w_roV X [3] 3 0 (m_X3_isIn l g ad2 σ (refI σ (nI (h)) (nI (1))) (a)) cv_X3_isIn mk_X2_36 rfl rfl rfl rfl rfl ⟨Nat.le_of_ble_eq_true rfl, Nat.le_of_ble_eq_true rfl⟩ (Nat.le_of_ble_eq_true rfl) ⟨Nat.le_of_ble_eq_true rfl, Nat.le_of_ble_eq_true rfl⟩ dX2_meetRemembered_39 rfl ?_
        refine w_bf_eq X 55 dX2_meetRemembered_42 (by decide) (fun c42 => ?_) (fun c42 => ?_)
        · exact w_all [2, 3, 4, 5, 1] (rfl) (rfl) rfl (J55 z1 (by  simp [rem1, c5, c14, c23, c14_, c23_, c42]))
        · refine w_aload_n X 2 rfl dX2_meetRemembered_45 ?_
          refine w_get X 0 0 rfl rfl rfl in_X2 1 (by decide) fk_X2_18 rfl dX2_meetRemembered_46 ?_
          refine w_iload X 0 rfl dX2_meetRemembered_49 ?_
          refine w_iconst X (nI 0) dX2_meetRemembered_51 (by decide +kernel) ?_
          refine w_muV X hA (gr := [rtC g ad (adl 0) (ads 0) τ, rcC g adl ρl, stC g ad2 σ]) (gs1 := [rtC g ad (adl 0) (ads 0) τ, rcC g adl ρl, rcC g ads (meetR z1 (refI σ (nI (h)) (nI (1))) (nI (0))), stC g ad2 σ]) [2] [0, 1, 3] 2 0 (m_X1_meet l g ads z1 (refI σ (nI (h)) (nI (1))) (nI (0))) cv_X1_meet mk_X2_46 rfl rfl rfl (ng := 4) rfl (by decide) rfl rfl rfl rfl rfl rfl ⟨Nat.le_of_ble_eq_true rfl, Nat.le_of_ble_eq_true rfl⟩ (Nat.le_of_ble_eq_true rfl) ⟨Nat.le_of_ble_eq_true rfl, Nat.le_of_ble_eq_true rfl⟩ dX2_meetRemembered_52 rfl ?_
          generalize hn1 : meetR z1 (refI σ (nI (h)) (nI (1))) (nI (0)) = ρv1
          exact w_all [2, 3, 4, 5, 1] (rfl) (rfl) rfl (J55 ρv1 (by subst hn1;  simp [rem1, c5, c14, c23, c14_, c23_, c42]))
      refine w_aload_n X 2 rfl dX2_meetRemembered_26 ?_
      refine w_iload_n X 4 rfl dX2_meetRemembered_27 ?_
      refine w_iload X 0 rfl dX2_meetRemembered_28 ?_
      refine w_roV X [3] 3 0 (m_X3_reference l g ad2 σ (nI (h)) (nI (0))) cv_X3_reference mk_X2_56 rfl rfl rfl rfl rfl ⟨Nat.le_of_ble_eq_true rfl, Nat.le_of_ble_eq_true rfl⟩ (Nat.le_of_ble_eq_true rfl) ⟨Nat.le_of_ble_eq_true rfl, Nat.le_of_ble_eq_true rfl⟩ dX2_meetRemembered_30 rfl ?_
      refine w_istore X dX2_meetRemembered_33 (by decide) ?_
      refine w_aload_n X 3 rfl dX2_meetRemembered_35 ?_
      refine w_iload X 0 rfl dX2_meetRemembered_36 ?_
      refine w_iload_n X 4 rfl dX2_meetRemembered_38 ?_
      refine w_roV X [3] 3 0 (m_X3_isIn l g ad2 σ (refI σ (nI (h)) (nI (0))) (a)) cv_X3_isIn mk_X2_36 rfl rfl rfl rfl rfl ⟨Nat.le_of_ble_eq_true rfl, Nat.le_of_ble_eq_true rfl⟩ (Nat.le_of_ble_eq_true rfl) ⟨Nat.le_of_ble_eq_true rfl, Nat.le_of_ble_eq_true rfl⟩ dX2_meetRemembered_39 rfl ?_
      refine w_bf_eq X 55 dX2_meetRemembered_42 (by decide) (fun c42 => ?_) (fun c42 => ?_)
      · exact w_all [2, 3, 4, 5, 1] (rfl) (rfl) rfl (J55 (remL σ a ρs h) (by  simp [rem1, c5, c14, c23, c42]))
      · refine w_aload_n X 2 rfl dX2_meetRemembered_45 ?_
        refine w_get X 0 0 rfl rfl rfl in_X2 1 (by decide) fk_X2_18 rfl dX2_meetRemembered_46 ?_
        refine w_iload X 0 rfl dX2_meetRemembered_49 ?_
        refine w_iconst X (nI 0) dX2_meetRemembered_51 (by decide +kernel) ?_
        refine w_muV X hA (gr := [rtC g ad (adl 0) (ads 0) τ, rcC g adl ρl, stC g ad2 σ]) (gs1 := [rtC g ad (adl 0) (ads 0) τ, rcC g adl ρl, rcC g ads (meetR (remL σ a ρs h) (refI σ (nI (h)) (nI (0))) (nI (0))), stC g ad2 σ]) [2] [0, 1, 3] 2 0 (m_X1_meet l g ads (remL σ a ρs h) (refI σ (nI (h)) (nI (0))) (nI (0))) cv_X1_meet mk_X2_46 rfl rfl rfl (ng := 4) rfl (by decide) rfl rfl rfl rfl rfl rfl ⟨Nat.le_of_ble_eq_true rfl, Nat.le_of_ble_eq_true rfl⟩ (Nat.le_of_ble_eq_true rfl) ⟨Nat.le_of_ble_eq_true rfl, Nat.le_of_ble_eq_true rfl⟩ dX2_meetRemembered_52 rfl ?_
        generalize hn2 : meetR (remL σ a ρs h) (refI σ (nI (h)) (nI (0))) (nI (0)) = ρv2
        exact w_all [2, 3, 4, 5, 1] (rfl) (rfl) rfl (J55 ρv2 (by subst hn2;  simp [rem1, c5, c14, c23, c42]))
set_option maxRecDepth 100000 in
set_option maxHeartbeats 4000000 in
theorem m_X2_survey (l : Launch) (g : GG) (ad : Nat → Nat) (τ : Nat → Nat → Int32) (adl : Nat → Nat) (ρl : Nat → Nat → Int32) (ads : Nat → Nat) (ρs : Nat → Nat → Int32) (ad2 : Nat → Nat) (σ : Nat → Nat → Int32) (a : Int32) : MMU l g yX2_survey cX2_survey 4 none 2 0 0 [.ref (ad 0), .ref (ad2 0), .int (a)] [rtC g ad (adl 0) (ads 0) τ, rcC g adl ρl, rcC g ads ρs, stC g ad2 σ] (none) [rtC g ad (adl 0) (ads 0) τ, rcC g adl (livR σ ρl), rcC g ads (survR σ ρl ρs a), stC g ad2 σ] := by
  refine mk_mu (by decide +kernel) (Nat.le_of_ble_eq_true rfl) (fun p e s m below meth c A hA X => ?_)
  refine w_aload_n X 0 rfl dX2_survey_0 ?_
  refine w_get X 0 0 rfl rfl rfl in_X2 0 (by decide) fk_X2_12 rfl dX2_survey_1 ?_
  refine w_aload_n X 1 rfl dX2_survey_4 ?_
  refine w_iconst X (-1) dX2_survey_5 (by decide +kernel) ?_
  refine w_muV X hA (gr := [rtC g ad (adl 0) (ads 0) τ, rcC g ads ρs]) (gs1 := [rtC g ad (adl 0) (ads 0) τ, rcC g adl (sarL σ ρl (-1) 24), rcC g ads ρs, stC g ad2 σ]) [1, 3] [0, 2] 1 0 (m_X1_startAtRoots l g adl ρl ad2 σ (-1)) cv_X1_startAtRoots mk_X2_25 rfl rfl rfl (ng := 4) rfl (by decide) rfl rfl rfl rfl rfl rfl ⟨Nat.le_of_ble_eq_true rfl, Nat.le_of_ble_eq_true rfl⟩ (Nat.le_of_ble_eq_true rfl) ⟨Nat.le_of_ble_eq_true rfl, Nat.le_of_ble_eq_true rfl⟩ dX2_survey_6 rfl ?_
  generalize hn1 : sarL σ ρl (-1) 24 = ρv1
  refine w_aload_n X 0 rfl dX2_survey_9 ?_
  refine w_get X 0 0 rfl rfl rfl in_X2 0 (by decide) fk_X2_12 rfl dX2_survey_10 ?_
  refine w_aload_n X 1 rfl dX2_survey_13 ?_
  refine w_iconst X (-1) dX2_survey_14 (by decide +kernel) ?_
  refine w_iconst X (-1) dX2_survey_15 (by decide +kernel) ?_
  refine w_muV X hA (gr := [rtC g ad (adl 0) (ads 0) τ, rcC g ads ρs]) (gs1 := [rtC g ad (adl 0) (ads 0) τ, rcC g adl (folL σ (-1) (-1) 24 0 ρv1), rcC g ads ρs, stC g ad2 σ]) [1, 3] [0, 2] 1 0 (m_X1_follow l g adl ρv1 ad2 σ (-1) (-1)) cv_X1_follow mk_X2_29 rfl rfl rfl (ng := 4) rfl (by decide) rfl rfl rfl rfl rfl rfl ⟨Nat.le_of_ble_eq_true rfl, Nat.le_of_ble_eq_true rfl⟩ (Nat.le_of_ble_eq_true rfl) ⟨Nat.le_of_ble_eq_true rfl, Nat.le_of_ble_eq_true rfl⟩ dX2_survey_16 rfl ?_
  generalize hn2 : folL σ (-1) (-1) 24 0 ρv1 = ρv2
  refine w_aload_n X 0 rfl dX2_survey_19 ?_
  refine w_get X 0 0 rfl rfl rfl in_X2 1 (by decide) fk_X2_18 rfl dX2_survey_20 ?_
  refine w_muV X hA (gr := [rtC g ad (adl 0) (ads 0) τ, rcC g adl ρv2, stC g ad2 σ]) (gs1 := [rtC g ad (adl 0) (ads 0) τ, rcC g adl ρv2, rcC g ads (forgetL ρs 24), stC g ad2 σ]) [2] [0, 1, 3] 2 0 (m_X1_forget l g ads ρs) cv_X1_forget mk_X2_33 rfl rfl rfl (ng := 4) rfl (by decide) rfl rfl rfl rfl rfl rfl ⟨Nat.le_of_ble_eq_true rfl, Nat.le_of_ble_eq_true rfl⟩ (Nat.le_of_ble_eq_true rfl) ⟨Nat.le_of_ble_eq_true rfl, Nat.le_of_ble_eq_true rfl⟩ dX2_survey_23 rfl ?_
  generalize hn3 : forgetL ρs 24 = ρv3
  refine w_iconst X (nI 0) dX2_survey_26 (by decide +kernel) ?_
  refine w_istore_n X dX2_survey_27 (by decide) ?_
  refine w_all [1, 2, 3, 0] (rfl) (by subst hn3; rw [surA]) rfl (w_loop (st := []) (pc := 28) X (V := Nat) (fun (i : Nat) => 24 - i) (fun (i : Nat) => (i ≤ 24)) (fun (i : Nat) => [(0, .ref (ad 0)), (1, .ref (ad2 0)), (2, .int (a)), (3, .int (nI i))]) (fun (i : Nat) => [rtC g ad (adl 0) (ads 0) τ, rcC g adl ρv2, rcC g ads (surA σ ρv2 ρs a i), stC g ad2 σ]) (fun i hv28 ih28 => ?_) 0 (by omega))
  have hi := hv28
  try dsimp only at ih28 ⊢
  refine w_iload_n X 3 rfl dX2_survey_28 ?_
  refine w_bipush X (nI 24) dX2_survey_29 (by decide +kernel) ?_
  refine w_nc_ge X (by omega) (by omega) 69 dX2_survey_31 (by decide) (fun c31 => ?_) (fun c31 => ?_)
  · have he_i : i = 24 := by omega
    refine w_aload_n X 1 rfl dX2_survey_69 ?_
    refine w_get X 3 0 rfl rfl rfl in_X3 11 (by decide) fk_X2_50 rfl dX2_survey_70 ?_
    refine w_iconst X (nI 0) dX2_survey_73 (by decide +kernel) ?_
    refine w_iald_n X 3 12 0 rfl rfl rfl (by omega) (by decide) dX2_survey_74 ?_
    refine w_iconst X (nI 1) dX2_survey_75 (by decide +kernel) ?_
    refine w_ic_ne X 85 dX2_survey_76 (by decide) (fun c76 => ?_) (fun c76 => ?_)
    · refine w_aload_n X 0 rfl dX2_survey_85 ?_
      refine w_get X 0 0 rfl rfl rfl in_X2 1 (by decide) fk_X2_18 rfl dX2_survey_86 ?_
      refine w_aload_n X 1 rfl dX2_survey_89 ?_
      refine w_iload_n X 2 rfl dX2_survey_90 ?_
      refine w_iconst X (-1) dX2_survey_91 (by decide +kernel) ?_
      refine w_muV X hA (gr := [rtC g ad (adl 0) (ads 0) τ, rcC g adl ρv2]) (gs1 := [rtC g ad (adl 0) (ads 0) τ, rcC g adl ρv2, rcC g ads (folL σ (a) (-1) 24 0 (surA σ ρv2 ρs a i)), stC g ad2 σ]) [2, 3] [0, 1] 2 0 (m_X1_follow l g ads (surA σ ρv2 ρs a i) ad2 σ (a) (-1)) cv_X1_follow mk_X2_29 rfl rfl rfl (ng := 4) rfl (by decide) rfl rfl rfl rfl rfl rfl ⟨Nat.le_of_ble_eq_true rfl, Nat.le_of_ble_eq_true rfl⟩ (Nat.le_of_ble_eq_true rfl) ⟨Nat.le_of_ble_eq_true rfl, Nat.le_of_ble_eq_true rfl⟩ dX2_survey_92 rfl ?_
      generalize hn4 : folL σ (a) (-1) 24 0 (surA σ ρv2 ρs a i) = ρv4
      exact w_vret_mu X (by subst hn4; subst hn3; subst hn2; subst hn1;  subst he_i; simp [survR, surB, livR, c31, c76]) (Nat.le_of_ble_eq_true rfl) (Nat.le_of_ble_eq_true rfl) dX2_survey_95
    · refine w_aload_n X 0 rfl dX2_survey_79 ?_
      refine w_aload_n X 1 rfl dX2_survey_80 ?_
      refine w_iload_n X 2 rfl dX2_survey_81 ?_
      refine w_muV X hA (gr := []) (gs1 := [rtC g ad (adl 0) (ads 0) τ, rcC g adl ρv2, rcC g ads (remL σ (a) (surA σ ρv2 ρs a i) 24), stC g ad2 σ]) [0, 1, 2, 3] [] 0 0 (m_X2_meetRemembered l g ad τ adl ρv2 ads (surA σ ρv2 ρs a i) ad2 σ (a)) cv_X2_meetRemembered mk_X2_53 rfl rfl rfl (ng := 4) rfl (by decide) rfl rfl rfl rfl rfl rfl ⟨Nat.le_of_ble_eq_true rfl, Nat.le_of_ble_eq_true rfl⟩ (Nat.le_of_ble_eq_true rfl) ⟨Nat.le_of_ble_eq_true rfl, Nat.le_of_ble_eq_true rfl⟩ dX2_survey_82 rfl ?_
      generalize hn5 : remL σ (a) (surA σ ρv2 ρs a i) 24 = ρv5
      refine w_aload_n X 0 rfl dX2_survey_85 ?_
      refine w_get X 0 0 rfl rfl rfl in_X2 1 (by decide) fk_X2_18 rfl dX2_survey_86 ?_
      refine w_aload_n X 1 rfl dX2_survey_89 ?_
      refine w_iload_n X 2 rfl dX2_survey_90 ?_
      refine w_iconst X (-1) dX2_survey_91 (by decide +kernel) ?_
      refine w_muV X hA (gr := [rtC g ad (adl 0) (ads 0) τ, rcC g adl ρv2]) (gs1 := [rtC g ad (adl 0) (ads 0) τ, rcC g adl ρv2, rcC g ads (folL σ (a) (-1) 24 0 ρv5), stC g ad2 σ]) [2, 3] [0, 1] 2 0 (m_X1_follow l g ads ρv5 ad2 σ (a) (-1)) cv_X1_follow mk_X2_29 rfl rfl rfl (ng := 4) rfl (by decide) rfl rfl rfl rfl rfl rfl ⟨Nat.le_of_ble_eq_true rfl, Nat.le_of_ble_eq_true rfl⟩ (Nat.le_of_ble_eq_true rfl) ⟨Nat.le_of_ble_eq_true rfl, Nat.le_of_ble_eq_true rfl⟩ dX2_survey_92 rfl ?_
      generalize hn6 : folL σ (a) (-1) 24 0 ρv5 = ρv6
      exact w_vret_mu X (by subst hn6; subst hn5; subst hn3; subst hn2; subst hn1;  subst he_i; simp [survR, surB, livR, c31, c76]) (Nat.le_of_ble_eq_true rfl) (Nat.le_of_ble_eq_true rfl) dX2_survey_95
  · refine w_aload_n X 1 rfl dX2_survey_34 ?_
    refine w_iload_n X 3 rfl dX2_survey_35 ?_
    refine w_iload_n X 2 rfl dX2_survey_36 ?_
    refine w_roV X [3] 3 0 (m_X3_isIn l g ad2 σ (nI (i)) (a)) cv_X3_isIn mk_X2_36 rfl rfl rfl rfl rfl ⟨Nat.le_of_ble_eq_true rfl, Nat.le_of_ble_eq_true rfl⟩ (Nat.le_of_ble_eq_true rfl) ⟨Nat.le_of_ble_eq_true rfl, Nat.le_of_ble_eq_true rfl⟩ dX2_survey_37 rfl ?_
    refine w_bf_eq X 63 dX2_survey_40 (by decide) (fun c40 => ?_) (fun c40 => ?_)
    · refine w_iinc X (nI (i + 1)) 3 rfl (nI_1 _) dX2_survey_63 (by decide) ?_
      refine w_goto X 28 dX2_survey_66 (by decide) ?_
      exact w_all [1, 2, 3, 0] (rfl) (by subst hn3; subst hn2; subst hn1;  simp [surA, c31, c40]) rfl (ih28 (i + 1) (by omega) (by omega))
    · refine w_aload_n X 0 rfl dX2_survey_43 ?_
      refine w_get X 0 0 rfl rfl rfl in_X2 0 (by decide) fk_X2_12 rfl dX2_survey_44 ?_
      refine w_iload_n X 3 rfl dX2_survey_47 ?_
      refine w_roV X [1] 1 0 (m_X1_hasMet l g adl ρv2 (nI (i))) cv_X1_hasMet mk_X2_42 rfl rfl rfl rfl rfl ⟨Nat.le_of_ble_eq_true rfl, Nat.le_of_ble_eq_true rfl⟩ (Nat.le_of_ble_eq_true rfl) ⟨Nat.le_of_ble_eq_true rfl, Nat.le_of_ble_eq_true rfl⟩ dX2_survey_48 rfl ?_
      refine w_bf_eq X 63 dX2_survey_51 (by decide) (fun c51 => ?_) (fun c51 => ?_)
      · refine w_iinc X (nI (i + 1)) 3 rfl (nI_1 _) dX2_survey_63 (by decide) ?_
        refine w_goto X 28 dX2_survey_66 (by decide) ?_
        exact w_all [1, 2, 3, 0] (rfl) (by subst hn3; subst hn2; subst hn1;  simp [surA, c31, c40, c51]) rfl (ih28 (i + 1) (by omega) (by omega))
      · refine w_aload_n X 0 rfl dX2_survey_54 ?_
        refine w_get X 0 0 rfl rfl rfl in_X2 1 (by decide) fk_X2_18 rfl dX2_survey_55 ?_
        refine w_iload_n X 3 rfl dX2_survey_58 ?_
        refine w_iconst X (nI 0) dX2_survey_59 (by decide +kernel) ?_
        refine w_muV X hA (gr := [rtC g ad (adl 0) (ads 0) τ, rcC g adl ρv2, stC g ad2 σ]) (gs1 := [rtC g ad (adl 0) (ads 0) τ, rcC g adl ρv2, rcC g ads (meetR (surA σ ρv2 ρs a i) (nI (i)) (nI (0))), stC g ad2 σ]) [2] [0, 1, 3] 2 0 (m_X1_meet l g ads (surA σ ρv2 ρs a i) (nI (i)) (nI (0))) cv_X1_meet mk_X2_46 rfl rfl rfl (ng := 4) rfl (by decide) rfl rfl rfl rfl rfl rfl ⟨Nat.le_of_ble_eq_true rfl, Nat.le_of_ble_eq_true rfl⟩ (Nat.le_of_ble_eq_true rfl) ⟨Nat.le_of_ble_eq_true rfl, Nat.le_of_ble_eq_true rfl⟩ dX2_survey_60 rfl ?_
        generalize hn7 : meetR (surA σ ρv2 ρs a i) (nI (i)) (nI (0)) = ρv7
        refine w_iinc X (nI (i + 1)) 3 rfl (nI_1 _) dX2_survey_63 (by decide) ?_
        refine w_goto X 28 dX2_survey_66 (by decide) ?_
        exact w_all [1, 2, 3, 0] (rfl) (by subst hn7; subst hn3; subst hn2; subst hn1;  simp [surA, c31, c40, c51]) rfl (ih28 (i + 1) (by omega) (by omega))
set_option maxRecDepth 100000 in
set_option maxHeartbeats 4000000 in
theorem m_X2_isKept (l : Launch) (g : GG) (ad : Nat → Nat) (τ : Nat → Nat → Int32) (adl : Nat → Nat) (ρl : Nat → Nat → Int32) (ads : Nat → Nat) (ρs : Nat → Nat → Int32) (ad2 : Nat → Nat) (σ : Nat → Nat → Int32) : MRO l g yX2_isKept cX2_isKept 3 (some .boolean) 1 [.ref (ad 0), .ref (ad2 0)] [rtC g ad (adl 0) (ads 0) τ, rcC g adl ρl, rcC g ads ρs, stC g ad2 σ] (some (.int (bI (keptB σ ρs)))) := by
  refine mk_ro (by decide +kernel) (Nat.le_of_ble_eq_true rfl) (fun p e s m below meth c X => ?_)
  refine w_iconst X (nI 0) dX2_isKept_0 (by decide +kernel) ?_
  refine w_istore_n X dX2_isKept_1 (by decide) ?_
  refine w_all [1, 2, 0] (rfl) (rfl) rfl (w_loop (st := []) (pc := 2) X (V := Nat) (fun (i : Nat) => 24 - i) (fun (i : Nat) => (i ≤ 24) ∧ (∀ j, j < i → (fun o => if metB ρs (nI o) = false then false else nz (σ 6 o)) j = false)) (fun (i : Nat) => [(0, .ref (ad 0)), (1, .ref (ad2 0)), (2, .int (nI i))]) (fun (i : Nat) => [rtC g ad (adl 0) (ads 0) τ, rcC g adl ρl, rcC g ads ρs, stC g ad2 σ]) (fun i hv2 ih2 => ?_) 0 ⟨by omega, fun j hj => absurd hj (Nat.not_lt_zero j)⟩)
  obtain ⟨hi, hj⟩ := hv2
  try dsimp only at ih2 ⊢
  refine w_iload_n X 2 rfl dX2_isKept_2 ?_
  refine w_bipush X (nI 24) dX2_isKept_3 (by decide +kernel) ?_
  refine w_nc_ge X (by omega) (by omega) 36 dX2_isKept_5 (by decide) (fun c5 => ?_) (fun c5 => ?_)
  · have he_i : i = 24 := by omega
    refine w_iconst X (nI 0) dX2_isKept_36 (by decide +kernel) ?_
    exact w_zret_ro X (by rw [keptB, ← he_i, anyB_none hj]; rfl) (rfl) dX2_isKept_37
  · refine w_aload_n X 0 rfl dX2_isKept_8 ?_
    refine w_get X 0 0 rfl rfl rfl in_X2 1 (by decide) fk_X2_18 rfl dX2_isKept_9 ?_
    refine w_iload_n X 2 rfl dX2_isKept_12 ?_
    refine w_roV X [2] 2 0 (m_X1_hasMet l g ads ρs (nI (i))) cv_X1_hasMet mk_X2_42 rfl rfl rfl rfl rfl ⟨Nat.le_of_ble_eq_true rfl, Nat.le_of_ble_eq_true rfl⟩ (Nat.le_of_ble_eq_true rfl) ⟨Nat.le_of_ble_eq_true rfl, Nat.le_of_ble_eq_true rfl⟩ dX2_isKept_13 rfl ?_
    refine w_bf_eq X 30 dX2_isKept_16 (by decide) (fun c16 => ?_) (fun c16 => ?_)
    · refine w_iinc X (nI (i + 1)) 2 rfl (nI_1 _) dX2_isKept_30 (by decide) ?_
      refine w_goto X 2 dX2_isKept_33 (by decide) ?_
      exact w_all [1, 2, 0] (rfl) (rfl) rfl (ih2 (i + 1) (by omega) ⟨by omega, lt_ext hj (by simp [nz, c5, c16])⟩)
    · refine w_aload_n X 1 rfl dX2_isKept_19 ?_
      refine w_get X 3 0 rfl rfl rfl in_X3 6 (by decide) fk_X2_70 rfl dX2_isKept_20 ?_
      refine w_iload_n X 2 rfl dX2_isKept_23 ?_
      refine w_zald_n X 3 7 1 rfl rfl rfl (by omega) (by decide) dX2_isKept_24 ?_
      refine w_if_eq X 30 dX2_isKept_25 (by decide) (fun c25 => ?_) (fun c25 => ?_)
      · refine w_iinc X (nI (i + 1)) 2 rfl (nI_1 _) dX2_isKept_30 (by decide) ?_
        refine w_goto X 2 dX2_isKept_33 (by decide) ?_
        exact w_all [1, 2, 0] (rfl) (rfl) rfl (ih2 (i + 1) (by omega) ⟨by omega, lt_ext hj (by simp [nz, c5, c16, c25])⟩)
      · refine w_iconst X (nI 1) dX2_isKept_28 (by decide +kernel) ?_
        exact w_zret_ro X (by rw [keptB, anyB_found hj c5 (by simp [nz, c5, c16, c25])]; rfl) (rfl) dX2_isKept_29
set_option maxRecDepth 100000 in
set_option maxHeartbeats 4000000 in
theorem m_X2_survivingCells (l : Launch) (g : GG) (ad : Nat → Nat) (τ : Nat → Nat → Int32) (adl : Nat → Nat) (ρl : Nat → Nat → Int32) (ads : Nat → Nat) (ρs : Nat → Nat → Int32) (ad2 : Nat → Nat) (σ : Nat → Nat → Int32) : MRO l g yX2_survivingCells cX2_survivingCells 2 (some .int) 2 [.ref (ad 0), .ref (ad2 0)] [rtC g ad (adl 0) (ads 0) τ, rcC g adl ρl, rcC g ads ρs, stC g ad2 σ] (some (.int (cellsL σ ρs 24))) := by
  refine mk_ro (by decide +kernel) (Nat.le_of_ble_eq_true rfl) (fun p e s m below meth c X => ?_)
  refine w_aload_n X 0 rfl dX2_survivingCells_0 ?_
  refine w_get X 0 0 rfl rfl rfl in_X2 1 (by decide) fk_X2_18 rfl dX2_survivingCells_1 ?_
  refine w_aload_n X 1 rfl dX2_survivingCells_4 ?_
  refine w_roV X [2, 3] 2 0 (m_X1_cells l g ads ρs ad2 σ) cv_X1_cells mk_X2_60 rfl rfl rfl rfl rfl ⟨Nat.le_of_ble_eq_true rfl, Nat.le_of_ble_eq_true rfl⟩ (Nat.le_of_ble_eq_true rfl) ⟨Nat.le_of_ble_eq_true rfl, Nat.le_of_ble_eq_true rfl⟩ dX2_survivingCells_5 rfl ?_
  exact w_iret_ro X (rfl) dX2_survivingCells_8
set_option maxRecDepth 100000 in
set_option maxHeartbeats 4000000 in
theorem m_X2_deadCells (l : Launch) (g : GG) (ad : Nat → Nat) (τ : Nat → Nat → Int32) (adl : Nat → Nat) (ρl : Nat → Nat → Int32) (ads : Nat → Nat) (ρs : Nat → Nat → Int32) (ad2 : Nat → Nat) (σ : Nat → Nat → Int32) (a : Int32) : MRO l g yX2_deadCells cX2_deadCells 3 (some .int) 2 [.ref (ad 0), .ref (ad2 0), .int (a)] [rtC g ad (adl 0) (ads 0) τ, rcC g adl ρl, rcC g ads ρs, stC g ad2 σ] (some (.int (deadI σ ρs a))) := by
  refine mk_ro (by decide +kernel) (Nat.le_of_ble_eq_true rfl) (fun p e s m below meth c X => ?_)
  refine w_iload_n X 2 rfl dX2_deadCells_0 ?_
  refine w_roSN X [] (m_X5_isArena l g (a)) cs_X5_isArena nk_X2_64 rfl rfl ⟨Nat.le_of_ble_eq_true rfl, Nat.le_of_ble_eq_true rfl⟩ (Nat.le_of_ble_eq_true rfl) ⟨Nat.le_of_ble_eq_true rfl, Nat.le_of_ble_eq_true rfl⟩ dX2_deadCells_1 rfl ?_
  refine w_bf_eq X 25 dX2_deadCells_4 (by decide) (fun c4 => ?_) (fun c4 => ?_)
  · refine w_iconst X (nI 0) dX2_deadCells_25 (by decide +kernel) ?_
    exact w_iret_ro X (by simp [deadI, c4]) dX2_deadCells_26
  · refine w_aload_n X 1 rfl dX2_deadCells_7 ?_
    refine w_get X 3 0 rfl rfl rfl in_X3 9 (by decide) fk_X2_67 rfl dX2_deadCells_8 ?_
    refine w_iload_n X 2 rfl dX2_deadCells_11 ?_
    refine w_iald X 3 10 0 rfl rfl rfl (isArB_in c4) dX2_deadCells_12 ?_
    refine w_aload_n X 0 rfl dX2_deadCells_13 ?_
    refine w_get X 0 0 rfl rfl rfl in_X2 1 (by decide) fk_X2_18 rfl dX2_deadCells_14 ?_
    refine w_aload_n X 1 rfl dX2_deadCells_17 ?_
    refine w_roV X [2, 3] 2 0 (m_X1_cells l g ads ρs ad2 σ) cv_X1_cells mk_X2_60 rfl rfl rfl rfl rfl ⟨Nat.le_of_ble_eq_true rfl, Nat.le_of_ble_eq_true rfl⟩ (Nat.le_of_ble_eq_true rfl) ⟨Nat.le_of_ble_eq_true rfl, Nat.le_of_ble_eq_true rfl⟩ dX2_deadCells_18 rfl ?_
    refine w_isub X dX2_deadCells_21 ?_
    refine w_goto X 26 dX2_deadCells_22 (by decide) ?_
    exact w_iret_ro X (by simp [deadI, c4]) dX2_deadCells_26
set_option maxRecDepth 100000 in
set_option maxHeartbeats 4000000 in
theorem m_X2_rank (l : Launch) (g : GG) (ad : Nat → Nat) (τ : Nat → Nat → Int32) (adl : Nat → Nat) (ρl : Nat → Nat → Int32) (ads : Nat → Nat) (ρs : Nat → Nat → Int32) (ad2 : Nat → Nat) (σ : Nat → Nat → Int32) (x : Int32) : MRO l g yX2_rank cX2_rank 4 (some .int) 1 [.ref (ad 0), .ref (ad2 0), .int (x)] [rtC g ad (adl 0) (ads 0) τ, rcC g adl ρl, rcC g ads ρs, stC g ad2 σ] (some (.int (rankI σ ρl x))) := by
  refine mk_ro (by decide +kernel) (Nat.le_of_ble_eq_true rfl) (fun p e s m below meth c X => ?_)
  refine w_aload_n X 1 rfl dX2_rank_0 ?_
  refine w_get X 3 0 rfl rfl rfl in_X3 11 (by decide) fk_X2_50 rfl dX2_rank_1 ?_
  refine w_iconst X (nI 1) dX2_rank_4 (by decide +kernel) ?_
  refine w_iald_n X 3 12 0 rfl rfl rfl (by omega) (by decide) dX2_rank_5 ?_
  refine w_istore_n X dX2_rank_6 (by decide) ?_
  refine w_iload_n X 0 rfl dX2_rank_7 ?_
  refine w_iconst X (nI 1) dX2_rank_8 (by decide +kernel) ?_
  refine w_ic_eq X 19 dX2_rank_9 (by decide) (fun c9 => ?_) (fun c9 => ?_)
  · refine w_iload_n X 3 rfl dX2_rank_19 ?_
    exact w_iret_ro X (by simp [rankI, show ¬ (nI 2 = nI 1) from by decide +kernel, c9]) dX2_rank_20
  · refine w_iload_n X 3 rfl dX2_rank_12 ?_
    refine w_roSN X [] (m_X5_isNumber l g (x)) cs_X5_isNumber nk_X2_107 rfl rfl ⟨Nat.le_of_ble_eq_true rfl, Nat.le_of_ble_eq_true rfl⟩ (Nat.le_of_ble_eq_true rfl) ⟨Nat.le_of_ble_eq_true rfl, Nat.le_of_ble_eq_true rfl⟩ dX2_rank_13 rfl ?_
    refine w_bf_ne X 21 dX2_rank_16 (by decide) (fun c16 => ?_) (fun c16 => ?_)
    · refine w_iload_n X 0 rfl dX2_rank_21 ?_
      refine w_iconst X (nI 2) dX2_rank_22 (by decide +kernel) ?_
      refine w_ic_eq X 33 dX2_rank_23 (by decide) (fun c23 => ?_) (fun c23 => ?_)
      · refine w_aload_n X 1 rfl dX2_rank_33 ?_
        refine w_get X 0 0 rfl rfl rfl in_X2 0 (by decide) fk_X2_12 rfl dX2_rank_34 ?_
        refine w_iload_n X 3 rfl dX2_rank_37 ?_
        refine w_roV X [1] 1 0 (m_X1_hasMet l g adl ρl (x)) cv_X1_hasMet mk_X2_42 rfl rfl rfl rfl rfl ⟨Nat.le_of_ble_eq_true rfl, Nat.le_of_ble_eq_true rfl⟩ (Nat.le_of_ble_eq_true rfl) ⟨Nat.le_of_ble_eq_true rfl, Nat.le_of_ble_eq_true rfl⟩ dX2_rank_38 rfl ?_
        refine w_bf_eq X 55 dX2_rank_41 (by decide) (fun c41 => ?_) (fun c41 => ?_)
        · refine w_bipush X (nI 24) dX2_rank_55 (by decide +kernel) ?_
          refine w_aload_n X 2 rfl dX2_rank_57 ?_
          refine w_get X 3 0 rfl rfl rfl in_X3 2 (by decide) fk_X2_110 rfl dX2_rank_58 ?_
          refine w_iload_n X 3 rfl dX2_rank_61 ?_
          refine w_iald X 3 3 0 rfl rfl rfl (isNuB_in c16) dX2_rank_62 ?_
          refine w_iadd X dX2_rank_63 ?_
          exact w_iret_ro X (by simp [rankI, show ¬ (nI 2 = nI 1) from by decide +kernel, c9, c16, c23, c41]) dX2_rank_64
        · refine w_aload_n X 1 rfl dX2_rank_44 ?_
          refine w_get X 0 0 rfl rfl rfl in_X2 0 (by decide) fk_X2_12 rfl dX2_rank_45 ?_
          refine w_iload_n X 3 rfl dX2_rank_48 ?_
          refine w_roV X [1] 1 0 (m_X1_placeOf l g adl ρl (x)) cv_X1_placeOf mk_X2_113 rfl rfl rfl rfl rfl ⟨Nat.le_of_ble_eq_true rfl, Nat.le_of_ble_eq_true rfl⟩ (Nat.le_of_ble_eq_true rfl) ⟨Nat.le_of_ble_eq_true rfl, Nat.le_of_ble_eq_true rfl⟩ dX2_rank_49 rfl ?_
          refine w_goto X 64 dX2_rank_52 (by decide) ?_
          exact w_iret_ro X (by simp [rankI, show ¬ (nI 2 = nI 1) from by decide +kernel, c9, c16, c23, c41]) dX2_rank_64
      · refine w_aload_n X 2 rfl dX2_rank_26 ?_
        refine w_get X 3 0 rfl rfl rfl in_X3 2 (by decide) fk_X2_110 rfl dX2_rank_27 ?_
        refine w_iload_n X 3 rfl dX2_rank_30 ?_
        refine w_iald X 3 3 0 rfl rfl rfl (isNuB_in c16) dX2_rank_31 ?_
        exact w_iret_ro X (by simp [rankI, show ¬ (nI 2 = nI 1) from by decide +kernel, c9, c16, c23]) dX2_rank_32
    · refine w_iload_n X 3 rfl dX2_rank_19 ?_
      exact w_iret_ro X (by simp [rankI, show ¬ (nI 2 = nI 1) from by decide +kernel, c9, c16]) dX2_rank_20
set_option maxRecDepth 100000 in
set_option maxHeartbeats 4000000 in
theorem m_X2_landing (l : Launch) (g : GG) (ad : Nat → Nat) (τ : Nat → Nat → Int32) (adl : Nat → Nat) (ρl : Nat → Nat → Int32) (ads : Nat → Nat) (ρs : Nat → Nat → Int32) (ad2 : Nat → Nat) (σ : Nat → Nat → Int32) (x : Int32) (b : Int32) : MRO l g yX2_landing cX2_landing 7 (some .int) 2 [.ref (ad 0), .ref (ad2 0), .int (x), .int (b)] [rtC g ad (adl 0) (ads 0) τ, rcC g adl ρl, rcC g ads ρs, stC g ad2 σ] (some (.int (landI σ ρl ρs x b))) := by
  refine mk_ro (by decide +kernel) (Nat.le_of_ble_eq_true rfl) (fun p e s m below meth c X => ?_)
  refine w_iload_n X 3 rfl dX2_landing_0 ?_
  refine w_roSN X [] (m_X5_isArena l g (b)) cs_X5_isArena nk_X2_64 rfl rfl ⟨Nat.le_of_ble_eq_true rfl, Nat.le_of_ble_eq_true rfl⟩ (Nat.le_of_ble_eq_true rfl) ⟨Nat.le_of_ble_eq_true rfl, Nat.le_of_ble_eq_true rfl⟩ dX2_landing_1 rfl ?_
  refine w_bf_eq X 16 dX2_landing_4 (by decide) (fun c4 => ?_) (fun c4 => ?_)
  · refine w_iconst X (nI 0) dX2_landing_16 (by decide +kernel) ?_
    refine w_istore X dX2_landing_17 (by decide) ?_
    refine w_aload_n X 1 rfl dX2_landing_19 ?_
    refine w_aload_n X 2 rfl dX2_landing_20 ?_
    refine w_iload_n X 3 rfl dX2_landing_21 ?_
    refine w_roV X [0, 1, 2, 3] 0 0 (m_X2_rank l g ad τ adl ρl ads ρs ad2 σ (x)) cv_X2_rank mk_X2_100 rfl rfl rfl rfl rfl ⟨Nat.le_of_ble_eq_true rfl, Nat.le_of_ble_eq_true rfl⟩ (Nat.le_of_ble_eq_true rfl) ⟨Nat.le_of_ble_eq_true rfl, Nat.le_of_ble_eq_true rfl⟩ dX2_landing_22 rfl ?_
    refine w_istore X dX2_landing_25 (by decide) ?_
    refine w_iconst X (nI 0) dX2_landing_27 (by decide +kernel) ?_
    refine w_istore X dX2_landing_28 (by decide) ?_
    have e0_4 : nI (0) = (landL σ ρl ρs (rankI σ ρl x) (baseI σ b) 0) := by rw [landL, baseI]; simp [c4]
    refine w_all [3, 4, 5, 6, 2, 1, 0] (rfl) (rfl) (by rw [← e0_4]; rfl) (w_loop (st := []) (pc := 30) X (V := Nat) (fun (i : Nat) => 24 - i) (fun (i : Nat) => (i ≤ 24)) (fun (i : Nat) => [(0, .ref (ad 0)), (1, .ref (ad2 0)), (2, .int (x)), (3, .int (b)), (4, .int (landL σ ρl ρs (rankI σ ρl x) (baseI σ b) i)), (5, .int (rankI σ ρl x)), (6, .int (nI i))]) (fun (i : Nat) => [rtC g ad (adl 0) (ads 0) τ, rcC g adl ρl, rcC g ads ρs, stC g ad2 σ]) (fun i hv30 ih30 => ?_) 0 (by omega))
    have hi := hv30
    try dsimp only at ih30 ⊢
    refine w_iload X 6 rfl dX2_landing_30 ?_
    refine w_bipush X (nI 24) dX2_landing_32 (by decide +kernel) ?_
    refine w_nc_ge X (by omega) (by omega) 79 dX2_landing_34 (by decide) (fun c34 => ?_) (fun c34 => ?_)
    · have he_i : i = 24 := by omega
      refine w_iload X 4 rfl dX2_landing_79 ?_
      exact w_iret_ro X (by rw [he_i]; rfl) dX2_landing_81
    · refine w_aload_n X 0 rfl dX2_landing_37 ?_
      refine w_get X 0 0 rfl rfl rfl in_X2 1 (by decide) fk_X2_18 rfl dX2_landing_38 ?_
      refine w_iload X 6 rfl dX2_landing_41 ?_
      refine w_roV X [2] 2 0 (m_X1_hasMet l g ads ρs (nI (i))) cv_X1_hasMet mk_X2_42 rfl rfl rfl rfl rfl ⟨Nat.le_of_ble_eq_true rfl, Nat.le_of_ble_eq_true rfl⟩ (Nat.le_of_ble_eq_true rfl) ⟨Nat.le_of_ble_eq_true rfl, Nat.le_of_ble_eq_true rfl⟩ dX2_landing_43 rfl ?_
      refine w_bf_eq X 73 dX2_landing_46 (by decide) (fun c46 => ?_) (fun c46 => ?_)
      · refine w_iinc X (nI (i + 1)) 6 rfl (nI_1 _) dX2_landing_73 (by decide) ?_
        refine w_goto X 30 dX2_landing_76 (by decide) ?_
        have e1_4 : (landL σ ρl ρs (rankI σ ρl x) (baseI σ b) i) = (landL σ ρl ρs (rankI σ ρl x) (baseI σ b) (i + 1)) := by simp [landL, c34, c46]
        exact w_all [1, 2, 3, 4, 5, 6, 0] (rfl) (rfl) (by rw [← e1_4]; rfl) (ih30 (i + 1) (by omega) (by omega))
      · refine w_aload_n X 0 rfl dX2_landing_49 ?_
        refine w_aload_n X 1 rfl dX2_landing_50 ?_
        refine w_iload X 6 rfl dX2_landing_51 ?_
        refine w_roV X [0, 1, 2, 3] 0 0 (m_X2_rank l g ad τ adl ρl ads ρs ad2 σ (nI (i))) cv_X2_rank mk_X2_100 rfl rfl rfl rfl rfl ⟨Nat.le_of_ble_eq_true rfl, Nat.le_of_ble_eq_true rfl⟩ (Nat.le_of_ble_eq_true rfl) ⟨Nat.le_of_ble_eq_true rfl, Nat.le_of_ble_eq_true rfl⟩ dX2_landing_53 rfl ?_
        refine w_iload X 5 rfl dX2_landing_56 ?_
        refine w_ic_ge X 73 dX2_landing_58 (by decide) (fun c58 => ?_) (fun c58 => ?_)
        · refine w_iinc X (nI (i + 1)) 6 rfl (nI_1 _) dX2_landing_73 (by decide) ?_
          refine w_goto X 30 dX2_landing_76 (by decide) ?_
          have e2_4 : (landL σ ρl ρs (rankI σ ρl x) (baseI σ b) i) = (landL σ ρl ρs (rankI σ ρl x) (baseI σ b) (i + 1)) := by simp [landL, c34, c46, c58]
          exact w_all [1, 2, 3, 4, 5, 6, 0] (rfl) (rfl) (by rw [← e2_4]; rfl) (ih30 (i + 1) (by omega) (by omega))
        · refine w_iload X 4 rfl dX2_landing_61 ?_
          refine w_aload_n X 1 rfl dX2_landing_63 ?_
          refine w_get X 3 0 rfl rfl rfl in_X3 3 (by decide) fk_X2_104 rfl dX2_landing_64 ?_
          refine w_iload X 6 rfl dX2_landing_67 ?_
          refine w_iald_n X 3 4 0 rfl rfl rfl (by omega) (by decide) dX2_landing_69 ?_
          refine w_iadd X dX2_landing_70 ?_
          refine w_istore X dX2_landing_71 (by decide) ?_
          refine w_iinc X (nI (i + 1)) 6 rfl (nI_1 _) dX2_landing_73 (by decide) ?_
          refine w_goto X 30 dX2_landing_76 (by decide) ?_
          have e3_4 : ((landL σ ρl ρs (rankI σ ρl x) (baseI σ b) i) + (σ 3 i)) = (landL σ ρl ρs (rankI σ ρl x) (baseI σ b) (i + 1)) := by simp [landL, c34, c46, c58]
          exact w_all [2, 3, 4, 5, 1, 6, 0] (rfl) (rfl) (by rw [← e3_4]; rfl) (ih30 (i + 1) (by omega) (by omega))
  · refine w_aload_n X 1 rfl dX2_landing_7 ?_
    refine w_get X 3 0 rfl rfl rfl in_X3 9 (by decide) fk_X2_67 rfl dX2_landing_8 ?_
    refine w_iload_n X 3 rfl dX2_landing_11 ?_
    refine w_iald X 3 10 0 rfl rfl rfl (isArB_in c4) dX2_landing_12 ?_
    refine w_goto X 17 dX2_landing_13 (by decide) ?_
    refine w_istore X dX2_landing_17 (by decide) ?_
    refine w_aload_n X 1 rfl dX2_landing_19 ?_
    refine w_aload_n X 2 rfl dX2_landing_20 ?_
    refine w_iload_n X 3 rfl dX2_landing_21 ?_
    refine w_roV X [0, 1, 2, 3] 0 0 (m_X2_rank l g ad τ adl ρl ads ρs ad2 σ (x)) cv_X2_rank mk_X2_100 rfl rfl rfl rfl rfl ⟨Nat.le_of_ble_eq_true rfl, Nat.le_of_ble_eq_true rfl⟩ (Nat.le_of_ble_eq_true rfl) ⟨Nat.le_of_ble_eq_true rfl, Nat.le_of_ble_eq_true rfl⟩ dX2_landing_22 rfl ?_
    refine w_istore X dX2_landing_25 (by decide) ?_
    refine w_iconst X (nI 0) dX2_landing_27 (by decide +kernel) ?_
    refine w_istore X dX2_landing_28 (by decide) ?_
    have e4_4 : (σ 9 ((b)).toNatClampNeg) = (landL σ ρl ρs (rankI σ ρl x) (baseI σ b) 0) := by rw [landL, baseI]; simp [c4]
    refine w_all [3, 4, 5, 6, 2, 1, 0] (rfl) (rfl) (by rw [← e4_4]; rfl) (w_loop (st := []) (pc := 30) X (V := Nat) (fun (i : Nat) => 24 - i) (fun (i : Nat) => (i ≤ 24)) (fun (i : Nat) => [(0, .ref (ad 0)), (1, .ref (ad2 0)), (2, .int (x)), (3, .int (b)), (4, .int (landL σ ρl ρs (rankI σ ρl x) (baseI σ b) i)), (5, .int (rankI σ ρl x)), (6, .int (nI i))]) (fun (i : Nat) => [rtC g ad (adl 0) (ads 0) τ, rcC g adl ρl, rcC g ads ρs, stC g ad2 σ]) (fun i hv30 ih30 => ?_) 0 (by omega))
    have hi := hv30
    try dsimp only at ih30 ⊢
    refine w_iload X 6 rfl dX2_landing_30 ?_
    refine w_bipush X (nI 24) dX2_landing_32 (by decide +kernel) ?_
    refine w_nc_ge X (by omega) (by omega) 79 dX2_landing_34 (by decide) (fun c34 => ?_) (fun c34 => ?_)
    · have he_i : i = 24 := by omega
      refine w_iload X 4 rfl dX2_landing_79 ?_
      exact w_iret_ro X (by rw [he_i]; rfl) dX2_landing_81
    · refine w_aload_n X 0 rfl dX2_landing_37 ?_
      refine w_get X 0 0 rfl rfl rfl in_X2 1 (by decide) fk_X2_18 rfl dX2_landing_38 ?_
      refine w_iload X 6 rfl dX2_landing_41 ?_
      refine w_roV X [2] 2 0 (m_X1_hasMet l g ads ρs (nI (i))) cv_X1_hasMet mk_X2_42 rfl rfl rfl rfl rfl ⟨Nat.le_of_ble_eq_true rfl, Nat.le_of_ble_eq_true rfl⟩ (Nat.le_of_ble_eq_true rfl) ⟨Nat.le_of_ble_eq_true rfl, Nat.le_of_ble_eq_true rfl⟩ dX2_landing_43 rfl ?_
      refine w_bf_eq X 73 dX2_landing_46 (by decide) (fun c46 => ?_) (fun c46 => ?_)
      · refine w_iinc X (nI (i + 1)) 6 rfl (nI_1 _) dX2_landing_73 (by decide) ?_
        refine w_goto X 30 dX2_landing_76 (by decide) ?_
        have e5_4 : (landL σ ρl ρs (rankI σ ρl x) (baseI σ b) i) = (landL σ ρl ρs (rankI σ ρl x) (baseI σ b) (i + 1)) := by simp [landL, c34, c46]
        exact w_all [1, 2, 3, 4, 5, 6, 0] (rfl) (rfl) (by rw [← e5_4]; rfl) (ih30 (i + 1) (by omega) (by omega))
      · refine w_aload_n X 0 rfl dX2_landing_49 ?_
        refine w_aload_n X 1 rfl dX2_landing_50 ?_
        refine w_iload X 6 rfl dX2_landing_51 ?_
        refine w_roV X [0, 1, 2, 3] 0 0 (m_X2_rank l g ad τ adl ρl ads ρs ad2 σ (nI (i))) cv_X2_rank mk_X2_100 rfl rfl rfl rfl rfl ⟨Nat.le_of_ble_eq_true rfl, Nat.le_of_ble_eq_true rfl⟩ (Nat.le_of_ble_eq_true rfl) ⟨Nat.le_of_ble_eq_true rfl, Nat.le_of_ble_eq_true rfl⟩ dX2_landing_53 rfl ?_
        refine w_iload X 5 rfl dX2_landing_56 ?_
        refine w_ic_ge X 73 dX2_landing_58 (by decide) (fun c58 => ?_) (fun c58 => ?_)
        · refine w_iinc X (nI (i + 1)) 6 rfl (nI_1 _) dX2_landing_73 (by decide) ?_
          refine w_goto X 30 dX2_landing_76 (by decide) ?_
          have e6_4 : (landL σ ρl ρs (rankI σ ρl x) (baseI σ b) i) = (landL σ ρl ρs (rankI σ ρl x) (baseI σ b) (i + 1)) := by simp [landL, c34, c46, c58]
          exact w_all [1, 2, 3, 4, 5, 6, 0] (rfl) (rfl) (by rw [← e6_4]; rfl) (ih30 (i + 1) (by omega) (by omega))
        · refine w_iload X 4 rfl dX2_landing_61 ?_
          refine w_aload_n X 1 rfl dX2_landing_63 ?_
          refine w_get X 3 0 rfl rfl rfl in_X3 3 (by decide) fk_X2_104 rfl dX2_landing_64 ?_
          refine w_iload X 6 rfl dX2_landing_67 ?_
          refine w_iald_n X 3 4 0 rfl rfl rfl (by omega) (by decide) dX2_landing_69 ?_
          refine w_iadd X dX2_landing_70 ?_
          refine w_istore X dX2_landing_71 (by decide) ?_
          refine w_iinc X (nI (i + 1)) 6 rfl (nI_1 _) dX2_landing_73 (by decide) ?_
          refine w_goto X 30 dX2_landing_76 (by decide) ?_
          have e7_4 : ((landL σ ρl ρs (rankI σ ρl x) (baseI σ b) i) + (σ 3 i)) = (landL σ ρl ρs (rankI σ ρl x) (baseI σ b) (i + 1)) := by simp [landL, c34, c46, c58]
          exact w_all [2, 3, 4, 5, 1, 6, 0] (rfl) (rfl) (by rw [← e7_4]; rfl) (ih30 (i + 1) (by omega) (by omega))
