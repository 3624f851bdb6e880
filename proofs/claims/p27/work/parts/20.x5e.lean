/-! MarkArenas: what may throw -/
def cyC (σ : Nat → Nat → Int32) (a : Int32) (k : Nat) : Nat → Nat → Nat → Int32
  | 0 => σ
  | n + 1 => if metB (suC σ a) (nI n) = false then cyC σ a k n else layS (cyC σ a k n) n k (landI σ (trC σ (-1)) (suC σ a) (nI n) (nI k))
def gbS (σ : Nat → Nat → Int32) (a k : Nat) : Nat → Nat → Int32 := freeS (cyC σ (nI a) k 24) a
theorem ld_at (σ ρl ρs τ : Nat → Nat → Int32) (b : Int32) : ∀ n j : Nat, j < n → ldL σ ρl ρs τ b n 0 j = if metB ρs (nI j) = false then -1 else landI σ ρl ρs (nI j) b
  | 0, j, h => by omega
  | n + 1, j, h => by
    rw [ldL, rw2_s, upd_e]
    by_cases e : j = n
    · rw [if_pos e, e]
    · rw [if_neg e]; exact ld_at σ ρl ρs τ b n j (by omega)
theorem cy_of (σ ρl ρs τ : Nat → Nat → Int32) (a : Int32) (k : Nat) (hl : Agr ρl (trC σ (-1))) (hs : Agr ρs (suC σ a)) : ∀ n : Nat, n ≤ 24 → cyL σ ρs (ldL σ ρl ρs τ (nI k) 24) k n = cyC σ a k n
  | 0, _ => rfl
  | n + 1, h => by
    rw [cyL, cyC, cy_of σ ρl ρs τ a k hl hs n (by omega), ld_at _ _ _ _ _ 24 n (by omega), met_agr hs, land_agr hl hs]
    by_cases e : metB (suC σ a) (nI n) = false
    · rw [if_pos e, if_pos e]
    · rw [if_neg e, if_neg e, if_neg e]
set_option maxRecDepth 100000 in
set_option maxHeartbeats 4000000 in
theorem m_X5_refuseNoArena (l : Launch) (g : GG) (hfl : l.stackTraces = false) (x : Int32) : MVX (U := (Nat → Nat → Nat → Int32)) l g yX5_refuseNoArena cX5_refuseNoArena 1 none 6 1 6 [.int (x)] [] (chkO (isArB x) iOE) (fun ζ' => []) := by
  refine mk_vx hfl (by decide +kernel) (Nat.le_of_ble_eq_true rfl) (fun p e s m below meth c A hT V => ?_)
  have X := V.1
  have hA := V.2.2.2.2
  refine w_iload_n X 0 rfl dX5_refuseNoArena_0 ?_
  refine w_roS X [] (m_X5_isArena l g (x)) cs_X5_isArena mk_X5_345 rfl rfl ⟨Nat.le_of_ble_eq_true rfl, Nat.le_of_ble_eq_true rfl⟩ (Nat.le_of_ble_eq_true rfl) ⟨Nat.le_of_ble_eq_true rfl, Nat.le_of_ble_eq_true rfl⟩ dX5_refuseNoArena_1 rfl ?_
  refine w_bf_ne X 18 dX5_refuseNoArena_4 (by decide) (fun c4 => ?_) (fun c4 => ?_)
  · exact w_vret_vx V ((fun _ _ _ => 0)) (by rw [c4]; rfl) (by rfl) (Nat.le_of_ble_eq_true rfl) (Nat.le_of_ble_eq_true rfl) dX5_refuseNoArena_18
  · exact w_thrW V hT (text := "no such arena") th_iOE (by decide +kernel) ((fun _ _ _ => 0)) (by rw [c4]; rfl) (by rfl) ⟨(Nat.le_of_ble_eq_true rfl), (Nat.le_of_ble_eq_true rfl)⟩ (Nat.le_of_ble_eq_true rfl) ⟨(Nat.le_of_ble_eq_true rfl), (Nat.le_of_ble_eq_true rfl)⟩ ⟨(Nat.le_of_ble_eq_true rfl), (Nat.le_of_ble_eq_true rfl)⟩ dX5_refuseNoArena_7 dX5_refuseNoArena_10 dX5_refuseNoArena_11 dX5_refuseNoArena_14 dX5_refuseNoArena_17
set_option maxRecDepth 100000 in
set_option maxHeartbeats 4000000 in
theorem m_X5_refuseNoObject (l : Launch) (g : GG) (hfl : l.stackTraces = false) (am : Nat → Nat) (ast : Nat → Nat) (art : Nat → Nat) (alas : Nat → Nat) (atx : Nat → Nat) (ahi : Nat → Nat) (σ : Nat → Nat → Int32) (x : Int32) : MVX (U := (Nat → Nat → Nat → Int32)) l g yX5_refuseNoObject cX5_refuseNoObject 2 none 6 1 6 [.ref (am 0), .int (x)] [maC g am (ast 0) (art 0) (alas 0) (atx 0) (ahi 0), stC g ast σ] (chkO (hasB σ x) iOE) (fun ζ' => [maC g am (ast 0) (art 0) (alas 0) (atx 0) (ahi 0), stC g ast σ]) := by
  refine mk_vx hfl (by decide +kernel) (Nat.le_of_ble_eq_true rfl) (fun p e s m below meth c A hT V => ?_)
  have X := V.1
  have hA := V.2.2.2.2
  refine w_aload_n X 0 rfl dX5_refuseNoObject_0 ?_
  refine w_get X 0 0 rfl rfl rfl in_X5 0 (by decide) fk_X5_10 rfl dX5_refuseNoObject_1 ?_
  refine w_iload_n X 1 rfl dX5_refuseNoObject_4 ?_
  refine w_roV X [1] 1 0 (m_X3_has l g ast σ (x)) cv_X3_has mk_X5_198 rfl rfl rfl rfl rfl ⟨Nat.le_of_ble_eq_true rfl, Nat.le_of_ble_eq_true rfl⟩ (Nat.le_of_ble_eq_true rfl) ⟨Nat.le_of_ble_eq_true rfl, Nat.le_of_ble_eq_true rfl⟩ dX5_refuseNoObject_5 rfl ?_
  refine w_bf_ne X 22 dX5_refuseNoObject_8 (by decide) (fun c8 => ?_) (fun c8 => ?_)
  · exact w_vret_vx V ((fun _ _ _ => 0)) (by rw [c8]; rfl) (by rfl) (Nat.le_of_ble_eq_true rfl) (Nat.le_of_ble_eq_true rfl) dX5_refuseNoObject_22
  · exact w_thrW V hT (text := "no such object") th_iOE (by decide +kernel) ((fun _ _ _ => 0)) (by rw [c8]; rfl) (by rfl) ⟨(Nat.le_of_ble_eq_true rfl), (Nat.le_of_ble_eq_true rfl)⟩ (Nat.le_of_ble_eq_true rfl) ⟨(Nat.le_of_ble_eq_true rfl), (Nat.le_of_ble_eq_true rfl)⟩ ⟨(Nat.le_of_ble_eq_true rfl), (Nat.le_of_ble_eq_true rfl)⟩ dX5_refuseNoObject_11 dX5_refuseNoObject_14 dX5_refuseNoObject_15 dX5_refuseNoObject_18 dX5_refuseNoObject_21
def isSeB (x : Int32) : Bool := if x < 0 then false else if x < nI 2 then true else false
theorem isSeB_ex {x : Int32} (h : isSeB x = true) : ∃ j : Nat, j < 2 ∧ x = nI j := by
  unfold isSeB at h
  split at h
  · cases h
  · split at h
    · exact ix_lt (by decide) (by assumption) (by assumption)
    · cases h
set_option maxRecDepth 100000 in
set_option maxHeartbeats 4000000 in
theorem m_X5_refuseNoSetting (l : Launch) (g : GG) (hfl : l.stackTraces = false) (x : Int32) : MVX (U := (Nat → Nat → Nat → Int32)) l g yX5_refuseNoSetting cX5_refuseNoSetting 1 none 6 1 6 [.int (x)] [] (chkO (isSeB x) iOE) (fun ζ' => []) := by
  refine mk_vx hfl (by decide +kernel) (Nat.le_of_ble_eq_true rfl) (fun p e s m below meth c A hT V => ?_)
  have X := V.1
  have hA := V.2.2.2.2
  refine w_iload_n X 0 rfl dX5_refuseNoSetting_0 ?_
  refine w_if_lt X 9 dX5_refuseNoSetting_1 (by decide) (fun c1 => ?_) (fun c1 => ?_)
  · exact w_thrW V hT (text := "no such setting") th_iOE (by decide +kernel) ((fun _ _ _ => 0)) (by first | (rw [isSeB, if_pos c1]; rfl) | (rw [isSeB, if_neg c1, if_neg c6]; rfl)) (by rfl) ⟨(Nat.le_of_ble_eq_true rfl), (Nat.le_of_ble_eq_true rfl)⟩ (Nat.le_of_ble_eq_true rfl) ⟨(Nat.le_of_ble_eq_true rfl), (Nat.le_of_ble_eq_true rfl)⟩ ⟨(Nat.le_of_ble_eq_true rfl), (Nat.le_of_ble_eq_true rfl)⟩ dX5_refuseNoSetting_9 dX5_refuseNoSetting_12 dX5_refuseNoSetting_13 dX5_refuseNoSetting_16 dX5_refuseNoSetting_19
  · refine w_iload_n X 0 rfl dX5_refuseNoSetting_4 ?_
    refine w_iconst X (nI 2) dX5_refuseNoSetting_5 (by decide +kernel) ?_
    refine w_ic_lt X 20 dX5_refuseNoSetting_6 (by decide) (fun c6 => ?_) (fun c6 => ?_)
    · exact w_vret_vx V ((fun _ _ _ => 0)) (by rw [isSeB, if_neg c1, if_pos c6]; rfl) (by rfl) (Nat.le_of_ble_eq_true rfl) (Nat.le_of_ble_eq_true rfl) dX5_refuseNoSetting_20
    · exact w_thrW V hT (text := "no such setting") th_iOE (by decide +kernel) ((fun _ _ _ => 0)) (by first | (rw [isSeB, if_pos c1]; rfl) | (rw [isSeB, if_neg c1, if_neg c6]; rfl)) (by rfl) ⟨(Nat.le_of_ble_eq_true rfl), (Nat.le_of_ble_eq_true rfl)⟩ (Nat.le_of_ble_eq_true rfl) ⟨(Nat.le_of_ble_eq_true rfl), (Nat.le_of_ble_eq_true rfl)⟩ ⟨(Nat.le_of_ble_eq_true rfl), (Nat.le_of_ble_eq_true rfl)⟩ dX5_refuseNoSetting_9 dX5_refuseNoSetting_12 dX5_refuseNoSetting_13 dX5_refuseNoSetting_16 dX5_refuseNoSetting_19
set_option maxRecDepth 100000 in
set_option maxHeartbeats 4000000 in
theorem m_X5_open (l : Launch) (g : GG) (hfl : l.stackTraces = false) (am : Nat → Nat) (ast : Nat → Nat) (art : Nat → Nat) (alas : Nat → Nat) (atx : Nat → Nat) (ahi : Nat → Nat) (had : Nat → Nat → Nat) (σ : Nat → Nat → Int32) (η : Nat → Nat → Int32) (hσ : Nat → Nat → Nat → Int32) (nx : Nat) (sv : Nat) (o : OC) (σ' : Nat → Nat → Int32) (η' : Nat → Nat → Int32) (hσ' : Nat → Nat → Nat → Int32) (hnx : nx < 6) (hnx1 : η 1 0 = nI nx) (hsv1 : η 2 0 = nI sv) (hsv : sv ≤ 6) (b0 : fit01 (σ 0) 24) (b5 : fit01 (σ 5) 24) (b6 : fit01 (σ 6) 24) (b8 : fit01 (σ 8) 6) (h1 : lfA σ = -1 → (.inr iSE : OC) = o ∧ σ = σ' ∧ η = η' ∧ hσ = hσ') (h2 : ∀ n, n < 6 → lfA σ = nI n → rI (nI n) = o ∧ handS σ n = σ' ∧ hiS η (nxN nx) (svN sv) = η' ∧ rw2 hσ nx σ = hσ') : MVX (U := (Nat → Nat → Nat → Int32)) l g yX5_open cX5_open 2 (some .int) 8 1 6 [.ref (am 0)] [maC g am (ast 0) (art 0) (alas 0) (atx 0) (ahi 0), stC g ast σ, hiC g ahi (fun i => had i 0) η, stC g (had 0) (hσ 0), stC g (had 1) (hσ 1), stC g (had 2) (hσ 2), stC g (had 3) (hσ 3), stC g (had 4) (hσ 4), stC g (had 5) (hσ 5)] (o) (fun ζ' => [maC g am (ast 0) (art 0) (alas 0) (atx 0) (ahi 0), stC g ast σ', hiC g ahi (fun i => had i 0) η', stC g (had 0) (hσ' 0), stC g (had 1) (hσ' 1), stC g (had 2) (hσ' 2), stC g (had 3) (hσ' 3), stC g (had 4) (hσ' 4), stC g (had 5) (hσ' 5)]) := by
  refine mk_vx hfl (by decide +kernel) (Nat.le_of_ble_eq_true rfl) (fun p e s m below meth c A hT V => ?_)
  have X := V.1
  have hA := V.2.2.2.2
  refine w_aload_n X 0 rfl dX5_open_0 ?_
  refine w_get X 0 0 rfl rfl rfl in_X5 0 (by decide) fk_X5_10 rfl dX5_open_1 ?_
  refine w_roV X [1] 1 0 (m_X3_lowestFreeArena l g ast σ) cv_X3_lowestFreeArena mk_X5_44 rfl rfl rfl rfl rfl ⟨Nat.le_of_ble_eq_true rfl, Nat.le_of_ble_eq_true rfl⟩ (Nat.le_of_ble_eq_true rfl) ⟨Nat.le_of_ble_eq_true rfl, Nat.le_of_ble_eq_true rfl⟩ dX5_open_4 rfl ?_
  refine w_istore_n X dX5_open_7 (by decide) ?_
  refine w_iload_n X 0 rfl dX5_open_8 ?_
  refine w_iconst X (-1) dX5_open_9 (by decide +kernel) ?_
  refine w_ic_ne X 23 dX5_open_10 (by decide) (fun c10 => ?_) (fun c10 => ?_)
  · obtain ⟨n, hn, hn0⟩ : ∃ n, n < 6 ∧ lowI (fun o => !nz (σ 8 o)) 6 = nI n := (lowI_cases (fun o => !nz (σ 8 o)) 6).elim (fun h => absurd h.1 c10) (fun ⟨n, h1, h2, _⟩ => ⟨n, h1, h2⟩)
    rw [hn0]
    refine w_aload_n X 1 rfl dX5_open_23 ?_
    refine w_get X 0 0 rfl rfl rfl in_X5 4 (by decide) fk_X5_40 rfl dX5_open_24 ?_
    refine w_aload_n X 1 rfl dX5_open_27 ?_
    refine w_get X 0 0 rfl rfl rfl in_X5 0 (by decide) fk_X5_10 rfl dX5_open_28 ?_
    refine w_muV X hA (gr := [maC g am (ast 0) (art 0) (alas 0) (atx 0) (ahi 0)]) (gs1 := [maC g am (ast 0) (art 0) (alas 0) (atx 0) (ahi 0), stC g ast σ, hiC g ahi (fun i => had i 0) (hiS η (nxN nx) (svN sv)), stC g (had 0) (rw2 hσ nx σ 0), stC g (had 1) (rw2 hσ nx σ 1), stC g (had 2) (rw2 hσ nx σ 2), stC g (had 3) (rw2 hσ nx σ 3), stC g (had 4) (rw2 hσ nx σ 4), stC g (had 5) (rw2 hσ nx σ 5)]) [2, 3, 4, 5, 6, 7, 8, 1] [0] 2 0 (m_X0_save l g ahi η had hσ ast σ nx sv (hnx) (hnx1) (hsv1) (hsv) (b0) (b5) (b6) (b8)) cv_X0_save mk_X5_55 rfl rfl rfl (ng := 9) rfl (by decide) rfl rfl rfl rfl rfl rfl ⟨Nat.le_of_ble_eq_true rfl, Nat.le_of_ble_eq_true rfl⟩ (Nat.le_of_ble_eq_true rfl) ⟨Nat.le_of_ble_eq_true rfl, Nat.le_of_ble_eq_true rfl⟩ dX5_open_31 rfl ?_
    refine w_aload_n X 1 rfl dX5_open_34 ?_
    refine w_get X 0 0 rfl rfl rfl in_X5 0 (by decide) fk_X5_10 rfl dX5_open_35 ?_
    refine w_iload_n X 0 rfl dX5_open_38 ?_
    refine w_muV X hA (gr := [maC g am (ast 0) (art 0) (alas 0) (atx 0) (ahi 0), hiC g ahi (fun i => had i 0) (hiS η (nxN nx) (svN sv)), stC g (had 0) (rw2 hσ nx σ 0), stC g (had 1) (rw2 hσ nx σ 1), stC g (had 2) (rw2 hσ nx σ 2), stC g (had 3) (rw2 hσ nx σ 3), stC g (had 4) (rw2 hσ nx σ 4), stC g (had 5) (rw2 hσ nx σ 5)]) (gs1 := [maC g am (ast 0) (art 0) (alas 0) (atx 0) (ahi 0), stC g ast (handS σ n), hiC g ahi (fun i => had i 0) (hiS η (nxN nx) (svN sv)), stC g (had 0) (rw2 hσ nx σ 0), stC g (had 1) (rw2 hσ nx σ 1), stC g (had 2) (rw2 hσ nx σ 2), stC g (had 3) (rw2 hσ nx σ 3), stC g (had 4) (rw2 hσ nx σ 4), stC g (had 5) (rw2 hσ nx σ 5)]) [1] [0, 2, 3, 4, 5, 6, 7, 8] 1 0 (m_X3_handOut l g ast σ n (by omega)) cv_X3_handOut mk_X5_59 rfl rfl rfl (ng := 9) rfl (by decide) rfl rfl rfl rfl rfl rfl ⟨Nat.le_of_ble_eq_true rfl, Nat.le_of_ble_eq_true rfl⟩ (Nat.le_of_ble_eq_true rfl) ⟨Nat.le_of_ble_eq_true rfl, Nat.le_of_ble_eq_true rfl⟩ dX5_open_39 rfl ?_
    generalize hn1 : handS σ n = σv1
    refine w_iload_n X 0 rfl dX5_open_42 ?_
    obtain ⟨rfl, rfl, rfl, rfl⟩ := h2 n hn hn0
    exact w_iret_vx V ((fun _ _ _ => 0)) (by subst hn1; rfl) (by subst hn1; rfl) (Nat.le_of_ble_eq_true rfl) (Nat.le_of_ble_eq_true rfl) dX5_open_43
  · obtain ⟨rfl, rfl, rfl, rfl⟩ := h1 c10
    exact w_thrS V hT (text := "no arena is free") th_iSE (by decide +kernel) ((fun _ _ _ => 0)) (rfl) (by rfl) ⟨(Nat.le_of_ble_eq_true rfl), (Nat.le_of_ble_eq_true rfl)⟩ (Nat.le_of_ble_eq_true rfl) ⟨(Nat.le_of_ble_eq_true rfl), (Nat.le_of_ble_eq_true rfl)⟩ ⟨(Nat.le_of_ble_eq_true rfl), (Nat.le_of_ble_eq_true rfl)⟩ dX5_open_13 dX5_open_16 dX5_open_17 dX5_open_19 dX5_open_22
set_option maxRecDepth 100000 in
set_option maxHeartbeats 4000000 in
theorem m_X5_make (l : Launch) (g : GG) (hfl : l.stackTraces = false) (am : Nat → Nat) (ast : Nat → Nat) (art : Nat → Nat) (alas : Nat → Nat) (atx : Nat → Nat) (ahi : Nat → Nat) (had : Nat → Nat → Nat) (σ : Nat → Nat → Int32) (η : Nat → Nat → Int32) (hσ : Nat → Nat → Nat → Int32) (x : Int32) (z : Int32) (nx : Nat) (sv : Nat) (o : OC) (σ' : Nat → Nat → Int32) (η' : Nat → Nat → Int32) (hσ' : Nat → Nat → Nat → Int32) (hnx : nx < 6) (hnx1 : η 1 0 = nI nx) (hsv1 : η 2 0 = nI sv) (hsv : sv ≤ 6) (b0 : fit01 (σ 0) 24) (b5 : fit01 (σ 5) 24) (b6 : fit01 (σ 6) 24) (b8 : fit01 (σ 8) 6) (h1 : isArB x = false → (.inr iOE : OC) = o ∧ σ = σ' ∧ η = η' ∧ hσ = hσ') (h2 : isArB x = true → (z < nI 1 ∨ ¬ z ≤ nI 16) → (.inr iAE : OC) = o ∧ σ = σ' ∧ η = η' ∧ hσ = hσ') (h3 : isArB x = true → ¬ z < nI 1 → z ≤ nI 16 → (isOpB σ x = false ∨ roomB σ x z = false ∨ lfN σ = -1) → (.inr iSE : OC) = o ∧ σ = σ' ∧ η = η' ∧ hσ = hσ') (h4 : ∀ k n, k < 6 → x = nI k → n < 24 → ¬ z < nI 1 → z ≤ nI 16 → isOpB σ x = true → roomB σ x z = true → lfN σ = nI n → rI (nI n) = o ∧ addS σ n k z = σ' ∧ hiS η (nxN nx) (svN sv) = η' ∧ rw2 hσ nx σ = hσ') : MVX (U := (Nat → Nat → Nat → Int32)) l g yX5_make cX5_make 4 (some .int) 9 2 12 [.ref (am 0), .int (x), .int (z)] [maC g am (ast 0) (art 0) (alas 0) (atx 0) (ahi 0), stC g ast σ, hiC g ahi (fun i => had i 0) η, stC g (had 0) (hσ 0), stC g (had 1) (hσ 1), stC g (had 2) (hσ 2), stC g (had 3) (hσ 3), stC g (had 4) (hσ 4), stC g (had 5) (hσ 5)] (o) (fun ζ' => [maC g am (ast 0) (art 0) (alas 0) (atx 0) (ahi 0), stC g ast σ', hiC g ahi (fun i => had i 0) η', stC g (had 0) (hσ' 0), stC g (had 1) (hσ' 1), stC g (had 2) (hσ' 2), stC g (had 3) (hσ' 3), stC g (had 4) (hσ' 4), stC g (had 5) (hσ' 5)]) := by
  refine mk_vx hfl (by decide +kernel) (Nat.le_of_ble_eq_true rfl) (fun p e s m below meth c A hT V => ?_)
  have X := V.1
  have hA := V.2.2.2.2
  refine w_iload_n X 1 rfl dX5_make_0 ?_
  refine w_chkS V hT (m_X5_refuseNoArena l g hfl (x)) cs_X5_refuseNoArena mk_X5_63 rfl ⟨Nat.le_of_ble_eq_true rfl, Nat.le_of_ble_eq_true rfl⟩ (Nat.le_of_ble_eq_true rfl) ⟨(Nat.le_of_ble_eq_true rfl), (Nat.le_of_ble_eq_true rfl)⟩ ⟨(Nat.le_of_ble_eq_true rfl), (Nat.le_of_ble_eq_true rfl)⟩ dX5_make_1 ((fun _ _ _ => 0)) (fun E hE => by obtain ⟨hb, rfl⟩ := chkO_r hE; obtain ⟨rfl, rfl, rfl, rfl⟩ := h1 hb; exact ⟨rfl, by rfl⟩) (fun rv h => (chkO_l h).2) (fun hk1 => ?_)
  have c1 := (chkO_l hk1).1
  obtain ⟨k, hk, rfl⟩ := isArB_ex c1
  refine w_iload_n X 2 rfl dX5_make_4 ?_
  refine w_iconst X (nI 1) dX5_make_5 (by decide +kernel) ?_
  refine w_ic_lt X 15 dX5_make_6 (by decide) (fun c6 => ?_) (fun c6 => ?_)
  · obtain ⟨rfl, rfl, rfl, rfl⟩ := h2 c1 (Or.inl c6)
    exact w_thrS V hT (text := "a size is 1 to 16") th_iAE (by decide +kernel) ((fun _ _ _ => 0)) (rfl) (by rfl) ⟨(Nat.le_of_ble_eq_true rfl), (Nat.le_of_ble_eq_true rfl)⟩ (Nat.le_of_ble_eq_true rfl) ⟨(Nat.le_of_ble_eq_true rfl), (Nat.le_of_ble_eq_true rfl)⟩ ⟨(Nat.le_of_ble_eq_true rfl), (Nat.le_of_ble_eq_true rfl)⟩ dX5_make_15 dX5_make_18 dX5_make_19 dX5_make_21 dX5_make_24
  · refine w_iload_n X 2 rfl dX5_make_9 ?_
    refine w_bipush X (nI 16) dX5_make_10 (by decide +kernel) ?_
    refine w_ic_le X 25 dX5_make_12 (by decide) (fun c12 => ?_) (fun c12 => ?_)
    · refine w_aload_n X 0 rfl dX5_make_25 ?_
      refine w_get X 0 0 rfl rfl rfl in_X5 0 (by decide) fk_X5_10 rfl dX5_make_26 ?_
      refine w_roV X [1] 1 0 (m_X3_lowestFreeNumber l g ast σ) cv_X3_lowestFreeNumber mk_X5_71 rfl rfl rfl rfl rfl ⟨Nat.le_of_ble_eq_true rfl, Nat.le_of_ble_eq_true rfl⟩ (Nat.le_of_ble_eq_true rfl) ⟨Nat.le_of_ble_eq_true rfl, Nat.le_of_ble_eq_true rfl⟩ dX5_make_29 rfl ?_
      refine w_istore_n X dX5_make_32 (by decide) ?_
      refine w_aload_n X 1 rfl dX5_make_33 ?_
      refine w_get X 0 0 rfl rfl rfl in_X5 0 (by decide) fk_X5_10 rfl dX5_make_34 ?_
      refine w_iload_n X 2 rfl dX5_make_37 ?_
      refine w_roV X [1] 1 0 (m_X3_isOpen l g ast σ (nI (k))) cv_X3_isOpen mk_X5_74 rfl rfl rfl rfl rfl ⟨Nat.le_of_ble_eq_true rfl, Nat.le_of_ble_eq_true rfl⟩ (Nat.le_of_ble_eq_true rfl) ⟨Nat.le_of_ble_eq_true rfl, Nat.le_of_ble_eq_true rfl⟩ dX5_make_38 rfl ?_
      refine w_bf_eq X 61 dX5_make_41 (by decide) (fun c41 => ?_) (fun c41 => ?_)
      · obtain ⟨rfl, rfl, rfl, rfl⟩ := h3 c1 c6 c12 (Or.inl c41)
        exact w_thrS V hT (text := "not open, or without room, or no number is left") th_iSE (by decide +kernel) ((fun _ _ _ => 0)) (rfl) (by rfl) ⟨(Nat.le_of_ble_eq_true rfl), (Nat.le_of_ble_eq_true rfl)⟩ (Nat.le_of_ble_eq_true rfl) ⟨(Nat.le_of_ble_eq_true rfl), (Nat.le_of_ble_eq_true rfl)⟩ ⟨(Nat.le_of_ble_eq_true rfl), (Nat.le_of_ble_eq_true rfl)⟩ dX5_make_61 dX5_make_64 dX5_make_65 dX5_make_67 dX5_make_70
      · refine w_aload_n X 1 rfl dX5_make_44 ?_
        refine w_get X 0 0 rfl rfl rfl in_X5 0 (by decide) fk_X5_10 rfl dX5_make_45 ?_
        refine w_iload_n X 2 rfl dX5_make_48 ?_
        refine w_iload_n X 3 rfl dX5_make_49 ?_
        refine w_roV X [1] 1 0 (m_X3_hasRoom l g ast σ (nI (k)) (z)) cv_X3_hasRoom mk_X5_78 rfl rfl rfl rfl rfl ⟨Nat.le_of_ble_eq_true rfl, Nat.le_of_ble_eq_true rfl⟩ (Nat.le_of_ble_eq_true rfl) ⟨Nat.le_of_ble_eq_true rfl, Nat.le_of_ble_eq_true rfl⟩ dX5_make_50 rfl ?_
        refine w_bf_eq X 61 dX5_make_53 (by decide) (fun c53 => ?_) (fun c53 => ?_)
        · obtain ⟨rfl, rfl, rfl, rfl⟩ := h3 c1 c6 c12 (Or.inr (Or.inl c53))
          exact w_thrS V hT (text := "not open, or without room, or no number is left") th_iSE (by decide +kernel) ((fun _ _ _ => 0)) (rfl) (by rfl) ⟨(Nat.le_of_ble_eq_true rfl), (Nat.le_of_ble_eq_true rfl)⟩ (Nat.le_of_ble_eq_true rfl) ⟨(Nat.le_of_ble_eq_true rfl), (Nat.le_of_ble_eq_true rfl)⟩ ⟨(Nat.le_of_ble_eq_true rfl), (Nat.le_of_ble_eq_true rfl)⟩ dX5_make_61 dX5_make_64 dX5_make_65 dX5_make_67 dX5_make_70
        · refine w_iload_n X 0 rfl dX5_make_56 ?_
          refine w_iconst X (-1) dX5_make_57 (by decide +kernel) ?_
          refine w_ic_ne X 71 dX5_make_58 (by decide) (fun c58 => ?_) (fun c58 => ?_)
          · obtain ⟨n, hn, hn0⟩ : ∃ n, n < 24 ∧ lowI (fun o => !nz (σ 0 o)) 24 = nI n := (lowI_cases (fun o => !nz (σ 0 o)) 24).elim (fun h => absurd h.1 c58) (fun ⟨n, h1, h2, _⟩ => ⟨n, h1, h2⟩)
            rw [hn0]
            refine w_aload_n X 1 rfl dX5_make_71 ?_
            refine w_get X 0 0 rfl rfl rfl in_X5 4 (by decide) fk_X5_40 rfl dX5_make_72 ?_
            refine w_aload_n X 1 rfl dX5_make_75 ?_
            refine w_get X 0 0 rfl rfl rfl in_X5 0 (by decide) fk_X5_10 rfl dX5_make_76 ?_
            refine w_muV X hA (gr := [maC g am (ast 0) (art 0) (alas 0) (atx 0) (ahi 0)]) (gs1 := [maC g am (ast 0) (art 0) (alas 0) (atx 0) (ahi 0), stC g ast σ, hiC g ahi (fun i => had i 0) (hiS η (nxN nx) (svN sv)), stC g (had 0) (rw2 hσ nx σ 0), stC g (had 1) (rw2 hσ nx σ 1), stC g (had 2) (rw2 hσ nx σ 2), stC g (had 3) (rw2 hσ nx σ 3), stC g (had 4) (rw2 hσ nx σ 4), stC g (had 5) (rw2 hσ nx σ 5)]) [2, 3, 4, 5, 6, 7, 8, 1] [0] 2 0 (m_X0_save l g ahi η had hσ ast σ nx sv (hnx) (hnx1) (hsv1) (hsv) (b0) (b5) (b6) (b8)) cv_X0_save mk_X5_55 rfl rfl rfl (ng := 9) rfl (by decide) rfl rfl rfl rfl rfl rfl ⟨Nat.le_of_ble_eq_true rfl, Nat.le_of_ble_eq_true rfl⟩ (Nat.le_of_ble_eq_true rfl) ⟨Nat.le_of_ble_eq_true rfl, Nat.le_of_ble_eq_true rfl⟩ dX5_make_79 rfl ?_
            refine w_aload_n X 1 rfl dX5_make_82 ?_
            refine w_get X 0 0 rfl rfl rfl in_X5 0 (by decide) fk_X5_10 rfl dX5_make_83 ?_
            refine w_iload_n X 0 rfl dX5_make_86 ?_
            refine w_iload_n X 2 rfl dX5_make_87 ?_
            refine w_iload_n X 3 rfl dX5_make_88 ?_
            refine w_muV X hA (gr := [maC g am (ast 0) (art 0) (alas 0) (atx 0) (ahi 0), hiC g ahi (fun i => had i 0) (hiS η (nxN nx) (svN sv)), stC g (had 0) (rw2 hσ nx σ 0), stC g (had 1) (rw2 hσ nx σ 1), stC g (had 2) (rw2 hσ nx σ 2), stC g (had 3) (rw2 hσ nx σ 3), stC g (had 4) (rw2 hσ nx σ 4), stC g (had 5) (rw2 hσ nx σ 5)]) (gs1 := [maC g am (ast 0) (art 0) (alas 0) (atx 0) (ahi 0), stC g ast (addS σ n k (z)), hiC g ahi (fun i => had i 0) (hiS η (nxN nx) (svN sv)), stC g (had 0) (rw2 hσ nx σ 0), stC g (had 1) (rw2 hσ nx σ 1), stC g (had 2) (rw2 hσ nx σ 2), stC g (had 3) (rw2 hσ nx σ 3), stC g (had 4) (rw2 hσ nx σ 4), stC g (had 5) (rw2 hσ nx σ 5)]) [1] [0, 2, 3, 4, 5, 6, 7, 8] 1 0 (m_X3_add l g ast σ n k (z) (by omega) (by omega)) cv_X3_add mk_X5_84 rfl rfl rfl (ng := 9) rfl (by decide) rfl rfl rfl rfl rfl rfl ⟨Nat.le_of_ble_eq_true rfl, Nat.le_of_ble_eq_true rfl⟩ (Nat.le_of_ble_eq_true rfl) ⟨Nat.le_of_ble_eq_true rfl, Nat.le_of_ble_eq_true rfl⟩ dX5_make_89 rfl ?_
            generalize hn1 : addS σ n k (z) = σv1
            refine w_iload_n X 0 rfl dX5_make_92 ?_
            obtain ⟨rfl, rfl, rfl, rfl⟩ := h4 k n hk rfl hn c6 c12 c41 c53 hn0
            exact w_iret_vx V ((fun _ _ _ => 0)) (by subst hn1; rfl) (by subst hn1; rfl) (Nat.le_of_ble_eq_true rfl) (Nat.le_of_ble_eq_true rfl) dX5_make_93
          · obtain ⟨rfl, rfl, rfl, rfl⟩ := h3 c1 c6 c12 (Or.inr (Or.inr c58))
            exact w_thrS V hT (text := "not open, or without room, or no number is left") th_iSE (by decide +kernel) ((fun _ _ _ => 0)) (rfl) (by rfl) ⟨(Nat.le_of_ble_eq_true rfl), (Nat.le_of_ble_eq_true rfl)⟩ (Nat.le_of_ble_eq_true rfl) ⟨(Nat.le_of_ble_eq_true rfl), (Nat.le_of_ble_eq_true rfl)⟩ ⟨(Nat.le_of_ble_eq_true rfl), (Nat.le_of_ble_eq_true rfl)⟩ dX5_make_61 dX5_make_64 dX5_make_65 dX5_make_67 dX5_make_70
    · obtain ⟨rfl, rfl, rfl, rfl⟩ := h2 c1 (Or.inr c12)
      exact w_thrS V hT (text := "a size is 1 to 16") th_iAE (by decide +kernel) ((fun _ _ _ => 0)) (rfl) (by rfl) ⟨(Nat.le_of_ble_eq_true rfl), (Nat.le_of_ble_eq_true rfl)⟩ (Nat.le_of_ble_eq_true rfl) ⟨(Nat.le_of_ble_eq_true rfl), (Nat.le_of_ble_eq_true rfl)⟩ ⟨(Nat.le_of_ble_eq_true rfl), (Nat.le_of_ble_eq_true rfl)⟩ dX5_make_15 dX5_make_18 dX5_make_19 dX5_make_21 dX5_make_24
set_option maxRecDepth 100000 in
set_option maxHeartbeats 4000000 in
theorem m_X5_link (l : Launch) (g : GG) (hfl : l.stackTraces = false) (am : Nat → Nat) (ast : Nat → Nat) (art : Nat → Nat) (alas : Nat → Nat) (atx : Nat → Nat) (ahi : Nat → Nat) (had : Nat → Nat → Nat) (σ : Nat → Nat → Int32) (η : Nat → Nat → Int32) (hσ : Nat → Nat → Nat → Int32) (x : Int32) (f : Int32) (t : Int32) (nx : Nat) (sv : Nat) (o : OC) (σ' : Nat → Nat → Int32) (η' : Nat → Nat → Int32) (hσ' : Nat → Nat → Nat → Int32) (hnx : nx < 6) (hnx1 : η 1 0 = nI nx) (hsv1 : η 2 0 = nI sv) (hsv : sv ≤ 6) (b0 : fit01 (σ 0) 24) (b5 : fit01 (σ 5) 24) (b6 : fit01 (σ 6) 24) (b8 : fit01 (σ 8) 6) (h1 : hasB σ x = false → (.inr iOE : OC) = o ∧ σ = σ' ∧ η = η' ∧ hσ = hσ') (h2 : hasB σ x = true → (f < 0 ∨ ¬ f < nI 2) → (.inr iOE : OC) = o ∧ σ = σ' ∧ η = η' ∧ hσ = hσ') (h3 : hasB σ x = true → ¬ f < 0 → f < nI 2 → ¬ t = -1 → hasB σ t = false → (.inr iOE : OC) = o ∧ σ = σ' ∧ η = η' ∧ hσ = hσ') (h4 : ∀ j q, j < 24 → x = nI j → q < 2 → f = nI q → hasB σ x = true → (t = -1 ∨ hasB σ t = true) → rI (refI σ (nI j) (nI q)) = o ∧ rfS σ j q t = σ' ∧ hiS η (nxN nx) (svN sv) = η' ∧ rw2 hσ nx σ = hσ') : MVX (U := (Nat → Nat → Nat → Int32)) l g yX5_link cX5_link 5 (some .int) 9 2 12 [.ref (am 0), .int (x), .int (f), .int (t)] [maC g am (ast 0) (art 0) (alas 0) (atx 0) (ahi 0), stC g ast σ, hiC g ahi (fun i => had i 0) η, stC g (had 0) (hσ 0), stC g (had 1) (hσ 1), stC g (had 2) (hσ 2), stC g (had 3) (hσ 3), stC g (had 4) (hσ 4), stC g (had 5) (hσ 5)] (o) (fun ζ' => [maC g am (ast 0) (art 0) (alas 0) (atx 0) (ahi 0), stC g ast σ', hiC g ahi (fun i => had i 0) η', stC g (had 0) (hσ' 0), stC g (had 1) (hσ' 1), stC g (had 2) (hσ' 2), stC g (had 3) (hσ' 3), stC g (had 4) (hσ' 4), stC g (had 5) (hσ' 5)]) := by
  refine mk_vx hfl (by decide +kernel) (Nat.le_of_ble_eq_true rfl) (fun p e s m below meth c A hT V => ?_)
  have X := V.1
  have hA := V.2.2.2.2
  refine w_aload_n X 0 rfl dX5_link_0 ?_
  refine w_iload_n X 1 rfl dX5_link_1 ?_
  refine w_chkV V hT [hiC g ahi (fun i => had i 0) η, stC g (had 0) (hσ 0), stC g (had 1) (hσ 1), stC g (had 2) (hσ 2), stC g (had 3) (hσ 3), stC g (had 4) (hσ 4), stC g (had 5) (hσ 5)] [0, 1] [2, 3, 4, 5, 6, 7, 8] 0 0 (m_X5_refuseNoObject l g hfl am ast art alas atx ahi σ (x)) cv_X5_refuseNoObject mk_X5_88 rfl rfl rfl (ng := 9) rfl (by decide) rfl rfl rfl ⟨Nat.le_of_ble_eq_true rfl, Nat.le_of_ble_eq_true rfl⟩ (Nat.le_of_ble_eq_true rfl) ⟨(Nat.le_of_ble_eq_true rfl), (Nat.le_of_ble_eq_true rfl)⟩ ⟨(Nat.le_of_ble_eq_true rfl), (Nat.le_of_ble_eq_true rfl)⟩ dX5_link_2 ((fun _ _ _ => 0)) (fun E hE => by obtain ⟨hb, rfl⟩ := chkO_r hE; obtain ⟨rfl, rfl, rfl, rfl⟩ := h1 hb; exact ⟨rfl, by rfl⟩) (fun rv h => (chkO_l h).2) (fun hk2 => ?_)
  have c2 := (chkO_l hk2).1
  obtain ⟨j, hj, rfl⟩ := vp_in_of (hasB_in c2) (by decide)
  refine w_iload_n X 2 rfl dX5_link_5 ?_
  refine w_if_lt X 14 dX5_link_6 (by decide) (fun c6 => ?_) (fun c6 => ?_)
  · obtain ⟨rfl, rfl, rfl, rfl⟩ := h2 c2 (Or.inl c6)
    exact w_thrS V hT (text := "no such field") th_iOE (by decide +kernel) ((fun _ _ _ => 0)) (rfl) (by rfl) ⟨(Nat.le_of_ble_eq_true rfl), (Nat.le_of_ble_eq_true rfl)⟩ (Nat.le_of_ble_eq_true rfl) ⟨(Nat.le_of_ble_eq_true rfl), (Nat.le_of_ble_eq_true rfl)⟩ ⟨(Nat.le_of_ble_eq_true rfl), (Nat.le_of_ble_eq_true rfl)⟩ dX5_link_14 dX5_link_17 dX5_link_18 dX5_link_20 dX5_link_23
  · refine w_iload_n X 2 rfl dX5_link_9 ?_
    refine w_iconst X (nI 2) dX5_link_10 (by decide +kernel) ?_
    refine w_ic_lt X 24 dX5_link_11 (by decide) (fun c11 => ?_) (fun c11 => ?_)
    · obtain ⟨q, hq, rfl⟩ := ix_lt (by decide) c6 c11
      refine w_iload_n X 3 rfl dX5_link_24 ?_
      refine w_iconst X (-1) dX5_link_25 (by decide +kernel) ?_
      refine w_ic_eq X 34 dX5_link_26 (by decide) (fun c26 => ?_) (fun c26 => ?_)
      · refine w_aload_n X 0 rfl dX5_link_34 ?_
        refine w_get X 0 0 rfl rfl rfl in_X5 4 (by decide) fk_X5_40 rfl dX5_link_35 ?_
        refine w_aload_n X 0 rfl dX5_link_38 ?_
        refine w_get X 0 0 rfl rfl rfl in_X5 0 (by decide) fk_X5_10 rfl dX5_link_39 ?_
        refine w_muV X hA (gr := [maC g am (ast 0) (art 0) (alas 0) (atx 0) (ahi 0)]) (gs1 := [maC g am (ast 0) (art 0) (alas 0) (atx 0) (ahi 0), stC g ast σ, hiC g ahi (fun i => had i 0) (hiS η (nxN nx) (svN sv)), stC g (had 0) (rw2 hσ nx σ 0), stC g (had 1) (rw2 hσ nx σ 1), stC g (had 2) (rw2 hσ nx σ 2), stC g (had 3) (rw2 hσ nx σ 3), stC g (had 4) (rw2 hσ nx σ 4), stC g (had 5) (rw2 hσ nx σ 5)]) [2, 3, 4, 5, 6, 7, 8, 1] [0] 2 0 (m_X0_save l g ahi η had hσ ast σ nx sv (hnx) (hnx1) (hsv1) (hsv) (b0) (b5) (b6) (b8)) cv_X0_save mk_X5_55 rfl rfl rfl (ng := 9) rfl (by decide) rfl rfl rfl rfl rfl rfl ⟨Nat.le_of_ble_eq_true rfl, Nat.le_of_ble_eq_true rfl⟩ (Nat.le_of_ble_eq_true rfl) ⟨Nat.le_of_ble_eq_true rfl, Nat.le_of_ble_eq_true rfl⟩ dX5_link_42 rfl ?_
        refine w_aload_n X 0 rfl dX5_link_45 ?_
        refine w_get X 0 0 rfl rfl rfl in_X5 0 (by decide) fk_X5_10 rfl dX5_link_46 ?_
        refine w_iload_n X 1 rfl dX5_link_49 ?_
        refine w_iload_n X 2 rfl dX5_link_50 ?_
        refine w_roV X [1] 1 0 (m_X3_reference l g ast σ (nI (j)) (nI (q))) cv_X3_reference mk_X5_96 rfl rfl rfl rfl rfl ⟨Nat.le_of_ble_eq_true rfl, Nat.le_of_ble_eq_true rfl⟩ (Nat.le_of_ble_eq_true rfl) ⟨Nat.le_of_ble_eq_true rfl, Nat.le_of_ble_eq_true rfl⟩ dX5_link_51 rfl ?_
        refine w_istore X dX5_link_54 (by decide) ?_
        refine w_aload_n X 1 rfl dX5_link_56 ?_
        refine w_get X 0 0 rfl rfl rfl in_X5 0 (by decide) fk_X5_10 rfl dX5_link_57 ?_
        refine w_iload_n X 2 rfl dX5_link_60 ?_
        refine w_iload_n X 3 rfl dX5_link_61 ?_
        refine w_iload_n X 4 rfl dX5_link_62 ?_
        refine w_muV X hA (gr := [maC g am (ast 0) (art 0) (alas 0) (atx 0) (ahi 0), hiC g ahi (fun i => had i 0) (hiS η (nxN nx) (svN sv)), stC g (had 0) (rw2 hσ nx σ 0), stC g (had 1) (rw2 hσ nx σ 1), stC g (had 2) (rw2 hσ nx σ 2), stC g (had 3) (rw2 hσ nx σ 3), stC g (had 4) (rw2 hσ nx σ 4), stC g (had 5) (rw2 hσ nx σ 5)]) (gs1 := [maC g am (ast 0) (art 0) (alas 0) (atx 0) (ahi 0), stC g ast (rfS σ j q (t)), hiC g ahi (fun i => had i 0) (hiS η (nxN nx) (svN sv)), stC g (had 0) (rw2 hσ nx σ 0), stC g (had 1) (rw2 hσ nx σ 1), stC g (had 2) (rw2 hσ nx σ 2), stC g (had 3) (rw2 hσ nx σ 3), stC g (had 4) (rw2 hσ nx σ 4), stC g (had 5) (rw2 hσ nx σ 5)]) [1] [0, 2, 3, 4, 5, 6, 7, 8] 1 0 (m_X3_refer l g ast σ j q (t) (by omega) (by omega)) cv_X3_refer mk_X5_100 rfl rfl rfl (ng := 9) rfl (by decide) rfl rfl rfl rfl rfl rfl ⟨Nat.le_of_ble_eq_true rfl, Nat.le_of_ble_eq_true rfl⟩ (Nat.le_of_ble_eq_true rfl) ⟨Nat.le_of_ble_eq_true rfl, Nat.le_of_ble_eq_true rfl⟩ dX5_link_63 rfl ?_
        generalize hn1 : rfS σ j q (t) = σv1
        refine w_iload X 0 rfl dX5_link_66 ?_
        obtain ⟨rfl, rfl, rfl, rfl⟩ := h4 j q hj rfl hq rfl c2 (Or.inl c26)
        exact w_iret_vx V ((fun _ _ _ => 0)) (by subst hn1; rfl) (by subst hn1; rfl) (Nat.le_of_ble_eq_true rfl) (Nat.le_of_ble_eq_true rfl) dX5_link_68
      · refine w_aload_n X 0 rfl dX5_link_29 ?_
        refine w_iload_n X 3 rfl dX5_link_30 ?_
        refine w_chkV V hT [hiC g ahi (fun i => had i 0) η, stC g (had 0) (hσ 0), stC g (had 1) (hσ 1), stC g (had 2) (hσ 2), stC g (had 3) (hσ 3), stC g (had 4) (hσ 4), stC g (had 5) (hσ 5)] [0, 1] [2, 3, 4, 5, 6, 7, 8] 0 0 (m_X5_refuseNoObject l g hfl am ast art alas atx ahi σ (t)) cv_X5_refuseNoObject mk_X5_88 rfl rfl rfl (ng := 9) rfl (by decide) rfl rfl rfl ⟨Nat.le_of_ble_eq_true rfl, Nat.le_of_ble_eq_true rfl⟩ (Nat.le_of_ble_eq_true rfl) ⟨(Nat.le_of_ble_eq_true rfl), (Nat.le_of_ble_eq_true rfl)⟩ ⟨(Nat.le_of_ble_eq_true rfl), (Nat.le_of_ble_eq_true rfl)⟩ dX5_link_31 ((fun _ _ _ => 0)) (fun E hE => by obtain ⟨hb, rfl⟩ := chkO_r hE; obtain ⟨rfl, rfl, rfl, rfl⟩ := h3 c2 c6 c11 c26 hb; exact ⟨rfl, by rfl⟩) (fun rv h => (chkO_l h).2) (fun hk31 => ?_)
        have c31 := (chkO_l hk31).1
        refine w_aload_n X 0 rfl dX5_link_34 ?_
        refine w_get X 0 0 rfl rfl rfl in_X5 4 (by decide) fk_X5_40 rfl dX5_link_35 ?_
        refine w_aload_n X 0 rfl dX5_link_38 ?_
        refine w_get X 0 0 rfl rfl rfl in_X5 0 (by decide) fk_X5_10 rfl dX5_link_39 ?_
        refine w_muV X hA (gr := [maC g am (ast 0) (art 0) (alas 0) (atx 0) (ahi 0)]) (gs1 := [maC g am (ast 0) (art 0) (alas 0) (atx 0) (ahi 0), stC g ast σ, hiC g ahi (fun i => had i 0) (hiS η (nxN nx) (svN sv)), stC g (had 0) (rw2 hσ nx σ 0), stC g (had 1) (rw2 hσ nx σ 1), stC g (had 2) (rw2 hσ nx σ 2), stC g (had 3) (rw2 hσ nx σ 3), stC g (had 4) (rw2 hσ nx σ 4), stC g (had 5) (rw2 hσ nx σ 5)]) [2, 3, 4, 5, 6, 7, 8, 1] [0] 2 0 (m_X0_save l g ahi η had hσ ast σ nx sv (hnx) (hnx1) (hsv1) (hsv) (b0) (b5) (b6) (b8)) cv_X0_save mk_X5_55 rfl rfl rfl (ng := 9) rfl (by decide) rfl rfl rfl rfl rfl rfl ⟨Nat.le_of_ble_eq_true rfl, Nat.le_of_ble_eq_true rfl⟩ (Nat.le_of_ble_eq_true rfl) ⟨Nat.le_of_ble_eq_true rfl, Nat.le_of_ble_eq_true rfl⟩ dX5_link_42 rfl ?_
        refine w_aload_n X 0 rfl dX5_link_45 ?_
        refine w_get X 0 0 rfl rfl rfl in_X5 0 (by decide) fk_X5_10 rfl dX5_link_46 ?_
        refine w_iload_n X 1 rfl dX5_link_49 ?_
        refine w_iload_n X 2 rfl dX5_link_50 ?_
        refine w_roV X [1] 1 0 (m_X3_reference l g ast σ (nI (j)) (nI (q))) cv_X3_reference mk_X5_96 rfl rfl rfl rfl rfl ⟨Nat.le_of_ble_eq_true rfl, Nat.le_of_ble_eq_true rfl⟩ (Nat.le_of_ble_eq_true rfl) ⟨Nat.le_of_ble_eq_true rfl, Nat.le_of_ble_eq_true rfl⟩ dX5_link_51 rfl ?_
        refine w_istore X dX5_link_54 (by decide) ?_
        refine w_aload_n X 1 rfl dX5_link_56 ?_
        refine w_get X 0 0 rfl rfl rfl in_X5 0 (by decide) fk_X5_10 rfl dX5_link_57 ?_
        refine w_iload_n X 2 rfl dX5_link_60 ?_
        refine w_iload_n X 3 rfl dX5_link_61 ?_
        refine w_iload_n X 4 rfl dX5_link_62 ?_
        refine w_muV X hA (gr := [maC g am (ast 0) (art 0) (alas 0) (atx 0) (ahi 0), hiC g ahi (fun i => had i 0) (hiS η (nxN nx) (svN sv)), stC g (had 0) (rw2 hσ nx σ 0), stC g (had 1) (rw2 hσ nx σ 1), stC g (had 2) (rw2 hσ nx σ 2), stC g (had 3) (rw2 hσ nx σ 3), stC g (had 4) (rw2 hσ nx σ 4), stC g (had 5) (rw2 hσ nx σ 5)]) (gs1 := [maC g am (ast 0) (art 0) (alas 0) (atx 0) (ahi 0), stC g ast (rfS σ j q (t)), hiC g ahi (fun i => had i 0) (hiS η (nxN nx) (svN sv)), stC g (had 0) (rw2 hσ nx σ 0), stC g (had 1) (rw2 hσ nx σ 1), stC g (had 2) (rw2 hσ nx σ 2), stC g (had 3) (rw2 hσ nx σ 3), stC g (had 4) (rw2 hσ nx σ 4), stC g (had 5) (rw2 hσ nx σ 5)]) [1] [0, 2, 3, 4, 5, 6, 7, 8] 1 0 (m_X3_refer l g ast σ j q (t) (by omega) (by omega)) cv_X3_refer mk_X5_100 rfl rfl rfl (ng := 9) rfl (by decide) rfl rfl rfl rfl rfl rfl ⟨Nat.le_of_ble_eq_true rfl, Nat.le_of_ble_eq_true rfl⟩ (Nat.le_of_ble_eq_true rfl) ⟨Nat.le_of_ble_eq_true rfl, Nat.le_of_ble_eq_true rfl⟩ dX5_link_63 rfl ?_
        generalize hn2 : rfS σ j q (t) = σv2
        refine w_iload X 0 rfl dX5_link_66 ?_
        obtain ⟨rfl, rfl, rfl, rfl⟩ := h4 j q hj rfl hq rfl c2 (Or.inr c31)
        exact w_iret_vx V ((fun _ _ _ => 0)) (by subst hn2; rfl) (by subst hn2; rfl) (Nat.le_of_ble_eq_true rfl) (Nat.le_of_ble_eq_true rfl) dX5_link_68
    · obtain ⟨rfl, rfl, rfl, rfl⟩ := h2 c2 (Or.inr c11)
      exact w_thrS V hT (text := "no such field") th_iOE (by decide +kernel) ((fun _ _ _ => 0)) (rfl) (by rfl) ⟨(Nat.le_of_ble_eq_true rfl), (Nat.le_of_ble_eq_true rfl)⟩ (Nat.le_of_ble_eq_true rfl) ⟨(Nat.le_of_ble_eq_true rfl), (Nat.le_of_ble_eq_true rfl)⟩ ⟨(Nat.le_of_ble_eq_true rfl), (Nat.le_of_ble_eq_true rfl)⟩ dX5_link_14 dX5_link_17 dX5_link_18 dX5_link_20 dX5_link_23
set_option maxRecDepth 100000 in
set_option maxHeartbeats 4000000 in
theorem m_X5_root (l : Launch) (g : GG) (hfl : l.stackTraces = false) (am : Nat → Nat) (ast : Nat → Nat) (art : Nat → Nat) (alas : Nat → Nat) (atx : Nat → Nat) (ahi : Nat → Nat) (had : Nat → Nat → Nat) (σ : Nat → Nat → Int32) (η : Nat → Nat → Int32) (hσ : Nat → Nat → Nat → Int32) (x : Int32) (b : Bool) (nx : Nat) (sv : Nat) (o : OC) (σ' : Nat → Nat → Int32) (η' : Nat → Nat → Int32) (hσ' : Nat → Nat → Nat → Int32) (hnx : nx < 6) (hnx1 : η 1 0 = nI nx) (hsv1 : η 2 0 = nI sv) (hsv : sv ≤ 6) (b0 : fit01 (σ 0) 24) (b5 : fit01 (σ 5) 24) (b6 : fit01 (σ 6) 24) (b8 : fit01 (σ 8) 6) (h1 : hasB σ x = false → (.inr iOE : OC) = o ∧ σ = σ' ∧ η = η' ∧ hσ = hσ') (h2 : ∀ j, j < 24 → x = nI j → hasB σ x = true → rI (bI (nz (σ 5 j))) = o ∧ rtS σ j (bI b) = σ' ∧ hiS η (nxN nx) (svN sv) = η' ∧ rw2 hσ nx σ = hσ') : MVX (U := (Nat → Nat → Nat → Int32)) l g yX5_root cX5_root 4 (some .int) 9 1 6 [.ref (am 0), .int (x), .int (bI (b))] [maC g am (ast 0) (art 0) (alas 0) (atx 0) (ahi 0), stC g ast σ, hiC g ahi (fun i => had i 0) η, stC g (had 0) (hσ 0), stC g (had 1) (hσ 1), stC g (had 2) (hσ 2), stC g (had 3) (hσ 3), stC g (had 4) (hσ 4), stC g (had 5) (hσ 5)] (o) (fun ζ' => [maC g am (ast 0) (art 0) (alas 0) (atx 0) (ahi 0), stC g ast σ', hiC g ahi (fun i => had i 0) η', stC g (had 0) (hσ' 0), stC g (had 1) (hσ' 1), stC g (had 2) (hσ' 2), stC g (had 3) (hσ' 3), stC g (had 4) (hσ' 4), stC g (had 5) (hσ' 5)]) := by
  refine mk_vx hfl (by decide +kernel) (Nat.le_of_ble_eq_true rfl) (fun p e s m below meth c A hT V => ?_)
  have X := V.1
  have hA := V.2.2.2.2
  refine w_aload_n X 0 rfl dX5_root_0 ?_
  refine w_iload_n X 1 rfl dX5_root_1 ?_
  refine w_chkV V hT [hiC g ahi (fun i => had i 0) η, stC g (had 0) (hσ 0), stC g (had 1) (hσ 1), stC g (had 2) (hσ 2), stC g (had 3) (hσ 3), stC g (had 4) (hσ 4), stC g (had 5) (hσ 5)] [0, 1] [2, 3, 4, 5, 6, 7, 8] 0 0 (m_X5_refuseNoObject l g hfl am ast art alas atx ahi σ (x)) cv_X5_refuseNoObject mk_X5_88 rfl rfl rfl (ng := 9) rfl (by decide) rfl rfl rfl ⟨Nat.le_of_ble_eq_true rfl, Nat.le_of_ble_eq_true rfl⟩ (Nat.le_of_ble_eq_true rfl) ⟨(Nat.le_of_ble_eq_true rfl), (Nat.le_of_ble_eq_true rfl)⟩ ⟨(Nat.le_of_ble_eq_true rfl), (Nat.le_of_ble_eq_true rfl)⟩ dX5_root_2 ((fun _ _ _ => 0)) (fun E hE => by obtain ⟨hb, rfl⟩ := chkO_r hE; obtain ⟨rfl, rfl, rfl, rfl⟩ := h1 hb; exact ⟨rfl, by rfl⟩) (fun rv h => (chkO_l h).2) (fun hk2 => ?_)
  have c2 := (chkO_l hk2).1
  obtain ⟨j, hj, rfl⟩ := vp_in_of (hasB_in c2) (by decide)
  refine w_aload_n X 0 rfl dX5_root_5 ?_
  refine w_get X 0 0 rfl rfl rfl in_X5 4 (by decide) fk_X5_40 rfl dX5_root_6 ?_
  refine w_aload_n X 0 rfl dX5_root_9 ?_
  refine w_get X 0 0 rfl rfl rfl in_X5 0 (by decide) fk_X5_10 rfl dX5_root_10 ?_
  refine w_muV X hA (gr := [maC g am (ast 0) (art 0) (alas 0) (atx 0) (ahi 0)]) (gs1 := [maC g am (ast 0) (art 0) (alas 0) (atx 0) (ahi 0), stC g ast σ, hiC g ahi (fun i => had i 0) (hiS η (nxN nx) (svN sv)), stC g (had 0) (rw2 hσ nx σ 0), stC g (had 1) (rw2 hσ nx σ 1), stC g (had 2) (rw2 hσ nx σ 2), stC g (had 3) (rw2 hσ nx σ 3), stC g (had 4) (rw2 hσ nx σ 4), stC g (had 5) (rw2 hσ nx σ 5)]) [2, 3, 4, 5, 6, 7, 8, 1] [0] 2 0 (m_X0_save l g ahi η had hσ ast σ nx sv (hnx) (hnx1) (hsv1) (hsv) (b0) (b5) (b6) (b8)) cv_X0_save mk_X5_55 rfl rfl rfl (ng := 9) rfl (by decide) rfl rfl rfl rfl rfl rfl ⟨Nat.le_of_ble_eq_true rfl, Nat.le_of_ble_eq_true rfl⟩ (Nat.le_of_ble_eq_true rfl) ⟨Nat.le_of_ble_eq_true rfl, Nat.le_of_ble_eq_true rfl⟩ dX5_root_13 rfl ?_
  refine w_aload_n X 0 rfl dX5_root_16 ?_
  refine w_get X 0 0 rfl rfl rfl in_X5 0 (by decide) fk_X5_10 rfl dX5_root_17 ?_
  refine w_get X 1 0 rfl rfl rfl in_X3 5 (by decide) fk_X5_103 rfl dX5_root_20 ?_
  refine w_iload_n X 1 rfl dX5_root_23 ?_
  refine w_zald_n X 1 6 1 rfl rfl rfl (by omega) (by decide) dX5_root_24 ?_
  refine w_istore_n X dX5_root_25 (by decide) ?_
  refine w_aload_n X 1 rfl dX5_root_26 ?_
  refine w_get X 0 0 rfl rfl rfl in_X5 0 (by decide) fk_X5_10 rfl dX5_root_27 ?_
  refine w_get X 1 0 rfl rfl rfl in_X3 5 (by decide) fk_X5_103 rfl dX5_root_30 ?_
  refine w_iload_n X 2 rfl dX5_root_33 ?_
  refine w_iload_n X 3 rfl dX5_root_34 ?_
  refine w_zast_n X 1 6 1 rfl rfl rfl (by omega) (by decide) (show _ = stC g ast (rw2 σ 5 (upd (σ 5) j (bI (b)))) from by rw [nar_bI]; rfl) dX5_root_35 ?_
  refine w_iload_n X 0 rfl dX5_root_36 ?_
  refine w_roS X [] (m_X5_oneIf_R l g (σ 5 j)) cs_X5_oneIf mk_X5_107 rfl rfl ⟨Nat.le_of_ble_eq_true rfl, Nat.le_of_ble_eq_true rfl⟩ (Nat.le_of_ble_eq_true rfl) ⟨Nat.le_of_ble_eq_true rfl, Nat.le_of_ble_eq_true rfl⟩ dX5_root_37 rfl ?_
  obtain ⟨rfl, rfl, rfl, rfl⟩ := h2 j hj rfl c2
  exact w_iret_vx V ((fun _ _ _ => 0)) (by rfl) (by rfl) (Nat.le_of_ble_eq_true rfl) (Nat.le_of_ble_eq_true rfl) dX5_root_40
def pnS (σ : Nat → Nat → Int32) (j : Nat) (b : Int32) : Nat → Nat → Int32 := rw2 σ 6 (upd (σ 6) j b)
def pinC (σ : Nat → Nat → Int32) (a : Int32) : Int32 := cntI (fun o => if isInB σ (nI o) a = false then false else nz (σ 6 o)) 24
def seS (σ : Nat → Nat → Int32) (i : Nat) (v : Int32) : Nat → Nat → Int32 := rw2 σ 11 (upd (σ 11) i v)
set_option maxRecDepth 100000 in
set_option maxHeartbeats 4000000 in
theorem m_X5_pin (l : Launch) (g : GG) (hfl : l.stackTraces = false) (am : Nat → Nat) (ast : Nat → Nat) (art : Nat → Nat) (alas : Nat → Nat) (atx : Nat → Nat) (ahi : Nat → Nat) (had : Nat → Nat → Nat) (σ : Nat → Nat → Int32) (η : Nat → Nat → Int32) (hσ : Nat → Nat → Nat → Int32) (x : Int32) (b : Bool) (nx : Nat) (sv : Nat) (o : OC) (σ' : Nat → Nat → Int32) (η' : Nat → Nat → Int32) (hσ' : Nat → Nat → Nat → Int32) (hnx : nx < 6) (hnx1 : η 1 0 = nI nx) (hsv1 : η 2 0 = nI sv) (hsv : sv ≤ 6) (b0 : fit01 (σ 0) 24) (b5 : fit01 (σ 5) 24) (b6 : fit01 (σ 6) 24) (b8 : fit01 (σ 8) 6) (h1 : hasB σ x = false → (.inr iOE : OC) = o ∧ σ = σ' ∧ η = η' ∧ hσ = hσ') (h2 : ∀ j, j < 24 → x = nI j → hasB σ x = true → rI (pinC (pnS σ j (bI b)) (σ 1 j)) = o ∧ pnS σ j (bI b) = σ' ∧ hiS η (nxN nx) (svN sv) = η' ∧ rw2 hσ nx σ = hσ') : MVX (U := (Nat → Nat → Nat → Int32)) l g yX5_pin cX5_pin 3 (some .int) 9 1 6 [.ref (am 0), .int (x), .int (bI (b))] [maC g am (ast 0) (art 0) (alas 0) (atx 0) (ahi 0), stC g ast σ, hiC g ahi (fun i => had i 0) η, stC g (had 0) (hσ 0), stC g (had 1) (hσ 1), stC g (had 2) (hσ 2), stC g (had 3) (hσ 3), stC g (had 4) (hσ 4), stC g (had 5) (hσ 5)] (o) (fun ζ' => [maC g am (ast 0) (art 0) (alas 0) (atx 0) (ahi 0), stC g ast σ', hiC g ahi (fun i => had i 0) η', stC g (had 0) (hσ' 0), stC g (had 1) (hσ' 1), stC g (had 2) (hσ' 2), stC g (had 3) (hσ' 3), stC g (had 4) (hσ' 4), stC g (had 5) (hσ' 5)]) := by
  refine mk_vx hfl (by decide +kernel) (Nat.le_of_ble_eq_true rfl) (fun p e s m below meth c A hT V => ?_)
  have X := V.1
  have hA := V.2.2.2.2
  refine w_aload_n X 0 rfl dX5_pin_0 ?_
  refine w_iload_n X 1 rfl dX5_pin_1 ?_
  refine w_chkV V hT [hiC g ahi (fun i => had i 0) η, stC g (had 0) (hσ 0), stC g (had 1) (hσ 1), stC g (had 2) (hσ 2), stC g (had 3) (hσ 3), stC g (had 4) (hσ 4), stC g (had 5) (hσ 5)] [0, 1] [2, 3, 4, 5, 6, 7, 8] 0 0 (m_X5_refuseNoObject l g hfl am ast art alas atx ahi σ (x)) cv_X5_refuseNoObject mk_X5_88 rfl rfl rfl (ng := 9) rfl (by decide) rfl rfl rfl ⟨Nat.le_of_ble_eq_true rfl, Nat.le_of_ble_eq_true rfl⟩ (Nat.le_of_ble_eq_true rfl) ⟨(Nat.le_of_ble_eq_true rfl), (Nat.le_of_ble_eq_true rfl)⟩ ⟨(Nat.le_of_ble_eq_true rfl), (Nat.le_of_ble_eq_true rfl)⟩ dX5_pin_2 ((fun _ _ _ => 0)) (fun E hE => by obtain ⟨hb, rfl⟩ := chkO_r hE; obtain ⟨rfl, rfl, rfl, rfl⟩ := h1 hb; exact ⟨rfl, by rfl⟩) (fun rv h => (chkO_l h).2) (fun hk2 => ?_)
  have c2 := (chkO_l hk2).1
  obtain ⟨j, hj, rfl⟩ := vp_in_of (hasB_in c2) (by decide)
  refine w_aload_n X 0 rfl dX5_pin_5 ?_
  refine w_get X 0 0 rfl rfl rfl in_X5 4 (by decide) fk_X5_40 rfl dX5_pin_6 ?_
  refine w_aload_n X 0 rfl dX5_pin_9 ?_
  refine w_get X 0 0 rfl rfl rfl in_X5 0 (by decide) fk_X5_10 rfl dX5_pin_10 ?_
  refine w_muV X hA (gr := [maC g am (ast 0) (art 0) (alas 0) (atx 0) (ahi 0)]) (gs1 := [maC g am (ast 0) (art 0) (alas 0) (atx 0) (ahi 0), stC g ast σ, hiC g ahi (fun i => had i 0) (hiS η (nxN nx) (svN sv)), stC g (had 0) (rw2 hσ nx σ 0), stC g (had 1) (rw2 hσ nx σ 1), stC g (had 2) (rw2 hσ nx σ 2), stC g (had 3) (rw2 hσ nx σ 3), stC g (had 4) (rw2 hσ nx σ 4), stC g (had 5) (rw2 hσ nx σ 5)]) [2, 3, 4, 5, 6, 7, 8, 1] [0] 2 0 (m_X0_save l g ahi η had hσ ast σ nx sv (hnx) (hnx1) (hsv1) (hsv) (b0) (b5) (b6) (b8)) cv_X0_save mk_X5_55 rfl rfl rfl (ng := 9) rfl (by decide) rfl rfl rfl rfl rfl rfl ⟨Nat.le_of_ble_eq_true rfl, Nat.le_of_ble_eq_true rfl⟩ (Nat.le_of_ble_eq_true rfl) ⟨Nat.le_of_ble_eq_true rfl, Nat.le_of_ble_eq_true rfl⟩ dX5_pin_13 rfl ?_
  refine w_aload_n X 0 rfl dX5_pin_16 ?_
  refine w_get X 0 0 rfl rfl rfl in_X5 0 (by decide) fk_X5_10 rfl dX5_pin_17 ?_
  refine w_get X 1 0 rfl rfl rfl in_X3 6 (by decide) fk_X5_111 rfl dX5_pin_20 ?_
  refine w_iload_n X 1 rfl dX5_pin_23 ?_
  refine w_iload_n X 2 rfl dX5_pin_24 ?_
  refine w_zast_n X 1 7 1 rfl rfl rfl (by omega) (by decide) (show _ = stC g ast (rw2 σ 6 (upd (σ 6) j (bI (b)))) from by rw [nar_bI]; rfl) dX5_pin_25 ?_
  refine w_aload_n X 0 rfl dX5_pin_26 ?_
  refine w_get X 0 0 rfl rfl rfl in_X5 0 (by decide) fk_X5_10 rfl dX5_pin_27 ?_
  refine w_aload_n X 0 rfl dX5_pin_30 ?_
  refine w_get X 0 0 rfl rfl rfl in_X5 0 (by decide) fk_X5_10 rfl dX5_pin_31 ?_
  refine w_get X 1 0 rfl rfl rfl in_X3 1 (by decide) fk_X5_114 rfl dX5_pin_34 ?_
  refine w_iload_n X 1 rfl dX5_pin_37 ?_
  refine w_iald_n X 1 2 0 rfl rfl rfl (by omega) (by decide) dX5_pin_38 ?_
  refine w_st (st2 := [.int (σ 1 j), .ref (ast 0)]) rfl ?_
  refine w_roV X [1] 1 0 (m_X3_pinnedIn l g ast (rw2 σ 6 (upd (σ 6) j (bI (b)))) (σ 1 j)) cv_X3_pinnedIn mk_X5_118 rfl rfl rfl rfl rfl ⟨Nat.le_of_ble_eq_true rfl, Nat.le_of_ble_eq_true rfl⟩ (Nat.le_of_ble_eq_true rfl) ⟨Nat.le_of_ble_eq_true rfl, Nat.le_of_ble_eq_true rfl⟩ dX5_pin_39 rfl ?_
  obtain ⟨rfl, rfl, rfl, rfl⟩ := h2 j hj rfl c2
  exact w_iret_vx V ((fun _ _ _ => 0)) (by rfl) (by rfl) (Nat.le_of_ble_eq_true rfl) (Nat.le_of_ble_eq_true rfl) dX5_pin_42
set_option maxRecDepth 100000 in
set_option maxHeartbeats 4000000 in
theorem m_X5_giveBack (l : Launch) (g : GG) (hfl : l.stackTraces = false) (am : Nat → Nat) (ast : Nat → Nat) (art : Nat → Nat) (aliv : Nat → Nat) (asur : Nat → Nat) (alas : Nat → Nat) (atx : Nat → Nat) (ahi : Nat → Nat) (had : Nat → Nat → Nat) (σ : Nat → Nat → Int32) (ζ : Nat → Nat → Nat → Int32) (η : Nat → Nat → Int32) (hσ : Nat → Nat → Nat → Int32) (x : Int32) (y : Int32) (nx : Nat) (sv : Nat) (o : OC) (σ' : Nat → Nat → Int32) (η' : Nat → Nat → Int32) (hσ' : Nat → Nat → Nat → Int32) (hnx : nx < 6) (hnx1 : η 1 0 = nI nx) (hsv1 : η 2 0 = nI sv) (hsv : sv ≤ 6) (b0 : fit01 (σ 0) 24) (b5 : fit01 (σ 5) 24) (b6 : fit01 (σ 6) 24) (b8 : fit01 (σ 8) 6) (h1 : isArB x = false → (.inr iOE : OC) = o ∧ σ = σ' ∧ η = η' ∧ hσ = hσ') (h2 : isArB x = true → isArB y = false → (.inr iOE : OC) = o ∧ σ = σ' ∧ η = η' ∧ hσ = hσ') (h3 : ∀ a, a < 6 → x = nI a → y = nI a → (.inr iAE : OC) = o ∧ σ = σ' ∧ η = η' ∧ hσ = hσ') (h4 : ∀ a b, a < 6 → b < 6 → x = nI a → y = nI b → ¬ a = b → ¬ rsC σ (nI a) (nI b) = 0 → (.inr iSE : OC) = o ∧ σ = σ' ∧ η = η' ∧ hσ = hσ') (h5 : ∀ a b, a < 6 → b < 6 → x = nI a → y = nI b → ¬ a = b → rsC σ (nI a) (nI b) = 0 → rI (suC σ (nI a) 3 0) = o ∧ gbS σ a b = σ' ∧ hiS η (nxN nx) (svN sv) = η' ∧ rw2 hσ nx σ = hσ') : MVX (U := (Nat → Nat → Nat → Int32)) l g yX5_giveBack cX5_giveBack 4 (some .int) 9 3 18 [.ref (am 0), .int (x), .int (y)] [maC g am (ast 0) (art 0) (alas 0) (atx 0) (ahi 0), stC g ast σ, rtC g art (aliv 0) (asur 0) (ζ 3), rcC g aliv (ζ 0), rcC g asur (ζ 1), hiC g ahi (fun i => had i 0) η, stC g (had 0) (hσ 0), stC g (had 1) (hσ 1), stC g (had 2) (hσ 2), stC g (had 3) (hσ 3), stC g (had 4) (hσ 4), stC g (had 5) (hσ 5)] (o) (fun ζ' => [maC g am (ast 0) (art 0) (alas 0) (atx 0) (ahi 0), stC g ast σ', rtC g art (aliv 0) (asur 0) (ζ' 3), rcC g aliv (ζ' 0), rcC g asur (ζ' 1), hiC g ahi (fun i => had i 0) η', stC g (had 0) (hσ' 0), stC g (had 1) (hσ' 1), stC g (had 2) (hσ' 2), stC g (had 3) (hσ' 3), stC g (had 4) (hσ' 4), stC g (had 5) (hσ' 5)]) := by
  refine mk_vx hfl (by decide +kernel) (Nat.le_of_ble_eq_true rfl) (fun p e s m below meth c A hT V => ?_)
  have X := V.1
  have hA := V.2.2.2.2
  refine w_iload_n X 1 rfl dX5_giveBack_0 ?_
  refine w_chkS V hT (m_X5_refuseNoArena l g hfl (x)) cs_X5_refuseNoArena mk_X5_63 rfl ⟨Nat.le_of_ble_eq_true rfl, Nat.le_of_ble_eq_true rfl⟩ (Nat.le_of_ble_eq_true rfl) ⟨(Nat.le_of_ble_eq_true rfl), (Nat.le_of_ble_eq_true rfl)⟩ ⟨(Nat.le_of_ble_eq_true rfl), (Nat.le_of_ble_eq_true rfl)⟩ dX5_giveBack_1 (ζ) (fun E hE => by obtain ⟨hb, rfl⟩ := chkO_r hE; obtain ⟨rfl, rfl, rfl, rfl⟩ := h1 hb; exact ⟨rfl, by rfl⟩) (fun rv h => (chkO_l h).2) (fun hk1 => ?_)
  have c1 := (chkO_l hk1).1
  obtain ⟨a, ha, rfl⟩ := isArB_ex c1
  refine w_iload_n X 2 rfl dX5_giveBack_4 ?_
  refine w_chkS V hT (m_X5_refuseNoArena l g hfl (y)) cs_X5_refuseNoArena mk_X5_63 rfl ⟨Nat.le_of_ble_eq_true rfl, Nat.le_of_ble_eq_true rfl⟩ (Nat.le_of_ble_eq_true rfl) ⟨(Nat.le_of_ble_eq_true rfl), (Nat.le_of_ble_eq_true rfl)⟩ ⟨(Nat.le_of_ble_eq_true rfl), (Nat.le_of_ble_eq_true rfl)⟩ dX5_giveBack_5 (ζ) (fun E hE => by obtain ⟨hb, rfl⟩ := chkO_r hE; obtain ⟨rfl, rfl, rfl, rfl⟩ := h2 c1 hb; exact ⟨rfl, by rfl⟩) (fun rv h => (chkO_l h).2) (fun hk5 => ?_)
  have c5 := (chkO_l hk5).1
  obtain ⟨b, hb, rfl⟩ := isArB_ex c5
  refine w_iload_n X 1 rfl dX5_giveBack_8 ?_
  refine w_iload_n X 2 rfl dX5_giveBack_9 ?_
  refine w_nc_ne X (by omega) (by omega) 23 dX5_giveBack_10 (by decide) (fun c10 => ?_) (fun c10 => ?_)
  · refine w_aload_n X 0 rfl dX5_giveBack_23 ?_
    refine w_get X 0 0 rfl rfl rfl in_X5 1 (by decide) fk_X5_19 rfl dX5_giveBack_24 ?_
    refine w_aload_n X 0 rfl dX5_giveBack_27 ?_
    refine w_get X 0 0 rfl rfl rfl in_X5 0 (by decide) fk_X5_10 rfl dX5_giveBack_28 ?_
    refine w_iload_n X 1 rfl dX5_giveBack_31 ?_
    refine w_iload_n X 2 rfl dX5_giveBack_32 ?_
    refine w_muV X hA (gr := [maC g am (ast 0) (art 0) (alas 0) (atx 0) (ahi 0), hiC g ahi (fun i => had i 0) η, stC g (had 0) (hσ 0), stC g (had 1) (hσ 1), stC g (had 2) (hσ 2), stC g (had 3) (hσ 3), stC g (had 4) (hσ 4), stC g (had 5) (hσ 5)]) (gs1 := [maC g am (ast 0) (art 0) (alas 0) (atx 0) (ahi 0), stC g ast σ, rtC g art (aliv 0) (asur 0) (ζ 3), rcC g aliv (rsL σ (ζ 0) (nI (a)) (nI (b))), rcC g asur (rsS σ (ζ 0) (ζ 1) (nI (a)) (nI (b))), hiC g ahi (fun i => had i 0) η, stC g (had 0) (hσ 0), stC g (had 1) (hσ 1), stC g (had 2) (hσ 2), stC g (had 3) (hσ 3), stC g (had 4) (hσ 4), stC g (had 5) (hσ 5)]) [2, 3, 4, 1] [0, 5, 6, 7, 8, 9, 10, 11] 2 0 (m_X2_reason l g art (ζ 3) aliv (ζ 0) asur (ζ 1) ast σ (nI (a)) (nI (b))) cv_X2_reason mk_X5_124 rfl rfl rfl (ng := 12) rfl (by decide) rfl rfl rfl rfl rfl rfl ⟨Nat.le_of_ble_eq_true rfl, Nat.le_of_ble_eq_true rfl⟩ (Nat.le_of_ble_eq_true rfl) ⟨Nat.le_of_ble_eq_true rfl, Nat.le_of_ble_eq_true rfl⟩ dX5_giveBack_33 rfl ?_
    generalize hn1 : rsL σ (ζ 0) (nI (a)) (nI (b)) = ρv1
    generalize hn2 : rsS σ (ζ 0) (ζ 1) (nI (a)) (nI (b)) = ρv2
    rw [rsC_of]
    refine w_if_eq X 49 dX5_giveBack_36 (by decide) (fun c36 => ?_) (fun c36 => ?_)
    · refine w_aload_n X 0 rfl dX5_giveBack_49 ?_
      refine w_get X 0 0 rfl rfl rfl in_X5 4 (by decide) fk_X5_40 rfl dX5_giveBack_50 ?_
      refine w_aload_n X 0 rfl dX5_giveBack_53 ?_
      refine w_get X 0 0 rfl rfl rfl in_X5 0 (by decide) fk_X5_10 rfl dX5_giveBack_54 ?_
      refine w_muV X hA (gr := [maC g am (ast 0) (art 0) (alas 0) (atx 0) (ahi 0), rtC g art (aliv 0) (asur 0) (ζ 3), rcC g aliv ρv1, rcC g asur ρv2]) (gs1 := [maC g am (ast 0) (art 0) (alas 0) (atx 0) (ahi 0), stC g ast σ, rtC g art (aliv 0) (asur 0) (ζ 3), rcC g aliv ρv1, rcC g asur ρv2, hiC g ahi (fun i => had i 0) (hiS η (nxN nx) (svN sv)), stC g (had 0) (rw2 hσ nx σ 0), stC g (had 1) (rw2 hσ nx σ 1), stC g (had 2) (rw2 hσ nx σ 2), stC g (had 3) (rw2 hσ nx σ 3), stC g (had 4) (rw2 hσ nx σ 4), stC g (had 5) (rw2 hσ nx σ 5)]) [5, 6, 7, 8, 9, 10, 11, 1] [0, 2, 3, 4] 5 0 (m_X0_save l g ahi η had hσ ast σ nx sv (hnx) (hnx1) (hsv1) (hsv) (b0) (b5) (b6) (b8)) cv_X0_save mk_X5_55 rfl rfl rfl (ng := 12) rfl (by decide) rfl rfl rfl rfl rfl rfl ⟨Nat.le_of_ble_eq_true rfl, Nat.le_of_ble_eq_true rfl⟩ (Nat.le_of_ble_eq_true rfl) ⟨Nat.le_of_ble_eq_true rfl, Nat.le_of_ble_eq_true rfl⟩ dX5_giveBack_57 rfl ?_
      refine w_aload_n X 0 rfl dX5_giveBack_60 ?_
      refine w_get X 0 0 rfl rfl rfl in_X5 1 (by decide) fk_X5_19 rfl dX5_giveBack_61 ?_
      refine w_aload_n X 0 rfl dX5_giveBack_64 ?_
      refine w_get X 0 0 rfl rfl rfl in_X5 0 (by decide) fk_X5_10 rfl dX5_giveBack_65 ?_
      refine w_iload_n X 1 rfl dX5_giveBack_68 ?_
      refine w_iload_n X 2 rfl dX5_giveBack_69 ?_
      refine w_muV X hA (gr := [maC g am (ast 0) (art 0) (alas 0) (atx 0) (ahi 0), hiC g ahi (fun i => had i 0) (hiS η (nxN nx) (svN sv)), stC g (had 0) (rw2 hσ nx σ 0), stC g (had 1) (rw2 hσ nx σ 1), stC g (had 2) (rw2 hσ nx σ 2), stC g (had 3) (rw2 hσ nx σ 3), stC g (had 4) (rw2 hσ nx σ 4), stC g (had 5) (rw2 hσ nx σ 5)]) (gs1 := [maC g am (ast 0) (art 0) (alas 0) (atx 0) (ahi 0), stC g ast (cyL σ (survR σ ρv1 ρv2 (nI (a))) (ldL σ (livR σ ρv1) (survR σ ρv1 ρv2 (nI (a))) (ζ 3) (nI b) 24) b 24), rtC g art (aliv 0) (asur 0) (ldL σ (livR σ ρv1) (survR σ ρv1 ρv2 (nI (a))) (ζ 3) (nI b) 24), rcC g aliv (livR σ ρv1), rcC g asur (survR σ ρv1 ρv2 (nI (a))), hiC g ahi (fun i => had i 0) (hiS η (nxN nx) (svN sv)), stC g (had 0) (rw2 hσ nx σ 0), stC g (had 1) (rw2 hσ nx σ 1), stC g (had 2) (rw2 hσ nx σ 2), stC g (had 3) (rw2 hσ nx σ 3), stC g (had 4) (rw2 hσ nx σ 4), stC g (had 5) (rw2 hσ nx σ 5)]) [2, 3, 4, 1] [0, 5, 6, 7, 8, 9, 10, 11] 2 0 (m_X2_carryOn l g art (ζ 3) aliv ρv1 asur ρv2 ast σ (nI (a)) b (by omega)) cv_X2_carryOn mk_X5_130 rfl rfl rfl (ng := 12) rfl (by decide) rfl rfl rfl rfl rfl rfl ⟨Nat.le_of_ble_eq_true rfl, Nat.le_of_ble_eq_true rfl⟩ (Nat.le_of_ble_eq_true rfl) ⟨Nat.le_of_ble_eq_true rfl, Nat.le_of_ble_eq_true rfl⟩ dX5_giveBack_70 rfl ?_
      rw [cy_of σ (livR σ _) (survR σ _ _ (nI a)) _ (nI a) b (tr_agr σ _ ρ0 (-1)) (surv_agr σ _ ρ0 _ ρ0 (nI a)) 24 (Nat.le_refl _), (surv_agr σ _ ρ0 _ ρ0 (nI a)).1]
      refine w_istore_n X dX5_giveBack_73 (by decide) ?_
      refine w_aload_n X 1 rfl dX5_giveBack_74 ?_
      refine w_get X 0 0 rfl rfl rfl in_X5 0 (by decide) fk_X5_10 rfl dX5_giveBack_75 ?_
      refine w_iload_n X 2 rfl dX5_giveBack_78 ?_
      refine w_muV X hA (gr := [maC g am (ast 0) (art 0) (alas 0) (atx 0) (ahi 0), rtC g art (aliv 0) (asur 0) (ldL σ (livR σ ρv1) (survR σ ρv1 ρv2 (nI (a))) (ζ 3) (nI b) 24), rcC g aliv (livR σ ρv1), rcC g asur (survR σ ρv1 ρv2 (nI (a))), hiC g ahi (fun i => had i 0) (hiS η (nxN nx) (svN sv)), stC g (had 0) (rw2 hσ nx σ 0), stC g (had 1) (rw2 hσ nx σ 1), stC g (had 2) (rw2 hσ nx σ 2), stC g (had 3) (rw2 hσ nx σ 3), stC g (had 4) (rw2 hσ nx σ 4), stC g (had 5) (rw2 hσ nx σ 5)]) (gs1 := [maC g am (ast 0) (art 0) (alas 0) (atx 0) (ahi 0), stC g ast (freeS (cyC σ (nI a) b 24) a), rtC g art (aliv 0) (asur 0) (ldL σ (livR σ ρv1) (survR σ ρv1 ρv2 (nI (a))) (ζ 3) (nI b) 24), rcC g aliv (livR σ ρv1), rcC g asur (survR σ ρv1 ρv2 (nI (a))), hiC g ahi (fun i => had i 0) (hiS η (nxN nx) (svN sv)), stC g (had 0) (rw2 hσ nx σ 0), stC g (had 1) (rw2 hσ nx σ 1), stC g (had 2) (rw2 hσ nx σ 2), stC g (had 3) (rw2 hσ nx σ 3), stC g (had 4) (rw2 hσ nx σ 4), stC g (had 5) (rw2 hσ nx σ 5)]) [1] [0, 2, 3, 4, 5, 6, 7, 8, 9, 10, 11] 1 0 (m_X3_free l g ast (cyC σ (nI a) b 24) a (by omega)) cv_X3_free mk_X5_133 rfl rfl rfl (ng := 12) rfl (by decide) rfl rfl rfl rfl rfl rfl ⟨Nat.le_of_ble_eq_true rfl, Nat.le_of_ble_eq_true rfl⟩ (Nat.le_of_ble_eq_true rfl) ⟨Nat.le_of_ble_eq_true rfl, Nat.le_of_ble_eq_true rfl⟩ dX5_giveBack_79 rfl ?_
      generalize hn3 : freeS (cyC σ (nI a) b 24) a = σv3
      refine w_pop X dX5_giveBack_82 rfl ?_
      refine w_iload_n X 0 rfl dX5_giveBack_83 ?_
      obtain ⟨rfl, rfl, rfl, rfl⟩ := h5 a b ha hb rfl rfl c10 c36
      exact w_iret_vx V (rw2 (rw2 (rw2 ζ 0 (livR σ ρv1)) 1 (survR σ ρv1 ρv2 (nI (a)))) 3 (ldL σ (livR σ ρv1) (survR σ ρv1 ρv2 (nI (a))) (ζ 3) (nI b) 24)) (by subst hn3; subst hn2; subst hn1; rfl) (by subst hn3; subst hn2; subst hn1; rfl) (Nat.le_of_ble_eq_true rfl) (Nat.le_of_ble_eq_true rfl) dX5_giveBack_84
    · obtain ⟨rfl, rfl, rfl, rfl⟩ := h4 a b ha hb rfl rfl c10 c36
      exact w_thrS V hT (text := "not open, or kept, or without room") th_iSE (by decide +kernel) (rw2 (rw2 ζ 0 ρv1) 1 ρv2) (rfl) (by subst hn2; subst hn1; rfl) ⟨(Nat.le_of_ble_eq_true rfl), (Nat.le_of_ble_eq_true rfl)⟩ (Nat.le_of_ble_eq_true rfl) ⟨(Nat.le_of_ble_eq_true rfl), (Nat.le_of_ble_eq_true rfl)⟩ ⟨(Nat.le_of_ble_eq_true rfl), (Nat.le_of_ble_eq_true rfl)⟩ dX5_giveBack_39 dX5_giveBack_42 dX5_giveBack_43 dX5_giveBack_45 dX5_giveBack_48
  · obtain ⟨rfl, rfl, rfl, rfl⟩ := h3 a ha rfl (by rw [c10])
    exact w_thrS V hT (text := "an arena is returned into another one") th_iAE (by decide +kernel) (ζ) (rfl) (by rfl) ⟨(Nat.le_of_ble_eq_true rfl), (Nat.le_of_ble_eq_true rfl)⟩ (Nat.le_of_ble_eq_true rfl) ⟨(Nat.le_of_ble_eq_true rfl), (Nat.le_of_ble_eq_true rfl)⟩ ⟨(Nat.le_of_ble_eq_true rfl), (Nat.le_of_ble_eq_true rfl)⟩ dX5_giveBack_13 dX5_giveBack_16 dX5_giveBack_17 dX5_giveBack_19 dX5_giveBack_22
-- X5_close: not in this claim
set_option maxRecDepth 100000 in
set_option maxHeartbeats 4000000 in
theorem m_X5_set (l : Launch) (g : GG) (hfl : l.stackTraces = false) (am : Nat → Nat) (ast : Nat → Nat) (art : Nat → Nat) (alas : Nat → Nat) (atx : Nat → Nat) (ahi : Nat → Nat) (had : Nat → Nat → Nat) (σ : Nat → Nat → Int32) (η : Nat → Nat → Int32) (hσ : Nat → Nat → Nat → Int32) (x : Int32) (v : Int32) (nx : Nat) (sv : Nat) (o : OC) (σ' : Nat → Nat → Int32) (η' : Nat → Nat → Int32) (hσ' : Nat → Nat → Nat → Int32) (hnx : nx < 6) (hnx1 : η 1 0 = nI nx) (hsv1 : η 2 0 = nI sv) (hsv : sv ≤ 6) (b0 : fit01 (σ 0) 24) (b5 : fit01 (σ 5) 24) (b6 : fit01 (σ 6) 24) (b8 : fit01 (σ 8) 6) (h1 : isSeB x = false → (.inr iOE : OC) = o ∧ σ = σ' ∧ η = η' ∧ hσ = hσ') (h2 : ∀ i, i < 2 → x = nI i → (v < 0 ∨ ¬ v ≤ nI (if i = 1 then 2 else 1)) → (.inr iAE : OC) = o ∧ σ = σ' ∧ η = η' ∧ hσ = hσ') (h3 : ∀ i, i < 2 → x = nI i → ¬ v < 0 → v ≤ nI (if i = 1 then 2 else 1) → rI (σ 11 i) = o ∧ seS σ i v = σ' ∧ hiS η (nxN nx) (svN sv) = η' ∧ rw2 hσ nx σ = hσ') : MVX (U := (Nat → Nat → Nat → Int32)) l g yX5_set cX5_set 5 (some .int) 9 2 12 [.ref (am 0), .int (x), .int (v)] [maC g am (ast 0) (art 0) (alas 0) (atx 0) (ahi 0), stC g ast σ, hiC g ahi (fun i => had i 0) η, stC g (had 0) (hσ 0), stC g (had 1) (hσ 1), stC g (had 2) (hσ 2), stC g (had 3) (hσ 3), stC g (had 4) (hσ 4), stC g (had 5) (hσ 5)] (o) (fun ζ' => [maC g am (ast 0) (art 0) (alas 0) (atx 0) (ahi 0), stC g ast σ', hiC g ahi (fun i => had i 0) η', stC g (had 0) (hσ' 0), stC g (had 1) (hσ' 1), stC g (had 2) (hσ' 2), stC g (had 3) (hσ' 3), stC g (had 4) (hσ' 4), stC g (had 5) (hσ' 5)]) := by
  refine mk_vx hfl (by decide +kernel) (Nat.le_of_ble_eq_true rfl) (fun p e s m below meth c A hT V => ?_)
  have X := V.1
  have hA := V.2.2.2.2
  refine w_iload_n X 1 rfl dX5_set_0 ?_
  refine w_chkS V hT (m_X5_refuseNoSetting l g hfl (x)) cs_X5_refuseNoSetting mk_X5_149 rfl ⟨Nat.le_of_ble_eq_true rfl, Nat.le_of_ble_eq_true rfl⟩ (Nat.le_of_ble_eq_true rfl) ⟨(Nat.le_of_ble_eq_true rfl), (Nat.le_of_ble_eq_true rfl)⟩ ⟨(Nat.le_of_ble_eq_true rfl), (Nat.le_of_ble_eq_true rfl)⟩ dX5_set_1 ((fun _ _ _ => 0)) (fun E hE => by obtain ⟨hb, rfl⟩ := chkO_r hE; obtain ⟨rfl, rfl, rfl, rfl⟩ := h1 hb; exact ⟨rfl, by rfl⟩) (fun rv h => (chkO_l h).2) (fun hk1 => ?_)
  have c1 := (chkO_l hk1).1
  obtain ⟨i, hi, rfl⟩ := isSeB_ex c1
  refine w_iload_n X 1 rfl dX5_set_4 ?_
  refine w_iconst X (nI 1) dX5_set_5 (by decide +kernel) ?_
  refine w_nc_ne X (by omega) (by omega) 13 dX5_set_6 (by decide) (fun c6 => ?_) (fun c6 => ?_)
  · refine w_iconst X (nI 1) dX5_set_13 (by decide +kernel) ?_
    refine w_istore_n X dX5_set_14 (by decide) ?_
    refine w_iload_n X 3 rfl dX5_set_15 ?_
    refine w_if_lt X 24 dX5_set_16 (by decide) (fun c16 => ?_) (fun c16 => ?_)
    · obtain ⟨rfl, rfl, rfl, rfl⟩ := h2 i hi rfl (Or.inl c16)
      exact w_thrS V hT (text := "the setting has no such value") th_iAE (by decide +kernel) ((fun _ _ _ => 0)) (rfl) (by rfl) ⟨(Nat.le_of_ble_eq_true rfl), (Nat.le_of_ble_eq_true rfl)⟩ (Nat.le_of_ble_eq_true rfl) ⟨(Nat.le_of_ble_eq_true rfl), (Nat.le_of_ble_eq_true rfl)⟩ ⟨(Nat.le_of_ble_eq_true rfl), (Nat.le_of_ble_eq_true rfl)⟩ dX5_set_24 dX5_set_27 dX5_set_28 dX5_set_30 dX5_set_33
    · refine w_iload_n X 3 rfl dX5_set_19 ?_
      refine w_iload_n X 0 rfl dX5_set_20 ?_
      refine w_ic_le X 34 dX5_set_21 (by decide) (fun c21 => ?_) (fun c21 => ?_)
      · refine w_aload_n X 1 rfl dX5_set_34 ?_
        refine w_get X 0 0 rfl rfl rfl in_X5 4 (by decide) fk_X5_40 rfl dX5_set_35 ?_
        refine w_aload_n X 1 rfl dX5_set_38 ?_
        refine w_get X 0 0 rfl rfl rfl in_X5 0 (by decide) fk_X5_10 rfl dX5_set_39 ?_
        refine w_muV X hA (gr := [maC g am (ast 0) (art 0) (alas 0) (atx 0) (ahi 0)]) (gs1 := [maC g am (ast 0) (art 0) (alas 0) (atx 0) (ahi 0), stC g ast σ, hiC g ahi (fun i => had i 0) (hiS η (nxN nx) (svN sv)), stC g (had 0) (rw2 hσ nx σ 0), stC g (had 1) (rw2 hσ nx σ 1), stC g (had 2) (rw2 hσ nx σ 2), stC g (had 3) (rw2 hσ nx σ 3), stC g (had 4) (rw2 hσ nx σ 4), stC g (had 5) (rw2 hσ nx σ 5)]) [2, 3, 4, 5, 6, 7, 8, 1] [0] 2 0 (m_X0_save l g ahi η had hσ ast σ nx sv (hnx) (hnx1) (hsv1) (hsv) (b0) (b5) (b6) (b8)) cv_X0_save mk_X5_55 rfl rfl rfl (ng := 9) rfl (by decide) rfl rfl rfl rfl rfl rfl ⟨Nat.le_of_ble_eq_true rfl, Nat.le_of_ble_eq_true rfl⟩ (Nat.le_of_ble_eq_true rfl) ⟨Nat.le_of_ble_eq_true rfl, Nat.le_of_ble_eq_true rfl⟩ dX5_set_42 rfl ?_
        refine w_aload_n X 1 rfl dX5_set_45 ?_
        refine w_get X 0 0 rfl rfl rfl in_X5 0 (by decide) fk_X5_10 rfl dX5_set_46 ?_
        refine w_get X 1 0 rfl rfl rfl in_X3 11 (by decide) fk_X5_154 rfl dX5_set_49 ?_
        refine w_iload_n X 2 rfl dX5_set_52 ?_
        refine w_iald_n X 1 12 0 rfl rfl rfl (by omega) (by decide) dX5_set_53 ?_
        refine w_istore X dX5_set_54 (by decide) ?_
        refine w_aload_n X 2 rfl dX5_set_56 ?_
        refine w_get X 0 0 rfl rfl rfl in_X5 0 (by decide) fk_X5_10 rfl dX5_set_57 ?_
        refine w_get X 1 0 rfl rfl rfl in_X3 11 (by decide) fk_X5_154 rfl dX5_set_60 ?_
        refine w_iload_n X 3 rfl dX5_set_63 ?_
        refine w_iload_n X 4 rfl dX5_set_64 ?_
        refine w_iast_n X 1 12 0 rfl rfl rfl (by omega) (by decide) (show _ = stC g ast (rw2 σ 11 (upd (σ 11) i ((v)))) from rfl) dX5_set_65 ?_
        refine w_iload X 0 rfl dX5_set_66 ?_
        obtain ⟨rfl, rfl, rfl, rfl⟩ := h3 i hi rfl c16 (by rw [if_neg c6]; exact c21)
        exact w_iret_vx V ((fun _ _ _ => 0)) (by rfl) (by rfl) (Nat.le_of_ble_eq_true rfl) (Nat.le_of_ble_eq_true rfl) dX5_set_68
      · obtain ⟨rfl, rfl, rfl, rfl⟩ := h2 i hi rfl (Or.inr (by rw [if_neg c6]; exact c21))
        exact w_thrS V hT (text := "the setting has no such value") th_iAE (by decide +kernel) ((fun _ _ _ => 0)) (rfl) (by rfl) ⟨(Nat.le_of_ble_eq_true rfl), (Nat.le_of_ble_eq_true rfl)⟩ (Nat.le_of_ble_eq_true rfl) ⟨(Nat.le_of_ble_eq_true rfl), (Nat.le_of_ble_eq_true rfl)⟩ ⟨(Nat.le_of_ble_eq_true rfl), (Nat.le_of_ble_eq_true rfl)⟩ dX5_set_24 dX5_set_27 dX5_set_28 dX5_set_30 dX5_set_33
  · refine w_iconst X (nI 2) dX5_set_9 (by decide +kernel) ?_
    refine w_goto X 14 dX5_set_10 (by decide) ?_
    refine w_istore_n X dX5_set_14 (by decide) ?_
    refine w_iload_n X 3 rfl dX5_set_15 ?_
    refine w_if_lt X 24 dX5_set_16 (by decide) (fun c16 => ?_) (fun c16 => ?_)
    · obtain ⟨rfl, rfl, rfl, rfl⟩ := h2 i hi rfl (Or.inl c16)
      exact w_thrS V hT (text := "the setting has no such value") th_iAE (by decide +kernel) ((fun _ _ _ => 0)) (rfl) (by rfl) ⟨(Nat.le_of_ble_eq_true rfl), (Nat.le_of_ble_eq_true rfl)⟩ (Nat.le_of_ble_eq_true rfl) ⟨(Nat.le_of_ble_eq_true rfl), (Nat.le_of_ble_eq_true rfl)⟩ ⟨(Nat.le_of_ble_eq_true rfl), (Nat.le_of_ble_eq_true rfl)⟩ dX5_set_24 dX5_set_27 dX5_set_28 dX5_set_30 dX5_set_33
    · refine w_iload_n X 3 rfl dX5_set_19 ?_
      refine w_iload_n X 0 rfl dX5_set_20 ?_
      refine w_ic_le X 34 dX5_set_21 (by decide) (fun c21 => ?_) (fun c21 => ?_)
      · refine w_aload_n X 1 rfl dX5_set_34 ?_
        refine w_get X 0 0 rfl rfl rfl in_X5 4 (by decide) fk_X5_40 rfl dX5_set_35 ?_
        refine w_aload_n X 1 rfl dX5_set_38 ?_
        refine w_get X 0 0 rfl rfl rfl in_X5 0 (by decide) fk_X5_10 rfl dX5_set_39 ?_
        refine w_muV X hA (gr := [maC g am (ast 0) (art 0) (alas 0) (atx 0) (ahi 0)]) (gs1 := [maC g am (ast 0) (art 0) (alas 0) (atx 0) (ahi 0), stC g ast σ, hiC g ahi (fun i => had i 0) (hiS η (nxN nx) (svN sv)), stC g (had 0) (rw2 hσ nx σ 0), stC g (had 1) (rw2 hσ nx σ 1), stC g (had 2) (rw2 hσ nx σ 2), stC g (had 3) (rw2 hσ nx σ 3), stC g (had 4) (rw2 hσ nx σ 4), stC g (had 5) (rw2 hσ nx σ 5)]) [2, 3, 4, 5, 6, 7, 8, 1] [0] 2 0 (m_X0_save l g ahi η had hσ ast σ nx sv (hnx) (hnx1) (hsv1) (hsv) (b0) (b5) (b6) (b8)) cv_X0_save mk_X5_55 rfl rfl rfl (ng := 9) rfl (by decide) rfl rfl rfl rfl rfl rfl ⟨Nat.le_of_ble_eq_true rfl, Nat.le_of_ble_eq_true rfl⟩ (Nat.le_of_ble_eq_true rfl) ⟨Nat.le_of_ble_eq_true rfl, Nat.le_of_ble_eq_true rfl⟩ dX5_set_42 rfl ?_
        refine w_aload_n X 1 rfl dX5_set_45 ?_
        refine w_get X 0 0 rfl rfl rfl in_X5 0 (by decide) fk_X5_10 rfl dX5_set_46 ?_
        refine w_get X 1 0 rfl rfl rfl in_X3 11 (by decide) fk_X5_154 rfl dX5_set_49 ?_
        refine w_iload_n X 2 rfl dX5_set_52 ?_
        refine w_iald_n X 1 12 0 rfl rfl rfl (by omega) (by decide) dX5_set_53 ?_
        refine w_istore X dX5_set_54 (by decide) ?_
        refine w_aload_n X 2 rfl dX5_set_56 ?_
        refine w_get X 0 0 rfl rfl rfl in_X5 0 (by decide) fk_X5_10 rfl dX5_set_57 ?_
        refine w_get X 1 0 rfl rfl rfl in_X3 11 (by decide) fk_X5_154 rfl dX5_set_60 ?_
        refine w_iload_n X 3 rfl dX5_set_63 ?_
        refine w_iload_n X 4 rfl dX5_set_64 ?_
        refine w_iast_n X 1 12 0 rfl rfl rfl (by omega) (by decide) (show _ = stC g ast (rw2 σ 11 (upd (σ 11) i ((v)))) from rfl) dX5_set_65 ?_
        refine w_iload X 0 rfl dX5_set_66 ?_
        obtain ⟨rfl, rfl, rfl, rfl⟩ := h3 i hi rfl c16 (by rw [if_pos c6]; exact c21)
        exact w_iret_vx V ((fun _ _ _ => 0)) (by rfl) (by rfl) (Nat.le_of_ble_eq_true rfl) (Nat.le_of_ble_eq_true rfl) dX5_set_68
      · obtain ⟨rfl, rfl, rfl, rfl⟩ := h2 i hi rfl (Or.inr (by rw [if_pos c6]; exact c21))
        exact w_thrS V hT (text := "the setting has no such value") th_iAE (by decide +kernel) ((fun _ _ _ => 0)) (rfl) (by rfl) ⟨(Nat.le_of_ble_eq_true rfl), (Nat.le_of_ble_eq_true rfl)⟩ (Nat.le_of_ble_eq_true rfl) ⟨(Nat.le_of_ble_eq_true rfl), (Nat.le_of_ble_eq_true rfl)⟩ ⟨(Nat.le_of_ble_eq_true rfl), (Nat.le_of_ble_eq_true rfl)⟩ dX5_set_24 dX5_set_27 dX5_set_28 dX5_set_30 dX5_set_33
