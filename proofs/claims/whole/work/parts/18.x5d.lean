/-! MarkArenas: parts of a text -/
def lfA (σ : Nat → Nat → Int32) : Int32 := lowI (fun o => !nz (σ 8 o)) 6
def lfN (σ : Nat → Nat → Int32) : Int32 := lowI (fun o => !nz (σ 0 o)) 24
theorem ffst_spec {p : Nat → Bool} : ∀ (n i : Nat), ffst p n i < i + n → p (ffst p n i) = true
  | 0, i, h => by rw [ffst] at h; omega
  | n + 1, i, h => by
    rw [ffst] at h ⊢
    by_cases hp : p i = true
    · rw [if_pos hp]; exact hp
    · rw [if_neg hp] at h ⊢; exact ffst_spec n (i + 1) (by omega)
theorem ffst_before {p : Nat → Bool} : ∀ (n i j : Nat), i ≤ j → j < ffst p n i → p j = false
  | 0, i, j, h1, h2 => by rw [ffst] at h2; omega
  | n + 1, i, j, h1, h2 => by
    rw [ffst] at h2
    by_cases hp : p i = true
    · rw [if_pos hp] at h2; omega
    · rw [if_neg hp] at h2
      by_cases e : i = j
      · subst e; simpa using hp
      · exact ffst_before n (i + 1) j (by omega) h2
theorem lowI_cases (p : Nat → Bool) (n : Nat) : (lowI p n = -1 ∧ ∀ j, j < n → p j = false) ∨ ∃ k, k < n ∧ lowI p n = nI k ∧ p k = true ∧ ∀ j, j < k → p j = false := by
  have h := ffst_le p n 0
  by_cases e : ffst p n 0 = n
  · exact Or.inl ⟨by rw [lowI, if_pos e], fun j hj => ffst_before n 0 j (Nat.zero_le _) (by omega)⟩
  · exact Or.inr ⟨ffst p n 0, by omega, by rw [lowI, if_neg e], ffst_spec n 0 (by omega), fun j hj => ffst_before n 0 j (Nat.zero_le _) hj⟩
theorem nI_ne {k : Nat} (h : k < 2 ^ 31) : nI k ≠ -1 := fun e => by
  have h1 := nI_pos h
  rw [e] at h1
  exact h1 (by decide)
def rtS (σ : Nat → Nat → Int32) (j : Nat) (b : Int32) : Nat → Nat → Int32 := rw2 σ 5 (upd (σ 5) j b)
def mpB (σ τ : Nat → Nat → Int32) (k : Nat) : Bool := if lfN σ = -1 then false else if roomB σ (nI k) (τ 1 1) = false then false else if τ 1 3 = -1 then true else if τ 1 3 = lfN σ then true else hasB σ (τ 1 3)
def mpA (σ τ : Nat → Nat → Int32) (k n : Nat) : Nat → Nat → Int32 := rtS (addS σ n k (τ 1 1)) n (τ 1 2)
def mpS (σ τ : Nat → Nat → Int32) (k : Nat) : Nat → Nat → Int32 := if mpB σ τ k = false then σ else if τ 1 3 = -1 then mpA σ τ k (lfN σ).toNatClampNeg else rfS (mpA σ τ k (lfN σ).toNatClampNeg) (τ 1 3).toNatClampNeg 0 (lfN σ)
theorem mp1 {σ τ : Nat → Nat → Int32} {k : Nat} (h1 : lfN σ = -1) : mpB σ τ k = false := by rw [mpB, if_pos h1]
theorem mp2 {σ τ : Nat → Nat → Int32} {k n : Nat} (h1 : lfN σ = nI n) (hn : n < 24) (h2 : roomB σ (nI k) (τ 1 1) = false) : mpB σ τ k = false := by rw [mpB, h1, if_neg (nI_ne (by omega)), if_pos h2]
theorem mp3 {σ τ : Nat → Nat → Int32} {k n : Nat} (h1 : lfN σ = nI n) (hn : n < 24) (h2 : roomB σ (nI k) (τ 1 1) = true) (h3 : τ 1 3 = -1) : mpB σ τ k = true ∧ mpS σ τ k = mpA σ τ k n := by
  have e : mpB σ τ k = true := by rw [mpB, h1, if_neg (nI_ne (by omega)), if_neg (by rw [h2]; decide), if_pos h3]
  exact ⟨e, by rw [mpS, e, if_neg (by decide), if_pos h3, h1, nI_clamp (by omega)]⟩
theorem mp4 {σ τ : Nat → Nat → Int32} {k n h : Nat} (h1 : lfN σ = nI n) (hn : n < 24) (h2 : roomB σ (nI k) (τ 1 1) = true) (h3 : τ 1 3 = nI h) (hh : h < 24) (h4 : h = n ∨ hasB σ (nI h) = true) : mpB σ τ k = true ∧ mpS σ τ k = rfS (mpA σ τ k n) h 0 (nI n) := by
  have e : mpB σ τ k = true := by
    rw [mpB, h1, h3, if_neg (nI_ne (by omega)), if_neg (by rw [h2]; decide), if_neg (nI_ne (by omega))]
    rcases h4 with h4 | h4
    · rw [h4, if_pos rfl]
    · split
      · rfl
      · exact h4
  exact ⟨e, by rw [mpS, e, h3, if_neg (by decide), if_neg (nI_ne (by omega)), h1, nI_clamp (by omega), nI_clamp (by omega)]⟩
theorem mp5 {σ τ : Nat → Nat → Int32} {k n h : Nat} (h1 : lfN σ = nI n) (hn : n < 24) (h2 : roomB σ (nI k) (τ 1 1) = true) (h3 : τ 1 3 = nI h) (hh : h < 24) (h4 : ¬ h = n) (h5 : hasB σ (nI h) = false) : mpB σ τ k = false := by
  rw [mpB, h1, h3, if_neg (nI_ne (by omega)), if_neg (by rw [h2]; decide), if_neg (nI_ne (by omega)), if_neg (fun e => h4 ((nI_eq (by omega) (by omega)).mp e)), h5]
theorem mpf {σ τ : Nat → Nat → Int32} {k : Nat} (h : mpB σ τ k = false) : mpS σ τ k = σ := by rw [mpS, if_pos h]
set_option maxRecDepth 100000 in
set_option maxHeartbeats 4000000 in
theorem m_X5_makePart (l : Launch) (g : GG) (am : Nat → Nat) (ast : Nat → Nat) (art : Nat → Nat) (alas : Nat → Nat) (atx : Nat → Nat) (ahi : Nat → Nat) (σ : Nat → Nat → Int32) (τ : Nat → Nat → Int32) (k : Nat) (hk : k < 6) (hb : τ 1 2 = 0 ∨ τ 1 2 = 1) (hh : τ 1 3 = -1 ∨ ∃ h, h < 24 ∧ τ 1 3 = nI h) : MMU l g yX5_makePart cX5_makePart 4 (some .boolean) 3 0 0 [.ref (am 0), .int (nI k)] [maC g am (ast 0) (art 0) (alas 0) (atx 0) (ahi 0), stC g ast σ, txC g atx τ] (some (.int (bI (mpB σ τ k)))) [maC g am (ast 0) (art 0) (alas 0) (atx 0) (ahi 0), stC g ast (mpS σ τ k), txC g atx τ] := by
  refine mk_mu (by decide +kernel) (Nat.le_of_ble_eq_true rfl) (fun p e s m below meth c A hA X => ?_)
  refine w_aload_n X 0 rfl dX5_makePart_0 ?_
  refine w_get X 0 0 rfl rfl rfl in_X5 0 (by decide) fk_X5_10 rfl dX5_makePart_1 ?_
  refine w_roV X [1] 1 0 (m_X3_lowestFreeNumber l g ast σ) cv_X3_lowestFreeNumber mk_X5_71 rfl rfl rfl rfl rfl ⟨Nat.le_of_ble_eq_true rfl, Nat.le_of_ble_eq_true rfl⟩ (Nat.le_of_ble_eq_true rfl) ⟨Nat.le_of_ble_eq_true rfl, Nat.le_of_ble_eq_true rfl⟩ dX5_makePart_4 rfl ?_
  refine w_istore_n X dX5_makePart_7 (by decide) ?_
  refine w_iload_n X 0 rfl dX5_makePart_8 ?_
  refine w_iconst X (-1) dX5_makePart_9 (by decide +kernel) ?_
  refine w_ic_eq X 31 dX5_makePart_10 (by decide) (fun c10 => ?_) (fun c10 => ?_)
  · refine w_iconst X (nI 0) dX5_makePart_31 (by decide +kernel) ?_
    exact w_zret_mu X (by rw [mp1 c10]; rfl) (by rw [mpf (mp1 c10)]) (Nat.le_of_ble_eq_true rfl) (Nat.le_of_ble_eq_true rfl) (rfl) dX5_makePart_32
  · obtain ⟨n, hn, hn0⟩ : ∃ n, n < 24 ∧ lowI (fun o => !nz (σ 0 o)) 24 = nI n := (lowI_cases (fun o => !nz (σ 0 o)) 24).elim (fun h => absurd h.1 c10) (fun ⟨n, h1, h2, _⟩ => ⟨n, h1, h2⟩)
    rw [hn0]
    refine w_aload_n X 1 rfl dX5_makePart_13 ?_
    refine w_get X 0 0 rfl rfl rfl in_X5 0 (by decide) fk_X5_10 rfl dX5_makePart_14 ?_
    refine w_iload_n X 2 rfl dX5_makePart_17 ?_
    refine w_aload_n X 1 rfl dX5_makePart_18 ?_
    refine w_get X 0 0 rfl rfl rfl in_X5 3 (by decide) fk_X5_33 rfl dX5_makePart_19 ?_
    refine w_get X 2 0 rfl rfl rfl in_X4 2 (by decide) fk_X5_192 rfl dX5_makePart_22 ?_
    refine w_roV X [1] 1 0 (m_X3_hasRoom l g ast σ (nI (k)) (τ 1 1)) cv_X3_hasRoom mk_X5_78 rfl rfl rfl rfl rfl ⟨Nat.le_of_ble_eq_true rfl, Nat.le_of_ble_eq_true rfl⟩ (Nat.le_of_ble_eq_true rfl) ⟨Nat.le_of_ble_eq_true rfl, Nat.le_of_ble_eq_true rfl⟩ dX5_makePart_25 rfl ?_
    refine w_bf_ne X 33 dX5_makePart_28 (by decide) (fun c28 => ?_) (fun c28 => ?_)
    · refine w_aload_n X 1 rfl dX5_makePart_33 ?_
      refine w_get X 0 0 rfl rfl rfl in_X5 3 (by decide) fk_X5_33 rfl dX5_makePart_34 ?_
      refine w_get X 2 0 rfl rfl rfl in_X4 4 (by decide) fk_X5_195 rfl dX5_makePart_37 ?_
      refine w_istore_n X dX5_makePart_40 (by decide) ?_
      refine w_iload_n X 0 rfl dX5_makePart_41 ?_
      refine w_iconst X (-1) dX5_makePart_42 (by decide +kernel) ?_
      refine w_ic_eq X 64 dX5_makePart_43 (by decide) (fun c43 => ?_) (fun c43 => ?_)
      · refine w_aload_n X 2 rfl dX5_makePart_64 ?_
        refine w_get X 0 0 rfl rfl rfl in_X5 0 (by decide) fk_X5_10 rfl dX5_makePart_65 ?_
        refine w_iload_n X 1 rfl dX5_makePart_68 ?_
        refine w_iload_n X 3 rfl dX5_makePart_69 ?_
        refine w_aload_n X 2 rfl dX5_makePart_70 ?_
        refine w_get X 0 0 rfl rfl rfl in_X5 3 (by decide) fk_X5_33 rfl dX5_makePart_71 ?_
        refine w_get X 2 0 rfl rfl rfl in_X4 2 (by decide) fk_X5_192 rfl dX5_makePart_74 ?_
        refine w_muV X hA (gr := [maC g am (ast 0) (art 0) (alas 0) (atx 0) (ahi 0), txC g atx τ]) (gs1 := [maC g am (ast 0) (art 0) (alas 0) (atx 0) (ahi 0), stC g ast (addS σ n k (τ 1 1)), txC g atx τ]) [1] [0, 2] 1 0 (m_X3_add l g ast σ n k (τ 1 1) (by omega) (by omega)) cv_X3_add mk_X5_84 rfl rfl rfl (ng := 3) rfl (by decide) rfl rfl rfl rfl rfl rfl ⟨Nat.le_of_ble_eq_true rfl, Nat.le_of_ble_eq_true rfl⟩ (Nat.le_of_ble_eq_true rfl) ⟨Nat.le_of_ble_eq_true rfl, Nat.le_of_ble_eq_true rfl⟩ dX5_makePart_77 rfl ?_
        generalize hn1 : addS σ n k (τ 1 1) = σv1
        refine w_aload_n X 2 rfl dX5_makePart_80 ?_
        refine w_get X 0 0 rfl rfl rfl in_X5 0 (by decide) fk_X5_10 rfl dX5_makePart_81 ?_
        refine w_get X 1 0 rfl rfl rfl in_X3 5 (by decide) fk_X5_103 rfl dX5_makePart_84 ?_
        refine w_iload_n X 1 rfl dX5_makePart_87 ?_
        refine w_aload_n X 2 rfl dX5_makePart_88 ?_
        refine w_get X 0 0 rfl rfl rfl in_X5 3 (by decide) fk_X5_33 rfl dX5_makePart_89 ?_
        refine w_get X 2 0 rfl rfl rfl in_X4 3 (by decide) fk_X5_201 rfl dX5_makePart_92 ?_
        refine w_zast_n X 1 6 1 rfl rfl rfl (by omega) (by decide) (show _ = stC g ast (rw2 σv1 5 (upd (σv1 5) n ((τ 1 2)))) from by rw [nar_raw hb]; rfl) dX5_makePart_95 ?_
        refine w_iload_n X 0 rfl dX5_makePart_96 ?_
        refine w_iconst X (-1) dX5_makePart_97 (by decide +kernel) ?_
        refine w_ic_eq X 111 dX5_makePart_98 (by decide) (fun c98 => ?_) (fun c98 => by exfalso; exact c98 c43)
        refine w_iconst X (nI 1) dX5_makePart_111 (by decide +kernel) ?_
        exact w_zret_mu X (by rw [(mp3 hn0 hn c28 c43).1]; rfl) (by rw [(mp3 hn0 hn c28 c43).2]; subst hn1;  rfl) (Nat.le_of_ble_eq_true rfl) (Nat.le_of_ble_eq_true rfl) (rfl) dX5_makePart_112
      · obtain ⟨h, hh, hh0⟩ : ∃ h, h < 24 ∧ τ 1 3 = nI h := hh.elim (fun h => absurd h c43) id
        rw [hh0]
        refine w_iload_n X 0 rfl dX5_makePart_46 ?_
        refine w_iload_n X 1 rfl dX5_makePart_47 ?_
        refine w_nc_eq X (by omega) (by omega) 64 dX5_makePart_48 (by decide) (fun c48 => ?_) (fun c48 => ?_)
        · refine w_aload_n X 2 rfl dX5_makePart_64 ?_
          refine w_get X 0 0 rfl rfl rfl in_X5 0 (by decide) fk_X5_10 rfl dX5_makePart_65 ?_
          refine w_iload_n X 1 rfl dX5_makePart_68 ?_
          refine w_iload_n X 3 rfl dX5_makePart_69 ?_
          refine w_aload_n X 2 rfl dX5_makePart_70 ?_
          refine w_get X 0 0 rfl rfl rfl in_X5 3 (by decide) fk_X5_33 rfl dX5_makePart_71 ?_
          refine w_get X 2 0 rfl rfl rfl in_X4 2 (by decide) fk_X5_192 rfl dX5_makePart_74 ?_
          refine w_muV X hA (gr := [maC g am (ast 0) (art 0) (alas 0) (atx 0) (ahi 0), txC g atx τ]) (gs1 := [maC g am (ast 0) (art 0) (alas 0) (atx 0) (ahi 0), stC g ast (addS σ n k (τ 1 1)), txC g atx τ]) [1] [0, 2] 1 0 (m_X3_add l g ast σ n k (τ 1 1) (by omega) (by omega)) cv_X3_add mk_X5_84 rfl rfl rfl (ng := 3) rfl (by decide) rfl rfl rfl rfl rfl rfl ⟨Nat.le_of_ble_eq_true rfl, Nat.le_of_ble_eq_true rfl⟩ (Nat.le_of_ble_eq_true rfl) ⟨Nat.le_of_ble_eq_true rfl, Nat.le_of_ble_eq_true rfl⟩ dX5_makePart_77 rfl ?_
          generalize hn2 : addS σ n k (τ 1 1) = σv2
          refine w_aload_n X 2 rfl dX5_makePart_80 ?_
          refine w_get X 0 0 rfl rfl rfl in_X5 0 (by decide) fk_X5_10 rfl dX5_makePart_81 ?_
          refine w_get X 1 0 rfl rfl rfl in_X3 5 (by decide) fk_X5_103 rfl dX5_makePart_84 ?_
          refine w_iload_n X 1 rfl dX5_makePart_87 ?_
          refine w_aload_n X 2 rfl dX5_makePart_88 ?_
          refine w_get X 0 0 rfl rfl rfl in_X5 3 (by decide) fk_X5_33 rfl dX5_makePart_89 ?_
          refine w_get X 2 0 rfl rfl rfl in_X4 3 (by decide) fk_X5_201 rfl dX5_makePart_92 ?_
          refine w_zast_n X 1 6 1 rfl rfl rfl (by omega) (by decide) (show _ = stC g ast (rw2 σv2 5 (upd (σv2 5) n ((τ 1 2)))) from by rw [nar_raw hb]; rfl) dX5_makePart_95 ?_
          refine w_iload_n X 0 rfl dX5_makePart_96 ?_
          refine w_iconst X (-1) dX5_makePart_97 (by decide +kernel) ?_
          refine w_ic_eq X 111 dX5_makePart_98 (by decide) (fun c98 => by exfalso; exact nI_ne (by omega) c98) (fun c98 => ?_)
          refine w_aload_n X 2 rfl dX5_makePart_101 ?_
          refine w_get X 0 0 rfl rfl rfl in_X5 0 (by decide) fk_X5_10 rfl dX5_makePart_102 ?_
          refine w_iload_n X 0 rfl dX5_makePart_105 ?_
          refine w_iconst X (nI 0) dX5_makePart_106 (by decide +kernel) ?_
          refine w_iload_n X 1 rfl dX5_makePart_107 ?_
          refine w_muV X hA (gr := [maC g am (ast 0) (art 0) (alas 0) (atx 0) (ahi 0), txC g atx τ]) (gs1 := [maC g am (ast 0) (art 0) (alas 0) (atx 0) (ahi 0), stC g ast (rfS (rw2 σv2 5 (upd (σv2 5) n ((τ 1 2)))) h 0 (nI (n))), txC g atx τ]) [1] [0, 2] 1 0 (m_X3_refer l g ast (rw2 σv2 5 (upd (σv2 5) n ((τ 1 2)))) h 0 (nI (n)) (by omega) (by omega)) cv_X3_refer mk_X5_100 rfl rfl rfl (ng := 3) rfl (by decide) rfl rfl rfl rfl rfl rfl ⟨Nat.le_of_ble_eq_true rfl, Nat.le_of_ble_eq_true rfl⟩ (Nat.le_of_ble_eq_true rfl) ⟨Nat.le_of_ble_eq_true rfl, Nat.le_of_ble_eq_true rfl⟩ dX5_makePart_108 rfl ?_
          generalize hn3 : rfS (rw2 σv2 5 (upd (σv2 5) n ((τ 1 2)))) h 0 (nI (n)) = σv3
          refine w_iconst X (nI 1) dX5_makePart_111 (by decide +kernel) ?_
          exact w_zret_mu X (by rw [(mp4 hn0 hn c28 hh0 hh (Or.inl c48)).1]; rfl) (by rw [(mp4 hn0 hn c28 hh0 hh (Or.inl c48)).2]; subst hn3; subst hn2;  rfl) (Nat.le_of_ble_eq_true rfl) (Nat.le_of_ble_eq_true rfl) (rfl) dX5_makePart_112
        · refine w_aload_n X 2 rfl dX5_makePart_51 ?_
          refine w_get X 0 0 rfl rfl rfl in_X5 0 (by decide) fk_X5_10 rfl dX5_makePart_52 ?_
          refine w_iload_n X 0 rfl dX5_makePart_55 ?_
          refine w_roV X [1] 1 0 (m_X3_has l g ast σ (nI (h))) cv_X3_has mk_X5_198 rfl rfl rfl rfl rfl ⟨Nat.le_of_ble_eq_true rfl, Nat.le_of_ble_eq_true rfl⟩ (Nat.le_of_ble_eq_true rfl) ⟨Nat.le_of_ble_eq_true rfl, Nat.le_of_ble_eq_true rfl⟩ dX5_makePart_56 rfl ?_
          refine w_bf_ne X 64 dX5_makePart_59 (by decide) (fun c59 => ?_) (fun c59 => ?_)
          · refine w_aload_n X 2 rfl dX5_makePart_64 ?_
            refine w_get X 0 0 rfl rfl rfl in_X5 0 (by decide) fk_X5_10 rfl dX5_makePart_65 ?_
            refine w_iload_n X 1 rfl dX5_makePart_68 ?_
            refine w_iload_n X 3 rfl dX5_makePart_69 ?_
            refine w_aload_n X 2 rfl dX5_makePart_70 ?_
            refine w_get X 0 0 rfl rfl rfl in_X5 3 (by decide) fk_X5_33 rfl dX5_makePart_71 ?_
            refine w_get X 2 0 rfl rfl rfl in_X4 2 (by decide) fk_X5_192 rfl dX5_makePart_74 ?_
            refine w_muV X hA (gr := [maC g am (ast 0) (art 0) (alas 0) (atx 0) (ahi 0), txC g atx τ]) (gs1 := [maC g am (ast 0) (art 0) (alas 0) (atx 0) (ahi 0), stC g ast (addS σ n k (τ 1 1)), txC g atx τ]) [1] [0, 2] 1 0 (m_X3_add l g ast σ n k (τ 1 1) (by omega) (by omega)) cv_X3_add mk_X5_84 rfl rfl rfl (ng := 3) rfl (by decide) rfl rfl rfl rfl rfl rfl ⟨Nat.le_of_ble_eq_true rfl, Nat.le_of_ble_eq_true rfl⟩ (Nat.le_of_ble_eq_true rfl) ⟨Nat.le_of_ble_eq_true rfl, Nat.le_of_ble_eq_true rfl⟩ dX5_makePart_77 rfl ?_
            generalize hn4 : addS σ n k (τ 1 1) = σv4
            refine w_aload_n X 2 rfl dX5_makePart_80 ?_
            refine w_get X 0 0 rfl rfl rfl in_X5 0 (by decide) fk_X5_10 rfl dX5_makePart_81 ?_
            refine w_get X 1 0 rfl rfl rfl in_X3 5 (by decide) fk_X5_103 rfl dX5_makePart_84 ?_
            refine w_iload_n X 1 rfl dX5_makePart_87 ?_
            refine w_aload_n X 2 rfl dX5_makePart_88 ?_
            refine w_get X 0 0 rfl rfl rfl in_X5 3 (by decide) fk_X5_33 rfl dX5_makePart_89 ?_
            refine w_get X 2 0 rfl rfl rfl in_X4 3 (by decide) fk_X5_201 rfl dX5_makePart_92 ?_
            refine w_zast_n X 1 6 1 rfl rfl rfl (by omega) (by decide) (show _ = stC g ast (rw2 σv4 5 (upd (σv4 5) n ((τ 1 2)))) from by rw [nar_raw hb]; rfl) dX5_makePart_95 ?_
            refine w_iload_n X 0 rfl dX5_makePart_96 ?_
            refine w_iconst X (-1) dX5_makePart_97 (by decide +kernel) ?_
            refine w_ic_eq X 111 dX5_makePart_98 (by decide) (fun c98 => by exfalso; exact nI_ne (by omega) c98) (fun c98 => ?_)
            refine w_aload_n X 2 rfl dX5_makePart_101 ?_
            refine w_get X 0 0 rfl rfl rfl in_X5 0 (by decide) fk_X5_10 rfl dX5_makePart_102 ?_
            refine w_iload_n X 0 rfl dX5_makePart_105 ?_
            refine w_iconst X (nI 0) dX5_makePart_106 (by decide +kernel) ?_
            refine w_iload_n X 1 rfl dX5_makePart_107 ?_
            refine w_muV X hA (gr := [maC g am (ast 0) (art 0) (alas 0) (atx 0) (ahi 0), txC g atx τ]) (gs1 := [maC g am (ast 0) (art 0) (alas 0) (atx 0) (ahi 0), stC g ast (rfS (rw2 σv4 5 (upd (σv4 5) n ((τ 1 2)))) h 0 (nI (n))), txC g atx τ]) [1] [0, 2] 1 0 (m_X3_refer l g ast (rw2 σv4 5 (upd (σv4 5) n ((τ 1 2)))) h 0 (nI (n)) (by omega) (by omega)) cv_X3_refer mk_X5_100 rfl rfl rfl (ng := 3) rfl (by decide) rfl rfl rfl rfl rfl rfl ⟨Nat.le_of_ble_eq_true rfl, Nat.le_of_ble_eq_true rfl⟩ (Nat.le_of_ble_eq_true rfl) ⟨Nat.le_of_ble_eq_true rfl, Nat.le_of_ble_eq_true rfl⟩ dX5_makePart_108 rfl ?_
            generalize hn5 : rfS (rw2 σv4 5 (upd (σv4 5) n ((τ 1 2)))) h 0 (nI (n)) = σv5
            refine w_iconst X (nI 1) dX5_makePart_111 (by decide +kernel) ?_
            exact w_zret_mu X (by rw [(mp4 hn0 hn c28 hh0 hh (Or.inr c59)).1]; rfl) (by rw [(mp4 hn0 hn c28 hh0 hh (Or.inr c59)).2]; subst hn5; subst hn4;  rfl) (Nat.le_of_ble_eq_true rfl) (Nat.le_of_ble_eq_true rfl) (rfl) dX5_makePart_112
          · refine w_iconst X (nI 0) dX5_makePart_62 (by decide +kernel) ?_
            exact w_zret_mu X (by rw [mp5 hn0 hn c28 hh0 hh c48 c59]; rfl) (by rw [mpf (mp5 hn0 hn c28 hh0 hh c48 c59)]) (Nat.le_of_ble_eq_true rfl) (Nat.le_of_ble_eq_true rfl) (rfl) dX5_makePart_63
    · refine w_iconst X (nI 0) dX5_makePart_31 (by decide +kernel) ?_
      exact w_zret_mu X (by rw [mp2 hn0 hn c28]; rfl) (by rw [mpf (mp2 hn0 hn c28)]) (Nat.le_of_ble_eq_true rfl) (Nat.le_of_ble_eq_true rfl) (rfl) dX5_makePart_32
theorem rdL_of {τ τ' : Nat → Nat → Int32} (h0 : τ' 0 = τ 0) (h1 : τ' 1 0 = τ 1 0) : ∀ (n i : Nat) (a b h : Int32), rdL τ' n i a b h = rdL τ n i a b h
  | 0, i, a, b, h => by rw [rdL, rdL, h1]
  | n + 1, i, a, b, h => by rw [rdL, rdL, h0, h1, rdL_of h0 h1 n, rdL_of h0 h1 n, rdL_of h0 h1 n, rdL_of h0 h1 n]
theorem rdR_of {τ τ' : Nat → Nat → Int32} (h0 : τ' 0 = τ 0) (h1 : τ' 1 0 = τ 1 0) (f : Nat) : rdR τ' f = rdR τ f := rdL_of h0 h1 _ _ _ _ _
theorem rdT_0 (τ : Nat → Nat → Int32) (r : Int32 × Int32 × Int32 × Int32) : rdT τ r 0 = τ 0 := rfl
theorem rdT_1 (τ : Nat → Nat → Int32) (r : Int32 × Int32 × Int32 × Int32) : rdT τ r 1 0 = τ 1 0 := rfl
/-- what a part's reading gives, wherever one begins -/
def pkF (τ : Nat → Nat → Int32) (S : Nat → Prop) (f q : Nat) : Prop := S q ∧ (rdR τ f).1 = nI q ∧ ((rdR τ f).2.2.1 = 0 ∨ (rdR τ f).2.2.1 = 1) ∧ ((rdR τ f).2.2.2 = -1 ∨ ∃ h, h < 24 ∧ (rdR τ f).2.2.2 = nI h)
def pkS (τ : Nat → Nat → Int32) (S : Nat → Prop) : Prop := S 0 ∧ ∀ f, S f → f ≤ 60 ∧ (¬ τ 1 0 ≤ nI f → ∃ q, pkF τ S f q)
def mkP (k : Nat) : Nat → (Nat → Nat → Int32) → (Nat → Nat → Int32) → Nat → Nat → (Nat → Nat → Int32) × (Nat → Nat → Int32) × Nat
  | 0, σ, τ, _, j => (σ, τ, j)
  | n + 1, σ, τ, f, j => if τ 1 0 ≤ nI f then (σ, τ, j) else if mpB σ (rdT τ (rdR τ f)) k = true then mkP k n (mpS σ (rdT τ (rdR τ f)) k) (rdT τ (rdR τ f)) (rdR τ f).1.toNatClampNeg (j + 1) else (σ, rdT τ (rdR τ f), j)
set_option maxRecDepth 100000 in
set_option maxHeartbeats 4000000 in
theorem m_X5_makeParts (l : Launch) (g : GG) (am : Nat → Nat) (ast : Nat → Nat) (art : Nat → Nat) (alas : Nat → Nat) (atx : Nat → Nat) (ahi : Nat → Nat) (σ : Nat → Nat → Int32) (τ : Nat → Nat → Int32) (k : Nat) (S : Nat → Prop) (hk : k < 6) (hP : pkS τ S) : MMU l g yX5_makeParts cX5_makeParts 5 (some .int) 4 0 0 [.ref (am 0), .int (nI k)] [maC g am (ast 0) (art 0) (alas 0) (atx 0) (ahi 0), stC g ast σ, txC g atx τ] (some (.int (nI ((mkP k 60 σ τ 0 0).2.2)))) [maC g am (ast 0) (art 0) (alas 0) (atx 0) (ahi 0), stC g ast ((mkP k 60 σ τ 0 0).1), txC g atx ((mkP k 60 σ τ 0 0).2.1)] := by
  refine mk_mu (by decide +kernel) (Nat.le_of_ble_eq_true rfl) (fun p e s m below meth c A hA X => ?_)
  refine w_iconst X (nI 0) dX5_makeParts_0 (by decide +kernel) ?_
  refine w_istore_n X dX5_makeParts_1 (by decide) ?_
  refine w_iconst X (nI 0) dX5_makeParts_2 (by decide +kernel) ?_
  refine w_istore_n X dX5_makeParts_3 (by decide) ?_
  refine w_iconst X (nI 0) dX5_makeParts_4 (by decide +kernel) ?_
  refine w_istore X dX5_makeParts_5 (by decide) ?_
  refine w_all [3, 4, 2, 1, 0] (rfl) (rfl) rfl (w_loop (st := []) (pc := 7) X (V := Nat × Nat × (Nat → Nat → Int32) × (Nat → Nat → Int32)) (fun (v7 : Nat × Nat × (Nat → Nat → Int32) × (Nat → Nat → Int32)) => 60 - v7.1) (fun (v7 : Nat × Nat × (Nat → Nat → Int32) × (Nat → Nat → Int32)) => (v7.1 ≤ 60) ∧ (S v7.2.1) ∧ (v7.2.2.2 0 = τ 0) ∧ (v7.2.2.2 1 0 = τ 1 0) ∧ (mkP k (60 - v7.1) v7.2.2.1 v7.2.2.2 v7.2.1 v7.1 = mkP k 60 σ τ 0 0)) (fun (v7 : Nat × Nat × (Nat → Nat → Int32) × (Nat → Nat → Int32)) => [(0, .ref (am 0)), (1, .int (nI k)), (2, .int (nI v7.1)), (3, .int (nI v7.2.1)), (4, .int (nI v7.1))]) (fun (v7 : Nat × Nat × (Nat → Nat → Int32) × (Nat → Nat → Int32)) => [maC g am (ast 0) (art 0) (alas 0) (atx 0) (ahi 0), stC g ast v7.2.2.1, txC g atx v7.2.2.2]) (fun v7 hv7 ih7 => ?_) (0, 0, σ, τ) ⟨by omega, hP.1, rfl, rfl, rfl⟩)
  obtain ⟨i, f, σ1, τ1⟩ := v7
  obtain ⟨hi, hf, ht0, ht1, hz⟩ := hv7
  try dsimp only at hi hf ht0 ht1 hz ih7 ⊢
  refine w_iload X 4 rfl dX5_makeParts_7 ?_
  refine w_bipush X (nI 60) dX5_makeParts_9 (by decide +kernel) ?_
  refine w_nc_ge X (by omega) (by omega) 53 dX5_makeParts_11 (by decide) (fun c11 => ?_) (fun c11 => ?_)
  · refine w_iload_n X 2 rfl dX5_makeParts_53 ?_
    exact w_iret_mu X (by rw [← hz, show 60 - i = 0 by omega, mkP]) (by rw [← hz, show 60 - i = 0 by omega, mkP]) (Nat.le_of_ble_eq_true rfl) (Nat.le_of_ble_eq_true rfl) dX5_makeParts_54
  · refine w_iload_n X 3 rfl dX5_makeParts_14 ?_
    refine w_aload_n X 0 rfl dX5_makeParts_15 ?_
    refine w_get X 0 0 rfl rfl rfl in_X5 3 (by decide) fk_X5_33 rfl dX5_makeParts_16 ?_
    refine w_get X 2 0 rfl rfl rfl in_X4 1 (by decide) fk_X5_167 rfl dX5_makeParts_19 ?_
    refine w_ic_ge X 53 dX5_makeParts_22 (by decide) (fun c22 => ?_) (fun c22 => ?_)
    · refine w_iload_n X 2 rfl dX5_makeParts_53 ?_
      exact w_iret_mu X (by rw [← hz, show 60 - i = (59 - i) + 1 by omega, mkP, if_pos c22]) (by rw [← hz, show 60 - i = (59 - i) + 1 by omega, mkP, if_pos c22]) (Nat.le_of_ble_eq_true rfl) (Nat.le_of_ble_eq_true rfl) dX5_makeParts_54
    · refine w_aload_n X 0 rfl dX5_makeParts_25 ?_
      refine w_get X 0 0 rfl rfl rfl in_X5 3 (by decide) fk_X5_33 rfl dX5_makeParts_26 ?_
      refine w_iload_n X 3 rfl dX5_makeParts_29 ?_
      refine w_muV X hA (gr := [maC g am (ast 0) (art 0) (alas 0) (atx 0) (ahi 0), stC g ast σ1]) (gs1 := [maC g am (ast 0) (art 0) (alas 0) (atx 0) (ahi 0), stC g ast σ1, txC g atx (rdT τ1 (rdR τ1 f))]) [2] [0, 1] 2 0 (m_X4_readPart l g atx τ1 f ((hP.2 f hf).1)) cv_X4_readPart mk_X5_186 rfl rfl rfl (ng := 3) rfl (by decide) rfl rfl rfl rfl rfl rfl ⟨Nat.le_of_ble_eq_true rfl, Nat.le_of_ble_eq_true rfl⟩ (Nat.le_of_ble_eq_true rfl) ⟨Nat.le_of_ble_eq_true rfl, Nat.le_of_ble_eq_true rfl⟩ dX5_makeParts_30 rfl ?_
      obtain ⟨q, hq1, hq2, hq3, hq4⟩ := (hP.2 f hf).2 (by rw [← ht1]; exact c22)
      rw [rdR_of ht0 ht1, hq2]
      refine w_istore_n X dX5_makeParts_33 (by decide) ?_
      refine w_aload_n X 1 rfl dX5_makeParts_34 ?_
      refine w_iload_n X 2 rfl dX5_makeParts_35 ?_
      refine w_muV X hA (gr := []) (gs1 := [maC g am (ast 0) (art 0) (alas 0) (atx 0) (ahi 0), stC g ast (mpS σ1 (rdT τ1 (rdR τ f)) k), txC g atx (rdT τ1 (rdR τ f))]) [0, 1, 2] [] 0 0 (m_X5_makePart l g am ast art alas atx ahi σ1 (rdT τ1 (rdR τ f)) k (hk) (by exact hq3) (by exact hq4)) cv_X5_makePart mk_X5_189 rfl rfl rfl (ng := 3) rfl (by decide) rfl rfl rfl rfl rfl rfl ⟨Nat.le_of_ble_eq_true rfl, Nat.le_of_ble_eq_true rfl⟩ (Nat.le_of_ble_eq_true rfl) ⟨Nat.le_of_ble_eq_true rfl, Nat.le_of_ble_eq_true rfl⟩ dX5_makeParts_36 rfl ?_
      generalize hn1 : mpS σ1 (rdT τ1 (rdR τ f)) k = σv1
      refine w_bf_ne X 44 dX5_makeParts_39 (by decide) (fun c39 => ?_) (fun c39 => ?_)
      · refine w_iinc X (nI (i + 1)) 3 rfl (nI_1 _) dX5_makeParts_44 (by decide) ?_
        refine w_iinc X (nI (i + 1)) 4 rfl (nI_1 _) dX5_makeParts_47 (by decide) ?_
        refine w_goto X 7 dX5_makeParts_50 (by decide) ?_
        exact w_all [3, 4, 1, 2, 0] (rfl) (rfl) rfl (ih7 (i + 1, q, σv1, rdT τ1 (rdR τ f)) (by omega) ⟨by omega, hq1, by subst hn1; exact ht0, by subst hn1; exact ht1, by subst hn1; rw [← hz, show 60 - i = (60 - (i + 1)) + 1 by omega, mkP, if_neg c22, rdR_of ht0 ht1, if_pos c39, hq2, nI_clamp (by have := (hP.2 q hq1).1; omega)]⟩)
      · refine w_iload_n X 3 rfl dX5_makeParts_42 ?_
        exact w_iret_mu X (by subst hn1; rw [← hz, show 60 - i = (59 - i) + 1 by omega, mkP, if_neg c22, rdR_of ht0 ht1, if_neg (by rw [c39]; decide)]) (by subst hn1; rw [← hz, show 60 - i = (59 - i) + 1 by omega, mkP, if_neg c22, rdR_of ht0 ht1, if_neg (by rw [c39]; decide), mpf c39]) (Nat.le_of_ble_eq_true rfl) (Nat.le_of_ble_eq_true rfl) dX5_makeParts_43
