/-! the law: its loop, from its entry -/
theorem not_ge {v : Int32} (h : ¬ 0 ≤ v) : v < 0 := by
  rw [Int32.le_iff_toInt_le] at h
  rw [Int32.lt_iff_toInt_lt]
  omega
section LLP
variable {p : Program} {l : Launch} {e : Env} {s : State} {m : MethodId} {below : List Frame} {meth : Method} {c : Code} {g : GG} {b L : Nat} {xs : Nat → Int32} {Q : State → Prop}
set_option maxRecDepth 100000 in
set_option maxHeartbeats 4000000 in
theorem l_loop (Z : XL p l s m meth c g b L xs) (T : Nat) (hT : T ≤ 40) (am : Nat → Nat) (ast : Nat → Nat) (art : Nat → Nat) (aliv : Nat → Nat) (asur : Nat → Nat) (alas : Nat → Nat) (atx : Nat → Nat) (ahi : Nat → Nat) (had : Nat → Nat → Nat) (τ : Nat → Nat → Int32) (KX : ∀ (kc ks : Nat) (lv : List (Nat × Value)) (gs : List va_W), kc ≤ 100000 → ks ≤ 1000000 → LW p l e s m below meth c g b Q kc ks lv [.int (nI 1)] gs 186) : ∀ (n k : Nat) (σ η : Nat → Nat → Int32) (ζ hσ : Nat → Nat → Nat → Int32) (nx sv : Nat), k + n = T → R27 (25 + 25 * k) σ η hσ nx sv → LW p l e s m below meth c g b Q (1000 + 435 * k) (10000 + 2610 * k) [(0, .ref b), (1, .ref (am 0)), (2, .int (nI 1)), (3, .int (nI T)), (4, .int (nI k))] [] [maC g am (ast 0) (art 0) (alas 0) (atx 0) (ahi 0), stC g ast σ, rtC g art (aliv 0) (asur 0) (ζ 3), rcC g aliv (ζ 0), rcC g asur (ζ 1), rcC g alas (ζ 2), txC g atx τ, hiC g ahi (fun i => had i 0) η, stC g (had 0) (hσ 0), stC g (had 1) (hσ 1), stC g (had 2) (hσ 2), stC g (had 3) (hσ 3), stC g (had 4) (hσ 4), stC g (had 5) (hσ 5)] 37 := by
  have V := Z.1
  have X := V.1
  have hA := V.2.2.2.2
  have hfl := V.2.1
  have hL := Z.2.2.2
  intro n
  induction n with
  | zero =>
    intro k σ η ζ hσ nx sv hk hR
    refine w_iload X 4 rfl dL_law_37 ?_
    refine w_iload_n X 3 rfl dL_law_39 ?_
    refine w_nc_ge X (by omega) (by omega) 170 dL_law_40 (by decide) (fun c40 => ?_) (fun c40 => by exfalso; omega)
    refine w_iload_n X 2 rfl dL_law_170 ?_
    refine w_nf_eq X (by omega) 185 dL_law_171 (by decide) (fun c171 => by exfalso; omega) (fun c171 => ?_)
    refine w_aload_n X 1 rfl dL_law_174 ?_
    refine w_mpS V (U := (Nat → Nat → Nat → Int32)) (gr := [txC g atx τ, stC g (had 0) (hσ 0), stC g (had 1) (hσ 1), stC g (had 2) (hσ 2), stC g (had 3) (hσ 3), stC g (had 4) (hσ 4), stC g (had 5) (hσ 5)]) (gs1 := fun ζ1 => [maC g am (ast 0) (art 0) (alas 0) (atx 0) (ahi 0), stC g ast σ, rtC g art (aliv 0) (asur 0) (ζ1 3), rcC g aliv (ζ1 0), rcC g asur (ζ1 1), rcC g alas (ζ1 2), txC g atx τ, hiC g ahi (fun i => had i 0) η, stC g (had 0) (hσ 0), stC g (had 1) (hσ 1), stC g (had 2) (hσ 2), stC g (had 3) (hσ 3), stC g (had 4) (hσ 4), stC g (had 5) (hσ 5)]) [0, 1, 2, 3, 4, 5, 7] [6, 8, 9, 10, 11, 12, 13] (m_L_arenas l g hfl am ast art aliv asur alas atx ahi had σ ζ η (25 + 25 * k) (by omega) (hR.1)) cs_L_arenas mk_L_108 rfl rfl rfl (ng := 14) rfl (by decide) (fun _ => rfl) (fun _ => rfl) (fun _ => rfl) ⟨Nat.le_of_ble_eq_true rfl, Nat.le_of_ble_eq_true rfl⟩ (Nat.le_of_ble_eq_true rfl) ⟨by show _ ≤ 671797; omega, by show _ ≤ 7086077; omega⟩ dL_law_175 rfl (fun ζ1 => ?_)
    refine w_bf_eq X 185 dL_law_178 (by decide) (fun c178 => by exfalso; cases c178) (fun c178 => ?_)
    refine w_iconst X (nI 1) dL_law_181 (by decide +kernel) ?_
    refine w_goto X 186 dL_law_182 (by decide) ?_
    exact KX _ _ _ _ (by omega) (by omega)
  | succ n ih =>
    intro k σ η ζ hσ nx sv hk hR
    refine w_iload X 4 rfl dL_law_37 ?_
    refine w_iload_n X 3 rfl dL_law_39 ?_
    refine w_nc_ge X (by omega) (by omega) 170 dL_law_40 (by decide) (fun c40 => by exfalso; omega) (fun c40 => ?_)
    refine w_iload_n X 2 rfl dL_law_43 ?_
    refine w_nf_eq X (by omega) 170 dL_law_44 (by decide) (fun c44 => by exfalso; omega) (fun c44 => ?_)
    refine w_aload_n X 1 rfl dL_law_47 ?_
    refine w_bipush X (nI 10) dL_law_48 (by decide +kernel) ?_
    refine w_meV X hA (U := (Nat → Nat → Nat → Int32)) (gr := [rtC g art (aliv 0) (asur 0) (ζ 3), rcC g aliv (ζ 0), rcC g asur (ζ 1), txC g atx τ, stC g (had 0) (hσ 0), stC g (had 1) (hσ 1), stC g (had 2) (hσ 2), stC g (had 3) (hσ 3), stC g (had 4) (hσ 4), stC g (had 5) (hσ 5)]) (gs1 := fun ζ1 => [maC g am (ast 0) (art 0) (alas 0) (atx 0) (ahi 0), stC g ast σ, rtC g art (aliv 0) (asur 0) (ζ 3), rcC g aliv (ζ 0), rcC g asur (ζ 1), rcC g alas (ζ1 2), txC g atx τ, hiC g ahi (fun i => had i 0) η, stC g (had 0) (hσ 0), stC g (had 1) (hσ 1), stC g (had 2) (hσ 2), stC g (had 3) (hσ 3), stC g (had 4) (hσ 4), stC g (had 5) (hσ 5)]) [0, 1, 5, 7] [2, 3, 4, 6, 8, 9, 10, 11, 12, 13] 0 0 (q_X5_count l g am ast art alas atx ahi had σ ζ η 10 (by omega)) cv_X5_count mk_L_57 rfl rfl rfl (ng := 14) rfl (by decide) (fun _ => rfl) (fun _ => rfl) (fun _ => rfl) rfl rfl rfl ⟨Nat.le_of_ble_eq_true rfl, Nat.le_of_ble_eq_true rfl⟩ (Nat.le_of_ble_eq_true rfl) ⟨by show _ ≤ 671797; omega, by show _ ≤ 7086077; omega⟩ dL_law_50 rfl (fun ζ1 => ?_)
    refine w_istore X dL_law_53 (by decide) ?_
    refine w_aload_n X 2 rfl dL_law_55 ?_
    refine w_iconst X (nI 0) dL_law_56 (by decide +kernel) ?_
    refine w_meV X hA (U := (Nat → Nat → Nat → Int32)) (gr := [rtC g art (aliv 0) (asur 0) (ζ 3), rcC g aliv (ζ 0), rcC g asur (ζ 1), txC g atx τ, stC g (had 0) (hσ 0), stC g (had 1) (hσ 1), stC g (had 2) (hσ 2), stC g (had 3) (hσ 3), stC g (had 4) (hσ 4), stC g (had 5) (hσ 5)]) (gs1 := fun ζ2 => [maC g am (ast 0) (art 0) (alas 0) (atx 0) (ahi 0), stC g ast σ, rtC g art (aliv 0) (asur 0) (ζ 3), rcC g aliv (ζ 0), rcC g asur (ζ 1), rcC g alas (ζ2 2), txC g atx τ, hiC g ahi (fun i => had i 0) η, stC g (had 0) (hσ 0), stC g (had 1) (hσ 1), stC g (had 2) (hσ 2), stC g (had 3) (hσ 3), stC g (had 4) (hσ 4), stC g (had 5) (hσ 5)]) [0, 1, 5, 7] [2, 3, 4, 6, 8, 9, 10, 11, 12, 13] 0 0 (q_X5_count l g am ast art alas atx ahi had σ ζ1 η 0 (by omega)) cv_X5_count mk_L_57 rfl rfl rfl (ng := 14) rfl (by decide) (fun _ => rfl) (fun _ => rfl) (fun _ => rfl) rfl rfl rfl ⟨Nat.le_of_ble_eq_true rfl, Nat.le_of_ble_eq_true rfl⟩ (Nat.le_of_ble_eq_true rfl) ⟨by show _ ≤ 671797; omega, by show _ ≤ 7086077; omega⟩ dL_law_57 rfl (fun ζ2 => ?_)
    refine w_istore X dL_law_60 (by decide) ?_
    refine w_aload_n X 3 rfl dL_law_62 ?_
    refine w_bipush X (nI 6) dL_law_63 (by decide +kernel) ?_
    refine w_meV X hA (U := (Nat → Nat → Nat → Int32)) (gr := [rtC g art (aliv 0) (asur 0) (ζ 3), rcC g aliv (ζ 0), rcC g asur (ζ 1), txC g atx τ, stC g (had 0) (hσ 0), stC g (had 1) (hσ 1), stC g (had 2) (hσ 2), stC g (had 3) (hσ 3), stC g (had 4) (hσ 4), stC g (had 5) (hσ 5)]) (gs1 := fun ζ3 => [maC g am (ast 0) (art 0) (alas 0) (atx 0) (ahi 0), stC g ast σ, rtC g art (aliv 0) (asur 0) (ζ 3), rcC g aliv (ζ 0), rcC g asur (ζ 1), rcC g alas (ζ3 2), txC g atx τ, hiC g ahi (fun i => had i 0) η, stC g (had 0) (hσ 0), stC g (had 1) (hσ 1), stC g (had 2) (hσ 2), stC g (had 3) (hσ 3), stC g (had 4) (hσ 4), stC g (had 5) (hσ 5)]) [0, 1, 5, 7] [2, 3, 4, 6, 8, 9, 10, 11, 12, 13] 0 0 (q_X5_count l g am ast art alas atx ahi had σ ζ2 η 6 (by omega)) cv_X5_count mk_L_57 rfl rfl rfl (ng := 14) rfl (by decide) (fun _ => rfl) (fun _ => rfl) (fun _ => rfl) rfl rfl rfl ⟨Nat.le_of_ble_eq_true rfl, Nat.le_of_ble_eq_true rfl⟩ (Nat.le_of_ble_eq_true rfl) ⟨by show _ ≤ 671797; omega, by show _ ≤ 7086077; omega⟩ dL_law_65 rfl (fun ζ3 => ?_)
    refine w_istore X dL_law_68 (by decide) ?_
    refine w_aload_n X 4 rfl dL_law_70 ?_
    refine w_bipush X (nI 7) dL_law_71 (by decide +kernel) ?_
    refine w_meV X hA (U := (Nat → Nat → Nat → Int32)) (gr := [rtC g art (aliv 0) (asur 0) (ζ 3), rcC g aliv (ζ 0), rcC g asur (ζ 1), txC g atx τ, stC g (had 0) (hσ 0), stC g (had 1) (hσ 1), stC g (had 2) (hσ 2), stC g (had 3) (hσ 3), stC g (had 4) (hσ 4), stC g (had 5) (hσ 5)]) (gs1 := fun ζ4 => [maC g am (ast 0) (art 0) (alas 0) (atx 0) (ahi 0), stC g ast σ, rtC g art (aliv 0) (asur 0) (ζ 3), rcC g aliv (ζ 0), rcC g asur (ζ 1), rcC g alas (ζ4 2), txC g atx τ, hiC g ahi (fun i => had i 0) η, stC g (had 0) (hσ 0), stC g (had 1) (hσ 1), stC g (had 2) (hσ 2), stC g (had 3) (hσ 3), stC g (had 4) (hσ 4), stC g (had 5) (hσ 5)]) [0, 1, 5, 7] [2, 3, 4, 6, 8, 9, 10, 11, 12, 13] 0 0 (q_X5_count l g am ast art alas atx ahi had σ ζ3 η 7 (by omega)) cv_X5_count mk_L_57 rfl rfl rfl (ng := 14) rfl (by decide) (fun _ => rfl) (fun _ => rfl) (fun _ => rfl) rfl rfl rfl ⟨Nat.le_of_ble_eq_true rfl, Nat.le_of_ble_eq_true rfl⟩ (Nat.le_of_ble_eq_true rfl) ⟨by show _ ≤ 671797; omega, by show _ ≤ 7086077; omega⟩ dL_law_73 rfl (fun ζ4 => ?_)
    refine w_istore X dL_law_76 (by decide) ?_
    refine w_aload_n X 5 rfl dL_law_78 ?_
    refine w_aload_n X 4 rfl dL_law_79 ?_
    refine w_iconst X (nI 3) dL_law_80 (by decide +kernel) ?_
    refine w_iload X 8 rfl dL_law_81 ?_
    refine w_imul_n X dL_law_83 ?_
    obtain ⟨v, σ', η', hσ', nx', sv', hR', hun, hM⟩ := ma_all l g hfl am ast art aliv asur alas atx ahi had σ (rw2 ζ 2 (ζ4 2)) η hσ nx sv (25 + 25 * k) (3 * k) b L xs hR (by omega) (by omega) (by omega)
    refine w_msS Z (U := (Nat → Nat → Nat → Int32)) (gr := [txC g atx τ]) (gs1 := fun ζ5 => [maC g am (ast 0) (art 0) (alas 0) (atx 0) (ahi 0), stC g ast σ', rtC g art (aliv 0) (asur 0) (ζ5 3), rcC g aliv (ζ5 0), rcC g asur (ζ5 1), rcC g alas (ζ5 2), txC g atx τ, hiC g ahi (fun i => had i 0) η', stC g (had 0) (hσ' 0), stC g (had 1) (hσ' 1), stC g (had 2) (hσ' 2), stC g (had 3) (hσ' 3), stC g (had 4) (hσ' 4), stC g (had 5) (hσ' 5)]) [0, 1, 2, 3, 4, 5, 7, 8, 9, 10, 11, 12, 13] [6] hM cs_L_act mk_L_100 rfl rfl rfl (ng := 14) rfl (by decide) (fun _ => rfl) (fun _ => rfl) (fun _ => rfl) ⟨Nat.le_of_ble_eq_true rfl, Nat.le_of_ble_eq_true rfl⟩ (Nat.le_of_ble_eq_true rfl) ⟨by show _ ≤ 671797; omega, by show _ ≤ 7086077; omega⟩ dL_law_84 rfl (fun ζ5 => ?_)
    refine w_istore X dL_law_87 (by decide) ?_
    refine w_iload X 0 rfl dL_law_89 ?_
    refine w_if_ge X 137 dL_law_91 (by decide) (fun c91 => ?_) (fun c91 => ?_)
    · refine w_aload_n X 6 rfl dL_law_137 ?_
      refine w_mpS V (U := (Nat → Nat → Nat → Int32)) (gr := [txC g atx τ, stC g (had 0) (hσ' 0), stC g (had 1) (hσ' 1), stC g (had 2) (hσ' 2), stC g (had 3) (hσ' 3), stC g (had 4) (hσ' 4), stC g (had 5) (hσ' 5)]) (gs1 := fun ζ6 => [maC g am (ast 0) (art 0) (alas 0) (atx 0) (ahi 0), stC g ast σ', rtC g art (aliv 0) (asur 0) (ζ6 3), rcC g aliv (ζ6 0), rcC g asur (ζ6 1), rcC g alas (ζ6 2), txC g atx τ, hiC g ahi (fun i => had i 0) η', stC g (had 0) (hσ' 0), stC g (had 1) (hσ' 1), stC g (had 2) (hσ' 2), stC g (had 3) (hσ' 3), stC g (had 4) (hσ' 4), stC g (had 5) (hσ' 5)]) [0, 1, 2, 3, 4, 5, 7] [6, 8, 9, 10, 11, 12, 13] (m_L_heap l g hfl am ast art aliv asur alas atx ahi had σ' ζ5 η' (25 + 25 * k + 25) (by omega) (hR'.1)) cs_L_heap mk_L_104 rfl rfl rfl (ng := 14) rfl (by decide) (fun _ => rfl) (fun _ => rfl) (fun _ => rfl) ⟨Nat.le_of_ble_eq_true rfl, Nat.le_of_ble_eq_true rfl⟩ (Nat.le_of_ble_eq_true rfl) ⟨by show _ ≤ 671797; omega, by show _ ≤ 7086077; omega⟩ dL_law_138 rfl (fun ζ6 => ?_)
      refine w_bf_eq X 162 dL_law_141 (by decide) (fun c141 => by exfalso; cases c141) (fun c141 => ?_)
      refine w_iload X 9 rfl dL_law_144 ?_
      refine w_iconst X (nI 3) dL_law_146 (by decide +kernel) ?_
      refine w_irem X (by decide) dL_law_147 ?_
      refine w_if_gt X 158 dL_law_148 (by decide) (fun c148 => ?_) (fun c148 => ?_)
      · refine w_iconst X (nI 1) dL_law_158 (by decide +kernel) ?_
        refine w_goto X 163 dL_law_159 (by decide) ?_
        refine w_istore_n X dL_law_163 (by decide) ?_
        refine w_iinc X (nI (k + 1)) 9 rfl (nI_1 _) dL_law_164 (by decide) ?_
        refine w_goto X 37 dL_law_167 (by decide) ?_
        refine w_widen (k := 1000 + 435 * (k + 1)) (n := 10000 + 2610 * (k + 1)) (by omega) (by omega) ?_
        exact w_all [7, 8, 1, 9, 0] rfl rfl rfl (ih (k + 1) σ' η' (ζ6) hσ' nx' sv' (by omega) (by rw [show 25 + 25 * (k + 1) = 25 + 25 * k + 25 by omega]; exact hR'))
      · refine w_aload_n X 6 rfl dL_law_151 ?_
        refine w_mpS V (U := (Nat → Nat → Nat → Int32)) (gr := [txC g atx τ, stC g (had 0) (hσ' 0), stC g (had 1) (hσ' 1), stC g (had 2) (hσ' 2), stC g (had 3) (hσ' 3), stC g (had 4) (hσ' 4), stC g (had 5) (hσ' 5)]) (gs1 := fun ζ7 => [maC g am (ast 0) (art 0) (alas 0) (atx 0) (ahi 0), stC g ast σ', rtC g art (aliv 0) (asur 0) (ζ7 3), rcC g aliv (ζ7 0), rcC g asur (ζ7 1), rcC g alas (ζ7 2), txC g atx τ, hiC g ahi (fun i => had i 0) η', stC g (had 0) (hσ' 0), stC g (had 1) (hσ' 1), stC g (had 2) (hσ' 2), stC g (had 3) (hσ' 3), stC g (had 4) (hσ' 4), stC g (had 5) (hσ' 5)]) [0, 1, 2, 3, 4, 5, 7] [6, 8, 9, 10, 11, 12, 13] (m_L_arenas l g hfl am ast art aliv asur alas atx ahi had σ' ζ6 η' (25 + 25 * k + 25) (by omega) (hR'.1)) cs_L_arenas mk_L_108 rfl rfl rfl (ng := 14) rfl (by decide) (fun _ => rfl) (fun _ => rfl) (fun _ => rfl) ⟨Nat.le_of_ble_eq_true rfl, Nat.le_of_ble_eq_true rfl⟩ (Nat.le_of_ble_eq_true rfl) ⟨by show _ ≤ 671797; omega, by show _ ≤ 7086077; omega⟩ dL_law_152 rfl (fun ζ7 => ?_)
        refine w_bf_eq X 162 dL_law_155 (by decide) (fun c155 => by exfalso; cases c155) (fun c155 => ?_)
        refine w_iconst X (nI 1) dL_law_158 (by decide +kernel) ?_
        refine w_goto X 163 dL_law_159 (by decide) ?_
        refine w_istore_n X dL_law_163 (by decide) ?_
        refine w_iinc X (nI (k + 1)) 9 rfl (nI_1 _) dL_law_164 (by decide) ?_
        refine w_goto X 37 dL_law_167 (by decide) ?_
        refine w_widen (k := 1000 + 435 * (k + 1)) (n := 10000 + 2610 * (k + 1)) (by omega) (by omega) ?_
        exact w_all [7, 8, 1, 9, 0] rfl rfl rfl (ih (k + 1) σ' η' (ζ7) hσ' nx' sv' (by omega) (by rw [show 25 + 25 * (k + 1) = 25 + 25 * k + 25 by omega]; exact hR'))
    · refine w_aload_n X 6 rfl dL_law_94 ?_
      refine w_bipush X (nI 10) dL_law_95 (by decide +kernel) ?_
      refine w_meV X hA (U := (Nat → Nat → Nat → Int32)) (gr := [rtC g art (aliv 0) (asur 0) (ζ5 3), rcC g aliv (ζ5 0), rcC g asur (ζ5 1), txC g atx τ, stC g (had 0) (hσ' 0), stC g (had 1) (hσ' 1), stC g (had 2) (hσ' 2), stC g (had 3) (hσ' 3), stC g (had 4) (hσ' 4), stC g (had 5) (hσ' 5)]) (gs1 := fun ζ8 => [maC g am (ast 0) (art 0) (alas 0) (atx 0) (ahi 0), stC g ast σ', rtC g art (aliv 0) (asur 0) (ζ5 3), rcC g aliv (ζ5 0), rcC g asur (ζ5 1), rcC g alas (ζ8 2), txC g atx τ, hiC g ahi (fun i => had i 0) η', stC g (had 0) (hσ' 0), stC g (had 1) (hσ' 1), stC g (had 2) (hσ' 2), stC g (had 3) (hσ' 3), stC g (had 4) (hσ' 4), stC g (had 5) (hσ' 5)]) [0, 1, 5, 7] [2, 3, 4, 6, 8, 9, 10, 11, 12, 13] 0 0 (q_X5_count l g am ast art alas atx ahi had σ' ζ5 η' 10 (by omega)) cv_X5_count mk_L_57 rfl rfl rfl (ng := 14) rfl (by decide) (fun _ => rfl) (fun _ => rfl) (fun _ => rfl) rfl rfl rfl ⟨Nat.le_of_ble_eq_true rfl, Nat.le_of_ble_eq_true rfl⟩ (Nat.le_of_ble_eq_true rfl) ⟨by show _ ≤ 671797; omega, by show _ ≤ 7086077; omega⟩ dL_law_97 rfl (fun ζ8 => ?_)
      refine w_iload X 4 rfl dL_law_100 ?_
      refine w_ic_ne X 162 dL_law_102 (by decide) (fun c102 => by exfalso; exact c102 (by rw [(hun (not_ge c91)).1, (hun (not_ge c91)).2])) (fun c102 => ?_)
      refine w_aload_n X 6 rfl dL_law_105 ?_
      refine w_iconst X (nI 0) dL_law_106 (by decide +kernel) ?_
      refine w_meV X hA (U := (Nat → Nat → Nat → Int32)) (gr := [rtC g art (aliv 0) (asur 0) (ζ5 3), rcC g aliv (ζ5 0), rcC g asur (ζ5 1), txC g atx τ, stC g (had 0) (hσ' 0), stC g (had 1) (hσ' 1), stC g (had 2) (hσ' 2), stC g (had 3) (hσ' 3), stC g (had 4) (hσ' 4), stC g (had 5) (hσ' 5)]) (gs1 := fun ζ9 => [maC g am (ast 0) (art 0) (alas 0) (atx 0) (ahi 0), stC g ast σ', rtC g art (aliv 0) (asur 0) (ζ5 3), rcC g aliv (ζ5 0), rcC g asur (ζ5 1), rcC g alas (ζ9 2), txC g atx τ, hiC g ahi (fun i => had i 0) η', stC g (had 0) (hσ' 0), stC g (had 1) (hσ' 1), stC g (had 2) (hσ' 2), stC g (had 3) (hσ' 3), stC g (had 4) (hσ' 4), stC g (had 5) (hσ' 5)]) [0, 1, 5, 7] [2, 3, 4, 6, 8, 9, 10, 11, 12, 13] 0 0 (q_X5_count l g am ast art alas atx ahi had σ' ζ8 η' 0 (by omega)) cv_X5_count mk_L_57 rfl rfl rfl (ng := 14) rfl (by decide) (fun _ => rfl) (fun _ => rfl) (fun _ => rfl) rfl rfl rfl ⟨Nat.le_of_ble_eq_true rfl, Nat.le_of_ble_eq_true rfl⟩ (Nat.le_of_ble_eq_true rfl) ⟨by show _ ≤ 671797; omega, by show _ ≤ 7086077; omega⟩ dL_law_107 rfl (fun ζ9 => ?_)
      refine w_iload X 3 rfl dL_law_110 ?_
      refine w_ic_ne X 162 dL_law_112 (by decide) (fun c112 => by exfalso; exact c112 (by rw [(hun (not_ge c91)).1, (hun (not_ge c91)).2])) (fun c112 => ?_)
      refine w_aload_n X 6 rfl dL_law_115 ?_
      refine w_bipush X (nI 6) dL_law_116 (by decide +kernel) ?_
      refine w_meV X hA (U := (Nat → Nat → Nat → Int32)) (gr := [rtC g art (aliv 0) (asur 0) (ζ5 3), rcC g aliv (ζ5 0), rcC g asur (ζ5 1), txC g atx τ, stC g (had 0) (hσ' 0), stC g (had 1) (hσ' 1), stC g (had 2) (hσ' 2), stC g (had 3) (hσ' 3), stC g (had 4) (hσ' 4), stC g (had 5) (hσ' 5)]) (gs1 := fun ζ10 => [maC g am (ast 0) (art 0) (alas 0) (atx 0) (ahi 0), stC g ast σ', rtC g art (aliv 0) (asur 0) (ζ5 3), rcC g aliv (ζ5 0), rcC g asur (ζ5 1), rcC g alas (ζ10 2), txC g atx τ, hiC g ahi (fun i => had i 0) η', stC g (had 0) (hσ' 0), stC g (had 1) (hσ' 1), stC g (had 2) (hσ' 2), stC g (had 3) (hσ' 3), stC g (had 4) (hσ' 4), stC g (had 5) (hσ' 5)]) [0, 1, 5, 7] [2, 3, 4, 6, 8, 9, 10, 11, 12, 13] 0 0 (q_X5_count l g am ast art alas atx ahi had σ' ζ9 η' 6 (by omega)) cv_X5_count mk_L_57 rfl rfl rfl (ng := 14) rfl (by decide) (fun _ => rfl) (fun _ => rfl) (fun _ => rfl) rfl rfl rfl ⟨Nat.le_of_ble_eq_true rfl, Nat.le_of_ble_eq_true rfl⟩ (Nat.le_of_ble_eq_true rfl) ⟨by show _ ≤ 671797; omega, by show _ ≤ 7086077; omega⟩ dL_law_118 rfl (fun ζ10 => ?_)
      refine w_iload X 2 rfl dL_law_121 ?_
      refine w_ic_ne X 162 dL_law_123 (by decide) (fun c123 => by exfalso; exact c123 (by rw [(hun (not_ge c91)).1, (hun (not_ge c91)).2])) (fun c123 => ?_)
      refine w_aload_n X 6 rfl dL_law_126 ?_
      refine w_bipush X (nI 7) dL_law_127 (by decide +kernel) ?_
      refine w_meV X hA (U := (Nat → Nat → Nat → Int32)) (gr := [rtC g art (aliv 0) (asur 0) (ζ5 3), rcC g aliv (ζ5 0), rcC g asur (ζ5 1), txC g atx τ, stC g (had 0) (hσ' 0), stC g (had 1) (hσ' 1), stC g (had 2) (hσ' 2), stC g (had 3) (hσ' 3), stC g (had 4) (hσ' 4), stC g (had 5) (hσ' 5)]) (gs1 := fun ζ11 => [maC g am (ast 0) (art 0) (alas 0) (atx 0) (ahi 0), stC g ast σ', rtC g art (aliv 0) (asur 0) (ζ5 3), rcC g aliv (ζ5 0), rcC g asur (ζ5 1), rcC g alas (ζ11 2), txC g atx τ, hiC g ahi (fun i => had i 0) η', stC g (had 0) (hσ' 0), stC g (had 1) (hσ' 1), stC g (had 2) (hσ' 2), stC g (had 3) (hσ' 3), stC g (had 4) (hσ' 4), stC g (had 5) (hσ' 5)]) [0, 1, 5, 7] [2, 3, 4, 6, 8, 9, 10, 11, 12, 13] 0 0 (q_X5_count l g am ast art alas atx ahi had σ' ζ10 η' 7 (by omega)) cv_X5_count mk_L_57 rfl rfl rfl (ng := 14) rfl (by decide) (fun _ => rfl) (fun _ => rfl) (fun _ => rfl) rfl rfl rfl ⟨Nat.le_of_ble_eq_true rfl, Nat.le_of_ble_eq_true rfl⟩ (Nat.le_of_ble_eq_true rfl) ⟨by show _ ≤ 671797; omega, by show _ ≤ 7086077; omega⟩ dL_law_129 rfl (fun ζ11 => ?_)
      refine w_iload X 1 rfl dL_law_132 ?_
      refine w_ic_ne X 162 dL_law_134 (by decide) (fun c134 => by exfalso; exact c134 (by rw [(hun (not_ge c91)).1, (hun (not_ge c91)).2])) (fun c134 => ?_)
      refine w_aload_n X 6 rfl dL_law_137 ?_
      refine w_mpS V (U := (Nat → Nat → Nat → Int32)) (gr := [txC g atx τ, stC g (had 0) (hσ' 0), stC g (had 1) (hσ' 1), stC g (had 2) (hσ' 2), stC g (had 3) (hσ' 3), stC g (had 4) (hσ' 4), stC g (had 5) (hσ' 5)]) (gs1 := fun ζ12 => [maC g am (ast 0) (art 0) (alas 0) (atx 0) (ahi 0), stC g ast σ', rtC g art (aliv 0) (asur 0) (ζ12 3), rcC g aliv (ζ12 0), rcC g asur (ζ12 1), rcC g alas (ζ12 2), txC g atx τ, hiC g ahi (fun i => had i 0) η', stC g (had 0) (hσ' 0), stC g (had 1) (hσ' 1), stC g (had 2) (hσ' 2), stC g (had 3) (hσ' 3), stC g (had 4) (hσ' 4), stC g (had 5) (hσ' 5)]) [0, 1, 2, 3, 4, 5, 7] [6, 8, 9, 10, 11, 12, 13] (m_L_heap l g hfl am ast art aliv asur alas atx ahi had σ' (rw2 ζ5 2 (ζ11 2)) η' (25 + 25 * k + 25) (by omega) (hR'.1)) cs_L_heap mk_L_104 rfl rfl rfl (ng := 14) rfl (by decide) (fun _ => rfl) (fun _ => rfl) (fun _ => rfl) ⟨Nat.le_of_ble_eq_true rfl, Nat.le_of_ble_eq_true rfl⟩ (Nat.le_of_ble_eq_true rfl) ⟨by show _ ≤ 671797; omega, by show _ ≤ 7086077; omega⟩ dL_law_138 rfl (fun ζ12 => ?_)
      refine w_bf_eq X 162 dL_law_141 (by decide) (fun c141 => by exfalso; cases c141) (fun c141 => ?_)
      refine w_iload X 9 rfl dL_law_144 ?_
      refine w_iconst X (nI 3) dL_law_146 (by decide +kernel) ?_
      refine w_irem X (by decide) dL_law_147 ?_
      refine w_if_gt X 158 dL_law_148 (by decide) (fun c148 => ?_) (fun c148 => ?_)
      · refine w_iconst X (nI 1) dL_law_158 (by decide +kernel) ?_
        refine w_goto X 163 dL_law_159 (by decide) ?_
        refine w_istore_n X dL_law_163 (by decide) ?_
        refine w_iinc X (nI (k + 1)) 9 rfl (nI_1 _) dL_law_164 (by decide) ?_
        refine w_goto X 37 dL_law_167 (by decide) ?_
        refine w_widen (k := 1000 + 435 * (k + 1)) (n := 10000 + 2610 * (k + 1)) (by omega) (by omega) ?_
        exact w_all [7, 8, 1, 9, 0] rfl rfl rfl (ih (k + 1) σ' η' (ζ12) hσ' nx' sv' (by omega) (by rw [show 25 + 25 * (k + 1) = 25 + 25 * k + 25 by omega]; exact hR'))
      · refine w_aload_n X 6 rfl dL_law_151 ?_
        refine w_mpS V (U := (Nat → Nat → Nat → Int32)) (gr := [txC g atx τ, stC g (had 0) (hσ' 0), stC g (had 1) (hσ' 1), stC g (had 2) (hσ' 2), stC g (had 3) (hσ' 3), stC g (had 4) (hσ' 4), stC g (had 5) (hσ' 5)]) (gs1 := fun ζ13 => [maC g am (ast 0) (art 0) (alas 0) (atx 0) (ahi 0), stC g ast σ', rtC g art (aliv 0) (asur 0) (ζ13 3), rcC g aliv (ζ13 0), rcC g asur (ζ13 1), rcC g alas (ζ13 2), txC g atx τ, hiC g ahi (fun i => had i 0) η', stC g (had 0) (hσ' 0), stC g (had 1) (hσ' 1), stC g (had 2) (hσ' 2), stC g (had 3) (hσ' 3), stC g (had 4) (hσ' 4), stC g (had 5) (hσ' 5)]) [0, 1, 2, 3, 4, 5, 7] [6, 8, 9, 10, 11, 12, 13] (m_L_arenas l g hfl am ast art aliv asur alas atx ahi had σ' ζ12 η' (25 + 25 * k + 25) (by omega) (hR'.1)) cs_L_arenas mk_L_108 rfl rfl rfl (ng := 14) rfl (by decide) (fun _ => rfl) (fun _ => rfl) (fun _ => rfl) ⟨Nat.le_of_ble_eq_true rfl, Nat.le_of_ble_eq_true rfl⟩ (Nat.le_of_ble_eq_true rfl) ⟨by show _ ≤ 671797; omega, by show _ ≤ 7086077; omega⟩ dL_law_152 rfl (fun ζ13 => ?_)
        refine w_bf_eq X 162 dL_law_155 (by decide) (fun c155 => by exfalso; cases c155) (fun c155 => ?_)
        refine w_iconst X (nI 1) dL_law_158 (by decide +kernel) ?_
        refine w_goto X 163 dL_law_159 (by decide) ?_
        refine w_istore_n X dL_law_163 (by decide) ?_
        refine w_iinc X (nI (k + 1)) 9 rfl (nI_1 _) dL_law_164 (by decide) ?_
        refine w_goto X 37 dL_law_167 (by decide) ?_
        refine w_widen (k := 1000 + 435 * (k + 1)) (n := 10000 + 2610 * (k + 1)) (by omega) (by omega) ?_
        exact w_all [7, 8, 1, 9, 0] rfl rfl rfl (ih (k + 1) σ' η' (ζ13) hσ' nx' sv' (by omega) (by rw [show 25 + 25 * (k + 1) = 25 + 25 * k + 25 by omega]; exact hR'))
set_option maxRecDepth 100000 in
set_option maxHeartbeats 4000000 in
theorem l_mid (Z : XL p l s m meth c g b L xs) (am : Nat → Nat) (ast : Nat → Nat) (art : Nat → Nat) (aliv : Nat → Nat) (asur : Nat → Nat) (alas : Nat → Nat) (atx : Nat → Nat) (ahi : Nat → Nat) (had : Nat → Nat → Nat) (τ : Nat → Nat → Int32) (σ η : Nat → Nat → Int32) (ζ hσ : Nat → Nat → Nat → Int32) (nx sv kc ks : Nat) (hR : R27 0 σ η hσ nx sv) (h0 : lfA σ = nI 0) (hkc : kc ≤ 900) (hks : ks ≤ 9000) (KX : ∀ (kc ks : Nat) (lv : List (Nat × Value)) (gs : List va_W), kc ≤ 100000 → ks ≤ 1000000 → LW p l e s m below meth c g b Q kc ks lv [.int (nI 1)] gs 186) : LW p l e s m below meth c g b Q kc ks [(0, .ref b), (1, .ref (am 0))] [] [maC g am (ast 0) (art 0) (alas 0) (atx 0) (ahi 0), stC g ast σ, rtC g art (aliv 0) (asur 0) (ζ 3), rcC g aliv (ζ 0), rcC g asur (ζ 1), rcC g alas (ζ 2), txC g atx τ, hiC g ahi (fun i => had i 0) η, stC g (had 0) (hσ 0), stC g (had 1) (hσ 1), stC g (had 2) (hσ 2), stC g (had 3) (hσ 3), stC g (had 4) (hσ 4), stC g (had 5) (hσ 5)] 8 := by
  have V := Z.1
  have X := V.1
  have hA := V.2.2.2.2
  have hfl := V.2.1
  have hL := Z.2.2.2
  have hR1 : R27 (25 + 25 * 0) (handS σ 0) (hiS η (nxN nx) (svN sv)) (rw2 hσ nx σ) (nxN nx) (svN sv) := hR.save ((jj_hand hR.1 (by omega) (by decide)).mono (by omega))
  refine w_aload_n X 1 rfl dL_law_8 ?_
  refine w_muV X hA (gr := [rtC g art (aliv 0) (asur 0) (ζ 3), rcC g aliv (ζ 0), rcC g asur (ζ 1), rcC g alas (ζ 2), txC g atx τ]) (gs1 := [maC g am (ast 0) (art 0) (alas 0) (atx 0) (ahi 0), stC g ast (handS σ 0), rtC g art (aliv 0) (asur 0) (ζ 3), rcC g aliv (ζ 0), rcC g asur (ζ 1), rcC g alas (ζ 2), txC g atx τ, hiC g ahi (fun i => had i 0) (hiS η (nxN nx) (svN sv)), stC g (had 0) (rw2 hσ nx σ 0), stC g (had 1) (rw2 hσ nx σ 1), stC g (had 2) (rw2 hσ nx σ 2), stC g (had 3) (rw2 hσ nx σ 3), stC g (had 4) (rw2 hσ nx σ 4), stC g (had 5) (rw2 hσ nx σ 5)]) [0, 1, 7, 8, 9, 10, 11, 12, 13] [2, 3, 4, 5, 6] 0 0 (q_X5_open l g am ast art alas atx ahi had σ η hσ nx sv 0 (hR.2.2.1) (hR.2.2.2.2.1) (hR.2.2.2.2.2) (hR.2.2.2.1) (ft0 hR.1.1) (ft5 hR.1.1) (ft6 hR.1.1) (ft8 hR.1.1) (by decide) (h0)) cv_X5_open mk_L_9 rfl rfl rfl (ng := 14) rfl (by decide) rfl rfl rfl rfl rfl rfl ⟨Nat.le_of_ble_eq_true rfl, Nat.le_of_ble_eq_true rfl⟩ (Nat.le_of_ble_eq_true rfl) ⟨by show _ ≤ 671797; omega, by show _ ≤ 7086077; omega⟩ dL_law_9 rfl ?_
  refine w_pop X dL_law_12 rfl ?_
  refine w_iconst X (nI 1) dL_law_13 (by decide +kernel) ?_
  refine w_istore_n X dL_law_14 (by decide) ?_
  refine w_aload_n X 1 rfl dL_law_15 ?_
  refine w_slen X Z.2.1 Z.2.2.1 (Nat.not_le.mpr Z.2.2.1) dL_law_16 ?_
  refine w_iconst X (nI 3) dL_law_17 (by decide +kernel) ?_
  refine w_idiv X (by decide) dL_law_18 ?_
  rw [div3 (by omega)]
  refine w_bipush X (nI 40) dL_law_19 (by decide +kernel) ?_
  refine w_nc_le X (by omega) (by omega) 29 dL_law_21 (by decide) (fun c21 => ?_) (fun c21 => ?_)
  · refine w_aload_n X 1 rfl dL_law_29 ?_
    refine w_slen X Z.2.1 Z.2.2.1 (Nat.not_le.mpr Z.2.2.1) dL_law_30 ?_
    refine w_iconst X (nI 3) dL_law_31 (by decide +kernel) ?_
    refine w_idiv X (by decide) dL_law_32 ?_
    rw [div3 (by omega)]
    refine w_istore_n X dL_law_33 (by decide) ?_
    refine w_iconst X (nI 0) dL_law_34 (by decide +kernel) ?_
    refine w_istore X dL_law_35 (by decide) ?_
    refine w_widen (k := 1000 + 435 * 0) (n := 10000 + 2610 * 0) (by omega) (by omega) ?_
    exact w_all [3, 4, 2, 1, 0] rfl rfl rfl (l_loop Z (L / 3) (by omega) am ast art aliv asur alas atx ahi had τ KX (L / 3) 0 (handS σ 0) (hiS η (nxN nx) (svN sv)) (ζ) (rw2 hσ nx σ) (nxN nx) (svN sv) (by omega) hR1)
  · refine w_bipush X (nI 40) dL_law_24 (by decide +kernel) ?_
    refine w_goto X 33 dL_law_26 (by decide) ?_
    refine w_istore_n X dL_law_33 (by decide) ?_
    refine w_iconst X (nI 0) dL_law_34 (by decide +kernel) ?_
    refine w_istore X dL_law_35 (by decide) ?_
    refine w_widen (k := 1000 + 435 * 0) (n := 10000 + 2610 * 0) (by omega) (by omega) ?_
    exact w_all [3, 4, 2, 1, 0] rfl rfl rfl (l_loop Z (40) (by omega) am ast art aliv asur alas atx ahi had τ KX (40) 0 (handS σ 0) (hiS η (nxN nx) (svN sv)) (ζ) (rw2 hσ nx σ) (nxN nx) (svN sv) (by omega) hR1)
/-- the law from its entry: the object is made; then its loop -/
theorem l_start (Z : XL p l s m meth c g b L xs) (hO : va_AO RX3 s) (KX : ∀ (kc ks : Nat) (lv : List (Nat × Value)) (gs : List va_W), kc ≤ 100000 → ks ≤ 1000000 → LW p l e s m below meth c g b Q kc ks lv [.int (nI 1)] gs 186) : LW p l e s m below meth c g b Q 0 0 [(0, .ref b)] [] [] 0 := by
  have X := Z.1
  refine w_new X.1 X.2.2.2.2 5 (fs := [.null, .null, .null, .null, .null]) rfl in_X5 tyX5 tyX5_ok ck_L_10 ni_X5 ii_X5 (fun j hj => by rcases (show j = 0 ∨ j = 1 ∨ j = 2 ∨ j = 3 ∨ j = 4 by omega) with rfl | rfl | rfl | rfl | rfl <;> rfl) ⟨Nat.le_of_ble_eq_true rfl, Nat.le_of_ble_eq_true rfl⟩ dL_law_0 (fun q0 => ?_)
  refine w_dup X.1 dL_law_3 rfl ?_
  refine w_miI X.1 X.2.2.2.2 hO (rest := [.ref q0]) (gr := []) (gs1 := fun (u : {u : Nat → Nat → Nat // u 0 0 = q0}) => [(xG g u.1).flatten]) [0] [] (m_X5_init l g q0) ci_X5_init mk_L_99 rfl rfl (ng := 1) rfl (by decide) (fun _ => rfl) (fun _ => rfl) (fun _ => rfl) ⟨Nat.le_of_ble_eq_true rfl, Nat.le_of_ble_eq_true rfl⟩ (Nat.le_of_ble_eq_true rfl) ⟨Nat.le_of_ble_eq_true rfl, Nat.le_of_ble_eq_true rfl⟩ dL_law_4 (fun u => ?_)
  obtain ⟨u, hu⟩ := u
  subst hu
  refine w_rg (xG g u) (by rw [List.flatten_cons, List.flatten_nil, List.append_nil]) ?_
  refine w_astore_n X.1 dL_law_7 (by decide) ?_
  exact w_all [1, 0] rfl rfl rfl (l_mid Z (u 0) (u 1) (u 2) (u 3) (u 4) (u 5) (u 6) (u 7) (fun i => u (i + 8)) z0 (s0 48) z0 (fun _ => z0) (fun _ => s0 48) 0 0 _ _ r27_0 lf_0 (Nat.le_of_ble_eq_true rfl) (Nat.le_of_ble_eq_true rfl) KX)
end LLP
