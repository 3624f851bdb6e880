/-! MarkArenas: the buffer, undo, looks -/
theorem ltN_lt {k : Nat} (h : k < 6) : ltN k < 6 := by unfold ltN; split <;> omega
def hsF (hσ : Nat → Nat → Nat → Int32) : Prop := ∀ i, i < 6 → fit01 (hσ i 0) 24 ∧ fit01 (hσ i 5) 24 ∧ fit01 (hσ i 6) 24 ∧ fit01 (hσ i 8) 6
-- X5_append: not in this claim
-- X5_makeAll: not in this claim
set_option maxRecDepth 100000 in
set_option maxHeartbeats 4000000 in
theorem m_X5_undo (l : Launch) (g : GG) (hfl : l.stackTraces = false) (am : Nat → Nat) (ast : Nat → Nat) (art : Nat → Nat) (alas : Nat → Nat) (atx : Nat → Nat) (ahi : Nat → Nat) (had : Nat → Nat → Nat) (σ : Nat → Nat → Int32) (η : Nat → Nat → Int32) (hσ : Nat → Nat → Nat → Int32) (nx : Nat) (sv : Nat) (o : OC) (σ' : Nat → Nat → Int32) (η' : Nat → Nat → Int32) (hσ' : Nat → Nat → Nat → Int32) (hnx : nx < 6) (hnx1 : η 1 0 = nI nx) (hsv1 : η 2 0 = nI sv) (hsv : sv ≤ 6) (hF : hsF hσ) (h1 : η 2 0 = 0 → (.inr iSE : OC) = o ∧ σ = σ' ∧ η = η' ∧ hσ = hσ') (h2 : ¬ η 2 0 = 0 → rI (nI (sv - 1)) = o ∧ hσ (ltN nx) = σ' ∧ hiS η (ltN nx) (sv - 1) = η' ∧ hσ = hσ') : MVX (U := (Nat → Nat → Nat → Int32)) l g yX5_undo cX5_undo 1 (some .int) 9 1 6 [.ref (am 0)] [maC g am (ast 0) (art 0) (alas 0) (atx 0) (ahi 0), stC g ast σ, hiC g ahi (fun i => had i 0) η, stC g (had 0) (hσ 0), stC g (had 1) (hσ 1), stC g (had 2) (hσ 2), stC g (had 3) (hσ 3), stC g (had 4) (hσ 4), stC g (had 5) (hσ 5)] (o) (fun ζ' => [maC g am (ast 0) (art 0) (alas 0) (atx 0) (ahi 0), stC g ast σ', hiC g ahi (fun i => had i 0) η', stC g (had 0) (hσ' 0), stC g (had 1) (hσ' 1), stC g (had 2) (hσ' 2), stC g (had 3) (hσ' 3), stC g (had 4) (hσ' 4), stC g (had 5) (hσ' 5)]) := by
  refine mk_vx hfl (by decide +kernel) (Nat.le_of_ble_eq_true rfl) (fun p e s m below meth c A hT V => ?_)
  have X := V.1
  have hA := V.2.2.2.2
  refine w_aload_n X 0 rfl dX5_undo_0 ?_
  refine w_get X 0 0 rfl rfl rfl in_X5 4 (by decide) fk_X5_40 rfl dX5_undo_1 ?_
  refine w_get X 2 0 rfl rfl rfl in_X0 2 (by decide) fk_X5_205 rfl dX5_undo_4 ?_
  refine w_if_ne X 20 dX5_undo_7 (by decide) (fun c7 => ?_) (fun c7 => ?_)
  · refine w_aload_n X 0 rfl dX5_undo_20 ?_
    refine w_get X 0 0 rfl rfl rfl in_X5 4 (by decide) fk_X5_40 rfl dX5_undo_21 ?_
    refine w_aload_n X 0 rfl dX5_undo_24 ?_
    refine w_get X 0 0 rfl rfl rfl in_X5 0 (by decide) fk_X5_10 rfl dX5_undo_25 ?_
    refine w_muV X hA (gr := [maC g am (ast 0) (art 0) (alas 0) (atx 0) (ahi 0)]) (gs1 := [maC g am (ast 0) (art 0) (alas 0) (atx 0) (ahi 0), stC g ast (hσ (ltN nx)), hiC g ahi (fun i => had i 0) (hiS η (ltN nx) (sv - 1)), stC g (had 0) (hσ 0), stC g (had 1) (hσ 1), stC g (had 2) (hσ 2), stC g (had 3) (hσ 3), stC g (had 4) (hσ 4), stC g (had 5) (hσ 5)]) [2, 3, 4, 5, 6, 7, 8, 1] [0] 2 0 (m_X0_restore l g ahi η had hσ ast σ nx sv (hnx) (hnx1) (hsv1) (hsv) (Nat.pos_of_ne_zero (fun h => c7 (by rw [hsv1, h]; rfl))) ((hF _ (ltN_lt hnx)).1) ((hF _ (ltN_lt hnx)).2.1) ((hF _ (ltN_lt hnx)).2.2.1) ((hF _ (ltN_lt hnx)).2.2.2)) cv_X0_restore mk_X5_210 rfl rfl rfl (ng := 9) rfl (by decide) rfl rfl rfl rfl rfl rfl ⟨Nat.le_of_ble_eq_true rfl, Nat.le_of_ble_eq_true rfl⟩ (Nat.le_of_ble_eq_true rfl) ⟨Nat.le_of_ble_eq_true rfl, Nat.le_of_ble_eq_true rfl⟩ dX5_undo_28 rfl ?_
    refine w_aload_n X 0 rfl dX5_undo_31 ?_
    refine w_get X 0 0 rfl rfl rfl in_X5 4 (by decide) fk_X5_40 rfl dX5_undo_32 ?_
    refine w_get X 2 0 rfl rfl rfl in_X0 2 (by decide) fk_X5_205 rfl dX5_undo_35 ?_
    obtain ⟨rfl, rfl, rfl, rfl⟩ := h2 c7
    exact w_iret_vx V ((fun _ _ _ => 0)) (by rfl) (by rfl) (Nat.le_of_ble_eq_true rfl) (Nat.le_of_ble_eq_true rfl) dX5_undo_38
  · obtain ⟨rfl, rfl, rfl, rfl⟩ := h1 c7
    exact w_thrS V hT (text := "there is no saved state") th_iSE (by decide +kernel) ((fun _ _ _ => 0)) (rfl) (by rfl) ⟨(Nat.le_of_ble_eq_true rfl), (Nat.le_of_ble_eq_true rfl)⟩ (Nat.le_of_ble_eq_true rfl) ⟨(Nat.le_of_ble_eq_true rfl), (Nat.le_of_ble_eq_true rfl)⟩ ⟨(Nat.le_of_ble_eq_true rfl), (Nat.le_of_ble_eq_true rfl)⟩ dX5_undo_10 dX5_undo_13 dX5_undo_14 dX5_undo_16 dX5_undo_19
set_option maxRecDepth 100000 in
set_option maxHeartbeats 4000000 in
theorem m_X5_object (l : Launch) (g : GG) (hfl : l.stackTraces = false) (am : Nat → Nat) (ast : Nat → Nat) (art : Nat → Nat) (aliv : Nat → Nat) (asur : Nat → Nat) (alas : Nat → Nat) (atx : Nat → Nat) (ahi : Nat → Nat) (σ : Nat → Nat → Int32) (ζ : Nat → Nat → Nat → Int32) (x : Int32) (w : Int32) (o : OC) (h1 : hasB σ x = false → (.inr iOE : OC) = o) (h2 : hasB σ x = true → (w < 0 ∨ ¬ w < nI 12) → (.inr iAE : OC) = o) (h3 : ∀ j q, j < 24 → x = nI j → q < 12 → w = nI q → hasB σ x = true → rI (opC σ j q) = o) : MVX (U := (Nat → Nat → Nat → Int32)) l g yX5_object cX5_object 3 (some .int) 9 2 12 [.ref (am 0), .int (x), .int (w)] [maC g am (ast 0) (art 0) (alas 0) (atx 0) (ahi 0), stC g ast σ, rtC g art (aliv 0) (asur 0) (ζ 3), rcC g aliv (ζ 0), rcC g asur (ζ 1), rcC g alas (ζ 2)] (o) (fun ζ' => [maC g am (ast 0) (art 0) (alas 0) (atx 0) (ahi 0), stC g ast σ, rtC g art (aliv 0) (asur 0) (ζ' 3), rcC g aliv (ζ' 0), rcC g asur (ζ' 1), rcC g alas (ζ' 2)]) := by
  refine mk_vx hfl (by decide +kernel) (Nat.le_of_ble_eq_true rfl) (fun p e s m below meth c A hT V => ?_)
  have X := V.1
  have hA := V.2.2.2.2
  refine w_aload_n X 0 rfl dX5_object_0 ?_
  refine w_iload_n X 1 rfl dX5_object_1 ?_
  refine w_chkV V hT [rtC g art (aliv 0) (asur 0) (ζ 3), rcC g aliv (ζ 0), rcC g asur (ζ 1), rcC g alas (ζ 2)] [0, 1] [2, 3, 4, 5] 0 0 (m_X5_refuseNoObject l g hfl am ast art alas atx ahi σ (x)) cv_X5_refuseNoObject mk_X5_88 rfl rfl rfl (ng := 6) rfl (by decide) rfl rfl rfl ⟨Nat.le_of_ble_eq_true rfl, Nat.le_of_ble_eq_true rfl⟩ (Nat.le_of_ble_eq_true rfl) ⟨(Nat.le_of_ble_eq_true rfl), (Nat.le_of_ble_eq_true rfl)⟩ ⟨(Nat.le_of_ble_eq_true rfl), (Nat.le_of_ble_eq_true rfl)⟩ dX5_object_2 (ζ) (fun E hE => by obtain ⟨hb, rfl⟩ := chkO_r hE; obtain rfl := h1 hb; exact ⟨rfl, by rfl⟩) (fun rv h => (chkO_l h).2) (fun hk2 => ?_)
  have c2 := (chkO_l hk2).1
  obtain ⟨j, hj, rfl⟩ := vp_in_of (hasB_in c2) (by decide)
  refine w_iload_n X 2 rfl dX5_object_5 ?_
  refine w_if_lt X 15 dX5_object_6 (by decide) (fun c6 => ?_) (fun c6 => ?_)
  · obtain rfl := h2 c2 (Or.inl c6)
    exact w_thrS V hT (text := "no such property") th_iAE (by decide +kernel) (ζ) (rfl) (by rfl) ⟨(Nat.le_of_ble_eq_true rfl), (Nat.le_of_ble_eq_true rfl)⟩ (Nat.le_of_ble_eq_true rfl) ⟨(Nat.le_of_ble_eq_true rfl), (Nat.le_of_ble_eq_true rfl)⟩ ⟨(Nat.le_of_ble_eq_true rfl), (Nat.le_of_ble_eq_true rfl)⟩ dX5_object_15 dX5_object_18 dX5_object_19 dX5_object_21 dX5_object_24
  · refine w_iload_n X 2 rfl dX5_object_9 ?_
    refine w_bipush X (nI 12) dX5_object_10 (by decide +kernel) ?_
    refine w_ic_lt X 25 dX5_object_12 (by decide) (fun c12 => ?_) (fun c12 => ?_)
    · obtain ⟨q, hq, rfl⟩ := ix_lt (by decide) c6 c12
      refine w_aload_n X 0 rfl dX5_object_25 ?_
      refine w_iload_n X 1 rfl dX5_object_26 ?_
      refine w_iload_n X 2 rfl dX5_object_27 ?_
      refine w_meV X hA (U := (Nat → Nat → Nat → Int32)) (gr := []) (gs1 := fun ζ1 => [maC g am (ast 0) (art 0) (alas 0) (atx 0) (ahi 0), stC g ast σ, rtC g art (aliv 0) (asur 0) (ζ1 3), rcC g aliv (ζ1 0), rcC g asur (ζ1 1), rcC g alas (ζ1 2)]) [0, 1, 2, 3, 4, 5] [] 0 0 (m_X5_objectProperty l g am ast art aliv asur alas atx ahi σ ζ j q (by omega) (by omega)) cv_X5_objectProperty mk_X5_215 rfl rfl rfl (ng := 6) rfl (by decide) (fun _ => rfl) (fun _ => rfl) (fun _ => rfl) rfl rfl rfl ⟨Nat.le_of_ble_eq_true rfl, Nat.le_of_ble_eq_true rfl⟩ (Nat.le_of_ble_eq_true rfl) ⟨Nat.le_of_ble_eq_true rfl, Nat.le_of_ble_eq_true rfl⟩ dX5_object_28 rfl (fun ζ1 => ?_)
      obtain rfl := h3 j q hj rfl hq rfl c2
      exact w_iret_vx V (ζ1) (by rfl) (by rfl) (Nat.le_of_ble_eq_true rfl) (Nat.le_of_ble_eq_true rfl) dX5_object_31
    · obtain rfl := h2 c2 (Or.inr c12)
      exact w_thrS V hT (text := "no such property") th_iAE (by decide +kernel) (ζ) (rfl) (by rfl) ⟨(Nat.le_of_ble_eq_true rfl), (Nat.le_of_ble_eq_true rfl)⟩ (Nat.le_of_ble_eq_true rfl) ⟨(Nat.le_of_ble_eq_true rfl), (Nat.le_of_ble_eq_true rfl)⟩ ⟨(Nat.le_of_ble_eq_true rfl), (Nat.le_of_ble_eq_true rfl)⟩ dX5_object_15 dX5_object_18 dX5_object_19 dX5_object_21 dX5_object_24
set_option maxRecDepth 100000 in
set_option maxHeartbeats 4000000 in
theorem m_X5_arena (l : Launch) (g : GG) (hfl : l.stackTraces = false) (am : Nat → Nat) (ast : Nat → Nat) (art : Nat → Nat) (aliv : Nat → Nat) (asur : Nat → Nat) (alas : Nat → Nat) (atx : Nat → Nat) (ahi : Nat → Nat) (σ : Nat → Nat → Int32) (ζ : Nat → Nat → Nat → Int32) (x : Int32) (w : Int32) (o : OC) (h1 : isArB x = false → (.inr iOE : OC) = o) (h2 : isArB x = true → (w < 0 ∨ ¬ w < nI 8) → (.inr iAE : OC) = o) (h3 : ∀ k q, k < 6 → x = nI k → q < 8 → w = nI q → rI (apC σ k q) = o) : MVX (U := (Nat → Nat → Nat → Int32)) l g yX5_arena cX5_arena 3 (some .int) 9 2 12 [.ref (am 0), .int (x), .int (w)] [maC g am (ast 0) (art 0) (alas 0) (atx 0) (ahi 0), stC g ast σ, rtC g art (aliv 0) (asur 0) (ζ 3), rcC g aliv (ζ 0), rcC g asur (ζ 1), rcC g alas (ζ 2)] (o) (fun ζ' => [maC g am (ast 0) (art 0) (alas 0) (atx 0) (ahi 0), stC g ast σ, rtC g art (aliv 0) (asur 0) (ζ' 3), rcC g aliv (ζ' 0), rcC g asur (ζ' 1), rcC g alas (ζ' 2)]) := by
  refine mk_vx hfl (by decide +kernel) (Nat.le_of_ble_eq_true rfl) (fun p e s m below meth c A hT V => ?_)
  have X := V.1
  have hA := V.2.2.2.2
  refine w_iload_n X 1 rfl dX5_arena_0 ?_
  refine w_chkS V hT (m_X5_refuseNoArena l g hfl (x)) cs_X5_refuseNoArena mk_X5_63 rfl ⟨Nat.le_of_ble_eq_true rfl, Nat.le_of_ble_eq_true rfl⟩ (Nat.le_of_ble_eq_true rfl) ⟨(Nat.le_of_ble_eq_true rfl), (Nat.le_of_ble_eq_true rfl)⟩ ⟨(Nat.le_of_ble_eq_true rfl), (Nat.le_of_ble_eq_true rfl)⟩ dX5_arena_1 (ζ) (fun E hE => by obtain ⟨hb, rfl⟩ := chkO_r hE; obtain rfl := h1 hb; exact ⟨rfl, by rfl⟩) (fun rv h => (chkO_l h).2) (fun hk1 => ?_)
  have c1 := (chkO_l hk1).1
  obtain ⟨k, hk, rfl⟩ := isArB_ex c1
  refine w_iload_n X 2 rfl dX5_arena_4 ?_
  refine w_if_lt X 14 dX5_arena_5 (by decide) (fun c5 => ?_) (fun c5 => ?_)
  · obtain rfl := h2 c1 (Or.inl c5)
    exact w_thrS V hT (text := "no such property") th_iAE (by decide +kernel) (ζ) (rfl) (by rfl) ⟨(Nat.le_of_ble_eq_true rfl), (Nat.le_of_ble_eq_true rfl)⟩ (Nat.le_of_ble_eq_true rfl) ⟨(Nat.le_of_ble_eq_true rfl), (Nat.le_of_ble_eq_true rfl)⟩ ⟨(Nat.le_of_ble_eq_true rfl), (Nat.le_of_ble_eq_true rfl)⟩ dX5_arena_14 dX5_arena_17 dX5_arena_18 dX5_arena_20 dX5_arena_23
  · refine w_iload_n X 2 rfl dX5_arena_8 ?_
    refine w_bipush X (nI 8) dX5_arena_9 (by decide +kernel) ?_
    refine w_ic_lt X 24 dX5_arena_11 (by decide) (fun c11 => ?_) (fun c11 => ?_)
    · obtain ⟨q, hq, rfl⟩ := ix_lt (by decide) c5 c11
      refine w_aload_n X 0 rfl dX5_arena_24 ?_
      refine w_iload_n X 1 rfl dX5_arena_25 ?_
      refine w_iload_n X 2 rfl dX5_arena_26 ?_
      refine w_meV X hA (U := (Nat → Nat → Nat → Int32)) (gr := []) (gs1 := fun ζ1 => [maC g am (ast 0) (art 0) (alas 0) (atx 0) (ahi 0), stC g ast σ, rtC g art (aliv 0) (asur 0) (ζ1 3), rcC g aliv (ζ1 0), rcC g asur (ζ1 1), rcC g alas (ζ1 2)]) [0, 1, 2, 3, 4, 5] [] 0 0 (m_X5_arenaProperty l g am ast art aliv asur alas atx ahi σ ζ k q (by omega) (by omega)) cv_X5_arenaProperty mk_X5_239 rfl rfl rfl (ng := 6) rfl (by decide) (fun _ => rfl) (fun _ => rfl) (fun _ => rfl) rfl rfl rfl ⟨Nat.le_of_ble_eq_true rfl, Nat.le_of_ble_eq_true rfl⟩ (Nat.le_of_ble_eq_true rfl) ⟨Nat.le_of_ble_eq_true rfl, Nat.le_of_ble_eq_true rfl⟩ dX5_arena_27 rfl (fun ζ1 => ?_)
      obtain rfl := h3 k q hk rfl hq rfl
      exact w_iret_vx V (ζ1) (by rfl) (by rfl) (Nat.le_of_ble_eq_true rfl) (Nat.le_of_ble_eq_true rfl) dX5_arena_30
    · obtain rfl := h2 c1 (Or.inr c11)
      exact w_thrS V hT (text := "no such property") th_iAE (by decide +kernel) (ζ) (rfl) (by rfl) ⟨(Nat.le_of_ble_eq_true rfl), (Nat.le_of_ble_eq_true rfl)⟩ (Nat.le_of_ble_eq_true rfl) ⟨(Nat.le_of_ble_eq_true rfl), (Nat.le_of_ble_eq_true rfl)⟩ ⟨(Nat.le_of_ble_eq_true rfl), (Nat.le_of_ble_eq_true rfl)⟩ dX5_arena_14 dX5_arena_17 dX5_arena_18 dX5_arena_20 dX5_arena_23
set_option maxRecDepth 100000 in
set_option maxHeartbeats 4000000 in
theorem m_X5_at (l : Launch) (g : GG) (hfl : l.stackTraces = false) (am : Nat → Nat) (ast : Nat → Nat) (art : Nat → Nat) (alas : Nat → Nat) (atx : Nat → Nat) (ahi : Nat → Nat) (σ : Nat → Nat → Int32) (x : Int32) (q : Int32) (o : OC) (h1 : isArB x = false → (.inr iOE : OC) = o) (h2 : isArB x = true → (q < 0 ∨ ¬ q < nI 64) → (.inr iOE : OC) = o) (h3 : isArB x = true → ¬ q < 0 → q < nI 64 → rI (lowI (fun o => atP σ x q o) 24) = o) : MVX (U := (Nat → Nat → Nat → Int32)) l g yX5_at cX5_at 3 (some .int) 9 2 12 [.ref (am 0), .int (x), .int (q)] [maC g am (ast 0) (art 0) (alas 0) (atx 0) (ahi 0), stC g ast σ] (o) (fun ζ' => [maC g am (ast 0) (art 0) (alas 0) (atx 0) (ahi 0), stC g ast σ]) := by
  refine mk_vx hfl (by decide +kernel) (Nat.le_of_ble_eq_true rfl) (fun p e s m below meth c A hT V => ?_)
  have X := V.1
  have hA := V.2.2.2.2
  refine w_iload_n X 1 rfl dX5_at_0 ?_
  refine w_chkS V hT (m_X5_refuseNoArena l g hfl (x)) cs_X5_refuseNoArena mk_X5_63 rfl ⟨Nat.le_of_ble_eq_true rfl, Nat.le_of_ble_eq_true rfl⟩ (Nat.le_of_ble_eq_true rfl) ⟨(Nat.le_of_ble_eq_true rfl), (Nat.le_of_ble_eq_true rfl)⟩ ⟨(Nat.le_of_ble_eq_true rfl), (Nat.le_of_ble_eq_true rfl)⟩ dX5_at_1 ((fun _ _ _ => 0)) (fun E hE => by obtain ⟨hb, rfl⟩ := chkO_r hE; obtain rfl := h1 hb; exact ⟨rfl, by rfl⟩) (fun rv h => (chkO_l h).2) (fun hk1 => ?_)
  have c1 := (chkO_l hk1).1
  refine w_iload_n X 2 rfl dX5_at_4 ?_
  refine w_if_lt X 14 dX5_at_5 (by decide) (fun c5 => ?_) (fun c5 => ?_)
  · obtain rfl := h2 c1 (Or.inl c5)
    exact w_thrW V hT (text := "no such cell") th_iOE (by decide +kernel) ((fun _ _ _ => 0)) (rfl) (by rfl) ⟨(Nat.le_of_ble_eq_true rfl), (Nat.le_of_ble_eq_true rfl)⟩ (Nat.le_of_ble_eq_true rfl) ⟨(Nat.le_of_ble_eq_true rfl), (Nat.le_of_ble_eq_true rfl)⟩ ⟨(Nat.le_of_ble_eq_true rfl), (Nat.le_of_ble_eq_true rfl)⟩ dX5_at_14 dX5_at_17 dX5_at_18 dX5_at_21 dX5_at_24
  · refine w_iload_n X 2 rfl dX5_at_8 ?_
    refine w_bipush X (nI 64) dX5_at_9 (by decide +kernel) ?_
    refine w_ic_lt X 25 dX5_at_11 (by decide) (fun c11 => ?_) (fun c11 => ?_)
    · refine w_aload_n X 0 rfl dX5_at_25 ?_
      refine w_get X 0 0 rfl rfl rfl in_X5 0 (by decide) fk_X5_10 rfl dX5_at_26 ?_
      refine w_iload_n X 1 rfl dX5_at_29 ?_
      refine w_iload_n X 2 rfl dX5_at_30 ?_
      refine w_roV X [1] 1 0 (m_X3_objectAt l g ast σ (x) (q)) cv_X3_objectAt mk_X5_265 rfl rfl rfl rfl rfl ⟨Nat.le_of_ble_eq_true rfl, Nat.le_of_ble_eq_true rfl⟩ (Nat.le_of_ble_eq_true rfl) ⟨Nat.le_of_ble_eq_true rfl, Nat.le_of_ble_eq_true rfl⟩ dX5_at_31 rfl ?_
      obtain rfl := h3 c1 c5 c11
      exact w_iret_vx V ((fun _ _ _ => 0)) (by rfl) (by rfl) (Nat.le_of_ble_eq_true rfl) (Nat.le_of_ble_eq_true rfl) dX5_at_34
    · obtain rfl := h2 c1 (Or.inr c11)
      exact w_thrW V hT (text := "no such cell") th_iOE (by decide +kernel) ((fun _ _ _ => 0)) (rfl) (by rfl) ⟨(Nat.le_of_ble_eq_true rfl), (Nat.le_of_ble_eq_true rfl)⟩ (Nat.le_of_ble_eq_true rfl) ⟨(Nat.le_of_ble_eq_true rfl), (Nat.le_of_ble_eq_true rfl)⟩ ⟨(Nat.le_of_ble_eq_true rfl), (Nat.le_of_ble_eq_true rfl)⟩ dX5_at_14 dX5_at_17 dX5_at_18 dX5_at_21 dX5_at_24
set_option maxRecDepth 100000 in
set_option maxHeartbeats 4000000 in
theorem m_X5_count (l : Launch) (g : GG) (hfl : l.stackTraces = false) (am : Nat → Nat) (ast : Nat → Nat) (art : Nat → Nat) (alas : Nat → Nat) (atx : Nat → Nat) (ahi : Nat → Nat) (had : Nat → Nat → Nat) (σ : Nat → Nat → Int32) (ζ : Nat → Nat → Nat → Int32) (η : Nat → Nat → Int32) (w : Int32) (o : OC) (h1 : (w < 0 ∨ ¬ w < nI 11) → (.inr iAE : OC) = o) (h2 : ∀ q, q < 11 → w = nI q → rI (ctC σ η q) = o) : MVX (U := (Nat → Nat → Nat → Int32)) l g yX5_count cX5_count 2 (some .int) 9 1 6 [.ref (am 0), .int (w)] [maC g am (ast 0) (art 0) (alas 0) (atx 0) (ahi 0), stC g ast σ, rcC g alas (ζ 2), hiC g ahi (fun i => had i 0) η] (o) (fun ζ' => [maC g am (ast 0) (art 0) (alas 0) (atx 0) (ahi 0), stC g ast σ, rcC g alas (ζ' 2), hiC g ahi (fun i => had i 0) η]) := by
  refine mk_vx hfl (by decide +kernel) (Nat.le_of_ble_eq_true rfl) (fun p e s m below meth c A hT V => ?_)
  have X := V.1
  have hA := V.2.2.2.2
  refine w_iload_n X 1 rfl dX5_count_0 ?_
  refine w_if_lt X 10 dX5_count_1 (by decide) (fun c1 => ?_) (fun c1 => ?_)
  · obtain rfl := h1 (Or.inl c1)
    exact w_thrW V hT (text := "no such count") th_iAE (by decide +kernel) (ζ) (rfl) (by rfl) ⟨(Nat.le_of_ble_eq_true rfl), (Nat.le_of_ble_eq_true rfl)⟩ (Nat.le_of_ble_eq_true rfl) ⟨(Nat.le_of_ble_eq_true rfl), (Nat.le_of_ble_eq_true rfl)⟩ ⟨(Nat.le_of_ble_eq_true rfl), (Nat.le_of_ble_eq_true rfl)⟩ dX5_count_10 dX5_count_13 dX5_count_14 dX5_count_17 dX5_count_20
  · refine w_iload_n X 1 rfl dX5_count_4 ?_
    refine w_bipush X (nI 11) dX5_count_5 (by decide +kernel) ?_
    refine w_ic_lt X 21 dX5_count_7 (by decide) (fun c7 => ?_) (fun c7 => ?_)
    · obtain ⟨q, hq, rfl⟩ := ix_lt (by decide) c1 c7
      refine w_aload_n X 0 rfl dX5_count_21 ?_
      refine w_iload_n X 1 rfl dX5_count_22 ?_
      refine w_meV X hA (U := (Nat → Nat → Nat → Int32)) (gr := []) (gs1 := fun ζ1 => [maC g am (ast 0) (art 0) (alas 0) (atx 0) (ahi 0), stC g ast σ, rcC g alas (ζ1 2), hiC g ahi (fun i => had i 0) η]) [0, 1, 2, 3] [] 0 0 (m_X5_number l g am ast art alas atx ahi had σ ζ η q (by omega)) cv_X5_number mk_X5_270 rfl rfl rfl (ng := 4) rfl (by decide) (fun _ => rfl) (fun _ => rfl) (fun _ => rfl) rfl rfl rfl ⟨Nat.le_of_ble_eq_true rfl, Nat.le_of_ble_eq_true rfl⟩ (Nat.le_of_ble_eq_true rfl) ⟨Nat.le_of_ble_eq_true rfl, Nat.le_of_ble_eq_true rfl⟩ dX5_count_23 rfl (fun ζ1 => ?_)
      obtain rfl := h2 q hq rfl
      exact w_iret_vx V (ζ1) (by rfl) (by rfl) (Nat.le_of_ble_eq_true rfl) (Nat.le_of_ble_eq_true rfl) dX5_count_26
    · obtain rfl := h1 (Or.inr c7)
      exact w_thrW V hT (text := "no such count") th_iAE (by decide +kernel) (ζ) (rfl) (by rfl) ⟨(Nat.le_of_ble_eq_true rfl), (Nat.le_of_ble_eq_true rfl)⟩ (Nat.le_of_ble_eq_true rfl) ⟨(Nat.le_of_ble_eq_true rfl), (Nat.le_of_ble_eq_true rfl)⟩ ⟨(Nat.le_of_ble_eq_true rfl), (Nat.le_of_ble_eq_true rfl)⟩ dX5_count_10 dX5_count_13 dX5_count_14 dX5_count_17 dX5_count_20
set_option maxRecDepth 100000 in
set_option maxHeartbeats 4000000 in
theorem m_X5_setting (l : Launch) (g : GG) (hfl : l.stackTraces = false) (am : Nat → Nat) (ast : Nat → Nat) (art : Nat → Nat) (alas : Nat → Nat) (atx : Nat → Nat) (ahi : Nat → Nat) (σ : Nat → Nat → Int32) (x : Int32) (o : OC) (h1 : isSeB x = false → (.inr iOE : OC) = o) (h2 : ∀ i, i < 2 → x = nI i → rI (σ 11 i) = o) : MVX (U := (Nat → Nat → Nat → Int32)) l g yX5_setting cX5_setting 2 (some .int) 9 1 6 [.ref (am 0), .int (x)] [maC g am (ast 0) (art 0) (alas 0) (atx 0) (ahi 0), stC g ast σ] (o) (fun ζ' => [maC g am (ast 0) (art 0) (alas 0) (atx 0) (ahi 0), stC g ast σ]) := by
  refine mk_vx hfl (by decide +kernel) (Nat.le_of_ble_eq_true rfl) (fun p e s m below meth c A hT V => ?_)
  have X := V.1
  have hA := V.2.2.2.2
  refine w_iload_n X 1 rfl dX5_setting_0 ?_
  refine w_chkS V hT (m_X5_refuseNoSetting l g hfl (x)) cs_X5_refuseNoSetting mk_X5_149 rfl ⟨Nat.le_of_ble_eq_true rfl, Nat.le_of_ble_eq_true rfl⟩ (Nat.le_of_ble_eq_true rfl) ⟨(Nat.le_of_ble_eq_true rfl), (Nat.le_of_ble_eq_true rfl)⟩ ⟨(Nat.le_of_ble_eq_true rfl), (Nat.le_of_ble_eq_true rfl)⟩ dX5_setting_1 ((fun _ _ _ => 0)) (fun E hE => by obtain ⟨hb, rfl⟩ := chkO_r hE; obtain rfl := h1 hb; exact ⟨rfl, by rfl⟩) (fun rv h => (chkO_l h).2) (fun hk1 => ?_)
  have c1 := (chkO_l hk1).1
  obtain ⟨i, hi, rfl⟩ := isSeB_ex c1
  refine w_aload_n X 0 rfl dX5_setting_4 ?_
  refine w_get X 0 0 rfl rfl rfl in_X5 0 (by decide) fk_X5_10 rfl dX5_setting_5 ?_
  refine w_get X 1 0 rfl rfl rfl in_X3 11 (by decide) fk_X5_154 rfl dX5_setting_8 ?_
  refine w_iload_n X 1 rfl dX5_setting_11 ?_
  refine w_iald_n X 1 12 0 rfl rfl rfl (by omega) (by decide) dX5_setting_12 ?_
  obtain rfl := h2 i hi rfl
  exact w_iret_vx V ((fun _ _ _ => 0)) (by rfl) (by rfl) (Nat.le_of_ble_eq_true rfl) (Nat.le_of_ble_eq_true rfl) dX5_setting_13
-- X5_whyNot: not in this claim
-- X5_ifGiven: not in this claim
set_option maxRecDepth 100000 in
set_option maxHeartbeats 4000000 in
theorem m_X5_ifLost (l : Launch) (g : GG) (hfl : l.stackTraces = false) (am : Nat → Nat) (ast : Nat → Nat) (art : Nat → Nat) (alas : Nat → Nat) (atx : Nat → Nat) (ahi : Nat → Nat) (σ : Nat → Nat → Int32) (ζ : Nat → Nat → Nat → Int32) (x : Int32) (o : OC) (h1 : hasB σ x = false → (.inr iOE : OC) = o) (h2 : hasB σ x = true → rI (lostC σ x) = o) : MVX (U := (Nat → Nat → Nat → Int32)) l g yX5_ifLost cX5_ifLost 2 (some .int) 9 1 6 [.ref (am 0), .int (x)] [maC g am (ast 0) (art 0) (alas 0) (atx 0) (ahi 0), stC g ast σ, rcC g alas (ζ 2)] (o) (fun ζ' => [maC g am (ast 0) (art 0) (alas 0) (atx 0) (ahi 0), stC g ast σ, rcC g alas (ζ' 2)]) := by
  refine mk_vx hfl (by decide +kernel) (Nat.le_of_ble_eq_true rfl) (fun p e s m below meth c A hT V => ?_)
  have X := V.1
  have hA := V.2.2.2.2
  refine w_aload_n X 0 rfl dX5_ifLost_0 ?_
  refine w_iload_n X 1 rfl dX5_ifLost_1 ?_
  refine w_chkV V hT [rcC g alas (ζ 2)] [0, 1] [2] 0 0 (m_X5_refuseNoObject l g hfl am ast art alas atx ahi σ (x)) cv_X5_refuseNoObject mk_X5_88 rfl rfl rfl (ng := 3) rfl (by decide) rfl rfl rfl ⟨Nat.le_of_ble_eq_true rfl, Nat.le_of_ble_eq_true rfl⟩ (Nat.le_of_ble_eq_true rfl) ⟨(Nat.le_of_ble_eq_true rfl), (Nat.le_of_ble_eq_true rfl)⟩ ⟨(Nat.le_of_ble_eq_true rfl), (Nat.le_of_ble_eq_true rfl)⟩ dX5_ifLost_2 (ζ) (fun E hE => by obtain ⟨hb, rfl⟩ := chkO_r hE; obtain rfl := h1 hb; exact ⟨rfl, by rfl⟩) (fun rv h => (chkO_l h).2) (fun hk2 => ?_)
  have c2 := (chkO_l hk2).1
  refine w_aload_n X 0 rfl dX5_ifLost_5 ?_
  refine w_iload_n X 1 rfl dX5_ifLost_6 ?_
  refine w_meV X hA (U := (Nat → Nat → Nat → Int32)) (gr := []) (gs1 := fun ζ1 => [maC g am (ast 0) (art 0) (alas 0) (atx 0) (ahi 0), stC g ast σ, rcC g alas (ζ1 2)]) [0, 1, 2] [] 0 0 (m_X5_lostWith l g am ast art alas atx ahi σ ζ (x)) cv_X5_lostWith mk_X5_300 rfl rfl rfl (ng := 3) rfl (by decide) (fun _ => rfl) (fun _ => rfl) (fun _ => rfl) rfl rfl rfl ⟨Nat.le_of_ble_eq_true rfl, Nat.le_of_ble_eq_true rfl⟩ (Nat.le_of_ble_eq_true rfl) ⟨Nat.le_of_ble_eq_true rfl, Nat.le_of_ble_eq_true rfl⟩ dX5_ifLost_7 rfl (fun ζ1 => ?_)
  obtain rfl := h2 c2
  exact w_iret_vx V (ζ1) (by rfl) (by rfl) (Nat.le_of_ble_eq_true rfl) (Nat.le_of_ble_eq_true rfl) dX5_ifLost_10
