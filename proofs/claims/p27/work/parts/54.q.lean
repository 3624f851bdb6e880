/-! MarkArenas: looks and changes that don't throw: no cells are made -/
theorem ng_nI {n : Nat} (h : n < 2 ^ 31) {P : Prop} (c : nI n < 0) : P := absurd c (nI_pos h)
theorem ng_lt {a n : Nat} (ha : a < n) (hn : n < 2 ^ 31) {P : Prop} (c : ¬ nI a < nI n) : P := absurd ((nI_ltI (by omega) hn).mpr ha) c
section WVR
variable {p : Program} {l : Launch} {e : Env} {R : Room} {s : State} {m : MethodId} {args : Array Value} {below : List Frame} {meth : Method} {c : Code} {g : GG} {nL : Nat} {lv : List (Nat × Value)} {gs : List va_W} {pc : Nat} {cc : ByteArray} {own : String} {DD : va_W → Prop}
theorem w_vret_ro (X : WX p s m args meth c cc own nL none g) (d : decode cc pc = .ok (.return_, 1)) : WW p l e R s m args below meth c g DD (roS s) nL (MQ below (QR none) args s 0 0 (fun _ => False)) 0 0 lv [] gs pc := by
  intro H locs ls hP hD hS hl
  obtain ⟨rfl, rfl⟩ := hS
  exact W.vret X.1.1 X.1.2.1 X.2.2.1 (fun t ht hW => ⟨rfl, ht⟩) (fun q hq => absurd hq List.not_mem_nil) d X.2.2.2
end WVR
set_option maxRecDepth 100000 in
set_option maxHeartbeats 4000000 in
theorem q_X5_refuseNoArena (l : Launch) (g : GG) (k : Nat) (hk : k < 6) : MRO l g yX5_refuseNoArena cX5_refuseNoArena 1 none 2 [.int (nI k)] [] (none) := by
  refine mk_ro (by decide +kernel) (Nat.le_of_ble_eq_true rfl) (fun p e s m below meth c X => ?_)
  refine w_iload_n X 0 rfl dX5_refuseNoArena_0 ?_
  refine w_roS X [] (m_X5_isArena l g (nI (k))) cs_X5_isArena mk_X5_345 rfl rfl ⟨Nat.le_of_ble_eq_true rfl, Nat.le_of_ble_eq_true rfl⟩ (Nat.le_of_ble_eq_true rfl) ⟨Nat.le_of_ble_eq_true rfl, Nat.le_of_ble_eq_true rfl⟩ dX5_refuseNoArena_1 rfl ?_
  rw [isArB_nI hk]
  refine w_bf_ne X 18 dX5_refuseNoArena_4 (by decide) (fun c4 => ?_) (fun c4 => by exfalso; cases c4)
  exact w_vret_ro X dX5_refuseNoArena_18
set_option maxRecDepth 100000 in
set_option maxHeartbeats 4000000 in
theorem q_X5_refuseNoObject (l : Launch) (g : GG) (am : Nat → Nat) (ast : Nat → Nat) (art : Nat → Nat) (alas : Nat → Nat) (atx : Nat → Nat) (ahi : Nat → Nat) (σ : Nat → Nat → Int32) (x : Int32) (hb : hasB σ x = true) : MRO l g yX5_refuseNoObject cX5_refuseNoObject 2 none 2 [.ref (am 0), .int (x)] [maC g am (ast 0) (art 0) (alas 0) (atx 0) (ahi 0), stC g ast σ] (none) := by
  refine mk_ro (by decide +kernel) (Nat.le_of_ble_eq_true rfl) (fun p e s m below meth c X => ?_)
  refine w_aload_n X 0 rfl dX5_refuseNoObject_0 ?_
  refine w_get X 0 0 rfl rfl rfl in_X5 0 (by decide) fk_X5_10 rfl dX5_refuseNoObject_1 ?_
  refine w_iload_n X 1 rfl dX5_refuseNoObject_4 ?_
  refine w_roV X [1] 1 0 (m_X3_has l g ast σ (x)) cv_X3_has mk_X5_198 rfl rfl rfl rfl rfl ⟨Nat.le_of_ble_eq_true rfl, Nat.le_of_ble_eq_true rfl⟩ (Nat.le_of_ble_eq_true rfl) ⟨Nat.le_of_ble_eq_true rfl, Nat.le_of_ble_eq_true rfl⟩ dX5_refuseNoObject_5 rfl ?_
  rw [hb]
  refine w_bf_ne X 22 dX5_refuseNoObject_8 (by decide) (fun c8 => ?_) (fun c8 => by exfalso; cases c8)
  exact w_vret_ro X dX5_refuseNoObject_22
set_option maxRecDepth 100000 in
set_option maxHeartbeats 4000000 in
theorem q_X5_refuseNoSetting (l : Launch) (g : GG) (k : Nat) (hk : k < 2) : MRO l g yX5_refuseNoSetting cX5_refuseNoSetting 1 none 2 [.int (nI k)] [] (none) := by
  refine mk_ro (by decide +kernel) (Nat.le_of_ble_eq_true rfl) (fun p e s m below meth c X => ?_)
  refine w_iload_n X 0 rfl dX5_refuseNoSetting_0 ?_
  refine w_if_lt X 9 dX5_refuseNoSetting_1 (by decide) (fun c1 => by exfalso; exact ng_nI (by omega) c1) (fun c1 => ?_)
  refine w_iload_n X 0 rfl dX5_refuseNoSetting_4 ?_
  refine w_iconst X (nI 2) dX5_refuseNoSetting_5 (by decide +kernel) ?_
  refine w_nc_lt X (by omega) (by omega) 20 dX5_refuseNoSetting_6 (by decide) (fun c6 => ?_) (fun c6 => by exfalso; omega)
  exact w_vret_ro X dX5_refuseNoSetting_20
set_option maxRecDepth 100000 in
set_option maxHeartbeats 4000000 in
theorem q_X5_object (l : Launch) (g : GG) (am : Nat → Nat) (ast : Nat → Nat) (art : Nat → Nat) (aliv : Nat → Nat) (asur : Nat → Nat) (alas : Nat → Nat) (atx : Nat → Nat) (ahi : Nat → Nat) (σ : Nat → Nat → Int32) (ζ : Nat → Nat → Nat → Int32) (j : Nat) (w : Nat) (hj : j < 24) (hw : w < 12) (hb : hasB σ (nI j) = true) : MME (U := (Nat → Nat → Nat → Int32)) l g yX5_object cX5_object 3 (some .int) 4 0 0 [.ref (am 0), .int (nI j), .int (nI w)] [maC g am (ast 0) (art 0) (alas 0) (atx 0) (ahi 0), stC g ast σ, rtC g art (aliv 0) (asur 0) (ζ 3), rcC g aliv (ζ 0), rcC g asur (ζ 1), rcC g alas (ζ 2)] (some (.int (opC σ j w))) (fun ζ' => [maC g am (ast 0) (art 0) (alas 0) (atx 0) (ahi 0), stC g ast σ, rtC g art (aliv 0) (asur 0) (ζ' 3), rcC g aliv (ζ' 0), rcC g asur (ζ' 1), rcC g alas (ζ' 2)]) := by
  refine mk_me (by decide +kernel) (Nat.le_of_ble_eq_true rfl) (fun p e s m below meth c A hA X => ?_)
  refine w_aload_n X 0 rfl dX5_object_0 ?_
  refine w_iload_n X 1 rfl dX5_object_1 ?_
  refine w_roV X [0, 1] 0 0 (q_X5_refuseNoObject l g am ast art alas atx ahi σ (nI (j)) (hb)) cv_X5_refuseNoObject mk_X5_88 rfl rfl rfl rfl rfl ⟨Nat.le_of_ble_eq_true rfl, Nat.le_of_ble_eq_true rfl⟩ (Nat.le_of_ble_eq_true rfl) ⟨Nat.le_of_ble_eq_true rfl, Nat.le_of_ble_eq_true rfl⟩ dX5_object_2 rfl ?_
  refine w_iload_n X 2 rfl dX5_object_5 ?_
  refine w_if_lt X 15 dX5_object_6 (by decide) (fun c6 => by exfalso; exact ng_nI (by omega) c6) (fun c6 => ?_)
  refine w_iload_n X 2 rfl dX5_object_9 ?_
  refine w_bipush X (nI 12) dX5_object_10 (by decide +kernel) ?_
  refine w_nc_lt X (by omega) (by omega) 25 dX5_object_12 (by decide) (fun c12 => ?_) (fun c12 => by exfalso; omega)
  refine w_aload_n X 0 rfl dX5_object_25 ?_
  refine w_iload_n X 1 rfl dX5_object_26 ?_
  refine w_iload_n X 2 rfl dX5_object_27 ?_
  refine w_meV X hA (U := (Nat → Nat → Nat → Int32)) (gr := []) (gs1 := fun ζ1 => [maC g am (ast 0) (art 0) (alas 0) (atx 0) (ahi 0), stC g ast σ, rtC g art (aliv 0) (asur 0) (ζ1 3), rcC g aliv (ζ1 0), rcC g asur (ζ1 1), rcC g alas (ζ1 2)]) [0, 1, 2, 3, 4, 5] [] 0 0 (m_X5_objectProperty l g am ast art aliv asur alas atx ahi σ ζ j w (by omega) (by omega)) cv_X5_objectProperty mk_X5_215 rfl rfl rfl (ng := 6) rfl (by decide) (fun _ => rfl) (fun _ => rfl) (fun _ => rfl) rfl rfl rfl ⟨Nat.le_of_ble_eq_true rfl, Nat.le_of_ble_eq_true rfl⟩ (Nat.le_of_ble_eq_true rfl) ⟨Nat.le_of_ble_eq_true rfl, Nat.le_of_ble_eq_true rfl⟩ dX5_object_28 rfl (fun ζ1 => ?_)
  exact w_iret_me X (ζ1) (rfl) (rfl) (Nat.le_of_ble_eq_true rfl) (Nat.le_of_ble_eq_true rfl) dX5_object_31
set_option maxRecDepth 100000 in
set_option maxHeartbeats 4000000 in
theorem q_X5_arena (l : Launch) (g : GG) (am : Nat → Nat) (ast : Nat → Nat) (art : Nat → Nat) (aliv : Nat → Nat) (asur : Nat → Nat) (alas : Nat → Nat) (atx : Nat → Nat) (ahi : Nat → Nat) (σ : Nat → Nat → Int32) (ζ : Nat → Nat → Nat → Int32) (k : Nat) (w : Nat) (hk : k < 6) (hw : w < 8) : MME (U := (Nat → Nat → Nat → Int32)) l g yX5_arena cX5_arena 3 (some .int) 4 0 0 [.ref (am 0), .int (nI k), .int (nI w)] [maC g am (ast 0) (art 0) (alas 0) (atx 0) (ahi 0), stC g ast σ, rtC g art (aliv 0) (asur 0) (ζ 3), rcC g aliv (ζ 0), rcC g asur (ζ 1), rcC g alas (ζ 2)] (some (.int (apC σ k w))) (fun ζ' => [maC g am (ast 0) (art 0) (alas 0) (atx 0) (ahi 0), stC g ast σ, rtC g art (aliv 0) (asur 0) (ζ' 3), rcC g aliv (ζ' 0), rcC g asur (ζ' 1), rcC g alas (ζ' 2)]) := by
  refine mk_me (by decide +kernel) (Nat.le_of_ble_eq_true rfl) (fun p e s m below meth c A hA X => ?_)
  refine w_iload_n X 1 rfl dX5_arena_0 ?_
  refine w_roS X [] (q_X5_refuseNoArena l g k (by omega)) cs_X5_refuseNoArena mk_X5_63 rfl rfl ⟨Nat.le_of_ble_eq_true rfl, Nat.le_of_ble_eq_true rfl⟩ (Nat.le_of_ble_eq_true rfl) ⟨Nat.le_of_ble_eq_true rfl, Nat.le_of_ble_eq_true rfl⟩ dX5_arena_1 rfl ?_
  refine w_iload_n X 2 rfl dX5_arena_4 ?_
  refine w_if_lt X 14 dX5_arena_5 (by decide) (fun c5 => by exfalso; exact ng_nI (by omega) c5) (fun c5 => ?_)
  refine w_iload_n X 2 rfl dX5_arena_8 ?_
  refine w_bipush X (nI 8) dX5_arena_9 (by decide +kernel) ?_
  refine w_nc_lt X (by omega) (by omega) 24 dX5_arena_11 (by decide) (fun c11 => ?_) (fun c11 => by exfalso; omega)
  refine w_aload_n X 0 rfl dX5_arena_24 ?_
  refine w_iload_n X 1 rfl dX5_arena_25 ?_
  refine w_iload_n X 2 rfl dX5_arena_26 ?_
  refine w_meV X hA (U := (Nat → Nat → Nat → Int32)) (gr := []) (gs1 := fun ζ1 => [maC g am (ast 0) (art 0) (alas 0) (atx 0) (ahi 0), stC g ast σ, rtC g art (aliv 0) (asur 0) (ζ1 3), rcC g aliv (ζ1 0), rcC g asur (ζ1 1), rcC g alas (ζ1 2)]) [0, 1, 2, 3, 4, 5] [] 0 0 (m_X5_arenaProperty l g am ast art aliv asur alas atx ahi σ ζ k w (by omega) (by omega)) cv_X5_arenaProperty mk_X5_239 rfl rfl rfl (ng := 6) rfl (by decide) (fun _ => rfl) (fun _ => rfl) (fun _ => rfl) rfl rfl rfl ⟨Nat.le_of_ble_eq_true rfl, Nat.le_of_ble_eq_true rfl⟩ (Nat.le_of_ble_eq_true rfl) ⟨Nat.le_of_ble_eq_true rfl, Nat.le_of_ble_eq_true rfl⟩ dX5_arena_27 rfl (fun ζ1 => ?_)
  exact w_iret_me X (ζ1) (rfl) (rfl) (Nat.le_of_ble_eq_true rfl) (Nat.le_of_ble_eq_true rfl) dX5_arena_30
set_option maxRecDepth 100000 in
set_option maxHeartbeats 4000000 in
theorem q_X5_at (l : Launch) (g : GG) (am : Nat → Nat) (ast : Nat → Nat) (art : Nat → Nat) (alas : Nat → Nat) (atx : Nat → Nat) (ahi : Nat → Nat) (σ : Nat → Nat → Int32) (k : Nat) (q : Nat) (hk : k < 6) (hq : q < 64) : MRO l g yX5_at cX5_at 3 (some .int) 4 [.ref (am 0), .int (nI k), .int (nI q)] [maC g am (ast 0) (art 0) (alas 0) (atx 0) (ahi 0), stC g ast σ] (some (.int (lowI (fun o => atP σ (nI k) (nI q) o) 24))) := by
  refine mk_ro (by decide +kernel) (Nat.le_of_ble_eq_true rfl) (fun p e s m below meth c X => ?_)
  refine w_iload_n X 1 rfl dX5_at_0 ?_
  refine w_roS X [] (q_X5_refuseNoArena l g k (by omega)) cs_X5_refuseNoArena mk_X5_63 rfl rfl ⟨Nat.le_of_ble_eq_true rfl, Nat.le_of_ble_eq_true rfl⟩ (Nat.le_of_ble_eq_true rfl) ⟨Nat.le_of_ble_eq_true rfl, Nat.le_of_ble_eq_true rfl⟩ dX5_at_1 rfl ?_
  refine w_iload_n X 2 rfl dX5_at_4 ?_
  refine w_if_lt X 14 dX5_at_5 (by decide) (fun c5 => by exfalso; exact ng_nI (by omega) c5) (fun c5 => ?_)
  refine w_iload_n X 2 rfl dX5_at_8 ?_
  refine w_bipush X (nI 64) dX5_at_9 (by decide +kernel) ?_
  refine w_nc_lt X (by omega) (by omega) 25 dX5_at_11 (by decide) (fun c11 => ?_) (fun c11 => by exfalso; omega)
  refine w_aload_n X 0 rfl dX5_at_25 ?_
  refine w_get X 0 0 rfl rfl rfl in_X5 0 (by decide) fk_X5_10 rfl dX5_at_26 ?_
  refine w_iload_n X 1 rfl dX5_at_29 ?_
  refine w_iload_n X 2 rfl dX5_at_30 ?_
  refine w_roV X [1] 1 0 (m_X3_objectAt l g ast σ (nI (k)) (nI (q))) cv_X3_objectAt mk_X5_265 rfl rfl rfl rfl rfl ⟨Nat.le_of_ble_eq_true rfl, Nat.le_of_ble_eq_true rfl⟩ (Nat.le_of_ble_eq_true rfl) ⟨Nat.le_of_ble_eq_true rfl, Nat.le_of_ble_eq_true rfl⟩ dX5_at_31 rfl ?_
  exact w_iret_ro X (rfl) dX5_at_34
set_option maxRecDepth 100000 in
set_option maxHeartbeats 4000000 in
theorem q_X5_count (l : Launch) (g : GG) (am : Nat → Nat) (ast : Nat → Nat) (art : Nat → Nat) (alas : Nat → Nat) (atx : Nat → Nat) (ahi : Nat → Nat) (had : Nat → Nat → Nat) (σ : Nat → Nat → Int32) (ζ : Nat → Nat → Nat → Int32) (η : Nat → Nat → Int32) (w : Nat) (hw : w < 11) : MME (U := (Nat → Nat → Nat → Int32)) l g yX5_count cX5_count 2 (some .int) 4 0 0 [.ref (am 0), .int (nI w)] [maC g am (ast 0) (art 0) (alas 0) (atx 0) (ahi 0), stC g ast σ, rcC g alas (ζ 2), hiC g ahi (fun i => had i 0) η] (some (.int (ctC σ η w))) (fun ζ' => [maC g am (ast 0) (art 0) (alas 0) (atx 0) (ahi 0), stC g ast σ, rcC g alas (ζ' 2), hiC g ahi (fun i => had i 0) η]) := by
  refine mk_me (by decide +kernel) (Nat.le_of_ble_eq_true rfl) (fun p e s m below meth c A hA X => ?_)
  refine w_iload_n X 1 rfl dX5_count_0 ?_
  refine w_if_lt X 10 dX5_count_1 (by decide) (fun c1 => by exfalso; exact ng_nI (by omega) c1) (fun c1 => ?_)
  refine w_iload_n X 1 rfl dX5_count_4 ?_
  refine w_bipush X (nI 11) dX5_count_5 (by decide +kernel) ?_
  refine w_nc_lt X (by omega) (by omega) 21 dX5_count_7 (by decide) (fun c7 => ?_) (fun c7 => by exfalso; omega)
  refine w_aload_n X 0 rfl dX5_count_21 ?_
  refine w_iload_n X 1 rfl dX5_count_22 ?_
  refine w_meV X hA (U := (Nat → Nat → Nat → Int32)) (gr := []) (gs1 := fun ζ1 => [maC g am (ast 0) (art 0) (alas 0) (atx 0) (ahi 0), stC g ast σ, rcC g alas (ζ1 2), hiC g ahi (fun i => had i 0) η]) [0, 1, 2, 3] [] 0 0 (m_X5_number l g am ast art alas atx ahi had σ ζ η w (by omega)) cv_X5_number mk_X5_270 rfl rfl rfl (ng := 4) rfl (by decide) (fun _ => rfl) (fun _ => rfl) (fun _ => rfl) rfl rfl rfl ⟨Nat.le_of_ble_eq_true rfl, Nat.le_of_ble_eq_true rfl⟩ (Nat.le_of_ble_eq_true rfl) ⟨Nat.le_of_ble_eq_true rfl, Nat.le_of_ble_eq_true rfl⟩ dX5_count_23 rfl (fun ζ1 => ?_)
  exact w_iret_me X (ζ1) (rfl) (rfl) (Nat.le_of_ble_eq_true rfl) (Nat.le_of_ble_eq_true rfl) dX5_count_26
set_option maxRecDepth 100000 in
set_option maxHeartbeats 4000000 in
theorem q_X5_setting (l : Launch) (g : GG) (am : Nat → Nat) (ast : Nat → Nat) (art : Nat → Nat) (alas : Nat → Nat) (atx : Nat → Nat) (ahi : Nat → Nat) (σ : Nat → Nat → Int32) (k : Nat) (hk : k < 2) : MRO l g yX5_setting cX5_setting 2 (some .int) 3 [.ref (am 0), .int (nI k)] [maC g am (ast 0) (art 0) (alas 0) (atx 0) (ahi 0), stC g ast σ] (some (.int (σ 11 k))) := by
  refine mk_ro (by decide +kernel) (Nat.le_of_ble_eq_true rfl) (fun p e s m below meth c X => ?_)
  refine w_iload_n X 1 rfl dX5_setting_0 ?_
  refine w_roS X [] (q_X5_refuseNoSetting l g k (by omega)) cs_X5_refuseNoSetting mk_X5_149 rfl rfl ⟨Nat.le_of_ble_eq_true rfl, Nat.le_of_ble_eq_true rfl⟩ (Nat.le_of_ble_eq_true rfl) ⟨Nat.le_of_ble_eq_true rfl, Nat.le_of_ble_eq_true rfl⟩ dX5_setting_1 rfl ?_
  refine w_aload_n X 0 rfl dX5_setting_4 ?_
  refine w_get X 0 0 rfl rfl rfl in_X5 0 (by decide) fk_X5_10 rfl dX5_setting_5 ?_
  refine w_get X 1 0 rfl rfl rfl in_X3 11 (by decide) fk_X5_154 rfl dX5_setting_8 ?_
  refine w_iload_n X 1 rfl dX5_setting_11 ?_
  refine w_iald_n X 1 12 0 rfl rfl rfl (by omega) (by decide) dX5_setting_12 ?_
  exact w_iret_ro X (rfl) dX5_setting_13
set_option maxRecDepth 100000 in
set_option maxHeartbeats 4000000 in
theorem q_X5_ifLost (l : Launch) (g : GG) (am : Nat → Nat) (ast : Nat → Nat) (art : Nat → Nat) (alas : Nat → Nat) (atx : Nat → Nat) (ahi : Nat → Nat) (σ : Nat → Nat → Int32) (ζ : Nat → Nat → Nat → Int32) (j : Nat) (hj : j < 24) (hb : hasB σ (nI j) = true) : MME (U := (Nat → Nat → Nat → Int32)) l g yX5_ifLost cX5_ifLost 2 (some .int) 4 0 0 [.ref (am 0), .int (nI j)] [maC g am (ast 0) (art 0) (alas 0) (atx 0) (ahi 0), stC g ast σ, rcC g alas (ζ 2)] (some (.int (lostC σ (nI j)))) (fun ζ' => [maC g am (ast 0) (art 0) (alas 0) (atx 0) (ahi 0), stC g ast σ, rcC g alas (ζ' 2)]) := by
  refine mk_me (by decide +kernel) (Nat.le_of_ble_eq_true rfl) (fun p e s m below meth c A hA X => ?_)
  refine w_aload_n X 0 rfl dX5_ifLost_0 ?_
  refine w_iload_n X 1 rfl dX5_ifLost_1 ?_
  refine w_roV X [0, 1] 0 0 (q_X5_refuseNoObject l g am ast art alas atx ahi σ (nI (j)) (hb)) cv_X5_refuseNoObject mk_X5_88 rfl rfl rfl rfl rfl ⟨Nat.le_of_ble_eq_true rfl, Nat.le_of_ble_eq_true rfl⟩ (Nat.le_of_ble_eq_true rfl) ⟨Nat.le_of_ble_eq_true rfl, Nat.le_of_ble_eq_true rfl⟩ dX5_ifLost_2 rfl ?_
  refine w_aload_n X 0 rfl dX5_ifLost_5 ?_
  refine w_iload_n X 1 rfl dX5_ifLost_6 ?_
  refine w_meV X hA (U := (Nat → Nat → Nat → Int32)) (gr := []) (gs1 := fun ζ1 => [maC g am (ast 0) (art 0) (alas 0) (atx 0) (ahi 0), stC g ast σ, rcC g alas (ζ1 2)]) [0, 1, 2] [] 0 0 (m_X5_lostWith l g am ast art alas atx ahi σ ζ (nI (j))) cv_X5_lostWith mk_X5_300 rfl rfl rfl (ng := 3) rfl (by decide) (fun _ => rfl) (fun _ => rfl) (fun _ => rfl) rfl rfl rfl ⟨Nat.le_of_ble_eq_true rfl, Nat.le_of_ble_eq_true rfl⟩ (Nat.le_of_ble_eq_true rfl) ⟨Nat.le_of_ble_eq_true rfl, Nat.le_of_ble_eq_true rfl⟩ dX5_ifLost_7 rfl (fun ζ1 => ?_)
  exact w_iret_me X (ζ1) (rfl) (rfl) (Nat.le_of_ble_eq_true rfl) (Nat.le_of_ble_eq_true rfl) dX5_ifLost_10
set_option maxRecDepth 100000 in
set_option maxHeartbeats 4000000 in
theorem q_X5_root (l : Launch) (g : GG) (am : Nat → Nat) (ast : Nat → Nat) (art : Nat → Nat) (alas : Nat → Nat) (atx : Nat → Nat) (ahi : Nat → Nat) (had : Nat → Nat → Nat) (σ : Nat → Nat → Int32) (η : Nat → Nat → Int32) (hσ : Nat → Nat → Nat → Int32) (j : Nat) (b : Bool) (nx : Nat) (sv : Nat) (hnx : nx < 6) (hnx1 : η 1 0 = nI nx) (hsv1 : η 2 0 = nI sv) (hsv : sv ≤ 6) (b0 : fit01 (σ 0) 24) (b5 : fit01 (σ 5) 24) (b6 : fit01 (σ 6) 24) (b8 : fit01 (σ 8) 6) (hj : j < 24) (hb : hasB σ (nI j) = true) : MMU l g yX5_root cX5_root 4 (some .int) 4 0 0 [.ref (am 0), .int (nI j), .int (bI (b))] [maC g am (ast 0) (art 0) (alas 0) (atx 0) (ahi 0), stC g ast σ, hiC g ahi (fun i => had i 0) η, stC g (had 0) (hσ 0), stC g (had 1) (hσ 1), stC g (had 2) (hσ 2), stC g (had 3) (hσ 3), stC g (had 4) (hσ 4), stC g (had 5) (hσ 5)] (some (.int (bI (nz (σ 5 j))))) [maC g am (ast 0) (art 0) (alas 0) (atx 0) (ahi 0), stC g ast (rtS σ j (bI b)), hiC g ahi (fun i => had i 0) (hiS η (nxN nx) (svN sv)), stC g (had 0) (rw2 hσ nx σ 0), stC g (had 1) (rw2 hσ nx σ 1), stC g (had 2) (rw2 hσ nx σ 2), stC g (had 3) (rw2 hσ nx σ 3), stC g (had 4) (rw2 hσ nx σ 4), stC g (had 5) (rw2 hσ nx σ 5)] := by
  refine mk_mu (by decide +kernel) (Nat.le_of_ble_eq_true rfl) (fun p e s m below meth c A hA X => ?_)
  refine w_aload_n X 0 rfl dX5_root_0 ?_
  refine w_iload_n X 1 rfl dX5_root_1 ?_
  refine w_roV X [0, 1] 0 0 (q_X5_refuseNoObject l g am ast art alas atx ahi σ (nI (j)) (hb)) cv_X5_refuseNoObject mk_X5_88 rfl rfl rfl rfl rfl ⟨Nat.le_of_ble_eq_true rfl, Nat.le_of_ble_eq_true rfl⟩ (Nat.le_of_ble_eq_true rfl) ⟨Nat.le_of_ble_eq_true rfl, Nat.le_of_ble_eq_true rfl⟩ dX5_root_2 rfl ?_
  refine w_aload_n X 0 rfl dX5_root_5 ?_
  refine w_get X 0 0 rfl rfl rfl in_X5 4 (by decide) fk_X5_40 rfl dX5_root_6 ?_
  refine w_aload_n X 0 rfl dX5_root_9 ?_
  refine w_get X 0 0 rfl rfl rfl in_X5 0 (by decide) fk_X5_10 rfl dX5_root_10 ?_
  refine w_muV X hA (gr := [maC g am (ast 0) (art 0) (alas 0) (atx 0) (ahi 0)]) (gs1 := [maC g am (ast 0) (art 0) (alas 0) (atx 0) (ahi 0), stC g ast σ, hiC g ahi (fun i => had i 0) (hiS η (nxN nx) (svN sv)), stC g (had 0) (rw2 hσ nx σ 0), stC g (had 1) (rw2 hσ nx σ 1), stC g (had 2) (rw2 hσ nx σ 2), stC g (had 3) (rw2 hσ nx σ 3), stC g (had 4) (rw2 hσ nx σ 4), stC g (had 5) (rw2 hσ nx σ 5)]) [2, 3, 4, 5, 6, 7, 8, 1] [0] 2 0 (m_X0_save l g ahi η had hσ ast σ nx sv (hnx) (hnx1) (hsv1) (hsv) (b0) (b5) (b6) (b8)) cv_X0_save mk_X5_55 rfl rfl rfl (ng := 9) rfl (by decide) rfl rfl rfl rfl rfl rfl ⟨Nat.le_of_ble_eq_true rfl, Nat.le_of_ble_eq_true rfl⟩ (Nat.le_of_ble_eq_true rfl) ⟨Nat.le_of_ble_eq_true rfl, Nat.le_of_ble_eq_true rfl⟩ dX5_root_13 rfl ?_
  refine w_aload_n X 0 rfl dX5_root_16 ?_
  refine w_get X 0 0 rfl rfl rfl in_X5 0 (by decide) fk_X5_10 rfl dX5_root_17 ?_
  refine w_get X 1 0 rfl rfl rfl in_X3 5 (by decide) fk_X5_103 rfl dX5_root_20 ?_
  refine w_iload_n X 1 rfl dX5_root_23 ?_
  refine w_zald_n X 1 6 1 rfl rfl rfl (by omega) (by decide) dX5_root_24 ?_
  refine w_istore_n X dX5_root_25 (by decide) ?_
  refine w_aload_n X 1 rfl dX5_root_26 ?_
  refine w_get X 0 0 rfl rfl rfl in_X5 0 (by decide) fk_X5_10 rfl dX5_root_27 ?_
  refine w_get X 1 0 rfl rfl rfl in_X3 5 (by decide) fk_X5_103 rfl dX5_root_30 ?_
  refine w_iload_n X 2 rfl dX5_root_33 ?_
  refine w_iload_n X 3 rfl dX5_root_34 ?_
  refine w_zast_n X 1 6 1 rfl rfl rfl (by omega) (by decide) (show _ = stC g ast (rw2 σ 5 (upd (σ 5) j (bI (b)))) from by rw [nar_bI]; rfl) dX5_root_35 ?_
  refine w_iload_n X 0 rfl dX5_root_36 ?_
  refine w_roS X [] (m_X5_oneIf_R l g (σ 5 j)) cs_X5_oneIf mk_X5_107 rfl rfl ⟨Nat.le_of_ble_eq_true rfl, Nat.le_of_ble_eq_true rfl⟩ (Nat.le_of_ble_eq_true rfl) ⟨Nat.le_of_ble_eq_true rfl, Nat.le_of_ble_eq_true rfl⟩ dX5_root_37 rfl ?_
  exact w_iret_mu X (by first | rfl | (subst he_i; rfl) | simp (decide := true) [bI]) (rfl) (Nat.le_of_ble_eq_true rfl) (Nat.le_of_ble_eq_true rfl) dX5_root_40
set_option maxRecDepth 100000 in
set_option maxHeartbeats 4000000 in
theorem q_X5_pin (l : Launch) (g : GG) (am : Nat → Nat) (ast : Nat → Nat) (art : Nat → Nat) (alas : Nat → Nat) (atx : Nat → Nat) (ahi : Nat → Nat) (had : Nat → Nat → Nat) (σ : Nat → Nat → Int32) (η : Nat → Nat → Int32) (hσ : Nat → Nat → Nat → Int32) (j : Nat) (b : Bool) (nx : Nat) (sv : Nat) (hnx : nx < 6) (hnx1 : η 1 0 = nI nx) (hsv1 : η 2 0 = nI sv) (hsv : sv ≤ 6) (b0 : fit01 (σ 0) 24) (b5 : fit01 (σ 5) 24) (b6 : fit01 (σ 6) 24) (b8 : fit01 (σ 8) 6) (hj : j < 24) (hb : hasB σ (nI j) = true) : MMU l g yX5_pin cX5_pin 3 (some .int) 4 0 0 [.ref (am 0), .int (nI j), .int (bI (b))] [maC g am (ast 0) (art 0) (alas 0) (atx 0) (ahi 0), stC g ast σ, hiC g ahi (fun i => had i 0) η, stC g (had 0) (hσ 0), stC g (had 1) (hσ 1), stC g (had 2) (hσ 2), stC g (had 3) (hσ 3), stC g (had 4) (hσ 4), stC g (had 5) (hσ 5)] (some (.int (pinC (pnS σ j (bI b)) (σ 1 j)))) [maC g am (ast 0) (art 0) (alas 0) (atx 0) (ahi 0), stC g ast (pnS σ j (bI b)), hiC g ahi (fun i => had i 0) (hiS η (nxN nx) (svN sv)), stC g (had 0) (rw2 hσ nx σ 0), stC g (had 1) (rw2 hσ nx σ 1), stC g (had 2) (rw2 hσ nx σ 2), stC g (had 3) (rw2 hσ nx σ 3), stC g (had 4) (rw2 hσ nx σ 4), stC g (had 5) (rw2 hσ nx σ 5)] := by
  refine mk_mu (by decide +kernel) (Nat.le_of_ble_eq_true rfl) (fun p e s m below meth c A hA X => ?_)
  refine w_aload_n X 0 rfl dX5_pin_0 ?_
  refine w_iload_n X 1 rfl dX5_pin_1 ?_
  refine w_roV X [0, 1] 0 0 (q_X5_refuseNoObject l g am ast art alas atx ahi σ (nI (j)) (hb)) cv_X5_refuseNoObject mk_X5_88 rfl rfl rfl rfl rfl ⟨Nat.le_of_ble_eq_true rfl, Nat.le_of_ble_eq_true rfl⟩ (Nat.le_of_ble_eq_true rfl) ⟨Nat.le_of_ble_eq_true rfl, Nat.le_of_ble_eq_true rfl⟩ dX5_pin_2 rfl ?_
  refine w_aload_n X 0 rfl dX5_pin_5 ?_
  refine w_get X 0 0 rfl rfl rfl in_X5 4 (by decide) fk_X5_40 rfl dX5_pin_6 ?_
  refine w_aload_n X 0 rfl dX5_pin_9 ?_
  refine w_get X 0 0 rfl rfl rfl in_X5 0 (by decide) fk_X5_10 rfl dX5_pin_10 ?_
  refine w_muV X hA (gr := [maC g am (ast 0) (art 0) (alas 0) (atx 0) (ahi 0)]) (gs1 := [maC g am (ast 0) (art 0) (alas 0) (atx 0) (ahi 0), stC g ast σ, hiC g ahi (fun i => had i 0) (hiS η (nxN nx) (svN sv)), stC g (had 0) (rw2 hσ nx σ 0), stC g (had 1) (rw2 hσ nx σ 1), stC g (had 2) (rw2 hσ nx σ 2), stC g (had 3) (rw2 hσ nx σ 3), stC g (had 4) (rw2 hσ nx σ 4), stC g (had 5) (rw2 hσ nx σ 5)]) [2, 3, 4, 5, 6, 7, 8, 1] [0] 2 0 (m_X0_save l g ahi η had hσ ast σ nx sv (hnx) (hnx1) (hsv1) (hsv) (b0) (b5) (b6) (b8)) cv_X0_save mk_X5_55 rfl rfl rfl (ng := 9) rfl (by decide) rfl rfl rfl rfl rfl rfl ⟨Nat.le_of_ble_eq_true rfl, Nat.le_of_ble_eq_true rfl⟩ (Nat.le_of_ble_eq_true rfl) ⟨Nat.le_of_ble_eq_true rfl, Nat.le_of_ble_eq_true rfl⟩ dX5_pin_13 rfl ?_
  refine w_aload_n X 0 rfl dX5_pin_16 ?_
  refine w_get X 0 0 rfl rfl rfl in_X5 0 (by decide) fk_X5_10 rfl dX5_pin_17 ?_
  refine w_get X 1 0 rfl rfl rfl in_X3 6 (by decide) fk_X5_111 rfl dX5_pin_20 ?_
  refine w_iload_n X 1 rfl dX5_pin_23 ?_
  refine w_iload_n X 2 rfl dX5_pin_24 ?_
  refine w_zast_n X 1 7 1 rfl rfl rfl (by omega) (by decide) (show _ = stC g ast (rw2 σ 6 (upd (σ 6) j (bI (b)))) from by rw [nar_bI]; rfl) dX5_pin_25 ?_
  refine w_aload_n X 0 rfl dX5_pin_26 ?_
  refine w_get X 0 0 rfl rfl rfl in_X5 0 (by decide) fk_X5_10 rfl dX5_pin_27 ?_
  refine w_aload_n X 0 rfl dX5_pin_30 ?_
  refine w_get X 0 0 rfl rfl rfl in_X5 0 (by decide) fk_X5_10 rfl dX5_pin_31 ?_
  refine w_get X 1 0 rfl rfl rfl in_X3 1 (by decide) fk_X5_114 rfl dX5_pin_34 ?_
  refine w_iload_n X 1 rfl dX5_pin_37 ?_
  refine w_iald_n X 1 2 0 rfl rfl rfl (by omega) (by decide) dX5_pin_38 ?_
  refine w_st (st2 := [.int (σ 1 j), .ref (ast 0)]) rfl ?_
  refine w_roV X [1] 1 0 (m_X3_pinnedIn l g ast (rw2 σ 6 (upd (σ 6) j (bI (b)))) (σ 1 j)) cv_X3_pinnedIn mk_X5_118 rfl rfl rfl rfl rfl ⟨Nat.le_of_ble_eq_true rfl, Nat.le_of_ble_eq_true rfl⟩ (Nat.le_of_ble_eq_true rfl) ⟨Nat.le_of_ble_eq_true rfl, Nat.le_of_ble_eq_true rfl⟩ dX5_pin_39 rfl ?_
  exact w_iret_mu X (by first | rfl | (subst he_i; rfl) | simp (decide := true) [bI]) (rfl) (Nat.le_of_ble_eq_true rfl) (Nat.le_of_ble_eq_true rfl) dX5_pin_42
set_option maxRecDepth 100000 in
set_option maxHeartbeats 4000000 in
theorem q_X5_set (l : Launch) (g : GG) (am : Nat → Nat) (ast : Nat → Nat) (art : Nat → Nat) (alas : Nat → Nat) (atx : Nat → Nat) (ahi : Nat → Nat) (had : Nat → Nat → Nat) (σ : Nat → Nat → Int32) (η : Nat → Nat → Int32) (hσ : Nat → Nat → Nat → Int32) (i : Nat) (v : Nat) (nx : Nat) (sv : Nat) (hnx : nx < 6) (hnx1 : η 1 0 = nI nx) (hsv1 : η 2 0 = nI sv) (hsv : sv ≤ 6) (b0 : fit01 (σ 0) 24) (b5 : fit01 (σ 5) 24) (b6 : fit01 (σ 6) 24) (b8 : fit01 (σ 8) 6) (hi : i < 2) (hv : v ≤ (if i = 1 then 2 else 1)) : MMU l g yX5_set cX5_set 5 (some .int) 4 0 0 [.ref (am 0), .int (nI i), .int (nI v)] [maC g am (ast 0) (art 0) (alas 0) (atx 0) (ahi 0), stC g ast σ, hiC g ahi (fun i => had i 0) η, stC g (had 0) (hσ 0), stC g (had 1) (hσ 1), stC g (had 2) (hσ 2), stC g (had 3) (hσ 3), stC g (had 4) (hσ 4), stC g (had 5) (hσ 5)] (some (.int (σ 11 i))) [maC g am (ast 0) (art 0) (alas 0) (atx 0) (ahi 0), stC g ast (seS σ i (nI v)), hiC g ahi (fun i => had i 0) (hiS η (nxN nx) (svN sv)), stC g (had 0) (rw2 hσ nx σ 0), stC g (had 1) (rw2 hσ nx σ 1), stC g (had 2) (rw2 hσ nx σ 2), stC g (had 3) (rw2 hσ nx σ 3), stC g (had 4) (rw2 hσ nx σ 4), stC g (had 5) (rw2 hσ nx σ 5)] := by
  refine mk_mu (by decide +kernel) (Nat.le_of_ble_eq_true rfl) (fun p e s m below meth c A hA X => ?_)
  refine w_iload_n X 1 rfl dX5_set_0 ?_
  refine w_roS X [] (q_X5_refuseNoSetting l g i (by omega)) cs_X5_refuseNoSetting mk_X5_149 rfl rfl ⟨Nat.le_of_ble_eq_true rfl, Nat.le_of_ble_eq_true rfl⟩ (Nat.le_of_ble_eq_true rfl) ⟨Nat.le_of_ble_eq_true rfl, Nat.le_of_ble_eq_true rfl⟩ dX5_set_1 rfl ?_
  refine w_iload_n X 1 rfl dX5_set_4 ?_
  refine w_iconst X (nI 1) dX5_set_5 (by decide +kernel) ?_
  refine w_nc_ne X (by omega) (by omega) 13 dX5_set_6 (by decide) (fun c6 => ?_) (fun c6 => ?_)
  · refine w_iconst X (nI 1) dX5_set_13 (by decide +kernel) ?_
    refine w_istore_n X dX5_set_14 (by decide) ?_
    refine w_iload_n X 3 rfl dX5_set_15 ?_
    refine w_if_lt X 24 dX5_set_16 (by decide) (fun c16 => by exfalso; exact ng_nI (by (split at hv) <;> omega) c16) (fun c16 => ?_)
    refine w_iload_n X 3 rfl dX5_set_19 ?_
    refine w_iload_n X 0 rfl dX5_set_20 ?_
    refine w_nc_le X (by (split at hv) <;> omega) (by omega) 34 dX5_set_21 (by decide) (fun c21 => ?_) (fun c21 => by exfalso; (split at hv) <;> omega)
    refine w_aload_n X 1 rfl dX5_set_34 ?_
    refine w_get X 0 0 rfl rfl rfl in_X5 4 (by decide) fk_X5_40 rfl dX5_set_35 ?_
    refine w_aload_n X 1 rfl dX5_set_38 ?_
    refine w_get X 0 0 rfl rfl rfl in_X5 0 (by decide) fk_X5_10 rfl dX5_set_39 ?_
    refine w_muV X hA (gr := [maC g am (ast 0) (art 0) (alas 0) (atx 0) (ahi 0)]) (gs1 := [maC g am (ast 0) (art 0) (alas 0) (atx 0) (ahi 0), stC g ast σ, hiC g ahi (fun i => had i 0) (hiS η (nxN nx) (svN sv)), stC g (had 0) (rw2 hσ nx σ 0), stC g (had 1) (rw2 hσ nx σ 1), stC g (had 2) (rw2 hσ nx σ 2), stC g (had 3) (rw2 hσ nx σ 3), stC g (had 4) (rw2 hσ nx σ 4), stC g (had 5) (rw2 hσ nx σ 5)]) [2, 3, 4, 5, 6, 7, 8, 1] [0] 2 0 (m_X0_save l g ahi η had hσ ast σ nx sv (hnx) (hnx1) (hsv1) (hsv) (b0) (b5) (b6) (b8)) cv_X0_save mk_X5_55 rfl rfl rfl (ng := 9) rfl (by decide) rfl rfl rfl rfl rfl rfl ⟨Nat.le_of_ble_eq_true rfl, Nat.le_of_ble_eq_true rfl⟩ (Nat.le_of_ble_eq_true rfl) ⟨Nat.le_of_ble_eq_true rfl, Nat.le_of_ble_eq_true rfl⟩ dX5_set_42 rfl ?_
    refine w_aload_n X 1 rfl dX5_set_45 ?_
    refine w_get X 0 0 rfl rfl rfl in_X5 0 (by decide) fk_X5_10 rfl dX5_set_46 ?_
    refine w_get X 1 0 rfl rfl rfl in_X3 11 (by decide) fk_X5_154 rfl dX5_set_49 ?_
    refine w_iload_n X 2 rfl dX5_set_52 ?_
    refine w_iald_n X 1 12 0 rfl rfl rfl (by omega) (by decide) dX5_set_53 ?_
    refine w_istore X dX5_set_54 (by decide) ?_
    refine w_aload_n X 2 rfl dX5_set_56 ?_
    refine w_get X 0 0 rfl rfl rfl in_X5 0 (by decide) fk_X5_10 rfl dX5_set_57 ?_
    refine w_get X 1 0 rfl rfl rfl in_X3 11 (by decide) fk_X5_154 rfl dX5_set_60 ?_
    refine w_iload_n X 3 rfl dX5_set_63 ?_
    refine w_iload_n X 4 rfl dX5_set_64 ?_
    refine w_iast_n X 1 12 0 rfl rfl rfl (by omega) (by decide) (show _ = stC g ast (rw2 σ 11 (upd (σ 11) i (nI (v)))) from rfl) dX5_set_65 ?_
    refine w_iload X 0 rfl dX5_set_66 ?_
    exact w_iret_mu X (by first | rfl | (subst he_i; rfl) | simp (decide := true) [c6, c16, c21, bI]) (rfl) (Nat.le_of_ble_eq_true rfl) (Nat.le_of_ble_eq_true rfl) dX5_set_68
  · refine w_iconst X (nI 2) dX5_set_9 (by decide +kernel) ?_
    refine w_goto X 14 dX5_set_10 (by decide) ?_
    refine w_istore_n X dX5_set_14 (by decide) ?_
    refine w_iload_n X 3 rfl dX5_set_15 ?_
    refine w_if_lt X 24 dX5_set_16 (by decide) (fun c16 => by exfalso; exact ng_nI (by (split at hv) <;> omega) c16) (fun c16 => ?_)
    refine w_iload_n X 3 rfl dX5_set_19 ?_
    refine w_iload_n X 0 rfl dX5_set_20 ?_
    refine w_nc_le X (by (split at hv) <;> omega) (by omega) 34 dX5_set_21 (by decide) (fun c21 => ?_) (fun c21 => by exfalso; (split at hv) <;> omega)
    refine w_aload_n X 1 rfl dX5_set_34 ?_
    refine w_get X 0 0 rfl rfl rfl in_X5 4 (by decide) fk_X5_40 rfl dX5_set_35 ?_
    refine w_aload_n X 1 rfl dX5_set_38 ?_
    refine w_get X 0 0 rfl rfl rfl in_X5 0 (by decide) fk_X5_10 rfl dX5_set_39 ?_
    refine w_muV X hA (gr := [maC g am (ast 0) (art 0) (alas 0) (atx 0) (ahi 0)]) (gs1 := [maC g am (ast 0) (art 0) (alas 0) (atx 0) (ahi 0), stC g ast σ, hiC g ahi (fun i => had i 0) (hiS η (nxN nx) (svN sv)), stC g (had 0) (rw2 hσ nx σ 0), stC g (had 1) (rw2 hσ nx σ 1), stC g (had 2) (rw2 hσ nx σ 2), stC g (had 3) (rw2 hσ nx σ 3), stC g (had 4) (rw2 hσ nx σ 4), stC g (had 5) (rw2 hσ nx σ 5)]) [2, 3, 4, 5, 6, 7, 8, 1] [0] 2 0 (m_X0_save l g ahi η had hσ ast σ nx sv (hnx) (hnx1) (hsv1) (hsv) (b0) (b5) (b6) (b8)) cv_X0_save mk_X5_55 rfl rfl rfl (ng := 9) rfl (by decide) rfl rfl rfl rfl rfl rfl ⟨Nat.le_of_ble_eq_true rfl, Nat.le_of_ble_eq_true rfl⟩ (Nat.le_of_ble_eq_true rfl) ⟨Nat.le_of_ble_eq_true rfl, Nat.le_of_ble_eq_true rfl⟩ dX5_set_42 rfl ?_
    refine w_aload_n X 1 rfl dX5_set_45 ?_
    refine w_get X 0 0 rfl rfl rfl in_X5 0 (by decide) fk_X5_10 rfl dX5_set_46 ?_
    refine w_get X 1 0 rfl rfl rfl in_X3 11 (by decide) fk_X5_154 rfl dX5_set_49 ?_
    refine w_iload_n X 2 rfl dX5_set_52 ?_
    refine w_iald_n X 1 12 0 rfl rfl rfl (by omega) (by decide) dX5_set_53 ?_
    refine w_istore X dX5_set_54 (by decide) ?_
    refine w_aload_n X 2 rfl dX5_set_56 ?_
    refine w_get X 0 0 rfl rfl rfl in_X5 0 (by decide) fk_X5_10 rfl dX5_set_57 ?_
    refine w_get X 1 0 rfl rfl rfl in_X3 11 (by decide) fk_X5_154 rfl dX5_set_60 ?_
    refine w_iload_n X 3 rfl dX5_set_63 ?_
    refine w_iload_n X 4 rfl dX5_set_64 ?_
    refine w_iast_n X 1 12 0 rfl rfl rfl (by omega) (by decide) (show _ = stC g ast (rw2 σ 11 (upd (σ 11) i (nI (v)))) from rfl) dX5_set_65 ?_
    refine w_iload X 0 rfl dX5_set_66 ?_
    exact w_iret_mu X (by first | rfl | (subst he_i; rfl) | simp (decide := true) [c6, c16, c21, bI]) (rfl) (Nat.le_of_ble_eq_true rfl) (Nat.le_of_ble_eq_true rfl) dX5_set_68
