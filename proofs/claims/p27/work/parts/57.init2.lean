/-! the constructors of Reach, Text, State, the model -/
def adL (L : List Nat) (i : Nat) : Nat := L.getD i 0
def z0 : Nat → Nat → Int32 := fun _ _ => 0
/-- a fresh State: no object refers to another -/
def s0 (k : Nat) : Nat → Nat → Int32 := fun r => if r = 4 then (fun i => if i < k then -1 else 0) else fun _ => 0
theorem s0_n (k : Nat) : rw2 (s0 k) 4 (upd (s0 k 4) k (Int32.ofInt (-1))) = s0 (k + 1) := by
  funext r i
  by_cases h : r = 4
  · subst h
    rw [rw2_s, upd_e]
    show _ = if i < k + 1 then (-1 : Int32) else 0
    by_cases e : i = k
    · rw [if_pos e, if_pos (by omega)]; rfl
    · rw [if_neg e]
      show (if i < k then (-1 : Int32) else 0) = _
      by_cases f : i < k
      · rw [if_pos f, if_pos (by omega)]
      · rw [if_neg f, if_neg (by omega)]
  · rw [rw2_n _ _ h]
    simp only [s0, if_neg h]
set_option maxRecDepth 100000 in
set_option maxHeartbeats 4000000 in
theorem m_X1_init (l : Launch) (g : GG) (a : Nat) : MMI (U := {ad : Nat → Nat // ad 0 = a}) l g yX1_init cX1_init 1 1 3 72 [.ref a] [[(a, .inr (1, [.null, .null, .null, .int 0]))]] (fun u => [rcC g u.1 z0]) := by
  refine mk_mi (by decide +kernel) rfl (Nat.le_of_ble_eq_true rfl) (fun p e s m below meth c A hA X hI hO => ?_)
  refine w_aload_n X 0 rfl dX1_init_0 ?_
  refine w_oinit X oi_X1 (Nat.le_of_ble_eq_true rfl) (Nat.le_of_ble_eq_true rfl) dX1_init_1 ?_
  refine w_aload_n X 0 rfl dX1_init_4 ?_
  refine w_bipush X (nI 24) dX1_init_5 (by decide +kernel) ?_
  refine w_newi X hA (by decide) ⟨Nat.le_of_ble_eq_true rfl, Nat.le_of_ble_eq_true rfl⟩ dX1_init_7 (fun q1 => ?_)
  refine w_putF X hI 0 0 rfl rfl rfl in_X1 tyX1 tyX1_ok nmX1 0 (by decide) fk_X1_9 rfl rfl rfl rfl rfl (Nat.le_of_ble_eq_true rfl) (show _ = [(a, .inr (1, [.ref q1, .null, .null, .int 0]))] from rfl) dX1_init_9 ?_
  refine w_rg [[(a, .inr (1, [.ref q1, .null, .null, .int 0]))], [(q1, .inl (cI g, 24, .inl (fun _ => 0)))]] rfl ?_
  refine w_aload_n X 0 rfl dX1_init_12 ?_
  refine w_bipush X (nI 24) dX1_init_13 (by decide +kernel) ?_
  refine w_newi X hA (by decide) ⟨Nat.le_of_ble_eq_true rfl, Nat.le_of_ble_eq_true rfl⟩ dX1_init_15 (fun q2 => ?_)
  refine w_putF X hI 0 0 rfl rfl rfl in_X1 tyX1 tyX1_ok nmX1 1 (by decide) fk_X1_15 rfl rfl rfl rfl rfl (Nat.le_of_ble_eq_true rfl) (show _ = [(a, .inr (1, [.ref q1, .ref q2, .null, .int 0]))] from rfl) dX1_init_17 ?_
  refine w_rg [[(a, .inr (1, [.ref q1, .ref q2, .null, .int 0]))], [(q1, .inl (cI g, 24, .inl (fun _ => 0)))], [(q2, .inl (cI g, 24, .inl (fun _ => 0)))]] rfl ?_
  refine w_aload_n X 0 rfl dX1_init_20 ?_
  refine w_bipush X (nI 24) dX1_init_21 (by decide +kernel) ?_
  refine w_newi X hA (by decide) ⟨Nat.le_of_ble_eq_true rfl, Nat.le_of_ble_eq_true rfl⟩ dX1_init_23 (fun q3 => ?_)
  refine w_putF X hI 0 0 rfl rfl rfl in_X1 tyX1 tyX1_ok nmX1 2 (by decide) fk_X1_18 rfl rfl rfl rfl rfl (Nat.le_of_ble_eq_true rfl) (show _ = [(a, .inr (1, [.ref q1, .ref q2, .ref q3, .int 0]))] from rfl) dX1_init_25 ?_
  refine w_rg [[(a, .inr (1, [.ref q1, .ref q2, .ref q3, .int 0]))], [(q1, .inl (cI g, 24, .inl (fun _ => 0)))], [(q2, .inl (cI g, 24, .inl (fun _ => 0)))], [(q3, .inl (cI g, 24, .inl (fun _ => 0)))]] rfl ?_
  refine w_rg [rcC g (adL [a, q1, q2, q3]) z0] rfl ?_
  exact w_vret_me X ⟨(adL [a, q1, q2, q3]), rfl⟩ rfl (Nat.le_of_ble_eq_true rfl) (Nat.le_of_ble_eq_true rfl) dX1_init_28
set_option maxRecDepth 100000 in
set_option maxHeartbeats 4000000 in
theorem m_X4_init (l : Launch) (g : GG) (a : Nat) : MMI (U := {ad : Nat → Nat // ad 0 = a}) l g yX4_init cX4_init 1 1 1 60 [.ref a] [[(a, .inr (4, [.null, .int 0, .int 0, .int 0, .int 0]))]] (fun u => [txC g u.1 z0]) := by
  refine mk_mi (by decide +kernel) rfl (Nat.le_of_ble_eq_true rfl) (fun p e s m below meth c A hA X hI hO => ?_)
  refine w_aload_n X 0 rfl dX4_init_0 ?_
  refine w_oinit X oi_X4 (Nat.le_of_ble_eq_true rfl) (Nat.le_of_ble_eq_true rfl) dX4_init_1 ?_
  refine w_aload_n X 0 rfl dX4_init_4 ?_
  refine w_bipush X (nI 60) dX4_init_5 (by decide +kernel) ?_
  refine w_newi X hA (by decide) ⟨Nat.le_of_ble_eq_true rfl, Nat.le_of_ble_eq_true rfl⟩ dX4_init_7 (fun q1 => ?_)
  refine w_putF X hI 0 0 rfl rfl rfl in_X4 tyX4 tyX4_ok nmX4 0 (by decide) fk_X4_11 rfl rfl rfl rfl rfl (Nat.le_of_ble_eq_true rfl) (show _ = [(a, .inr (4, [.ref q1, .int 0, .int 0, .int 0, .int 0]))] from rfl) dX4_init_9 ?_
  refine w_rg [[(a, .inr (4, [.ref q1, .int 0, .int 0, .int 0, .int 0]))], [(q1, .inl (cI g, 60, .inl (fun _ => 0)))]] rfl ?_
  refine w_rg [txC g (adL [a, q1]) z0] rfl ?_
  exact w_vret_me X ⟨(adL [a, q1]), rfl⟩ rfl (Nat.le_of_ble_eq_true rfl) (Nat.le_of_ble_eq_true rfl) dX4_init_12
set_option maxRecDepth 100000 in
set_option maxHeartbeats 4000000 in
theorem m_X3_init (l : Launch) (g : GG) (a : Nat) : MMI (U := {ad : Nat → Nat // ad 0 = a}) l g yX3_init cX3_init 2 1 12 236 [.ref a] [[(a, .inr (3, [.null, .null, .null, .null, .null, .null, .null, .null, .null, .null, .null, .null, .int 0, .int 0, .int 0, .int 0]))]] (fun u => [stC g u.1 (s0 48)]) := by
  refine mk_mi (by decide +kernel) rfl (Nat.le_of_ble_eq_true rfl) (fun p e s m below meth c A hA X hI hO => ?_)
  refine w_aload_n X 0 rfl dX3_init_0 ?_
  refine w_oinit X oi_X3 (Nat.le_of_ble_eq_true rfl) (Nat.le_of_ble_eq_true rfl) dX3_init_1 ?_
  refine w_aload_n X 0 rfl dX3_init_4 ?_
  refine w_bipush X (nI 24) dX3_init_5 (by decide +kernel) ?_
  refine w_newz X hA (by decide) ⟨Nat.le_of_ble_eq_true rfl, Nat.le_of_ble_eq_true rfl⟩ dX3_init_7 (fun q1 => ?_)
  refine w_putF X hI 0 0 rfl rfl rfl in_X3 tyX3 tyX3_ok nmX3 0 (by decide) fk_X3_9 rfl rfl rfl rfl rfl (Nat.le_of_ble_eq_true rfl) (show _ = [(a, .inr (3, [.ref q1, .null, .null, .null, .null, .null, .null, .null, .null, .null, .null, .null, .int 0, .int 0, .int 0, .int 0]))] from rfl) dX3_init_9 ?_
  refine w_rg [[(a, .inr (3, [.ref q1, .null, .null, .null, .null, .null, .null, .null, .null, .null, .null, .null, .int 0, .int 0, .int 0, .int 0]))], [(q1, .inl (cZ g, 24, .inl (fun _ => 0)))]] rfl ?_
  refine w_aload_n X 0 rfl dX3_init_12 ?_
  refine w_bipush X (nI 24) dX3_init_13 (by decide +kernel) ?_
  refine w_newi X hA (by decide) ⟨Nat.le_of_ble_eq_true rfl, Nat.le_of_ble_eq_true rfl⟩ dX3_init_15 (fun q2 => ?_)
  refine w_putF X hI 0 0 rfl rfl rfl in_X3 tyX3 tyX3_ok nmX3 1 (by decide) fk_X3_15 rfl rfl rfl rfl rfl (Nat.le_of_ble_eq_true rfl) (show _ = [(a, .inr (3, [.ref q1, .ref q2, .null, .null, .null, .null, .null, .null, .null, .null, .null, .null, .int 0, .int 0, .int 0, .int 0]))] from rfl) dX3_init_17 ?_
  refine w_rg [[(a, .inr (3, [.ref q1, .ref q2, .null, .null, .null, .null, .null, .null, .null, .null, .null, .null, .int 0, .int 0, .int 0, .int 0]))], [(q1, .inl (cZ g, 24, .inl (fun _ => 0)))], [(q2, .inl (cI g, 24, .inl (fun _ => 0)))]] rfl ?_
  refine w_aload_n X 0 rfl dX3_init_20 ?_
  refine w_bipush X (nI 24) dX3_init_21 (by decide +kernel) ?_
  refine w_newi X hA (by decide) ⟨Nat.le_of_ble_eq_true rfl, Nat.le_of_ble_eq_true rfl⟩ dX3_init_23 (fun q3 => ?_)
  refine w_putF X hI 0 0 rfl rfl rfl in_X3 tyX3 tyX3_ok nmX3 2 (by decide) fk_X3_19 rfl rfl rfl rfl rfl (Nat.le_of_ble_eq_true rfl) (show _ = [(a, .inr (3, [.ref q1, .ref q2, .ref q3, .null, .null, .null, .null, .null, .null, .null, .null, .null, .int 0, .int 0, .int 0, .int 0]))] from rfl) dX3_init_25 ?_
  refine w_rg [[(a, .inr (3, [.ref q1, .ref q2, .ref q3, .null, .null, .null, .null, .null, .null, .null, .null, .null, .int 0, .int 0, .int 0, .int 0]))], [(q1, .inl (cZ g, 24, .inl (fun _ => 0)))], [(q2, .inl (cI g, 24, .inl (fun _ => 0)))], [(q3, .inl (cI g, 24, .inl (fun _ => 0)))]] rfl ?_
  refine w_aload_n X 0 rfl dX3_init_28 ?_
  refine w_bipush X (nI 24) dX3_init_29 (by decide +kernel) ?_
  refine w_newi X hA (by decide) ⟨Nat.le_of_ble_eq_true rfl, Nat.le_of_ble_eq_true rfl⟩ dX3_init_31 (fun q4 => ?_)
  refine w_putF X hI 0 0 rfl rfl rfl in_X3 tyX3 tyX3_ok nmX3 3 (by decide) fk_X3_22 rfl rfl rfl rfl rfl (Nat.le_of_ble_eq_true rfl) (show _ = [(a, .inr (3, [.ref q1, .ref q2, .ref q3, .ref q4, .null, .null, .null, .null, .null, .null, .null, .null, .int 0, .int 0, .int 0, .int 0]))] from rfl) dX3_init_33 ?_
  refine w_rg [[(a, .inr (3, [.ref q1, .ref q2, .ref q3, .ref q4, .null, .null, .null, .null, .null, .null, .null, .null, .int 0, .int 0, .int 0, .int 0]))], [(q1, .inl (cZ g, 24, .inl (fun _ => 0)))], [(q2, .inl (cI g, 24, .inl (fun _ => 0)))], [(q3, .inl (cI g, 24, .inl (fun _ => 0)))], [(q4, .inl (cI g, 24, .inl (fun _ => 0)))]] rfl ?_
  refine w_aload_n X 0 rfl dX3_init_36 ?_
  refine w_bipush X (nI 48) dX3_init_37 (by decide +kernel) ?_
  refine w_newi X hA (by decide) ⟨Nat.le_of_ble_eq_true rfl, Nat.le_of_ble_eq_true rfl⟩ dX3_init_39 (fun q5 => ?_)
  refine w_putF X hI 0 0 rfl rfl rfl in_X3 tyX3 tyX3_ok nmX3 4 (by decide) fk_X3_25 rfl rfl rfl rfl rfl (Nat.le_of_ble_eq_true rfl) (show _ = [(a, .inr (3, [.ref q1, .ref q2, .ref q3, .ref q4, .ref q5, .null, .null, .null, .null, .null, .null, .null, .int 0, .int 0, .int 0, .int 0]))] from rfl) dX3_init_41 ?_
  refine w_rg [[(a, .inr (3, [.ref q1, .ref q2, .ref q3, .ref q4, .ref q5, .null, .null, .null, .null, .null, .null, .null, .int 0, .int 0, .int 0, .int 0]))], [(q1, .inl (cZ g, 24, .inl (fun _ => 0)))], [(q2, .inl (cI g, 24, .inl (fun _ => 0)))], [(q3, .inl (cI g, 24, .inl (fun _ => 0)))], [(q4, .inl (cI g, 24, .inl (fun _ => 0)))], [(q5, .inl (cI g, 48, .inl (fun _ => 0)))]] rfl ?_
  refine w_aload_n X 0 rfl dX3_init_44 ?_
  refine w_bipush X (nI 24) dX3_init_45 (by decide +kernel) ?_
  refine w_newz X hA (by decide) ⟨Nat.le_of_ble_eq_true rfl, Nat.le_of_ble_eq_true rfl⟩ dX3_init_47 (fun q6 => ?_)
  refine w_putF X hI 0 0 rfl rfl rfl in_X3 tyX3 tyX3_ok nmX3 5 (by decide) fk_X3_28 rfl rfl rfl rfl rfl (Nat.le_of_ble_eq_true rfl) (show _ = [(a, .inr (3, [.ref q1, .ref q2, .ref q3, .ref q4, .ref q5, .ref q6, .null, .null, .null, .null, .null, .null, .int 0, .int 0, .int 0, .int 0]))] from rfl) dX3_init_49 ?_
  refine w_rg [[(a, .inr (3, [.ref q1, .ref q2, .ref q3, .ref q4, .ref q5, .ref q6, .null, .null, .null, .null, .null, .null, .int 0, .int 0, .int 0, .int 0]))], [(q1, .inl (cZ g, 24, .inl (fun _ => 0)))], [(q2, .inl (cI g, 24, .inl (fun _ => 0)))], [(q3, .inl (cI g, 24, .inl (fun _ => 0)))], [(q4, .inl (cI g, 24, .inl (fun _ => 0)))], [(q5, .inl (cI g, 48, .inl (fun _ => 0)))], [(q6, .inl (cZ g, 24, .inl (fun _ => 0)))]] rfl ?_
  refine w_aload_n X 0 rfl dX3_init_52 ?_
  refine w_bipush X (nI 24) dX3_init_53 (by decide +kernel) ?_
  refine w_newz X hA (by decide) ⟨Nat.le_of_ble_eq_true rfl, Nat.le_of_ble_eq_true rfl⟩ dX3_init_55 (fun q7 => ?_)
  refine w_putF X hI 0 0 rfl rfl rfl in_X3 tyX3 tyX3_ok nmX3 6 (by decide) fk_X3_31 rfl rfl rfl rfl rfl (Nat.le_of_ble_eq_true rfl) (show _ = [(a, .inr (3, [.ref q1, .ref q2, .ref q3, .ref q4, .ref q5, .ref q6, .ref q7, .null, .null, .null, .null, .null, .int 0, .int 0, .int 0, .int 0]))] from rfl) dX3_init_57 ?_
  refine w_rg [[(a, .inr (3, [.ref q1, .ref q2, .ref q3, .ref q4, .ref q5, .ref q6, .ref q7, .null, .null, .null, .null, .null, .int 0, .int 0, .int 0, .int 0]))], [(q1, .inl (cZ g, 24, .inl (fun _ => 0)))], [(q2, .inl (cI g, 24, .inl (fun _ => 0)))], [(q3, .inl (cI g, 24, .inl (fun _ => 0)))], [(q4, .inl (cI g, 24, .inl (fun _ => 0)))], [(q5, .inl (cI g, 48, .inl (fun _ => 0)))], [(q6, .inl (cZ g, 24, .inl (fun _ => 0)))], [(q7, .inl (cZ g, 24, .inl (fun _ => 0)))]] rfl ?_
  refine w_aload_n X 0 rfl dX3_init_60 ?_
  refine w_bipush X (nI 24) dX3_init_61 (by decide +kernel) ?_
  refine w_newi X hA (by decide) ⟨Nat.le_of_ble_eq_true rfl, Nat.le_of_ble_eq_true rfl⟩ dX3_init_63 (fun q8 => ?_)
  refine w_putF X hI 0 0 rfl rfl rfl in_X3 tyX3 tyX3_ok nmX3 7 (by decide) fk_X3_34 rfl rfl rfl rfl rfl (Nat.le_of_ble_eq_true rfl) (show _ = [(a, .inr (3, [.ref q1, .ref q2, .ref q3, .ref q4, .ref q5, .ref q6, .ref q7, .ref q8, .null, .null, .null, .null, .int 0, .int 0, .int 0, .int 0]))] from rfl) dX3_init_65 ?_
  refine w_rg [[(a, .inr (3, [.ref q1, .ref q2, .ref q3, .ref q4, .ref q5, .ref q6, .ref q7, .ref q8, .null, .null, .null, .null, .int 0, .int 0, .int 0, .int 0]))], [(q1, .inl (cZ g, 24, .inl (fun _ => 0)))], [(q2, .inl (cI g, 24, .inl (fun _ => 0)))], [(q3, .inl (cI g, 24, .inl (fun _ => 0)))], [(q4, .inl (cI g, 24, .inl (fun _ => 0)))], [(q5, .inl (cI g, 48, .inl (fun _ => 0)))], [(q6, .inl (cZ g, 24, .inl (fun _ => 0)))], [(q7, .inl (cZ g, 24, .inl (fun _ => 0)))], [(q8, .inl (cI g, 24, .inl (fun _ => 0)))]] rfl ?_
  refine w_aload_n X 0 rfl dX3_init_68 ?_
  refine w_bipush X (nI 6) dX3_init_69 (by decide +kernel) ?_
  refine w_newz X hA (by decide) ⟨Nat.le_of_ble_eq_true rfl, Nat.le_of_ble_eq_true rfl⟩ dX3_init_71 (fun q9 => ?_)
  refine w_putF X hI 0 0 rfl rfl rfl in_X3 tyX3 tyX3_ok nmX3 8 (by decide) fk_X3_37 rfl rfl rfl rfl rfl (Nat.le_of_ble_eq_true rfl) (show _ = [(a, .inr (3, [.ref q1, .ref q2, .ref q3, .ref q4, .ref q5, .ref q6, .ref q7, .ref q8, .ref q9, .null, .null, .null, .int 0, .int 0, .int 0, .int 0]))] from rfl) dX3_init_73 ?_
  refine w_rg [[(a, .inr (3, [.ref q1, .ref q2, .ref q3, .ref q4, .ref q5, .ref q6, .ref q7, .ref q8, .ref q9, .null, .null, .null, .int 0, .int 0, .int 0, .int 0]))], [(q1, .inl (cZ g, 24, .inl (fun _ => 0)))], [(q2, .inl (cI g, 24, .inl (fun _ => 0)))], [(q3, .inl (cI g, 24, .inl (fun _ => 0)))], [(q4, .inl (cI g, 24, .inl (fun _ => 0)))], [(q5, .inl (cI g, 48, .inl (fun _ => 0)))], [(q6, .inl (cZ g, 24, .inl (fun _ => 0)))], [(q7, .inl (cZ g, 24, .inl (fun _ => 0)))], [(q8, .inl (cI g, 24, .inl (fun _ => 0)))], [(q9, .inl (cZ g, 6, .inl (fun _ => 0)))]] rfl ?_
  refine w_aload_n X 0 rfl dX3_init_76 ?_
  refine w_bipush X (nI 6) dX3_init_77 (by decide +kernel) ?_
  refine w_newi X hA (by decide) ⟨Nat.le_of_ble_eq_true rfl, Nat.le_of_ble_eq_true rfl⟩ dX3_init_79 (fun q10 => ?_)
  refine w_putF X hI 0 0 rfl rfl rfl in_X3 tyX3 tyX3_ok nmX3 9 (by decide) fk_X3_40 rfl rfl rfl rfl rfl (Nat.le_of_ble_eq_true rfl) (show _ = [(a, .inr (3, [.ref q1, .ref q2, .ref q3, .ref q4, .ref q5, .ref q6, .ref q7, .ref q8, .ref q9, .ref q10, .null, .null, .int 0, .int 0, .int 0, .int 0]))] from rfl) dX3_init_81 ?_
  refine w_rg [[(a, .inr (3, [.ref q1, .ref q2, .ref q3, .ref q4, .ref q5, .ref q6, .ref q7, .ref q8, .ref q9, .ref q10, .null, .null, .int 0, .int 0, .int 0, .int 0]))], [(q1, .inl (cZ g, 24, .inl (fun _ => 0)))], [(q2, .inl (cI g, 24, .inl (fun _ => 0)))], [(q3, .inl (cI g, 24, .inl (fun _ => 0)))], [(q4, .inl (cI g, 24, .inl (fun _ => 0)))], [(q5, .inl (cI g, 48, .inl (fun _ => 0)))], [(q6, .inl (cZ g, 24, .inl (fun _ => 0)))], [(q7, .inl (cZ g, 24, .inl (fun _ => 0)))], [(q8, .inl (cI g, 24, .inl (fun _ => 0)))], [(q9, .inl (cZ g, 6, .inl (fun _ => 0)))], [(q10, .inl (cI g, 6, .inl (fun _ => 0)))]] rfl ?_
  refine w_aload_n X 0 rfl dX3_init_84 ?_
  refine w_bipush X (nI 6) dX3_init_85 (by decide +kernel) ?_
  refine w_newi X hA (by decide) ⟨Nat.le_of_ble_eq_true rfl, Nat.le_of_ble_eq_true rfl⟩ dX3_init_87 (fun q11 => ?_)
  refine w_putF X hI 0 0 rfl rfl rfl in_X3 tyX3 tyX3_ok nmX3 10 (by decide) fk_X3_43 rfl rfl rfl rfl rfl (Nat.le_of_ble_eq_true rfl) (show _ = [(a, .inr (3, [.ref q1, .ref q2, .ref q3, .ref q4, .ref q5, .ref q6, .ref q7, .ref q8, .ref q9, .ref q10, .ref q11, .null, .int 0, .int 0, .int 0, .int 0]))] from rfl) dX3_init_89 ?_
  refine w_rg [[(a, .inr (3, [.ref q1, .ref q2, .ref q3, .ref q4, .ref q5, .ref q6, .ref q7, .ref q8, .ref q9, .ref q10, .ref q11, .null, .int 0, .int 0, .int 0, .int 0]))], [(q1, .inl (cZ g, 24, .inl (fun _ => 0)))], [(q2, .inl (cI g, 24, .inl (fun _ => 0)))], [(q3, .inl (cI g, 24, .inl (fun _ => 0)))], [(q4, .inl (cI g, 24, .inl (fun _ => 0)))], [(q5, .inl (cI g, 48, .inl (fun _ => 0)))], [(q6, .inl (cZ g, 24, .inl (fun _ => 0)))], [(q7, .inl (cZ g, 24, .inl (fun _ => 0)))], [(q8, .inl (cI g, 24, .inl (fun _ => 0)))], [(q9, .inl (cZ g, 6, .inl (fun _ => 0)))], [(q10, .inl (cI g, 6, .inl (fun _ => 0)))], [(q11, .inl (cI g, 6, .inl (fun _ => 0)))]] rfl ?_
  refine w_aload_n X 0 rfl dX3_init_92 ?_
  refine w_iconst X (nI 2) dX3_init_93 (by decide +kernel) ?_
  refine w_newi X hA (by decide) ⟨Nat.le_of_ble_eq_true rfl, Nat.le_of_ble_eq_true rfl⟩ dX3_init_94 (fun q12 => ?_)
  refine w_putF X hI 0 0 rfl rfl rfl in_X3 tyX3 tyX3_ok nmX3 11 (by decide) fk_X3_46 rfl rfl rfl rfl rfl (Nat.le_of_ble_eq_true rfl) (show _ = [(a, .inr (3, [.ref q1, .ref q2, .ref q3, .ref q4, .ref q5, .ref q6, .ref q7, .ref q8, .ref q9, .ref q10, .ref q11, .ref q12, .int 0, .int 0, .int 0, .int 0]))] from rfl) dX3_init_96 ?_
  refine w_rg [[(a, .inr (3, [.ref q1, .ref q2, .ref q3, .ref q4, .ref q5, .ref q6, .ref q7, .ref q8, .ref q9, .ref q10, .ref q11, .ref q12, .int 0, .int 0, .int 0, .int 0]))], [(q1, .inl (cZ g, 24, .inl (fun _ => 0)))], [(q2, .inl (cI g, 24, .inl (fun _ => 0)))], [(q3, .inl (cI g, 24, .inl (fun _ => 0)))], [(q4, .inl (cI g, 24, .inl (fun _ => 0)))], [(q5, .inl (cI g, 48, .inl (fun _ => 0)))], [(q6, .inl (cZ g, 24, .inl (fun _ => 0)))], [(q7, .inl (cZ g, 24, .inl (fun _ => 0)))], [(q8, .inl (cI g, 24, .inl (fun _ => 0)))], [(q9, .inl (cZ g, 6, .inl (fun _ => 0)))], [(q10, .inl (cI g, 6, .inl (fun _ => 0)))], [(q11, .inl (cI g, 6, .inl (fun _ => 0)))], [(q12, .inl (cI g, 2, .inl (fun _ => 0)))]] rfl ?_
  refine w_iconst X (nI 0) dX3_init_99 (by decide +kernel) ?_
  refine w_istore_n X dX3_init_100 (by decide) ?_
  refine w_rg [stC g (adL [a, q1, q2, q3, q4, q5, q6, q7, q8, q9, q10, q11, q12]) (s0 0)] (by rw [show stC g (adL [a, q1, q2, q3, q4, q5, q6, q7, q8, q9, q10, q11, q12]) (s0 0) = _ from rfl]; rfl) ?_
  refine w_all [1, 0] rfl rfl rfl (w_loop (st := []) (pc := 101) X (V := Nat) (fun k => 48 - k) (fun k => k ≤ 48) (fun k => [(0, .ref a), (1, .int (nI k))]) (fun k => [stC g (adL [a, q1, q2, q3, q4, q5, q6, q7, q8, q9, q10, q11, q12]) (s0 k)]) (fun k hk ih => ?_) 0 (by omega))
  try dsimp only at ih ⊢
  refine w_iload_n X 1 rfl dX3_init_101 ?_
  refine w_bipush X (nI 48) dX3_init_102 (by decide +kernel) ?_
  refine w_nc_ge X (by omega) (by omega) 120 dX3_init_104 (by decide) (fun c104 => ?_) (fun c104 => ?_)
  · have he_k : k = 48 := by omega
    subst he_k
    exact w_vret_me X ⟨(adL [a, q1, q2, q3, q4, q5, q6, q7, q8, q9, q10, q11, q12]), rfl⟩ rfl (Nat.le_of_ble_eq_true rfl) (Nat.le_of_ble_eq_true rfl) dX3_init_120
  · refine w_aload_n X 0 rfl dX3_init_107 ?_
    refine w_get X 0 0 rfl rfl rfl in_X3 4 (by decide) fk_X3_25 rfl dX3_init_108 ?_
    refine w_iload_n X 1 rfl dX3_init_111 ?_
    refine w_iconst X (Int32.ofInt (-1)) dX3_init_112 rfl ?_
    refine w_iast_n X 0 5 0 rfl rfl rfl (by omega) (by decide) (show _ = stC g (adL [a, q1, q2, q3, q4, q5, q6, q7, q8, q9, q10, q11, q12]) (rw2 (s0 k) 4 (upd (s0 k 4) k (Int32.ofInt (-1)))) from rfl) dX3_init_113 ?_
    rw [s0_n]
    refine w_iinc X (nI (k + 1)) 1 rfl (nI_1 _) dX3_init_114 (by decide) ?_
    refine w_goto X 101 dX3_init_117 (by decide) ?_
    exact w_all [1, 0] rfl rfl rfl (ih (k + 1) (by omega) (by omega))
