/-! The model: set, undo, the buffer -/
def undO (v : Nat) : OC := if v = 0 then .inr iSE else rI (nI (v - 1))
def UQ (v : Nat) (μ μ' : Nat → Nat → Int32) : Prop := μ' 3 = μ 3 ∧ μ' 4 = μ 4 ∧ μ' 5 0 = nI (cO [iSE] (undO v)) ∧ (v = 0 → ∀ j, j < 5 → μ' j = μ j) ∧ (¬ v = 0 → μ' 1 = μ 1 ∧ μ' 2 0 = nI (v - 1) ∧ ∀ i, i < 240 → μ' 0 i = μ 1 (240 * (v - 1) + i))
def appO (t : Nat) (q : Int32) : OC := if digB q (nI 33) (nI 126) = false then .inr iAE else if t = 60 then .inr iSE else rI (nI (t + 1))
def AQ (cd : Nat → Nat) (t : Nat) (q : Int32) (μ μ' : Nat → Nat → Int32) : Prop := (∀ j, j < 3 → μ' j = μ j) ∧ μ' 5 0 = nI (cO [iAE, iSE] (appO t q)) ∧ match appO t q with
  | .inl _ => ∃ y, nI y = q ∧ 33 ≤ y ∧ y ≤ 126 ∧ TXM μ' (fun i => if i = t then y else cd i) (t + 1)
  | .inr _ => μ' 3 = μ 3 ∧ μ' 4 = μ 4
theorem dig_33 {x : Int32} (h : digB x (nI 33) (nI 126) = true) : ∃ q, 33 ≤ q ∧ q ≤ 126 ∧ x = nI q := by
  rw [digB] at h
  split at h
  · cases h
  · rename_i c1
    split at h
    · cases h
    · rename_i c2
      have e1 : (nI 33).toInt = 33 := nI_toInt (by decide)
      have e2 : (nI 126).toInt = 126 := nI_toInt (by decide)
      rw [Int32.lt_iff_toInt_lt, e1] at c1
      rw [Int32.lt_iff_toInt_lt, e2] at c2
      exact ⟨x.toInt.toNat, by omega, by omega, Int32.toInt_inj.mp (by rw [nI_toInt (by omega)]; omega)⟩
theorem aq_r {cd : Nat → Nat} {t : Nat} {q : Int32} {μ μ' : Nat → Nat → Int32} {E : String} (h : appO t q = .inr E) (l : lk μ μ' (cO [iAE, iSE] (.inr E))) : AQ cd t q μ μ' := by
  refine ⟨fun j hj => l.1 j (by omega), by rw [h]; exact l.2, ?_⟩
  rw [h]
  exact ⟨l.1 3 (by decide), l.1 4 (by decide)⟩
theorem aq_l {cd : Nat → Nat} {t y : Nat} {μ μ' : Nat → Nat → Int32} (h : appO t (nI y) = rI (nI (t + 1))) (h1 : ∀ j, j < 3 → μ' j = μ j) (h5 : μ' 5 0 = nI 0) (hy : 33 ≤ y) (hy2 : y ≤ 126) (ht : t < 60) (hT : TXM μ cd t) (h4 : μ' 4 0 = nI (t + 1)) (h3 : μ' 3 = upd (μ 3) t (nI y)) : AQ cd t (nI y) μ μ' := by
  refine ⟨h1, by rw [h, h5]; rfl, ?_⟩
  rw [h]
  refine ⟨y, rfl, hy, hy2, h4, by omega, fun i hi => ?_⟩
  dsimp only
  rw [h3, upd_e]
  by_cases e : i = t
  · rw [if_pos e, if_pos e]; exact ⟨rfl, hy, hy2⟩
  · rw [if_neg e, if_neg e]; exact hT.2.2 i (by omega)
theorem aq_pair {a : Prop} (h : a) : a := h
set_option maxRecDepth 100000 in
set_option maxHeartbeats 4000000 in
theorem m_X6_set (l : Launch) (g : GG) (ad : Nat → Nat) (μ : Nat → Nat → Int32) (σ : Nat → Nat → Int32) (v : Nat) (x : Int32) (y : Int32) (hR : RI σ (μ 0)) (hv : μ 2 0 = nI v) (hv6 : v ≤ 6) : MME (U := {μ' : Nat → Nat → Int32 // MC (seS σ x.toNatClampNeg y) (sttO σ x y) [iOE, iAE] v μ μ'}) l g yX6_set cX6_set 4 (some .int) 4 0 0 [.ref (ad 0), .int (x), .int (y)] [moC g ad μ] (some (.int (vO (sttO σ x y)))) (fun u => [moC g ad u.1]) := by
  refine mk_me (by decide +kernel) (Nat.le_of_ble_eq_true rfl) (fun p e s m below meth c A hA X => ?_)
  refine w_aload_n X 0 rfl dX6_set_0 ?_
  refine w_iconst X (nI 0) dX6_set_1 (by decide +kernel) ?_
  refine w_put X 0 0 rfl rfl rfl in_X6 tyX6 tyX6_ok nmX6 5 (by decide) fk_X6_35 rfl rfl rfl rfl (Nat.le_of_ble_eq_true rfl) (show _ = moC g ad (rw2 μ 5 (fun _ => nI (0))) from rfl) dX6_set_2 ?_
  refine w_iload_n X 1 rfl dX6_set_5 ?_
  refine w_iconst X (nI 0) dX6_set_6 (by decide +kernel) ?_
  refine w_iconst X (nI 1) dX6_set_7 (by decide +kernel) ?_
  refine w_roS X [] (m_X6_in l g (x) (nI (0)) (nI (1))) cs_X6_in mk_X6_39 rfl rfl ⟨Nat.le_of_ble_eq_true rfl, Nat.le_of_ble_eq_true rfl⟩ (Nat.le_of_ble_eq_true rfl) ⟨Nat.le_of_ble_eq_true rfl, Nat.le_of_ble_eq_true rfl⟩ dX6_set_8 rfl ?_
  refine w_bf_ne X 20 dX6_set_11 (by decide) (fun c11 => ?_) (fun c11 => ?_)
  · obtain ⟨i, hi, rfl⟩ := dig_ex (by decide) c11
    refine w_iload_n X 2 rfl dX6_set_20 ?_
    refine w_iconst X (nI 0) dX6_set_21 (by decide +kernel) ?_
    refine w_iconst X (nI 1) dX6_set_22 (by decide +kernel) ?_
    refine w_iload_n X 1 rfl dX6_set_23 ?_
    refine w_iadd_n X dX6_set_24 ?_
    refine w_roS X [] (m_X6_in l g (y) (nI (0)) (nI (1 + i))) cs_X6_in mk_X6_39 rfl rfl ⟨Nat.le_of_ble_eq_true rfl, Nat.le_of_ble_eq_true rfl⟩ (Nat.le_of_ble_eq_true rfl) ⟨Nat.le_of_ble_eq_true rfl, Nat.le_of_ble_eq_true rfl⟩ dX6_set_25 rfl ?_
    refine w_bf_ne X 37 dX6_set_28 (by decide) (fun c28 => ?_) (fun c28 => ?_)
    · obtain ⟨y1, hy1, rfl⟩ := dig_ex (n := 1 + i) (by omega) c28
      refine w_aload_n X 0 rfl dX6_set_37 ?_
      refine w_meV X hA (U := {μ' : Nat → Nat → Int32 // SQ (rw2 μ 5 (fun _ => nI (0))) μ' v}) (gr := []) (gs1 := fun u => [moC g ad u.1]) [0] [] 0 0 (m_X6_saves l g ad (rw2 μ 5 (fun _ => nI (0))) v (hv) (hv6)) cv_X6_saves mk_X6_97 rfl rfl rfl (ng := 1) rfl (by decide) (fun _ => rfl) (fun _ => rfl) (fun _ => rfl) rfl rfl rfl ⟨Nat.le_of_ble_eq_true rfl, Nat.le_of_ble_eq_true rfl⟩ (Nat.le_of_ble_eq_true rfl) ⟨Nat.le_of_ble_eq_true rfl, Nat.le_of_ble_eq_true rfl⟩ dX6_set_38 rfl (fun u => ?_)
      obtain ⟨μ1, hμ1⟩ := u
      try dsimp only
      have hR1 : RI σ (μ1 0) := sq_R hμ1 hR
      refine w_aload_n X 0 rfl dX6_set_41 ?_
      refine w_get X 0 0 rfl rfl rfl in_X6 0 (by decide) fk_X6_7 rfl dX6_set_42 ?_
      refine w_iconst X (nI 0) dX6_set_45 (by decide +kernel) ?_
      refine w_iload_n X 1 rfl dX6_set_46 ?_
      refine w_iadd_n X dX6_set_47 ?_
      refine w_iald_n X 0 1 0 rfl rfl rfl (by omega) (by decide) dX6_set_48 ?_
      refine w_istore_n X dX6_set_49 (by decide) ?_
      refine w_aload_n X 1 rfl dX6_set_50 ?_
      refine w_get X 0 0 rfl rfl rfl in_X6 0 (by decide) fk_X6_7 rfl dX6_set_51 ?_
      refine w_iconst X (nI 0) dX6_set_54 (by decide +kernel) ?_
      refine w_iload_n X 2 rfl dX6_set_55 ?_
      refine w_iadd_n X dX6_set_56 ?_
      refine w_iload_n X 3 rfl dX6_set_57 ?_
      refine w_iast_n X 0 1 0 rfl rfl rfl (by omega) (by decide) (show _ = moC g ad (rw2 μ1 0 (upd (μ1 0) (0 + i) (nI (y1)))) from rfl) dX6_set_58 ?_
      refine w_iload_n X 0 rfl dX6_set_59 ?_
      exact w_iret_me X ⟨rw2 μ1 0 (upd (μ1 0) (0 + i) (nI (y1))), by rw [sttO, if_neg (by rw [c11]; decide), nI_clamp (by omega), if_neg (by rw [c28]; decide)]; exact mc_l hμ1 (fun j hj => rw2_n _ _ hj) (by rw [Nat.zero_add]; exact ri_set hR1 hi (by rcases (show i = 0 ∨ i = 1 by omega) with h | h <;> subst h; (rcases (show y1 = 0 ∨ y1 = 1 by omega) with g | g <;> subst g; (exact Or.inl ⟨rfl, Or.inl rfl⟩); (exact Or.inl ⟨rfl, Or.inr rfl⟩)); (rcases (show y1 = 0 ∨ y1 = 1 ∨ y1 = 2 by omega) with g | g | g <;> subst g; (exact Or.inr ⟨rfl, Or.inl rfl⟩); (exact Or.inr ⟨rfl, Or.inr (Or.inl rfl)⟩); (exact Or.inr ⟨rfl, Or.inr (Or.inr rfl)⟩))))⟩ (by rw [sttO, if_neg (by rw [c11]; decide), nI_clamp (by omega), if_neg (by rw [c28]; decide)]; rw [Nat.zero_add]; rcases (show i = 0 ∨ i = 1 by omega) with h | h <;> subst h; (exact hR1.2.1.1); (exact hR1.2.1.2.1)) rfl (Nat.le_of_ble_eq_true rfl) (Nat.le_of_ble_eq_true rfl) dX6_set_60
    · refine w_aload_n X 0 rfl dX6_set_31 ?_
      refine w_iconst X (nI 2) dX6_set_32 (by decide +kernel) ?_
      refine w_muV X hA (gr := []) (gs1 := [moC g ad (rw2 (rw2 μ 5 (fun _ => nI (0))) 5 (fun _ => nI 2))]) [0] [] 0 0 (m_X6_fails l g ad (rw2 μ 5 (fun _ => nI (0))) 2) cv_X6_fails mk_X6_50 rfl rfl rfl (ng := 1) rfl (by decide) rfl rfl rfl rfl rfl rfl ⟨Nat.le_of_ble_eq_true rfl, Nat.le_of_ble_eq_true rfl⟩ (Nat.le_of_ble_eq_true rfl) ⟨Nat.le_of_ble_eq_true rfl, Nat.le_of_ble_eq_true rfl⟩ dX6_set_33 rfl ?_
      exact w_iret_me X ⟨rw2 (rw2 μ 5 (fun _ => nI (0))) 5 (fun _ => nI 2), by rw [sttO, if_neg (by rw [c11]; decide), nI_clamp (by omega), if_pos c28]; exact mc_r (lk_1 _ _ _)⟩ (by rw [sttO, if_neg (by rw [c11]; decide), nI_clamp (by omega), if_pos c28]; rfl) rfl (Nat.le_of_ble_eq_true rfl) (Nat.le_of_ble_eq_true rfl) dX6_set_36
  · refine w_aload_n X 0 rfl dX6_set_14 ?_
    refine w_iconst X (nI 1) dX6_set_15 (by decide +kernel) ?_
    refine w_muV X hA (gr := []) (gs1 := [moC g ad (rw2 (rw2 μ 5 (fun _ => nI (0))) 5 (fun _ => nI 1))]) [0] [] 0 0 (m_X6_fails l g ad (rw2 μ 5 (fun _ => nI (0))) 1) cv_X6_fails mk_X6_50 rfl rfl rfl (ng := 1) rfl (by decide) rfl rfl rfl rfl rfl rfl ⟨Nat.le_of_ble_eq_true rfl, Nat.le_of_ble_eq_true rfl⟩ (Nat.le_of_ble_eq_true rfl) ⟨Nat.le_of_ble_eq_true rfl, Nat.le_of_ble_eq_true rfl⟩ dX6_set_16 rfl ?_
    exact w_iret_me X ⟨rw2 (rw2 μ 5 (fun _ => nI (0))) 5 (fun _ => nI 1), by rw [sttO, if_pos c11]; exact mc_r (lk_1 _ _ _)⟩ (by rw [sttO, if_pos c11]; rfl) rfl (Nat.le_of_ble_eq_true rfl) (Nat.le_of_ble_eq_true rfl) dX6_set_19
set_option maxRecDepth 100000 in
set_option maxHeartbeats 4000000 in
theorem m_X6_undo (l : Launch) (g : GG) (ad : Nat → Nat) (μ : Nat → Nat → Int32) (v : Nat) (hv : μ 2 0 = nI v) (hv6 : v ≤ 6) : MME (U := {μ' : Nat → Nat → Int32 // UQ v μ μ'}) l g yX6_undo cX6_undo 2 (some .int) 2 0 0 [.ref (ad 0)] [moC g ad μ] (some (.int (vO (undO v)))) (fun u => [moC g ad u.1]) := by
  refine mk_me (by decide +kernel) (Nat.le_of_ble_eq_true rfl) (fun p e s m below meth c A hA X => ?_)
  refine w_aload_n X 0 rfl dX6_undo_0 ?_
  refine w_iconst X (nI 0) dX6_undo_1 (by decide +kernel) ?_
  refine w_put X 0 0 rfl rfl rfl in_X6 tyX6 tyX6_ok nmX6 5 (by decide) fk_X6_35 rfl rfl rfl rfl (Nat.le_of_ble_eq_true rfl) (show _ = moC g ad (rw2 μ 5 (fun _ => nI (0))) from rfl) dX6_undo_2 ?_
  refine w_aload_n X 0 rfl dX6_undo_5 ?_
  refine w_get X 0 0 rfl rfl rfl in_X6 2 (by decide) fk_X6_47 rfl dX6_undo_6 ?_
  refine w_st (st2 := [.int (μ 2 0)]) rfl ?_
  refine w_st (st2 := [.int (nI v)]) (by exact congrArg (fun v => Value.int v :: _) (hv)) ?_
  refine w_nf_ne X (by omega) 18 dX6_undo_9 (by decide) (fun c9 => ?_) (fun c9 => ?_)
  · refine w_aload_n X 0 rfl dX6_undo_18 ?_
    refine w_dup X dX6_undo_19 rfl ?_
    refine w_get X 0 0 rfl rfl rfl in_X6 2 (by decide) fk_X6_47 rfl dX6_undo_20 ?_
    refine w_st (st2 := [.int (μ 2 0), .ref (ad 0)]) rfl ?_
    refine w_st (st2 := [.int (nI v), .ref (ad 0)]) (by exact congrArg (fun v => Value.int v :: _) (hv)) ?_
    refine w_iconst X (nI 1) dX6_undo_23 (by decide +kernel) ?_
    refine w_isub_n X (by omega) dX6_undo_24 ?_
    refine w_put X 0 0 rfl rfl rfl in_X6 tyX6 tyX6_ok nmX6 2 (by decide) fk_X6_47 rfl rfl rfl rfl (Nat.le_of_ble_eq_true rfl) (show _ = moC g ad (rw2 (rw2 μ 5 (fun _ => nI (0))) 2 (fun _ => nI (v - 1))) from rfl) dX6_undo_25 ?_
    refine w_iconst X (nI 0) dX6_undo_28 (by decide +kernel) ?_
    refine w_istore_n X dX6_undo_29 (by decide) ?_
    refine w_all [1, 0] (rfl) (rfl) rfl (w_loop (st := []) (pc := 30) X (V := Nat × (Nat → Nat → Int32)) (fun (v30 : Nat × (Nat → Nat → Int32)) => 240 - v30.1) (fun (v30 : Nat × (Nat → Nat → Int32)) => (v30.1 ≤ 240) ∧ (∀ j, j ≠ 0 → j ≠ 2 → j ≠ 5 → v30.2 j = μ j) ∧ (v30.2 2 0 = nI (v - 1)) ∧ (v30.2 5 0 = nI 0) ∧ (∀ j, j < v30.1 → v30.2 0 j = μ 1 (240 * (v - 1) + j))) (fun (v30 : Nat × (Nat → Nat → Int32)) => [(0, .ref (ad 0)), (1, .int (nI v30.1))]) (fun (v30 : Nat × (Nat → Nat → Int32)) => [moC g ad v30.2]) (fun v30 hv30 ih30 => ?_) (0, rw2 (rw2 μ 5 (fun _ => nI (0))) 2 (fun _ => nI (v - 1))) (by (try dsimp only); exact ⟨by omega, fun j a b c => (rw2_n _ _ b).trans (rw2_n _ _ c), rfl, rfl, fun j h => by omega⟩))
    obtain ⟨i, μ2⟩ := v30
    obtain ⟨hi, hB, h2, h5, hD⟩ := hv30
    try dsimp only at hi hB h2 h5 hD ih30 ⊢
    refine w_iload_n X 1 rfl dX6_undo_30 ?_
    refine w_sipush X (nI 240) dX6_undo_31 (by decide +kernel) ?_
    refine w_nc_ge X (by omega) (by omega) 64 dX6_undo_34 (by decide) (fun c34 => ?_) (fun c34 => ?_)
    · refine w_aload_n X 0 rfl dX6_undo_64 ?_
      refine w_get X 0 0 rfl rfl rfl in_X6 2 (by decide) fk_X6_47 rfl dX6_undo_65 ?_
      refine w_st (st2 := [.int (nI (v - 1))]) (by exact congrArg (fun v => Value.int v :: _) (h2)) ?_
      exact w_iret_me X ⟨μ2, hB 3 (by decide) (by decide) (by decide), hB 4 (by decide) (by decide) (by decide), by rw [undO, if_neg c9]; exact h5, fun z => absurd z c9, fun _ => ⟨hB 1 (by decide) (by decide) (by decide), h2, fun i2 hi2 => hD i2 (by omega)⟩⟩ (by rw [undO, if_neg c9]; rfl) rfl (Nat.le_of_ble_eq_true rfl) (Nat.le_of_ble_eq_true rfl) dX6_undo_68
    · refine w_aload_n X 0 rfl dX6_undo_37 ?_
      refine w_get X 0 0 rfl rfl rfl in_X6 0 (by decide) fk_X6_7 rfl dX6_undo_38 ?_
      refine w_iload_n X 1 rfl dX6_undo_41 ?_
      refine w_aload_n X 0 rfl dX6_undo_42 ?_
      refine w_get X 0 0 rfl rfl rfl in_X6 1 (by decide) fk_X6_13 rfl dX6_undo_43 ?_
      refine w_sipush X (nI 240) dX6_undo_46 (by decide +kernel) ?_
      refine w_aload_n X 0 rfl dX6_undo_49 ?_
      refine w_get X 0 0 rfl rfl rfl in_X6 2 (by decide) fk_X6_47 rfl dX6_undo_50 ?_
      refine w_st (st2 := [.int (nI (v - 1)), .int (nI 240), .ref (ad 2), .int (nI i), .ref (ad 1)]) (by exact congrArg (fun v => Value.int v :: _) (h2)) ?_
      refine w_imul_n X dX6_undo_53 ?_
      refine w_iload_n X 1 rfl dX6_undo_54 ?_
      refine w_iadd_n X dX6_undo_55 ?_
      refine w_iald_n X 0 2 0 rfl rfl rfl (by omega) (by decide) dX6_undo_56 ?_
      refine w_iast_n X 0 1 0 rfl rfl rfl (by omega) (by decide) (show _ = moC g ad (rw2 μ2 0 (upd (μ2 0) i ((μ2 1 ((240 * (v - 1)) + i))))) from rfl) dX6_undo_57 ?_
      refine w_iinc X (nI (i + 1)) 1 rfl (nI_1 _) dX6_undo_58 (by decide) ?_
      refine w_goto X 30 dX6_undo_61 (by decide) ?_
      exact w_all [1, 0] (rfl) (rfl) rfl (ih30 (i + 1, rw2 μ2 0 (upd (μ2 0) i ((μ2 1 ((240 * (v - 1)) + i))))) (by omega) (by (try dsimp only); exact ⟨by omega, fun j a b c => (rw2_n _ _ a).trans (hB j a b c), h2, h5, fun j hj => by rw [rw2_s, upd_e]; exact (Decidable.em (j = i)).elim (fun e => by rw [if_pos e, e]; exact congrFun (hB 1 (by decide) (by decide) (by decide)) _) (fun e => by rw [if_neg e]; exact hD j (by omega))⟩))
  · refine w_aload_n X 0 rfl dX6_undo_12 ?_
    refine w_iconst X (nI 1) dX6_undo_13 (by decide +kernel) ?_
    refine w_muV X hA (gr := []) (gs1 := [moC g ad (rw2 (rw2 μ 5 (fun _ => nI (0))) 5 (fun _ => nI 1))]) [0] [] 0 0 (m_X6_fails l g ad (rw2 μ 5 (fun _ => nI (0))) 1) cv_X6_fails mk_X6_50 rfl rfl rfl (ng := 1) rfl (by decide) rfl rfl rfl rfl rfl rfl ⟨Nat.le_of_ble_eq_true rfl, Nat.le_of_ble_eq_true rfl⟩ (Nat.le_of_ble_eq_true rfl) ⟨Nat.le_of_ble_eq_true rfl, Nat.le_of_ble_eq_true rfl⟩ dX6_undo_14 rfl ?_
    exact w_iret_me X ⟨rw2 (rw2 μ 5 (fun _ => nI (0))) 5 (fun _ => nI 1), rfl, rfl, by rw [undO, if_pos c9]; rfl, fun _ j hj => (rw2_n _ _ (by omega)).trans (rw2_n _ _ (by omega)), fun z => absurd c9 z⟩ (by rw [undO, if_pos c9]; rfl) rfl (Nat.le_of_ble_eq_true rfl) (Nat.le_of_ble_eq_true rfl) dX6_undo_17
set_option maxRecDepth 100000 in
set_option maxHeartbeats 4000000 in
theorem m_X6_append (l : Launch) (g : GG) (ad : Nat → Nat) (μ : Nat → Nat → Int32) (cd : Nat → Nat) (t : Nat) (q : Int32) (hT : TXM μ cd t) : MME (U := {μ' : Nat → Nat → Int32 // AQ cd t q μ μ'}) l g yX6_append cX6_append 2 (some .int) 3 0 0 [.ref (ad 0), .int (q)] [moC g ad μ] (some (.int (vO (appO t q)))) (fun u => [moC g ad u.1]) := by
  refine mk_me (by decide +kernel) (Nat.le_of_ble_eq_true rfl) (fun p e s m below meth c A hA X => ?_)
  have ht60 := hT.2.1
  refine w_aload_n X 0 rfl dX6_append_0 ?_
  refine w_iconst X (nI 0) dX6_append_1 (by decide +kernel) ?_
  refine w_put X 0 0 rfl rfl rfl in_X6 tyX6 tyX6_ok nmX6 5 (by decide) fk_X6_35 rfl rfl rfl rfl (Nat.le_of_ble_eq_true rfl) (show _ = moC g ad (rw2 μ 5 (fun _ => nI (0))) from rfl) dX6_append_2 ?_
  refine w_iload_n X 1 rfl dX6_append_5 ?_
  refine w_bipush X (nI 33) dX6_append_6 (by decide +kernel) ?_
  refine w_bipush X (nI 126) dX6_append_8 (by decide +kernel) ?_
  refine w_roS X [] (m_X6_in l g (q) (nI (33)) (nI (126))) cs_X6_in mk_X6_39 rfl rfl ⟨Nat.le_of_ble_eq_true rfl, Nat.le_of_ble_eq_true rfl⟩ (Nat.le_of_ble_eq_true rfl) ⟨Nat.le_of_ble_eq_true rfl, Nat.le_of_ble_eq_true rfl⟩ dX6_append_10 rfl ?_
  refine w_bf_ne X 22 dX6_append_13 (by decide) (fun c13 => ?_) (fun c13 => ?_)
  · obtain ⟨y, hy, hy2, rfl⟩ := dig_33 c13
    refine w_aload_n X 0 rfl dX6_append_22 ?_
    refine w_get X 0 0 rfl rfl rfl in_X6 4 (by decide) fk_X6_137 rfl dX6_append_23 ?_
    refine w_st (st2 := [.int (μ 4 0)]) rfl ?_
    refine w_st (st2 := [.int (nI t)]) (by exact congrArg (fun v => Value.int v :: _) (hT.1)) ?_
    refine w_bipush X (nI 60) dX6_append_26 (by decide +kernel) ?_
    refine w_nc_ne X (by omega) (by omega) 37 dX6_append_28 (by decide) (fun c28 => ?_) (fun c28 => ?_)
    · refine w_aload_n X 0 rfl dX6_append_37 ?_
      refine w_get X 0 0 rfl rfl rfl in_X6 3 (by decide) fk_X6_16 rfl dX6_append_38 ?_
      refine w_aload_n X 0 rfl dX6_append_41 ?_
      refine w_get X 0 0 rfl rfl rfl in_X6 4 (by decide) fk_X6_137 rfl dX6_append_42 ?_
      refine w_st (st2 := [.int (μ 4 0), .ref (ad 3)]) rfl ?_
      refine w_st (st2 := [.int (nI t), .ref (ad 3)]) (by exact congrArg (fun v => Value.int v :: _) (hT.1)) ?_
      refine w_iload_n X 1 rfl dX6_append_45 ?_
      refine w_iast_n X 0 3 0 rfl rfl rfl (by omega) (by decide) (show _ = moC g ad (rw2 (rw2 μ 5 (fun _ => nI (0))) 3 (upd (μ 3) t (nI (y)))) from rfl) dX6_append_46 ?_
      refine w_aload_n X 0 rfl dX6_append_47 ?_
      refine w_dup X dX6_append_48 rfl ?_
      refine w_get X 0 0 rfl rfl rfl in_X6 4 (by decide) fk_X6_137 rfl dX6_append_49 ?_
      refine w_st (st2 := [.int (μ 4 0), .ref (ad 0)]) rfl ?_
      refine w_st (st2 := [.int (nI t), .ref (ad 0)]) (by exact congrArg (fun v => Value.int v :: _) (hT.1)) ?_
      refine w_iconst X (nI 1) dX6_append_52 (by decide +kernel) ?_
      refine w_iadd_n X dX6_append_53 ?_
      refine w_put X 0 0 rfl rfl rfl in_X6 tyX6 tyX6_ok nmX6 4 (by decide) fk_X6_137 rfl rfl rfl rfl (Nat.le_of_ble_eq_true rfl) (show _ = moC g ad (rw2 (rw2 (rw2 μ 5 (fun _ => nI (0))) 3 (upd (μ 3) t (nI (y)))) 4 (fun _ => nI (t + 1))) from rfl) dX6_append_54 ?_
      refine w_aload_n X 0 rfl dX6_append_57 ?_
      refine w_get X 0 0 rfl rfl rfl in_X6 4 (by decide) fk_X6_137 rfl dX6_append_58 ?_
      refine w_st (st2 := [.int (nI (t + 1))]) rfl ?_
      exact w_iret_me X ⟨rw2 (rw2 (rw2 μ 5 (fun _ => nI (0))) 3 (upd (μ 3) t (nI (y)))) 4 (fun _ => nI (t + 1)), aq_pair (aq_l (by rw [appO, if_neg (by rw [c13]; decide), if_neg c28]) (fun j hj => (rw2_n _ _ (by omega)).trans ((rw2_n _ _ (by omega)).trans (rw2_n _ _ (by omega)))) rfl hy hy2 (by omega) hT rfl rfl)⟩ (by rw [appO, if_neg (by rw [c13]; decide), if_neg c28]; rfl) rfl (Nat.le_of_ble_eq_true rfl) (Nat.le_of_ble_eq_true rfl) dX6_append_61
    · refine w_aload_n X 0 rfl dX6_append_31 ?_
      refine w_iconst X (nI 2) dX6_append_32 (by decide +kernel) ?_
      refine w_muV X hA (gr := []) (gs1 := [moC g ad (rw2 (rw2 μ 5 (fun _ => nI (0))) 5 (fun _ => nI 2))]) [0] [] 0 0 (m_X6_fails l g ad (rw2 μ 5 (fun _ => nI (0))) 2) cv_X6_fails mk_X6_50 rfl rfl rfl (ng := 1) rfl (by decide) rfl rfl rfl rfl rfl rfl ⟨Nat.le_of_ble_eq_true rfl, Nat.le_of_ble_eq_true rfl⟩ (Nat.le_of_ble_eq_true rfl) ⟨Nat.le_of_ble_eq_true rfl, Nat.le_of_ble_eq_true rfl⟩ dX6_append_33 rfl ?_
      exact w_iret_me X ⟨rw2 (rw2 μ 5 (fun _ => nI (0))) 5 (fun _ => nI 2), aq_pair (aq_r (by rw [appO, if_neg (by rw [c13]; decide), if_pos c28]) (lk_1 _ _ _))⟩ (by rw [appO, if_neg (by rw [c13]; decide), if_pos c28]; rfl) rfl (Nat.le_of_ble_eq_true rfl) (Nat.le_of_ble_eq_true rfl) dX6_append_36
  · refine w_aload_n X 0 rfl dX6_append_16 ?_
    refine w_iconst X (nI 1) dX6_append_17 (by decide +kernel) ?_
    refine w_muV X hA (gr := []) (gs1 := [moC g ad (rw2 (rw2 μ 5 (fun _ => nI (0))) 5 (fun _ => nI 1))]) [0] [] 0 0 (m_X6_fails l g ad (rw2 μ 5 (fun _ => nI (0))) 1) cv_X6_fails mk_X6_50 rfl rfl rfl (ng := 1) rfl (by decide) rfl rfl rfl rfl rfl rfl ⟨Nat.le_of_ble_eq_true rfl, Nat.le_of_ble_eq_true rfl⟩ (Nat.le_of_ble_eq_true rfl) ⟨Nat.le_of_ble_eq_true rfl, Nat.le_of_ble_eq_true rfl⟩ dX6_append_18 rfl ?_
    exact w_iret_me X ⟨rw2 (rw2 μ 5 (fun _ => nI (0))) 5 (fun _ => nI 1), aq_pair (aq_r (by rw [appO, if_pos c13]) (lk_1 _ _ _))⟩ (by rw [appO, if_pos c13]; rfl) rfl (Nat.le_of_ble_eq_true rfl) (Nat.le_of_ble_eq_true rfl) dX6_append_21
set_option maxRecDepth 100000 in
set_option maxHeartbeats 4000000 in
theorem m_X6_clearBuffer (l : Launch) (g : GG) (ad : Nat → Nat) (μ : Nat → Nat → Int32) (cd : Nat → Nat) (t : Nat) (hT : TXM μ cd t) : MME (U := {μ' : Nat → Nat → Int32 // (∀ j, j < 4 → μ' j = μ j) ∧ μ' 5 0 = nI 0 ∧ TXM μ' cd 0}) l g yX6_clearBuffer cX6_clearBuffer 2 (some .int) 0 0 0 [.ref (ad 0)] [moC g ad μ] (some (.int (nI t))) (fun u => [moC g ad u.1]) := by
  refine mk_me (by decide +kernel) (Nat.le_of_ble_eq_true rfl) (fun p e s m below meth c A hA X => ?_)
  refine w_aload_n X 0 rfl dX6_clearBuffer_0 ?_
  refine w_iconst X (nI 0) dX6_clearBuffer_1 (by decide +kernel) ?_
  refine w_put X 0 0 rfl rfl rfl in_X6 tyX6 tyX6_ok nmX6 5 (by decide) fk_X6_35 rfl rfl rfl rfl (Nat.le_of_ble_eq_true rfl) (show _ = moC g ad (rw2 μ 5 (fun _ => nI (0))) from rfl) dX6_clearBuffer_2 ?_
  refine w_aload_n X 0 rfl dX6_clearBuffer_5 ?_
  refine w_get X 0 0 rfl rfl rfl in_X6 4 (by decide) fk_X6_137 rfl dX6_clearBuffer_6 ?_
  refine w_st (st2 := [.int (μ 4 0)]) rfl ?_
  refine w_st (st2 := [.int (nI t)]) (by exact congrArg (fun v => Value.int v :: _) (hT.1)) ?_
  refine w_istore_n X dX6_clearBuffer_9 (by decide) ?_
  refine w_aload_n X 1 rfl dX6_clearBuffer_10 ?_
  refine w_iconst X (nI 0) dX6_clearBuffer_11 (by decide +kernel) ?_
  refine w_put X 0 0 rfl rfl rfl in_X6 tyX6 tyX6_ok nmX6 4 (by decide) fk_X6_137 rfl rfl rfl rfl (Nat.le_of_ble_eq_true rfl) (show _ = moC g ad (rw2 (rw2 μ 5 (fun _ => nI (0))) 4 (fun _ => nI (0))) from rfl) dX6_clearBuffer_12 ?_
  refine w_iload_n X 0 rfl dX6_clearBuffer_15 ?_
  exact w_iret_me X ⟨rw2 (rw2 μ 5 (fun _ => nI (0))) 4 (fun _ => nI (0)), fun j hj => (rw2_n _ _ (by omega)).trans (rw2_n _ _ (by omega)), rfl, rfl, by omega, fun i hi => by omega⟩ (by first | rfl | (subst he_i; rfl) | simp (decide := true) [bI]) rfl (Nat.le_of_ble_eq_true rfl) (Nat.le_of_ble_eq_true rfl) dX6_clearBuffer_16
set_option maxRecDepth 100000 in
set_option maxHeartbeats 4000000 in
theorem m_X6_firstError (l : Launch) (g : GG) (ad : Nat → Nat) (μ : Nat → Nat → Int32) (cd : Nat → Nat) (t : Nat) (τ : Nat → Nat → Int32) (hT : TXM μ cd t) (hτ : RTX τ cd t) : MME (U := {μ' : Nat → Nat → Int32 // lk μ μ' 0}) l g yX6_firstError cX6_firstError 2 (some .int) 6 0 0 [.ref (ad 0)] [moC g ad μ] (some (.int (errL τ 60 0 (nI 0)))) (fun u => [moC g ad u.1]) := by
  refine mk_me (by decide +kernel) (Nat.le_of_ble_eq_true rfl) (fun p e s m below meth c A hA X => ?_)
  refine w_aload_n X 0 rfl dX6_firstError_0 ?_
  refine w_iconst X (nI 0) dX6_firstError_1 (by decide +kernel) ?_
  refine w_put X 0 0 rfl rfl rfl in_X6 tyX6 tyX6_ok nmX6 5 (by decide) fk_X6_35 rfl rfl rfl rfl (Nat.le_of_ble_eq_true rfl) (show _ = moC g ad (rw2 μ 5 (fun _ => nI (0))) from rfl) dX6_firstError_2 ?_
  refine w_aload_n X 0 rfl dX6_firstError_5 ?_
  refine w_meV X hA (U := {μ' : Nat → Nat → Int32 // TQ τ cd t (rw2 μ 5 (fun _ => nI (0))) μ'}) (gr := []) (gs1 := fun u => [moC g ad u.1]) [0] [] 0 0 (m_X6_isText l g ad (rw2 μ 5 (fun _ => nI (0))) cd t τ (hT) (hτ)) cv_X6_isText mk_X6_169 rfl rfl rfl (ng := 1) rfl (by decide) (fun _ => rfl) (fun _ => rfl) (fun _ => rfl) rfl rfl rfl ⟨Nat.le_of_ble_eq_true rfl, Nat.le_of_ble_eq_true rfl⟩ (Nat.le_of_ble_eq_true rfl) ⟨Nat.le_of_ble_eq_true rfl, Nat.le_of_ble_eq_true rfl⟩ dX6_firstError_6 rfl (fun u => ?_)
  obtain ⟨μ1, hμ1⟩ := u
  try dsimp only
  refine w_istore_n X dX6_firstError_9 (by decide) ?_
  refine w_iload_n X 0 rfl dX6_firstError_10 ?_
  refine w_bf_ne X 28 dX6_firstError_11 (by decide) (fun c11 => ?_) (fun c11 => ?_)
  · refine w_aload_n X 1 rfl dX6_firstError_28 ?_
    refine w_get X 0 0 rfl rfl rfl in_X6 4 (by decide) fk_X6_137 rfl dX6_firstError_29 ?_
    exact w_iret_me X ⟨μ1, fun j hj => (hμ1.1 j (by omega)).trans (rw2_n _ _ (by omega)), (congrFun (hμ1.1 5 (by decide)) 0).trans rfl⟩ (by rw [(hμ1.2.1 c11).1]; exact (congrFun (hμ1.1 4 (by decide)) 0).trans hT.1) rfl (Nat.le_of_ble_eq_true rfl) (Nat.le_of_ble_eq_true rfl) dX6_firstError_32
  · refine w_aload_n X 1 rfl dX6_firstError_14 ?_
    refine w_get X 0 0 rfl rfl rfl in_X6 7 (by decide) fk_X6_143 rfl dX6_firstError_15 ?_
    refine w_if_eq X 28 dX6_firstError_18 (by decide) (fun c18 => ?_) (fun c18 => ?_)
    · refine w_aload_n X 1 rfl dX6_firstError_28 ?_
      refine w_get X 0 0 rfl rfl rfl in_X6 4 (by decide) fk_X6_137 rfl dX6_firstError_29 ?_
      exact w_iret_me X ⟨μ1, fun j hj => (hμ1.1 j (by omega)).trans (rw2_n _ _ (by omega)), (congrFun (hμ1.1 5 (by decide)) 0).trans rfl⟩ (by rcases hμ1.2.2 c11 with ⟨a, b⟩ | ⟨a, b⟩; (rw [b]; exact (congrFun (hμ1.1 4 (by decide)) 0).trans hT.1); (rw [a] at c18; exact absurd c18 (by decide))) rfl (Nat.le_of_ble_eq_true rfl) (Nat.le_of_ble_eq_true rfl) dX6_firstError_32
    · refine w_aload_n X 1 rfl dX6_firstError_21 ?_
      refine w_get X 0 0 rfl rfl rfl in_X6 6 (by decide) fk_X6_140 rfl dX6_firstError_22 ?_
      refine w_goto X 32 dX6_firstError_25 (by decide) ?_
      exact w_iret_me X ⟨μ1, fun j hj => (hμ1.1 j (by omega)).trans (rw2_n _ _ (by omega)), (congrFun (hμ1.1 5 (by decide)) 0).trans rfl⟩ (by rcases hμ1.2.2 c11 with ⟨a, b⟩ | ⟨a, b⟩; (rw [a] at c18; exact absurd rfl c18); (exact b)) rfl (Nat.le_of_ble_eq_true rfl) (Nat.le_of_ble_eq_true rfl) dX6_firstError_32
