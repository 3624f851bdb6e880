/-! The model: history -/
theorem RI.congr {σ : Nat → Nat → Int32} {N N' : Nat → Int32} (h : RI σ N) (e : ∀ i, i < 240 → N' i = N i) : RI σ N' := by
  obtain ⟨h1, h2, h3, h4, h5⟩ := h
  refine ⟨h1, ?_, fun a ha => ?_, fun o ho => ?_, fun o ho => ?_, fun o f ho hf => ?_⟩
  · obtain ⟨a, b, c, d, e1, f⟩ := h2
    exact ⟨by rw [e _ (by decide), a], by rw [e _ (by decide), b], by rw [e _ (by decide), c], by rw [e _ (by decide), d], by rw [e _ (by decide), e1], by rw [e _ (by decide), f]⟩
  · obtain ⟨a1, b, c⟩ := h3 a ha
    exact ⟨by rw [e _ (by omega), a1], by rw [e _ (by omega), b], by rw [e _ (by omega), c]⟩
  · obtain ⟨a, b⟩ := h4 o ho
    refine ⟨by rw [e _ (by omega), a], fun hu => ?_⟩
    obtain ⟨b1, b2, b3, b4, b5, b6, b7, b8⟩ := b hu
    exact ⟨by rw [e _ (by omega), b1], by rw [e _ (by omega), b2], by rw [e _ (by omega), b3], by rw [e _ (by omega), b4], by rw [e _ (by omega), b5], by rw [e _ (by omega), b6], by rw [e _ (by omega), b7], by rw [e _ (by omega), b8]⟩
  · obtain ⟨a, ha, b⟩ := h5.1 o ho
    exact ⟨a, ha, by rw [e _ (by omega), b]⟩
  · rw [e _ (by omega)]
    exact h5.2 o f ho hf
def SQ (μ μ' : Nat → Nat → Int32) (v : Nat) : Prop := (∀ j, j ≠ 1 → j ≠ 2 → μ' j = μ j) ∧ μ' 2 0 = nI (svN v) ∧ (∀ k i, k + 1 < svN v → i < 240 → μ' 1 (240 * k + i) = μ 1 (240 * (if v = 6 then k + 1 else k) + i)) ∧ ∀ i, i < 240 → μ' 1 (240 * (svN v - 1) + i) = μ 0 i
/-- the class's saved states are the model's, the oldest first -/
def HRel (η : Nat → Nat → Int32) (hσ : Nat → Nat → Nat → Int32) (μ : Nat → Nat → Int32) (nx sv : Nat) : Prop := nx < 6 ∧ sv ≤ 6 ∧ η 1 0 = nI nx ∧ η 2 0 = nI sv ∧ μ 2 0 = nI sv ∧ ∀ k, k < sv → RI (hσ ((nx + 6 - sv + k) % 6)) (fun i => μ 1 (240 * k + i))
theorem HRel.save {σ η μ μ' : Nat → Nat → Int32} {hσ : Nat → Nat → Nat → Int32} {nx sv : Nat} (h : HRel η hσ μ nx sv) (hR : RI σ (μ 0)) (hs : SQ μ μ' sv) : HRel (hiS η (nxN nx) (svN sv)) (rw2 hσ nx σ) μ' (nxN nx) (svN sv) := by
  obtain ⟨h1, h2, h3, h4, h5, h6⟩ := h
  have a1 : nxN nx < 6 := by unfold nxN; split <;> omega
  have a2 : svN sv ≤ 6 := by unfold svN; split <;> omega
  have a3 : 1 ≤ svN sv := by unfold svN; split <;> omega
  refine ⟨a1, a2, ?_, ?_, hs.2.1, fun k hk => ?_⟩
  · rw [hiS, rw2_n _ _ (by decide), rw2_s]
  · rw [hiS, rw2_s]
  · by_cases e : k + 1 = svN sv
    · have e2 : (nxN nx + 6 - svN sv + k) % 6 = nx := by
        have : nxN nx = if nx = 5 then 0 else nx + 1 := rfl
        split at this <;> omega
      rw [e2, rw2_s]
      exact hR.congr (fun i hi => by
        have := hs.2.2.2 i hi
        rw [show k = svN sv - 1 by omega]
        exact this)
    · have hk2 : (if sv = 6 then k + 1 else k) < sv := by
        have : svN sv = if sv < 6 then sv + 1 else 6 := rfl
        split at this <;> split <;> omega
      have e2 : (nxN nx + 6 - svN sv + k) % 6 = (nx + 6 - sv + (if sv = 6 then k + 1 else k)) % 6 := by
        have q1 : nxN nx = if nx = 5 then 0 else nx + 1 := rfl
        have q2 : svN sv = if sv < 6 then sv + 1 else 6 := rfl
        split at q1 <;> split at q2 <;> split <;> omega
      have e3 : (nxN nx + 6 - svN sv + k) % 6 ≠ nx := by
        rw [e2]
        split at hk2 <;> split <;> omega
      rw [rw2_n _ _ e3, e2]
      exact (h6 _ hk2).congr (fun i hi => hs.2.2.1 k i (by omega) hi)
theorem HRel.undo {η μ μ' : Nat → Nat → Int32} {hσ : Nat → Nat → Nat → Int32} {nx sv : Nat} (h : HRel η hσ μ nx sv) (h0 : 1 ≤ sv) (h1 : μ' 1 = μ 1) (h2 : μ' 2 0 = nI (sv - 1)) : HRel (hiS η (ltN nx) (sv - 1)) hσ μ' (ltN nx) (sv - 1) ∧ RI (hσ (ltN nx)) (fun i => μ 1 (240 * (sv - 1) + i)) := by
  obtain ⟨g1, g2, g3, g4, g5, g6⟩ := h
  have q1 : ltN nx = if nx = 0 then 5 else nx - 1 := rfl
  refine ⟨⟨ltN_lt g1, by omega, ?_, ?_, h2, fun k hk => ?_⟩, ?_⟩
  · rw [hiS, rw2_n _ _ (by decide), rw2_s]
  · rw [hiS, rw2_s]
  · have e : (ltN nx + 6 - (sv - 1) + k) % 6 = (nx + 6 - sv + k) % 6 := by
      split at q1 <;> omega
    rw [e, h1]
    exact g6 k (by omega)
  · have e : (nx + 6 - sv + (sv - 1)) % 6 = ltN nx := by
      split at q1 <;> omega
    have := g6 (sv - 1) (by omega)
    rw [e] at this
    exact this
theorem sq_end {μ μ3 : Nat → Nat → Int32} {v kv : Nat} (hv6 : v ≤ 6) (hk1 : v = 6 → kv = 5) (hk2 : ¬ v = 6 → kv = v) (hB : ∀ j, j ≠ 1 → j ≠ 2 → μ3 j = μ j) (hC : ∀ k i3, k < kv → i3 < 240 → μ3 1 (240 * k + i3) = μ 1 (240 * (if v = 6 then k + 1 else k) + i3)) (hD : ∀ j, j < 240 → μ3 1 (240 * kv + j) = μ 0 j) : SQ μ (rw2 μ3 2 (fun _ => nI (kv + 1))) v := by
  have e : svN v = kv + 1 := by
    have : svN v = if v < 6 then v + 1 else 6 := rfl
    split at this <;> omega
  refine ⟨fun j j1 j2 => by rw [rw2_n _ _ j2]; exact hB j j1 j2, by rw [rw2_s, e], fun k i hk hi => by rw [rw2_n _ _ (by decide)]; exact hC k i (by omega) hi, fun i hi => ?_⟩
  rw [rw2_n _ _ (by decide), e, show kv + 1 - 1 = kv by omega]
  exact hD i hi
set_option maxRecDepth 100000 in
set_option maxHeartbeats 4000000 in
theorem m_X6_saves (l : Launch) (g : GG) (ad : Nat → Nat) (μ : Nat → Nat → Int32) (v : Nat) (hv : μ 2 0 = nI v) (hv6 : v ≤ 6) : MME (U := {μ' : Nat → Nat → Int32 // SQ μ μ' v}) l g yX6_saves cX6_saves 2 none 0 0 0 [.ref (ad 0)] [moC g ad μ] (none) (fun u => [moC g ad u.1]) := by
  refine mk_me (by decide +kernel) (Nat.le_of_ble_eq_true rfl) (fun p e s m below meth c A hA X => ?_)
  refine w_aload_n X 0 rfl dX6_saves_0 ?_
  refine w_get X 0 0 rfl rfl rfl in_X6 2 (by decide) fk_X6_47 rfl dX6_saves_1 ?_
  refine w_st (st2 := [.int (nI v)]) (by exact congrArg (fun v => Value.int v :: _) (hv)) ?_
  refine w_bipush X (nI 6) dX6_saves_4 (by decide +kernel) ?_
  refine w_nc_ne X (by omega) (by omega) 50 dX6_saves_6 (by decide) (fun c6 => ?_) (fun c6 => ?_)
  · refine w_iconst X (nI 0) dX6_saves_50 (by decide +kernel) ?_
    refine w_istore_n X dX6_saves_51 (by decide) ?_
    refine w_all [1, 0] (rfl) (rfl) rfl (w_loop (st := []) (pc := 52) X (V := Nat × Nat × (Nat → Nat → Int32)) (fun (v52 : Nat × Nat × (Nat → Nat → Int32)) => 240 - v52.1) (fun (v52 : Nat × Nat × (Nat → Nat → Int32)) => (v52.1 ≤ 240) ∧ (v52.2.1 < 6) ∧ (v = 6 → v52.2.1 = 5) ∧ (¬ v = 6 → v52.2.1 = v) ∧ (∀ j, j ≠ 1 → j ≠ 2 → v52.2.2 j = μ j) ∧ (v52.2.2 2 0 = nI v52.2.1) ∧ (∀ k i3, k < v52.2.1 → i3 < 240 → v52.2.2 1 (240 * k + i3) = μ 1 (240 * (if v = 6 then k + 1 else k) + i3)) ∧ (∀ j, j < v52.1 → v52.2.2 1 (240 * v52.2.1 + j) = μ 0 j)) (fun (v52 : Nat × Nat × (Nat → Nat → Int32)) => [(0, .ref (ad 0)), (1, .int (nI v52.1))]) (fun (v52 : Nat × Nat × (Nat → Nat → Int32)) => [moC g ad v52.2.2]) (fun v52 hv52 ih52 => ?_) (0, v, μ) (by (try dsimp only); exact ⟨by omega, by omega, by omega, by omega, fun j _ _ => rfl, hv, fun k i3 hk hi => by rw [if_neg c6], fun j h => by omega⟩))
    obtain ⟨i2, kv, μ3⟩ := v52
    obtain ⟨hi2, hk6, hk1, hk2, hB3, h2, hC3, hD3⟩ := hv52
    try dsimp only at hi2 hk6 hk1 hk2 hB3 h2 hC3 hD3 ih52 ⊢
    refine w_iload_n X 1 rfl dX6_saves_52 ?_
    refine w_sipush X (nI 240) dX6_saves_53 (by decide +kernel) ?_
    refine w_nc_ge X (by omega) (by omega) 86 dX6_saves_56 (by decide) (fun c56 => ?_) (fun c56 => ?_)
    · refine w_aload_n X 0 rfl dX6_saves_86 ?_
      refine w_dup X dX6_saves_87 rfl ?_
      refine w_get X 0 0 rfl rfl rfl in_X6 2 (by decide) fk_X6_47 rfl dX6_saves_88 ?_
      refine w_st (st2 := [.int (nI kv), .ref (ad 0)]) (by exact congrArg (fun v => Value.int v :: _) (h2)) ?_
      refine w_iconst X (nI 1) dX6_saves_91 (by decide +kernel) ?_
      refine w_iadd_n X dX6_saves_92 ?_
      refine w_put X 0 0 rfl rfl rfl in_X6 tyX6 tyX6_ok nmX6 2 (by decide) fk_X6_47 rfl rfl rfl rfl (Nat.le_of_ble_eq_true rfl) (show _ = moC g ad (rw2 μ3 2 (fun _ => nI (kv + 1))) from rfl) dX6_saves_93 ?_
      exact w_vret_me X ⟨rw2 μ3 2 (fun _ => nI (kv + 1)), sq_end hv6 hk1 hk2 hB3 hC3 (fun j hj => hD3 j (by omega))⟩ rfl (Nat.le_of_ble_eq_true rfl) (Nat.le_of_ble_eq_true rfl) dX6_saves_96
    · refine w_aload_n X 0 rfl dX6_saves_59 ?_
      refine w_get X 0 0 rfl rfl rfl in_X6 1 (by decide) fk_X6_13 rfl dX6_saves_60 ?_
      refine w_sipush X (nI 240) dX6_saves_63 (by decide +kernel) ?_
      refine w_aload_n X 0 rfl dX6_saves_66 ?_
      refine w_get X 0 0 rfl rfl rfl in_X6 2 (by decide) fk_X6_47 rfl dX6_saves_67 ?_
      refine w_st (st2 := [.int (nI kv), .int (nI 240), .ref (ad 2)]) (by exact congrArg (fun v => Value.int v :: _) (h2)) ?_
      refine w_imul_n X dX6_saves_70 ?_
      refine w_iload_n X 1 rfl dX6_saves_71 ?_
      refine w_iadd_n X dX6_saves_72 ?_
      refine w_aload_n X 0 rfl dX6_saves_73 ?_
      refine w_get X 0 0 rfl rfl rfl in_X6 0 (by decide) fk_X6_7 rfl dX6_saves_74 ?_
      refine w_iload_n X 1 rfl dX6_saves_77 ?_
      refine w_iald_n X 0 1 0 rfl rfl rfl (by omega) (by decide) dX6_saves_78 ?_
      refine w_iast_n X 0 2 0 rfl rfl rfl (by omega) (by decide) (show _ = moC g ad (rw2 μ3 1 (upd (μ3 1) ((240 * kv) + i2) ((μ3 0 i2)))) from rfl) dX6_saves_79 ?_
      refine w_iinc X (nI (i2 + 1)) 1 rfl (nI_1 _) dX6_saves_80 (by decide) ?_
      refine w_goto X 52 dX6_saves_83 (by decide) ?_
      exact w_all [1, 0] (rfl) (rfl) rfl (ih52 (i2 + 1, kv, rw2 μ3 1 (upd (μ3 1) ((240 * kv) + i2) ((μ3 0 i2)))) (by omega) (by (try dsimp only); exact ⟨by omega, hk6, hk1, hk2, fun j j1 j2 => (rw2_n _ _ j1).trans (hB3 j j1 j2), by rw [rw2_n _ _ (by decide)]; exact h2, fun k i3 hk hi => by rw [rw2_s, upd_e, if_neg (by omega)]; exact hC3 k i3 hk hi, fun j hj => by rw [rw2_s, upd_e]; exact (Decidable.em (j = i2)).elim (fun e => by rw [if_pos (by omega), e]; exact congrFun (hB3 0 (by decide) (by decide)) i2) (fun e => by rw [if_neg (by omega)]; exact hD3 j (by omega))⟩))
  · refine w_iconst X (nI 0) dX6_saves_9 (by decide +kernel) ?_
    refine w_istore_n X dX6_saves_10 (by decide) ?_
    refine w_all [1, 0] (rfl) (rfl) rfl (w_loop (st := []) (pc := 11) X (V := Nat × (Nat → Nat → Int32)) (fun (v11 : Nat × (Nat → Nat → Int32)) => 1200 - v11.1) (fun (v11 : Nat × (Nat → Nat → Int32)) => (v11.1 ≤ 1200) ∧ (∀ j, j ≠ 1 → v11.2 j = μ j) ∧ (∀ j, j < v11.1 → v11.2 1 j = μ 1 (j + 240)) ∧ (∀ j, v11.1 ≤ j → v11.2 1 j = μ 1 j)) (fun (v11 : Nat × (Nat → Nat → Int32)) => [(0, .ref (ad 0)), (1, .int (nI v11.1))]) (fun (v11 : Nat × (Nat → Nat → Int32)) => [moC g ad v11.2]) (fun v11 hv11 ih11 => ?_) (0, μ) (by (try dsimp only); exact ⟨by omega, fun j _ => rfl, fun j h => by omega, fun j _ => rfl⟩))
    obtain ⟨i, μ2⟩ := v11
    obtain ⟨hi, hB, hC, hD⟩ := hv11
    try dsimp only at hi hB hC hD ih11 ⊢
    refine w_iload_n X 1 rfl dX6_saves_11 ?_
    refine w_sipush X (nI 1200) dX6_saves_12 (by decide +kernel) ?_
    refine w_nc_ge X (by omega) (by omega) 40 dX6_saves_15 (by decide) (fun c15 => ?_) (fun c15 => ?_)
    · have he_i : i = 1200 := by omega
      refine w_aload_n X 0 rfl dX6_saves_40 ?_
      refine w_dup X dX6_saves_41 rfl ?_
      refine w_get X 0 0 rfl rfl rfl in_X6 2 (by decide) fk_X6_47 rfl dX6_saves_42 ?_
      refine w_st (st2 := [.int (nI 6), .ref (ad 0)]) (by exact congrArg (fun v => Value.int v :: _) ((congrFun (hB 2 (by decide)) 0).trans (hv.trans (by rw [c6])))) ?_
      refine w_iconst X (nI 1) dX6_saves_45 (by decide +kernel) ?_
      refine w_isub_n X (by omega) dX6_saves_46 ?_
      refine w_put X 0 0 rfl rfl rfl in_X6 tyX6 tyX6_ok nmX6 2 (by decide) fk_X6_47 rfl rfl rfl rfl (Nat.le_of_ble_eq_true rfl) (show _ = moC g ad (rw2 μ2 2 (fun _ => nI (5))) from rfl) dX6_saves_47 ?_
      refine w_iconst X (nI 0) dX6_saves_50 (by decide +kernel) ?_
      refine w_istore_n X dX6_saves_51 (by decide) ?_
      refine w_all [1, 0] (rfl) (rfl) rfl (w_loop (st := []) (pc := 52) X (V := Nat × Nat × (Nat → Nat → Int32)) (fun (v52 : Nat × Nat × (Nat → Nat → Int32)) => 240 - v52.1) (fun (v52 : Nat × Nat × (Nat → Nat → Int32)) => (v52.1 ≤ 240) ∧ (v52.2.1 < 6) ∧ (v = 6 → v52.2.1 = 5) ∧ (¬ v = 6 → v52.2.1 = v) ∧ (∀ j, j ≠ 1 → j ≠ 2 → v52.2.2 j = μ j) ∧ (v52.2.2 2 0 = nI v52.2.1) ∧ (∀ k i3, k < v52.2.1 → i3 < 240 → v52.2.2 1 (240 * k + i3) = μ 1 (240 * (if v = 6 then k + 1 else k) + i3)) ∧ (∀ j, j < v52.1 → v52.2.2 1 (240 * v52.2.1 + j) = μ 0 j)) (fun (v52 : Nat × Nat × (Nat → Nat → Int32)) => [(0, .ref (ad 0)), (1, .int (nI v52.1))]) (fun (v52 : Nat × Nat × (Nat → Nat → Int32)) => [moC g ad v52.2.2]) (fun v52 hv52 ih52 => ?_) (0, 5, rw2 μ2 2 (fun _ => nI (5))) (by (try dsimp only); exact ⟨by omega, by omega, by omega, by omega, fun j j1 j2 => (rw2_n _ _ j2).trans (hB j j1), rfl, fun k i3 hk hi => by rw [rw2_n _ _ (by decide), hC _ (by omega), if_pos c6]; congr 1; omega, fun j h => by omega⟩))
      obtain ⟨i2, kv, μ3⟩ := v52
      obtain ⟨hi2, hk6, hk1, hk2, hB3, h2, hC3, hD3⟩ := hv52
      try dsimp only at hi2 hk6 hk1 hk2 hB3 h2 hC3 hD3 ih52 ⊢
      refine w_iload_n X 1 rfl dX6_saves_52 ?_
      refine w_sipush X (nI 240) dX6_saves_53 (by decide +kernel) ?_
      refine w_nc_ge X (by omega) (by omega) 86 dX6_saves_56 (by decide) (fun c56 => ?_) (fun c56 => ?_)
      · refine w_aload_n X 0 rfl dX6_saves_86 ?_
        refine w_dup X dX6_saves_87 rfl ?_
        refine w_get X 0 0 rfl rfl rfl in_X6 2 (by decide) fk_X6_47 rfl dX6_saves_88 ?_
        refine w_st (st2 := [.int (nI kv), .ref (ad 0)]) (by exact congrArg (fun v => Value.int v :: _) (h2)) ?_
        refine w_iconst X (nI 1) dX6_saves_91 (by decide +kernel) ?_
        refine w_iadd_n X dX6_saves_92 ?_
        refine w_put X 0 0 rfl rfl rfl in_X6 tyX6 tyX6_ok nmX6 2 (by decide) fk_X6_47 rfl rfl rfl rfl (Nat.le_of_ble_eq_true rfl) (show _ = moC g ad (rw2 μ3 2 (fun _ => nI (kv + 1))) from rfl) dX6_saves_93 ?_
        exact w_vret_me X ⟨rw2 μ3 2 (fun _ => nI (kv + 1)), sq_end hv6 hk1 hk2 hB3 hC3 (fun j hj => hD3 j (by omega))⟩ rfl (Nat.le_of_ble_eq_true rfl) (Nat.le_of_ble_eq_true rfl) dX6_saves_96
      · refine w_aload_n X 0 rfl dX6_saves_59 ?_
        refine w_get X 0 0 rfl rfl rfl in_X6 1 (by decide) fk_X6_13 rfl dX6_saves_60 ?_
        refine w_sipush X (nI 240) dX6_saves_63 (by decide +kernel) ?_
        refine w_aload_n X 0 rfl dX6_saves_66 ?_
        refine w_get X 0 0 rfl rfl rfl in_X6 2 (by decide) fk_X6_47 rfl dX6_saves_67 ?_
        refine w_st (st2 := [.int (nI kv), .int (nI 240), .ref (ad 2)]) (by exact congrArg (fun v => Value.int v :: _) (h2)) ?_
        refine w_imul_n X dX6_saves_70 ?_
        refine w_iload_n X 1 rfl dX6_saves_71 ?_
        refine w_iadd_n X dX6_saves_72 ?_
        refine w_aload_n X 0 rfl dX6_saves_73 ?_
        refine w_get X 0 0 rfl rfl rfl in_X6 0 (by decide) fk_X6_7 rfl dX6_saves_74 ?_
        refine w_iload_n X 1 rfl dX6_saves_77 ?_
        refine w_iald_n X 0 1 0 rfl rfl rfl (by omega) (by decide) dX6_saves_78 ?_
        refine w_iast_n X 0 2 0 rfl rfl rfl (by omega) (by decide) (show _ = moC g ad (rw2 μ3 1 (upd (μ3 1) ((240 * kv) + i2) ((μ3 0 i2)))) from rfl) dX6_saves_79 ?_
        refine w_iinc X (nI (i2 + 1)) 1 rfl (nI_1 _) dX6_saves_80 (by decide) ?_
        refine w_goto X 52 dX6_saves_83 (by decide) ?_
        exact w_all [1, 0] (rfl) (rfl) rfl (ih52 (i2 + 1, kv, rw2 μ3 1 (upd (μ3 1) ((240 * kv) + i2) ((μ3 0 i2)))) (by omega) (by (try dsimp only); exact ⟨by omega, hk6, hk1, hk2, fun j j1 j2 => (rw2_n _ _ j1).trans (hB3 j j1 j2), by rw [rw2_n _ _ (by decide)]; exact h2, fun k i3 hk hi => by rw [rw2_s, upd_e, if_neg (by omega)]; exact hC3 k i3 hk hi, fun j hj => by rw [rw2_s, upd_e]; exact (Decidable.em (j = i2)).elim (fun e => by rw [if_pos (by omega), e]; exact congrFun (hB3 0 (by decide) (by decide)) i2) (fun e => by rw [if_neg (by omega)]; exact hD3 j (by omega))⟩))
    · refine w_aload_n X 0 rfl dX6_saves_18 ?_
      refine w_get X 0 0 rfl rfl rfl in_X6 1 (by decide) fk_X6_13 rfl dX6_saves_19 ?_
      refine w_iload_n X 1 rfl dX6_saves_22 ?_
      refine w_aload_n X 0 rfl dX6_saves_23 ?_
      refine w_get X 0 0 rfl rfl rfl in_X6 1 (by decide) fk_X6_13 rfl dX6_saves_24 ?_
      refine w_iload_n X 1 rfl dX6_saves_27 ?_
      refine w_sipush X (nI 240) dX6_saves_28 (by decide +kernel) ?_
      refine w_iadd_n X dX6_saves_31 ?_
      refine w_iald_n X 0 2 0 rfl rfl rfl (by omega) (by decide) dX6_saves_32 ?_
      refine w_iast_n X 0 2 0 rfl rfl rfl (by omega) (by decide) (show _ = moC g ad (rw2 μ2 1 (upd (μ2 1) i ((μ2 1 (i + 240))))) from rfl) dX6_saves_33 ?_
      refine w_iinc X (nI (i + 1)) 1 rfl (nI_1 _) dX6_saves_34 (by decide) ?_
      refine w_goto X 11 dX6_saves_37 (by decide) ?_
      exact w_all [1, 0] (rfl) (rfl) rfl (ih11 (i + 1, rw2 μ2 1 (upd (μ2 1) i ((μ2 1 (i + 240))))) (by omega) (by (try dsimp only); exact ⟨by omega, fun j j1 => (rw2_n _ _ j1).trans (hB j j1), fun j hj => by rw [rw2_s, upd_e]; exact (Decidable.em (j = i)).elim (fun e => by rw [if_pos e, e]; exact hD (i + 240) (by omega)) (fun e => by rw [if_neg e]; exact hC j (by omega)), fun j hj => by rw [rw2_s, upd_e, if_neg (by omega)]; exact hD j (by omega)⟩))
