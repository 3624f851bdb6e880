/-! The model: cells, kept ones, reasons, ranks -/
theorem add_0 (x : Int32) : x + nI 0 = x := by
  rw [show (nI 0 : Int32) = 0 from rfl]
  exact Int32.add_zero x
theorem any_s (P : Nat → Bool) (n : Nat) : anyB P (n + 1) = if anyB P n = true then true else P n := by
  rcases h : anyB P n with _ | _
  · rw [if_neg (by decide)]
    rcases hp : P n with _ | _
    · refine anyB_none (fun j hj => ?_)
      by_cases e : j = n
      · rw [e]; exact hp
      · rcases hq : P j with _ | _
        · rfl
        · rw [anyB_of (k := j) (by omega) hq] at h; cases h
    · exact anyB_of (k := n) (by omega) hp
  · rw [if_pos rfl]
    obtain ⟨k, hk, hp⟩ := anyB_ex h
    exact anyB_of (k := k) (by omega) hp
section MX
variable {σ μ : Nat → Nat → Int32} {a : Int32}
theorem su_in (hI : InvR σ) (ha : a ≠ -1) : ∀ j, j < 24 → plB (suC σ a) j = true → isInB σ (nI j) a = true :=
  (su_clo hI ha).2.2.2.2 (fun j => isInB σ (nI j) a = true) (fun _ _ h _ => h) (fun _ _ _ _ _ _ _ _ _ h => h) (fun _ _ _ _ _ _ _ _ h => h)
theorem lv_f {ρ : Nat → Nat → Int32} (h : LV μ ρ) {j : Nat} (hj : j < 24) (e : μ 14 j = 0) : plB ρ j = false := by
  have := h j hj
  rcases c : plB ρ j with _ | _
  · rfl
  · rw [c, e] at this; exact absurd this (by decide)
theorem lv_t {ρ : Nat → Nat → Int32} (h : LV μ ρ) {j : Nat} (hj : j < 24) (e : ¬ μ 14 j = 0) : plB ρ j = true := by
  have := h j hj
  rcases c : plB ρ j with _ | _
  · rw [c] at this; exact absurd this e
  · rfl
theorem cell_f {ρ : Nat → Nat → Int32} {j : Nat} (hj : j < 24) (h : plB ρ j = false) : cellsL σ ρ j + nI 0 = cellsL σ ρ (j + 1) := by
  rw [cellsL, met_pl ρ hj, h, if_pos rfl, add_0]
theorem cell_t {ρ : Nat → Nat → Int32} {j : Nat} (hj : j < 24) (h : plB ρ j = true) : cellsL σ ρ j + σ 3 j = cellsL σ ρ (j + 1) := by
  rw [cellsL, met_pl ρ hj, h, if_neg (by decide)]
theorem su_use {N : Nat → Int32} (hR : RI σ N) (ha : a ≠ -1) {j : Nat} (hj : j < 24) (h : plB (suC σ a) j = true) : σ 0 j = nI 1 ∧ σ 1 j = a := in_used hR hj (su_in hR.1.2.2.2.2.2.1 ha j hj h)
theorem cells_bd {N : Nat → Int32} (hR : RI σ N) (ha : a ≠ -1) : ∀ n, n ≤ 24 → ∃ z, z ≤ 16 * n ∧ cellsL σ (suC σ a) n = nI z
  | 0, _ => ⟨0, by omega, rfl⟩
  | n + 1, hn => by
    obtain ⟨z, hz, e⟩ := cells_bd hR ha n (by omega)
    rcases hp : plB (suC σ a) n with _ | _
    · exact ⟨z, by omega, by rw [← cell_f (by omega) hp, e, add_0]⟩
    · obtain ⟨k, y, d, q, h1, h2, h3, h4, h5, e1, e2, e3, e4, e5⟩ := hR.1.2.2.2.2.1 n (by omega) (su_use hR ha (by omega) hp).1
      exact ⟨z + y, by omega, by rw [← cell_t (by omega) hp, e, e3, nI_add]⟩
def kpP (σ : Nat → Nat → Int32) (a : Int32) (o : Nat) : Bool := if metB (suC σ a) (nI o) = false then false else nz (σ 6 o)
theorem kp_f {j : Nat} (hj : j < 24) (h : plB (suC σ a) j = false) : kpP σ a j = false := by rw [kpP, met_pl _ hj, h, if_pos rfl]
theorem kp_t {N : Nat → Int32} (hR : RI σ N) (ha : a ≠ -1) {j : Nat} (hj : j < 24) (h : plB (suC σ a) j = true) : kpP σ a j = if N (24 + 9 * j + 7) = nI 1 then true else false := by
  rw [kpP, met_pl _ hj, h, if_neg (by decide), (hR.at hj (su_use hR ha hj h).1).2.2.2.2.2.2.1]
  rcases (hR.1.1 j hj).2.2 with e | e <;> rw [e] <;> rfl
theorem nI_nm1 {j : Nat} (h : j < 2 ^ 31) : nI j ≠ -1 := nI_ne h
end MX
set_option maxRecDepth 100000 in
set_option maxHeartbeats 4000000 in
theorem m_X6_cells (l : Launch) (g : GG) (ad : Nat → Nat) (μ : Nat → Nat → Int32) (σ : Nat → Nat → Int32) (a : Int32) (hR : RI σ (μ 0)) (hL : LV μ (suC σ a)) (ha : a ≠ -1) : MRO l g yX6_cells cX6_cells 3 (some .int) 1 [.ref (ad 0)] [moC g ad μ] (some (.int (cellsL σ (suC σ a) 24))) := by
  refine mk_ro (by decide +kernel) (Nat.le_of_ble_eq_true rfl) (fun p e s m below meth c X => ?_)
  refine w_iconst X (nI 0) dX6_cells_0 (by decide +kernel) ?_
  refine w_istore_n X dX6_cells_1 (by decide) ?_
  refine w_iconst X (nI 0) dX6_cells_2 (by decide +kernel) ?_
  refine w_istore_n X dX6_cells_3 (by decide) ?_
  refine w_all [2, 1, 0] (rfl) (rfl) rfl (w_loop (st := []) (pc := 4) X (V := Nat) (fun (i : Nat) => 24 - i) (fun (i : Nat) => (i ≤ 24)) (fun (i : Nat) => [(0, .ref (ad 0)), (1, .int (cellsL σ (suC σ a) i)), (2, .int (nI i))]) (fun (i : Nat) => [moC g ad μ]) (fun i hv4 ih4 => ?_) 0 (by omega))
  have hi := hv4
  try dsimp only at ih4 ⊢
  refine w_iload_n X 2 rfl dX6_cells_4 ?_
  refine w_bipush X (nI 24) dX6_cells_5 (by decide +kernel) ?_
  refine w_nc_ge X (by omega) (by omega) 38 dX6_cells_7 (by decide) (fun c7 => ?_) (fun c7 => ?_)
  · have he_i : i = 24 := by omega
    refine w_iload_n X 1 rfl dX6_cells_38 ?_
    exact w_iret_ro X (by first | rfl | (subst he_i; rfl) | simp (decide := true) [c7, bI]) dX6_cells_39
  · refine w_iload_n X 1 rfl dX6_cells_10 ?_
    refine w_aload_n X 0 rfl dX6_cells_11 ?_
    refine w_get X 0 0 rfl rfl rfl in_X6 14 (by decide) fk_X6_28 rfl dX6_cells_12 ?_
    refine w_iload_n X 2 rfl dX6_cells_15 ?_
    refine w_zald_n X 0 7 1 rfl rfl rfl (by omega) (by decide) dX6_cells_16 ?_
    refine w_if_eq X 29 dX6_cells_17 (by decide) (fun c17 => ?_) (fun c17 => ?_)
    · refine w_iconst X (nI 0) dX6_cells_29 (by decide +kernel) ?_
      refine w_iadd X dX6_cells_30 ?_
      refine w_istore_n X dX6_cells_31 (by decide) ?_
      refine w_iinc X (nI (i + 1)) 2 rfl (nI_1 _) dX6_cells_32 (by decide) ?_
      refine w_goto X 4 dX6_cells_35 (by decide) ?_
      have e1_1 : ((cellsL σ (suC σ a) i) + nI (0)) = (cellsL σ (suC σ a) (i + 1)) := cell_f (by omega) (lv_f hL (by omega) c17)
      exact w_all [2, 1, 0] (rfl) (rfl) (by rw [← e1_1]; rfl) (ih4 (i + 1) (by omega) (by omega))
    · refine w_aload_n X 0 rfl dX6_cells_20 ?_
      refine w_iload_n X 2 rfl dX6_cells_21 ?_
      refine w_iconst X (nI 3) dX6_cells_22 (by decide +kernel) ?_
      refine w_roV X [0] 0 0 (m_X6_of l g ad μ i 3 (by omega) (by omega)) cv_X6_of mk_X6_43 rfl rfl rfl rfl rfl ⟨Nat.le_of_ble_eq_true rfl, Nat.le_of_ble_eq_true rfl⟩ (Nat.le_of_ble_eq_true rfl) ⟨Nat.le_of_ble_eq_true rfl, Nat.le_of_ble_eq_true rfl⟩ dX6_cells_23 rfl ?_
      refine w_goto X 30 dX6_cells_26 (by decide) ?_
      refine w_iadd X dX6_cells_30 ?_
      refine w_istore_n X dX6_cells_31 (by decide) ?_
      refine w_iinc X (nI (i + 1)) 2 rfl (nI_1 _) dX6_cells_32 (by decide) ?_
      refine w_goto X 4 dX6_cells_35 (by decide) ?_
      have e2_1 : ((cellsL σ (suC σ a) i) + (μ 0 (24 + 9 * i + 3))) = (cellsL σ (suC σ a) (i + 1)) := by rw [← cell_t (by omega) (lv_t hL (by omega) c17), (hR.at (by omega) (su_use hR ha (by omega) (lv_t hL (by omega) c17)).1).2.2.1]
      exact w_all [2, 1, 0] (rfl) (rfl) (by rw [← e2_1]; rfl) (ih4 (i + 1) (by omega) (by omega))
set_option maxRecDepth 100000 in
set_option maxHeartbeats 4000000 in
theorem m_X6_cellsOf (l : Launch) (g : GG) (ad : Nat → Nat) (μ : Nat → Nat → Int32) (σ : Nat → Nat → Int32) (a : Int32) (hR : RI σ (μ 0)) (ha : a ≠ -1) : MME (U := {μ' : Nat → Nat → Int32 // LQP σ μ μ' ∧ LV μ' (suC σ a)}) l g yX6_cellsOf cX6_cellsOf 2 (some .int) 4 0 0 [.ref (ad 0), .int (a)] [moC g ad μ] (some (.int (cellsL σ (suC σ a) 24))) (fun u => [moC g ad u.1]) := by
  refine mk_me (by decide +kernel) (Nat.le_of_ble_eq_true rfl) (fun p e s m below meth c A hA X => ?_)
  refine w_aload_n X 0 rfl dX6_cellsOf_0 ?_
  refine w_iload_n X 1 rfl dX6_cellsOf_1 ?_
  refine w_meV X hA (U := {μ' : Nat → Nat → Int32 // LQP σ μ μ' ∧ LV μ' (suC σ (a))}) (gr := []) (gs1 := fun u => [moC g ad u.1]) [0] [] 0 0 (m_X6_survives l g ad μ σ (a) (hR) (ha)) cv_X6_survives mk_X6_75 rfl rfl rfl (ng := 1) rfl (by decide) (fun _ => rfl) (fun _ => rfl) (fun _ => rfl) rfl rfl rfl ⟨Nat.le_of_ble_eq_true rfl, Nat.le_of_ble_eq_true rfl⟩ (Nat.le_of_ble_eq_true rfl) ⟨Nat.le_of_ble_eq_true rfl, Nat.le_of_ble_eq_true rfl⟩ dX6_cellsOf_2 rfl (fun u => ?_)
  obtain ⟨μ1, hμ1⟩ := u
  try dsimp only
  have hR1 : RI σ (μ1 0) := hμ1.1.RI hR
  refine w_aload_n X 0 rfl dX6_cellsOf_5 ?_
  refine w_roV X [0] 0 0 (m_X6_cells l g ad μ1 σ a (hR1) (hμ1.2) (ha)) cv_X6_cells mk_X6_84 rfl rfl rfl rfl rfl ⟨Nat.le_of_ble_eq_true rfl, Nat.le_of_ble_eq_true rfl⟩ (Nat.le_of_ble_eq_true rfl) ⟨Nat.le_of_ble_eq_true rfl, Nat.le_of_ble_eq_true rfl⟩ dX6_cellsOf_6 rfl ?_
  exact w_iret_me X ⟨μ1, hμ1.1, hμ1.2⟩ (by first | rfl | (subst he_i; rfl) | simp (decide := true) [bI]) rfl (Nat.le_of_ble_eq_true rfl) (Nat.le_of_ble_eq_true rfl) dX6_cellsOf_9
set_option maxRecDepth 100000 in
set_option maxHeartbeats 4000000 in
theorem m_X6_isKept (l : Launch) (g : GG) (ad : Nat → Nat) (μ : Nat → Nat → Int32) (σ : Nat → Nat → Int32) (a : Int32) (hR : RI σ (μ 0)) (ha : a ≠ -1) : MME (U := {μ' : Nat → Nat → Int32 // LQP σ μ μ' ∧ LV μ' (suC σ a)}) l g yX6_isKept cX6_isKept 4 (some .boolean) 4 0 0 [.ref (ad 0), .int (a)] [moC g ad μ] (some (.int (bI (keptB σ (suC σ a))))) (fun u => [moC g ad u.1]) := by
  refine mk_me (by decide +kernel) (Nat.le_of_ble_eq_true rfl) (fun p e s m below meth c A hA X => ?_)
  refine w_aload_n X 0 rfl dX6_isKept_0 ?_
  refine w_iload_n X 1 rfl dX6_isKept_1 ?_
  refine w_meV X hA (U := {μ' : Nat → Nat → Int32 // LQP σ μ μ' ∧ LV μ' (suC σ (a))}) (gr := []) (gs1 := fun u => [moC g ad u.1]) [0] [] 0 0 (m_X6_survives l g ad μ σ (a) (hR) (ha)) cv_X6_survives mk_X6_75 rfl rfl rfl (ng := 1) rfl (by decide) (fun _ => rfl) (fun _ => rfl) (fun _ => rfl) rfl rfl rfl ⟨Nat.le_of_ble_eq_true rfl, Nat.le_of_ble_eq_true rfl⟩ (Nat.le_of_ble_eq_true rfl) ⟨Nat.le_of_ble_eq_true rfl, Nat.le_of_ble_eq_true rfl⟩ dX6_isKept_2 rfl (fun u => ?_)
  obtain ⟨μ1, hμ1⟩ := u
  try dsimp only
  have hR1 : RI σ (μ1 0) := hμ1.1.RI hR
  refine w_iconst X (nI 0) dX6_isKept_5 (by decide +kernel) ?_
  refine w_istore_n X dX6_isKept_6 (by decide) ?_
  refine w_iconst X (nI 0) dX6_isKept_7 (by decide +kernel) ?_
  refine w_istore_n X dX6_isKept_8 (by decide) ?_
  have e0_2 : nI (0) = bI (anyB (kpP σ a) 0) := by rfl
  refine w_all [2, 3, 1, 0] (rfl) (rfl) (by rw [← e0_2]; rfl) (w_loop (st := []) (pc := 9) X (V := Nat) (fun (i : Nat) => 24 - i) (fun (i : Nat) => (i ≤ 24)) (fun (i : Nat) => [(0, .ref (ad 0)), (1, .int (a)), (2, .int (bI (anyB (kpP σ a) i))), (3, .int (nI i))]) (fun (i : Nat) => [moC g ad μ1]) (fun i hv9 ih9 => ?_) 0 (by omega))
  have hi := hv9
  try dsimp only at ih9 ⊢
  refine w_iload_n X 3 rfl dX6_isKept_9 ?_
  refine w_bipush X (nI 24) dX6_isKept_10 (by decide +kernel) ?_
  refine w_nc_ge X (by omega) (by omega) 51 dX6_isKept_12 (by decide) (fun c12 => ?_) (fun c12 => ?_)
  · have he_i : i = 24 := by omega
    refine w_iload_n X 2 rfl dX6_isKept_51 ?_
    exact w_zret_me X ⟨μ1, hμ1.1, hμ1.2⟩ (by rw [he_i]; rfl) rfl (Nat.le_of_ble_eq_true rfl) (Nat.le_of_ble_eq_true rfl) (bI_nar _) dX6_isKept_52
  · refine w_iload_n X 2 rfl dX6_isKept_15 ?_
    refine w_bf_ne X 39 dX6_isKept_16 (by decide) (fun c16 => ?_) (fun c16 => ?_)
    · refine w_iconst X (nI 1) dX6_isKept_39 (by decide +kernel) ?_
      refine w_goto X 44 dX6_isKept_40 (by decide) ?_
      refine w_istore_n X dX6_isKept_44 (by decide) ?_
      refine w_iinc X (nI (i + 1)) 3 rfl (nI_1 _) dX6_isKept_45 (by decide) ?_
      refine w_goto X 9 dX6_isKept_48 (by decide) ?_
      have e1_2 : nI (1) = bI (anyB (kpP σ a) (i + 1)) := by rw [any_s, c16]; rfl
      exact w_all [2, 3, 1, 0] (rfl) (rfl) (by rw [← e1_2]; rfl) (ih9 (i + 1) (by omega) (by omega))
    · refine w_aload_n X 0 rfl dX6_isKept_19 ?_
      refine w_get X 0 0 rfl rfl rfl in_X6 14 (by decide) fk_X6_28 rfl dX6_isKept_20 ?_
      refine w_iload_n X 3 rfl dX6_isKept_23 ?_
      refine w_zald_n X 0 7 1 rfl rfl rfl (by omega) (by decide) dX6_isKept_24 ?_
      refine w_if_eq X 43 dX6_isKept_25 (by decide) (fun c25 => ?_) (fun c25 => ?_)
      · refine w_iconst X (nI 0) dX6_isKept_43 (by decide +kernel) ?_
        refine w_istore_n X dX6_isKept_44 (by decide) ?_
        refine w_iinc X (nI (i + 1)) 3 rfl (nI_1 _) dX6_isKept_45 (by decide) ?_
        refine w_goto X 9 dX6_isKept_48 (by decide) ?_
        have e2_2 : nI (0) = bI (anyB (kpP σ a) (i + 1)) := by rw [any_s, c16, if_neg (by decide), kp_f (by omega) (lv_f hμ1.2 (by omega) c25)]; rfl
        exact w_all [2, 3, 1, 0] (rfl) (rfl) (by rw [← e2_2]; rfl) (ih9 (i + 1) (by omega) (by omega))
      · refine w_aload_n X 0 rfl dX6_isKept_28 ?_
        refine w_iload_n X 3 rfl dX6_isKept_29 ?_
        refine w_bipush X (nI 7) dX6_isKept_30 (by decide +kernel) ?_
        refine w_roV X [0] 0 0 (m_X6_of l g ad μ1 i 7 (by omega) (by omega)) cv_X6_of mk_X6_43 rfl rfl rfl rfl rfl ⟨Nat.le_of_ble_eq_true rfl, Nat.le_of_ble_eq_true rfl⟩ (Nat.le_of_ble_eq_true rfl) ⟨Nat.le_of_ble_eq_true rfl, Nat.le_of_ble_eq_true rfl⟩ dX6_isKept_32 rfl ?_
        refine w_iconst X (nI 1) dX6_isKept_35 (by decide +kernel) ?_
        refine w_ic_ne X 43 dX6_isKept_36 (by decide) (fun c36 => ?_) (fun c36 => ?_)
        · refine w_iconst X (nI 0) dX6_isKept_43 (by decide +kernel) ?_
          refine w_istore_n X dX6_isKept_44 (by decide) ?_
          refine w_iinc X (nI (i + 1)) 3 rfl (nI_1 _) dX6_isKept_45 (by decide) ?_
          refine w_goto X 9 dX6_isKept_48 (by decide) ?_
          have e3_2 : nI (0) = bI (anyB (kpP σ a) (i + 1)) := by rw [any_s, c16, if_neg (by decide), kp_t hR1 ha (by omega) (lv_t hμ1.2 (by omega) c25), if_neg c36]; rfl
          exact w_all [2, 3, 1, 0] (rfl) (rfl) (by rw [← e3_2]; rfl) (ih9 (i + 1) (by omega) (by omega))
        · refine w_iconst X (nI 1) dX6_isKept_39 (by decide +kernel) ?_
          refine w_goto X 44 dX6_isKept_40 (by decide) ?_
          refine w_istore_n X dX6_isKept_44 (by decide) ?_
          refine w_iinc X (nI (i + 1)) 3 rfl (nI_1 _) dX6_isKept_45 (by decide) ?_
          refine w_goto X 9 dX6_isKept_48 (by decide) ?_
          have e4_2 : nI (1) = bI (anyB (kpP σ a) (i + 1)) := by rw [any_s, c16, if_neg (by decide), kp_t hR1 ha (by omega) (lv_t hμ1.2 (by omega) c25), if_pos c36]; rfl
          exact w_all [2, 3, 1, 0] (rfl) (rfl) (by rw [← e4_2]; rfl) (ih9 (i + 1) (by omega) (by omega))
theorem rs_eq (σ : Nat → Nat → Int32) (a b : Int32) : rsC σ a b = if a = b then nI 1 else if isOpB σ a = false then nI 2 else if isOpB σ b = false then nI 2 else if keptB σ (suC σ a) = true then nI 3 else if roomB σ b (cellsL σ (suC σ a) 24) = false then nI 4 else nI 0 := rfl
set_option maxRecDepth 100000 in
set_option maxHeartbeats 4000000 in
theorem m_X6_reason (l : Launch) (g : GG) (ad : Nat → Nat) (μ : Nat → Nat → Int32) (σ : Nat → Nat → Int32) (a : Nat) (b : Nat) (hR : RI σ (μ 0)) (ha : a < 6) (hb : b < 6) : MME (U := {μ' : Nat → Nat → Int32 // scr μ μ'}) l g yX6_reason cX6_reason 3 (some .int) 5 0 0 [.ref (ad 0), .int (nI a), .int (nI b)] [moC g ad μ] (some (.int (rsC σ (nI a) (nI b)))) (fun u => [moC g ad u.1]) := by
  refine mk_me (by decide +kernel) (Nat.le_of_ble_eq_true rfl) (fun p e s m below meth c A hA X => ?_)
  refine w_iload_n X 1 rfl dX6_reason_0 ?_
  refine w_iload_n X 2 rfl dX6_reason_1 ?_
  refine w_nc_ne X (by omega) (by omega) 7 dX6_reason_2 (by decide) (fun c2 => ?_) (fun c2 => ?_)
  · refine w_aload_n X 0 rfl dX6_reason_7 ?_
    refine w_iload_n X 1 rfl dX6_reason_8 ?_
    refine w_roV X [0] 0 0 (m_X6_isOpen l g ad μ σ a (by omega) (hR)) cv_X6_isOpen mk_X6_88 rfl rfl rfl rfl rfl ⟨Nat.le_of_ble_eq_true rfl, Nat.le_of_ble_eq_true rfl⟩ (Nat.le_of_ble_eq_true rfl) ⟨Nat.le_of_ble_eq_true rfl, Nat.le_of_ble_eq_true rfl⟩ dX6_reason_9 rfl ?_
    refine w_bf_eq X 23 dX6_reason_12 (by decide) (fun c12 => ?_) (fun c12 => ?_)
    · refine w_iconst X (nI 2) dX6_reason_23 (by decide +kernel) ?_
      exact w_iret_me X ⟨μ, scr.rf _⟩ (by rw [rs_eq, if_neg (fun e => c2 ((nI_eq (by omega) (by omega)).mp e)), if_pos c12]) rfl (Nat.le_of_ble_eq_true rfl) (Nat.le_of_ble_eq_true rfl) dX6_reason_24
    · refine w_aload_n X 0 rfl dX6_reason_15 ?_
      refine w_iload_n X 2 rfl dX6_reason_16 ?_
      refine w_roV X [0] 0 0 (m_X6_isOpen l g ad μ σ b (by omega) (hR)) cv_X6_isOpen mk_X6_88 rfl rfl rfl rfl rfl ⟨Nat.le_of_ble_eq_true rfl, Nat.le_of_ble_eq_true rfl⟩ (Nat.le_of_ble_eq_true rfl) ⟨Nat.le_of_ble_eq_true rfl, Nat.le_of_ble_eq_true rfl⟩ dX6_reason_17 rfl ?_
      refine w_bf_ne X 25 dX6_reason_20 (by decide) (fun c20 => ?_) (fun c20 => ?_)
      · refine w_aload_n X 0 rfl dX6_reason_25 ?_
        refine w_iload_n X 1 rfl dX6_reason_26 ?_
        refine w_meV X hA (U := {μ' : Nat → Nat → Int32 // LQP σ μ μ' ∧ LV μ' (suC σ (nI (a)))}) (gr := []) (gs1 := fun u => [moC g ad u.1]) [0] [] 0 0 (m_X6_isKept l g ad μ σ (nI (a)) (hR) (nI_nm1 (by omega))) cv_X6_isKept mk_X6_91 rfl rfl rfl (ng := 1) rfl (by decide) (fun _ => rfl) (fun _ => rfl) (fun _ => rfl) rfl rfl rfl ⟨Nat.le_of_ble_eq_true rfl, Nat.le_of_ble_eq_true rfl⟩ (Nat.le_of_ble_eq_true rfl) ⟨Nat.le_of_ble_eq_true rfl, Nat.le_of_ble_eq_true rfl⟩ dX6_reason_27 rfl (fun u => ?_)
        obtain ⟨μ1, hμ1⟩ := u
        try dsimp only
        have hR1 : RI σ (μ1 0) := hμ1.1.RI hR
        refine w_bf_eq X 37 dX6_reason_30 (by decide) (fun c30 => ?_) (fun c30 => ?_)
        · refine w_aload_n X 0 rfl dX6_reason_37 ?_
          refine w_iload_n X 2 rfl dX6_reason_38 ?_
          refine w_roV X [0] 0 0 (m_X6_mark l g ad μ1 b (by omega)) cv_X6_mark mk_X6_94 rfl rfl rfl rfl rfl ⟨Nat.le_of_ble_eq_true rfl, Nat.le_of_ble_eq_true rfl⟩ (Nat.le_of_ble_eq_true rfl) ⟨Nat.le_of_ble_eq_true rfl, Nat.le_of_ble_eq_true rfl⟩ dX6_reason_39 rfl ?_
          refine w_aload_n X 0 rfl dX6_reason_42 ?_
          refine w_roV X [0] 0 0 (m_X6_cells l g ad μ1 σ (nI a) (hR1) (hμ1.2) (nI_nm1 (by omega))) cv_X6_cells mk_X6_84 rfl rfl rfl rfl rfl ⟨Nat.le_of_ble_eq_true rfl, Nat.le_of_ble_eq_true rfl⟩ (Nat.le_of_ble_eq_true rfl) ⟨Nat.le_of_ble_eq_true rfl, Nat.le_of_ble_eq_true rfl⟩ dX6_reason_43 rfl ?_
          obtain ⟨z, hz, hz2⟩ := cells_bd hR1 (a := nI a) (nI_nm1 (by omega)) 24 (Nat.le_refl _)
          rw [hz2]
          refine w_iadd X dX6_reason_46 ?_
          refine w_bipush X (nI 64) dX6_reason_47 (by decide +kernel) ?_
          refine w_ic_le X 56 dX6_reason_49 (by decide) (fun c49 => ?_) (fun c49 => ?_)
          · refine w_iconst X (nI 0) dX6_reason_56 (by decide +kernel) ?_
            exact w_iret_me X ⟨μ1, hμ1.1.1⟩ (by rw [rs_eq, if_neg (fun e => c2 ((nI_eq (by omega) (by omega)).mp e)), if_neg (by rw [c12]; decide), if_neg (by rw [c20]; decide), if_neg (by rw [c30]; decide), hz2, hR1.cell hb (by omega), if_neg (by rw [if_neg (fun e => nlt_le.mpr e c49)]; decide)]) rfl (Nat.le_of_ble_eq_true rfl) (Nat.le_of_ble_eq_true rfl) dX6_reason_57
          · refine w_iconst X (nI 4) dX6_reason_52 (by decide +kernel) ?_
            refine w_goto X 57 dX6_reason_53 (by decide) ?_
            exact w_iret_me X ⟨μ1, hμ1.1.1⟩ (by rw [rs_eq, if_neg (fun e => c2 ((nI_eq (by omega) (by omega)).mp e)), if_neg (by rw [c12]; decide), if_neg (by rw [c20]; decide), if_neg (by rw [c30]; decide), hz2, hR1.cell hb (by omega), if_pos (by rw [if_pos (nlt_le.mp c49)])]) rfl (Nat.le_of_ble_eq_true rfl) (Nat.le_of_ble_eq_true rfl) dX6_reason_57
        · refine w_iconst X (nI 3) dX6_reason_33 (by decide +kernel) ?_
          refine w_goto X 57 dX6_reason_34 (by decide) ?_
          exact w_iret_me X ⟨μ1, hμ1.1.1⟩ (by rw [rs_eq, if_neg (fun e => c2 ((nI_eq (by omega) (by omega)).mp e)), if_neg (by rw [c12]; decide), if_neg (by rw [c20]; decide), if_pos c30]) rfl (Nat.le_of_ble_eq_true rfl) (Nat.le_of_ble_eq_true rfl) dX6_reason_57
      · refine w_iconst X (nI 2) dX6_reason_23 (by decide +kernel) ?_
        exact w_iret_me X ⟨μ, scr.rf _⟩ (by rw [rs_eq, if_neg (fun e => c2 ((nI_eq (by omega) (by omega)).mp e)), if_neg (by rw [c12]; decide), if_pos c20]) rfl (Nat.le_of_ble_eq_true rfl) (Nat.le_of_ble_eq_true rfl) dX6_reason_24
  · refine w_iconst X (nI 1) dX6_reason_5 (by decide +kernel) ?_
    exact w_iret_me X ⟨μ, scr.rf _⟩ (by rw [rs_eq, if_pos (by rw [c2])]) rfl (Nat.le_of_ble_eq_true rfl) (Nat.le_of_ble_eq_true rfl) dX6_reason_6
