/-! The model: an arena is freed -/
theorem goS_0 (σ : Nat → Nat → Int32) : goS σ (nI 0) = σ := by
  funext r i
  rw [goS, rw2_e]
  split
  · rename_i e
    rw [e, upd_e]
    split
    · rename_i c; rw [c, add_0]
    · rfl
  · rfl
theorem goS_in (s : Nat → Nat → Int32) (q x a : Int32) : isInB (goS s q) x a = isInB s x a := rfl
theorem fr_none {σ : Nat → Nat → Int32} {a : Int32} : ∀ n, n ≤ 24 → ∀ j, j < n → isInB (freeL σ a n).1 (nI j) a = false
  | 0, _, j, hj => by omega
  | n + 1, hn, j, hj => by
    rw [freeL]
    rcases c : isInB (freeL σ a n).1 (nI n) a with _ | _
    · rw [if_neg (by decide)]
      by_cases e : j = n
      · rw [e]; exact c
      · exact fr_none n (by omega) j (by omega)
    · rw [if_pos rfl]
      show isInB (dropL (freeL σ a n).1 n 24) (nI j) a = false
      rw [isIn_nI _ (by omega), dr_fl _ _ 0 (Or.inl rfl), dr_n _ _ 1 (by decide) (by decide) (by decide) (by decide) (by decide)]
      by_cases e : j = n
      · rw [if_pos e, if_pos rfl]
      · rw [if_neg e, ← isIn_nI _ (show j < 24 by omega)]
        exact fr_none n (by omega) j (by omega)
theorem szS_none {s : Nat → Nat → Int32} {a : Nat} : ∀ n, (∀ j, j < n → ¬ (s 0 j = nI 1 ∧ s 1 j = nI a)) → szS s a n = 0
  | 0, _ => rfl
  | n + 1, h => by rw [szS, szS_none n (fun j hj => h j (by omega)), if_neg (h n (by omega))]
theorem ri_fin {r : (Nat → Nat → Int32) × Int32} {N N' : Nat → Int32} {a : Nat} (hR : RI (goS r.1 r.2) N) (ha : a < 6) (hno : ∀ j, j < 24 → isInB r.1 (nI j) (nI a) = false) (h0 : N' (6 + 3 * a) = nI 0) (h1 : N' (6 + 3 * a + 1) = nI 0) (h5 : N' 5 = N 5 + nI 1) (hn : ∀ i, i < 240 → i ≠ 5 → i ≠ 6 + 3 * a → i ≠ 6 + 3 * a + 1 → N' i = N i) : RI (freeF r a) N' := by
  obtain ⟨⟨hF, hA, hS, hU, hO, hQ, hD⟩, hC, hB, hE, hW⟩ := hR
  have k : ∀ q, q ≠ 8 → q ≠ 9 → q ≠ 12 → freeF r a q = goS r.1 r.2 q := fun q a b c => by rw [freeF, rw2_n _ _ c, rw2_n _ _ c, rw2_n _ _ b, rw2_n _ _ a, goS, rw2_n _ _ c]
  have r0 := k 0 (by decide) (by decide) (by decide)
  have r1 := k 1 (by decide) (by decide) (by decide)
  have r2 := k 2 (by decide) (by decide) (by decide)
  have r3 := k 3 (by decide) (by decide) (by decide)
  have r4 := k 4 (by decide) (by decide) (by decide)
  have r5 := k 5 (by decide) (by decide) (by decide)
  have r6 := k 6 (by decide) (by decide) (by decide)
  have r7 := k 7 (by decide) (by decide) (by decide)
  have r10 := k 10 (by decide) (by decide) (by decide)
  have r11 := k 11 (by decide) (by decide) (by decide)
  have r8 : ∀ i, freeF r a 8 i = if i = a then nI 0 else goS r.1 r.2 8 i := fun i => by rw [freeF, rw2_n _ _ (by decide), rw2_n _ _ (by decide), rw2_n _ _ (by decide), rw2_s, upd_e]; rfl
  have r9 : ∀ i, freeF r a 9 i = if i = a then nI 0 else goS r.1 r.2 9 i := fun i => by rw [freeF, rw2_n _ _ (by decide), rw2_n _ _ (by decide), rw2_s, upd_e]; rfl
  have r12 : ∀ i, freeF r a 12 i = if i = 3 then goS r.1 r.2 12 3 + nI 1 else goS r.1 r.2 12 i := fun i => by
    rw [freeF, rw2_s, goS, rw2_s, upd_e, upd_e (r.1 12) 2 3, if_neg (show ¬ 3 = 2 by decide)]
  have no : ∀ j, j < 24 → ¬ (goS r.1 r.2 0 j = nI 1 ∧ goS r.1 r.2 1 j = nI a) := fun j hj z => by
    have := hno j hj
    rw [← goS_in r.1 r.2, isIn_nI _ hj, z.1, if_neg n10, if_pos z.2] at this
    cases this
  refine ⟨⟨inv_F hF r0 r5 r6, fun b hb => ?_, inv_S hS r11, inv_U hU r0 r4 r5 r6 r7, fun o ho h1 => ?_, inv_R hQ r0 r4, inv_D hD r0 r1 r2⟩, ?_, fun b hb => ?_, rel_O hE r0 r1 r2 r3 r4 r5 r6 r7 (fun i b c => hn i c (by omega) (by omega) (by omega)), rel_W hW (fun o ho => hn _ (by omega) (by omega) (by omega) (by omega)) (fun o f ho hf => hn _ (by omega) (by omega) (by omega) (by omega))⟩
  · rw [r8, r9, szS_eq r0 r1 r3]
    by_cases e : b = a
    · subst e
      rw [if_pos rfl, if_pos rfl, szS_none 24 no]
      exact ⟨Or.inl rfl, 0, by omega, rfl, Nat.le_refl _⟩
    · rw [if_neg e, if_neg e]; exact hA b hb
  · rw [r0] at h1
    obtain ⟨b, z, d, q, g1, g2, g3, g4, g5, e1, e2, e3, e4, e5⟩ := hO o ho h1
    have e : ¬ b = a := fun z => no o ho ⟨h1, by rw [e1, z]⟩
    exact ⟨b, z, d, q, g1, g2, g3, g4, g5, by rw [r1, e1], by rw [r2, e2], by rw [r3, e3], by rw [r9, if_neg e, e4], by rw [r8, if_neg e, e5]⟩
  · obtain ⟨c0, c1, c2, c3, c4, c5⟩ := hC
    rw [RelC, r11, r12, r12, r12, r12, if_neg (by decide), if_neg (by decide), if_neg (by decide), if_pos rfl, h5, hn 0 (by omega) (by decide) (by omega) (by omega), hn 1 (by omega) (by decide) (by omega) (by omega), hn 2 (by omega) (by decide) (by omega) (by omega), hn 3 (by omega) (by decide) (by omega) (by omega), hn 4 (by omega) (by decide) (by omega) (by omega), c5]
    exact ⟨c0, c1, c2, c3, c4, rfl⟩
  · obtain ⟨f1, f2, f3⟩ := hB b hb
    rw [r8, r9, r10, hn (6 + 3 * b + 2) (by omega) (by omega) (by omega) (by omega)]
    by_cases e : b = a
    · subst e
      rw [if_pos rfl, if_pos rfl, h0, h1]
      exact ⟨rfl, rfl, f3⟩
    · rw [if_neg e, if_neg e, hn (6 + 3 * b) (by omega) (by omega) (by omega) (by omega), hn (6 + 3 * b + 1) (by omega) (by omega) (by omega) (by omega)]
      exact ⟨f1, f2, f3⟩
theorem fr_f {σ : Nat → Nat → Int32} {a : Int32} {o : Nat} (h : isInB (goS (freeL σ a o).1 (freeL σ a o).2) (nI o) a = false) : freeL σ a (o + 1) = freeL σ a o := by
  rw [goS_in] at h
  rw [freeL, if_neg (by rw [h]; decide)]
theorem fr_t {σ : Nat → Nat → Int32} {a : Int32} {o : Nat} (h : isInB (goS (freeL σ a o).1 (freeL σ a o).2) (nI o) a = true) : freeL σ a (o + 1) = (dropL (freeL σ a o).1 o 24, (freeL σ a o).2 + 1) := by
  rw [goS_in] at h
  rw [freeL, if_pos h]
theorem mc_l2 {σ1 μ μa μ1 μ' : Nat → Nat → Int32} {rv : Option Value} {L : List String} {v : Nat} (ha : ∀ j, j < 6 → μa j = rw2 μ 5 (fun _ => nI 0) j) (h : SQ μa μ1 v) (h0 : ∀ j, j ≠ 0 → j < 6 → μ' j = μ1 j) (h1 : RI σ1 (μ' 0)) : MC σ1 (.inl rv) L v μ μ' := by
  refine ⟨?_, ?_, ?_, h1, ?_⟩
  · rw [h0 3 (by decide) (by decide), h.1 3 (by decide) (by decide), ha 3 (by decide), rw2_n _ _ (by decide)]
  · rw [h0 4 (by decide) (by decide), h.1 4 (by decide) (by decide), ha 4 (by decide), rw2_n _ _ (by decide)]
  · rw [h0 5 (by decide) (by decide), h.1 5 (by decide) (by decide), ha 5 (by decide), rw2_s]; rfl
  · have e0 : μa 0 = μ 0 := ha 0 (by decide)
    have e1 : μa 1 = μ 1 := ha 1 (by decide)
    have q := h.2
    rw [e0, e1] at q
    refine ⟨by rw [h0 2 (by decide) (by decide)]; exact q.1, ?_⟩
    rw [h0 1 (by decide) (by decide)]
    exact q.2
theorem cells_0 {σ : Nat → Nat → Int32} {N : Nat → Int32} (hR : RI σ N) {a : Int32} (ha : a ≠ -1) : cellsL σ (suC σ a) 24 ≤ 0 ↔ suC σ a 3 0 ≤ 0 := by
  obtain ⟨⟨q, hq⟩, -⟩ := su_clo hR.1.2.2.2.2.2.1 ha
  have key : ∀ n, n ≤ 24 → ∃ z, cellsL σ (suC σ a) n = nI z ∧ z ≤ 16 * n ∧ (z = 0 ↔ cn (plB (suC σ a)) n = 0) := by
    intro n
    induction n with
    | zero => intro _; exact ⟨0, rfl, by omega, by rw [cn]⟩
    | succ n ih =>
      intro hn
      obtain ⟨z, e, hz, hi⟩ := ih (by omega)
      rcases hp : plB (suC σ a) n with _ | _
      · exact ⟨z, by rw [← cell_f (by omega) hp, e, add_0], by omega, by rw [cn, hp, if_neg (by decide), hi]; omega⟩
      · obtain ⟨k, y, d, t, h1, h2, h3, h4, h5, e1, e2, e3, e4, e5⟩ := hR.1.2.2.2.2.1 n (by omega) (su_use hR ha (by omega) hp).1
        exact ⟨z + y, by rw [← cell_t (by omega) hp, e, e3, nI_add], by omega, by rw [cn, hp, if_pos rfl]; omega⟩
  obtain ⟨z, e, hz, hi⟩ := key 24 (Nat.le_refl _)
  have h24 := hq.1
  rw [e, hq.2.1, le0 (by omega), le0 (by omega), hi, hq.2.2.2.2]
theorem lk_2 {μ μ1 : Nat → Nat → Int32} {f : Nat → Int32} {q : Nat} (h : scr (rw2 μ 5 f) μ1) : lk μ (rw2 μ1 5 (fun _ => nI q)) q := ⟨fun j hj => (rw2_n _ _ (by omega)).trans ((h j (by omega)).trans (rw2_n _ _ (by omega))), rfl⟩
set_option maxRecDepth 100000 in
set_option maxHeartbeats 4000000 in
theorem m_X6_frees (l : Launch) (g : GG) (ad : Nat → Nat) (μ : Nat → Nat → Int32) (σ : Nat → Nat → Int32) (a : Nat) (hR : RI σ (μ 0)) (ha : a < 6) : MME (U := {μ' : Nat → Nat → Int32 // (∀ j, j ≠ 0 → μ' j = μ j) ∧ RI (freeS σ a) (μ' 0)}) l g yX6_frees cX6_frees 4 (some .int) 3 0 0 [.ref (ad 0), .int (nI a)] [moC g ad μ] (some (.int ((freeL σ (nI a) 24).2))) (fun u => [moC g ad u.1]) := by
  refine mk_me (by decide +kernel) (Nat.le_of_ble_eq_true rfl) (fun p e s m below meth c A hA X => ?_)
  refine w_iconst X (nI 0) dX6_frees_0 (by decide +kernel) ?_
  refine w_istore_n X dX6_frees_1 (by decide) ?_
  refine w_iconst X (nI 0) dX6_frees_2 (by decide +kernel) ?_
  refine w_istore_n X dX6_frees_3 (by decide) ?_
  have e0_2 : nI (0) = ((freeL σ (nI a) 0).2) := by rfl
  refine w_all [2, 3, 1, 0] (rfl) (rfl) (by rw [← e0_2]; rfl) (w_loop (st := []) (pc := 4) X (V := Nat × (Nat → Nat → Int32)) (fun (v4 : Nat × (Nat → Nat → Int32)) => 24 - v4.1) (fun (v4 : Nat × (Nat → Nat → Int32)) => (v4.1 ≤ 24) ∧ (∀ j, j ≠ 0 → v4.2 j = μ j) ∧ (RI (goS (freeL σ (nI a) v4.1).1 (freeL σ (nI a) v4.1).2) (v4.2 0))) (fun (v4 : Nat × (Nat → Nat → Int32)) => [(0, .ref (ad 0)), (1, .int (nI a)), (2, .int ((freeL σ (nI a) v4.1).2)), (3, .int (nI v4.1))]) (fun (v4 : Nat × (Nat → Nat → Int32)) => [moC g ad v4.2]) (fun v4 hv4 ih4 => ?_) (0, μ) (by (try dsimp only); exact ⟨by omega, fun j _ => rfl, by rw [show (freeL σ (nI a) 0) = (σ, nI 0) from rfl, goS_0]; exact hR⟩))
  obtain ⟨o, μ2⟩ := v4
  obtain ⟨ho, hB, hR2⟩ := hv4
  try dsimp only at ho hB hR2 ih4 ⊢
  refine w_iload_n X 3 rfl dX6_frees_4 ?_
  refine w_bipush X (nI 24) dX6_frees_5 (by decide +kernel) ?_
  refine w_nc_ge X (by omega) (by omega) 33 dX6_frees_7 (by decide) (fun c7 => ?_) (fun c7 => ?_)
  · have he_o : o = 24 := by omega
    refine w_aload_n X 0 rfl dX6_frees_33 ?_
    refine w_get X 0 0 rfl rfl rfl in_X6 0 (by decide) fk_X6_7 rfl dX6_frees_34 ?_
    refine w_bipush X (nI 6) dX6_frees_37 (by decide +kernel) ?_
    refine w_iconst X (nI 3) dX6_frees_39 (by decide +kernel) ?_
    refine w_iload_n X 1 rfl dX6_frees_40 ?_
    refine w_imul_n X dX6_frees_41 ?_
    refine w_iadd_n X dX6_frees_42 ?_
    refine w_iconst X (nI 0) dX6_frees_43 (by decide +kernel) ?_
    refine w_iast_n X 0 1 0 rfl rfl rfl (by omega) (by decide) (show _ = moC g ad (rw2 μ2 0 (upd (μ2 0) (6 + (3 * a)) (nI (0)))) from rfl) dX6_frees_44 ?_
    refine w_aload_n X 0 rfl dX6_frees_45 ?_
    refine w_get X 0 0 rfl rfl rfl in_X6 0 (by decide) fk_X6_7 rfl dX6_frees_46 ?_
    refine w_bipush X (nI 6) dX6_frees_49 (by decide +kernel) ?_
    refine w_iconst X (nI 3) dX6_frees_51 (by decide +kernel) ?_
    refine w_iload_n X 1 rfl dX6_frees_52 ?_
    refine w_imul_n X dX6_frees_53 ?_
    refine w_iadd_n X dX6_frees_54 ?_
    refine w_iconst X (nI 1) dX6_frees_55 (by decide +kernel) ?_
    refine w_iadd_n X dX6_frees_56 ?_
    refine w_iconst X (nI 0) dX6_frees_57 (by decide +kernel) ?_
    refine w_iast_n X 0 1 0 rfl rfl rfl (by omega) (by decide) (show _ = moC g ad (rw2 μ2 0 (upd ((upd (μ2 0) (6 + (3 * a)) (nI (0)))) ((6 + (3 * a)) + 1) (nI (0)))) from rfl) dX6_frees_58 ?_
    refine w_aload_n X 0 rfl dX6_frees_59 ?_
    refine w_get X 0 0 rfl rfl rfl in_X6 0 (by decide) fk_X6_7 rfl dX6_frees_60 ?_
    refine w_iconst X (nI 5) dX6_frees_63 (by decide +kernel) ?_
    refine w_dup2 X dX6_frees_64 rfl rfl ?_
    refine w_iald_n X 0 1 0 rfl rfl rfl (by omega) (by decide) dX6_frees_65 ?_
    refine w_st (st2 := [.int ((upd ((upd (μ2 0) (6 + (3 * a)) (nI (0)))) ((6 + (3 * a)) + 1) (nI (0))) 5), .int (nI 5), .ref (ad 1)]) rfl ?_
    refine w_iconst X (nI 1) dX6_frees_66 (by decide +kernel) ?_
    refine w_iadd X dX6_frees_67 ?_
    refine w_iast_n X 0 1 0 rfl rfl rfl (by omega) (by decide) (show _ = moC g ad (rw2 μ2 0 (upd ((upd ((upd (μ2 0) (6 + (3 * a)) (nI (0)))) ((6 + (3 * a)) + 1) (nI (0)))) 5 ((((upd ((upd (μ2 0) (6 + (3 * a)) (nI (0)))) ((6 + (3 * a)) + 1) (nI (0))) 5) + nI (1))))) from rfl) dX6_frees_68 ?_
    refine w_iload_n X 2 rfl dX6_frees_69 ?_
    exact w_iret_me X ⟨rw2 μ2 0 (upd ((upd ((upd (μ2 0) (6 + (3 * a)) (nI (0)))) ((6 + (3 * a)) + 1) (nI (0)))) 5 ((((upd ((upd (μ2 0) (6 + (3 * a)) (nI (0)))) ((6 + (3 * a)) + 1) (nI (0))) 5) + nI (1)))), fun j hj => (rw2_n _ _ hj).trans (hB j hj), by rw [he_o] at hR2; exact ri_fin hR2 ha (fr_none 24 (Nat.le_refl _)) (by rw [rw2_s, upd_e, if_neg (by omega), upd_e, if_neg (by omega), upd_e, if_pos rfl]) (by rw [rw2_s, upd_e, if_neg (by omega), upd_e, if_pos rfl]) (by rw [rw2_s, upd_e, if_pos rfl, upd_e, if_neg (by omega), upd_e, if_neg (by omega)]) (fun i hi h5 h0 h1 => by rw [rw2_s, upd_e, if_neg h5, upd_e, if_neg h1, upd_e, if_neg h0])⟩ (by rw [he_o]) rfl (Nat.le_of_ble_eq_true rfl) (Nat.le_of_ble_eq_true rfl) dX6_frees_70
  · refine w_aload_n X 0 rfl dX6_frees_10 ?_
    refine w_iload_n X 3 rfl dX6_frees_11 ?_
    refine w_iload_n X 1 rfl dX6_frees_12 ?_
    refine w_roV X [0] 0 0 (m_X6_isIn l g ad μ2 (goS (freeL σ (nI a) o).1 (freeL σ (nI a) o).2) o (nI (a)) (by omega) (hR2)) cv_X6_isIn mk_X6_64 rfl rfl rfl rfl rfl ⟨Nat.le_of_ble_eq_true rfl, Nat.le_of_ble_eq_true rfl⟩ (Nat.le_of_ble_eq_true rfl) ⟨Nat.le_of_ble_eq_true rfl, Nat.le_of_ble_eq_true rfl⟩ dX6_frees_13 rfl ?_
    refine w_bf_eq X 27 dX6_frees_16 (by decide) (fun c16 => ?_) (fun c16 => ?_)
    · refine w_iinc X (nI (o + 1)) 3 rfl (nI_1 _) dX6_frees_27 (by decide) ?_
      refine w_goto X 4 dX6_frees_30 (by decide) ?_
      have e1_2 : ((freeL σ (nI a) o).2) = ((freeL σ (nI a) (o + 1)).2) := by rw [fr_f c16]
      exact w_all [1, 2, 3, 0] (rfl) (rfl) (by rw [← e1_2]; rfl) (ih4 (o + 1, μ2) (by omega) (by (try dsimp only); exact ⟨by omega, hB, by rw [fr_f c16]; exact hR2⟩))
    · refine w_aload_n X 0 rfl dX6_frees_19 ?_
      refine w_iload_n X 3 rfl dX6_frees_20 ?_
      refine w_meV X hA (U := {μ' : Nat → Nat → Int32 // GO μ2 μ' o 48}) (gr := []) (gs1 := fun u => [moC g ad u.1]) [0] [] 0 0 (m_X6_goes l g ad μ2 o (by omega)) cv_X6_goes mk_X6_122 rfl rfl rfl (ng := 1) rfl (by decide) (fun _ => rfl) (fun _ => rfl) (fun _ => rfl) rfl rfl rfl ⟨Nat.le_of_ble_eq_true rfl, Nat.le_of_ble_eq_true rfl⟩ (Nat.le_of_ble_eq_true rfl) ⟨Nat.le_of_ble_eq_true rfl, Nat.le_of_ble_eq_true rfl⟩ dX6_frees_21 rfl (fun u => ?_)
      obtain ⟨μ1, hμ1⟩ := u
      try dsimp only
      refine w_iinc X (((freeL σ (nI a) o).2) + 1) 2 rfl rfl dX6_frees_24 (by decide) ?_
      refine w_iinc X (nI (o + 1)) 3 rfl (nI_1 _) dX6_frees_27 (by decide) ?_
      refine w_goto X 4 dX6_frees_30 (by decide) ?_
      have e2_2 : (((freeL σ (nI a) o).2) + 1) = ((freeL σ (nI a) (o + 1)).2) := by rw [fr_t c16]
      exact w_all [2, 3, 1, 0] (rfl) (rfl) (by rw [← e2_2]; rfl) (ih4 (o + 1, μ1) (by omega) (by (try dsimp only); exact ⟨by omega, fun j hj => (hμ1.1 j hj).trans (hB j hj), by rw [fr_t c16]; exact ri_drop hR2 (by omega) (in_used hR2 (by omega) c16).1 hμ1⟩))
def cloO (σ : Nat → Nat → Int32) (x : Int32) : OC := if isArB x = false then .inr iOE else if isOpB σ x = false then .inr iSE else if suC σ x 3 0 ≤ 0 then rI (freeL σ x 24).2 else .inr iSE
set_option maxRecDepth 100000 in
set_option maxHeartbeats 4000000 in
theorem m_X6_close (l : Launch) (g : GG) (ad : Nat → Nat) (μ : Nat → Nat → Int32) (σ : Nat → Nat → Int32) (v : Nat) (x : Int32) (hR : RI σ (μ 0)) (hv : μ 2 0 = nI v) (hv6 : v ≤ 6) : MME (U := {μ' : Nat → Nat → Int32 // MC (freeS σ x.toNatClampNeg) (cloO σ x) [iOE, iSE] v μ μ'}) l g yX6_close cX6_close 2 (some .int) 5 0 0 [.ref (ad 0), .int (x)] [moC g ad μ] (some (.int (vO (cloO σ x)))) (fun u => [moC g ad u.1]) := by
  refine mk_me (by decide +kernel) (Nat.le_of_ble_eq_true rfl) (fun p e s m below meth c A hA X => ?_)
  refine w_aload_n X 0 rfl dX6_close_0 ?_
  refine w_iconst X (nI 0) dX6_close_1 (by decide +kernel) ?_
  refine w_put X 0 0 rfl rfl rfl in_X6 tyX6 tyX6_ok nmX6 5 (by decide) fk_X6_35 rfl rfl rfl rfl (Nat.le_of_ble_eq_true rfl) (show _ = moC g ad (rw2 μ 5 (fun _ => nI (0))) from rfl) dX6_close_2 ?_
  refine w_iload_n X 1 rfl dX6_close_5 ?_
  refine w_roS X [] (m_X6_isArena l g (x)) cs_X6_isArena mk_X6_103 rfl rfl ⟨Nat.le_of_ble_eq_true rfl, Nat.le_of_ble_eq_true rfl⟩ (Nat.le_of_ble_eq_true rfl) ⟨Nat.le_of_ble_eq_true rfl, Nat.le_of_ble_eq_true rfl⟩ dX6_close_6 rfl ?_
  refine w_bf_ne X 18 dX6_close_9 (by decide) (fun c9 => ?_) (fun c9 => ?_)
  · obtain ⟨a, ha, rfl⟩ := isArB_ex c9
    refine w_aload_n X 0 rfl dX6_close_18 ?_
    refine w_iload_n X 1 rfl dX6_close_19 ?_
    refine w_roV X [0] 0 0 (m_X6_isOpen l g ad (rw2 μ 5 (fun _ => nI (0))) σ a (by omega) (hR)) cv_X6_isOpen mk_X6_88 rfl rfl rfl rfl rfl ⟨Nat.le_of_ble_eq_true rfl, Nat.le_of_ble_eq_true rfl⟩ (Nat.le_of_ble_eq_true rfl) ⟨Nat.le_of_ble_eq_true rfl, Nat.le_of_ble_eq_true rfl⟩ dX6_close_20 rfl ?_
    refine w_bf_eq X 34 dX6_close_23 (by decide) (fun c23 => ?_) (fun c23 => ?_)
    · refine w_aload_n X 0 rfl dX6_close_34 ?_
      refine w_iconst X (nI 2) dX6_close_35 (by decide +kernel) ?_
      refine w_muV X hA (gr := []) (gs1 := [moC g ad (rw2 (rw2 μ 5 (fun _ => nI (0))) 5 (fun _ => nI 2))]) [0] [] 0 0 (m_X6_fails l g ad (rw2 μ 5 (fun _ => nI (0))) 2) cv_X6_fails mk_X6_50 rfl rfl rfl (ng := 1) rfl (by decide) rfl rfl rfl rfl rfl rfl ⟨Nat.le_of_ble_eq_true rfl, Nat.le_of_ble_eq_true rfl⟩ (Nat.le_of_ble_eq_true rfl) ⟨Nat.le_of_ble_eq_true rfl, Nat.le_of_ble_eq_true rfl⟩ dX6_close_36 rfl ?_
      exact w_iret_me X ⟨rw2 (rw2 μ 5 (fun _ => nI (0))) 5 (fun _ => nI 2), by rw [cloO, if_neg (by rw [c9]; decide), if_pos c23]; exact mc_r (lk_1 _ _ _)⟩ (by rw [cloO, if_neg (by rw [c9]; decide), if_pos c23]; rfl) rfl (Nat.le_of_ble_eq_true rfl) (Nat.le_of_ble_eq_true rfl) dX6_close_39
    · refine w_aload_n X 0 rfl dX6_close_26 ?_
      refine w_iload_n X 1 rfl dX6_close_27 ?_
      refine w_meV X hA (U := {μ' : Nat → Nat → Int32 // LQP σ (rw2 μ 5 (fun _ => nI (0))) μ' ∧ LV μ' (suC σ (nI (a)))}) (gr := []) (gs1 := fun u => [moC g ad u.1]) [0] [] 0 0 (m_X6_cellsOf l g ad (rw2 μ 5 (fun _ => nI (0))) σ (nI (a)) (hR) (nI_nm1 (by omega))) cv_X6_cellsOf mk_X6_134 rfl rfl rfl (ng := 1) rfl (by decide) (fun _ => rfl) (fun _ => rfl) (fun _ => rfl) rfl rfl rfl ⟨Nat.le_of_ble_eq_true rfl, Nat.le_of_ble_eq_true rfl⟩ (Nat.le_of_ble_eq_true rfl) ⟨Nat.le_of_ble_eq_true rfl, Nat.le_of_ble_eq_true rfl⟩ dX6_close_28 rfl (fun u => ?_)
      obtain ⟨μ1, hμ1⟩ := u
      try dsimp only
      have hR1 : RI σ (μ1 0) := hμ1.1.1.RI hR
      refine w_if_le X 40 dX6_close_31 (by decide) (fun c31 => ?_) (fun c31 => ?_)
      · refine w_aload_n X 0 rfl dX6_close_40 ?_
        refine w_meV X hA (U := {μ' : Nat → Nat → Int32 // SQ μ1 μ' v}) (gr := []) (gs1 := fun u => [moC g ad u.1]) [0] [] 0 0 (m_X6_saves l g ad μ1 v (by rw [hμ1.1.1 2 (by decide)]; exact hv) (hv6)) cv_X6_saves mk_X6_97 rfl rfl rfl (ng := 1) rfl (by decide) (fun _ => rfl) (fun _ => rfl) (fun _ => rfl) rfl rfl rfl ⟨Nat.le_of_ble_eq_true rfl, Nat.le_of_ble_eq_true rfl⟩ (Nat.le_of_ble_eq_true rfl) ⟨Nat.le_of_ble_eq_true rfl, Nat.le_of_ble_eq_true rfl⟩ dX6_close_41 rfl (fun u => ?_)
        obtain ⟨μ2, hμ2⟩ := u
        try dsimp only
        have hR2 : RI σ (μ2 0) := by rw [hμ2.1 0 (by decide) (by decide)]; exact hR1
        refine w_aload_n X 0 rfl dX6_close_44 ?_
        refine w_iload_n X 1 rfl dX6_close_45 ?_
        refine w_meV X hA (U := {μ' : Nat → Nat → Int32 // (∀ j, j ≠ 0 → μ' j = μ2 j) ∧ RI (freeS σ a) (μ' 0)}) (gr := []) (gs1 := fun u => [moC g ad u.1]) [0] [] 0 0 (m_X6_frees l g ad μ2 σ a (hR2) (by omega)) cv_X6_frees mk_X6_131 rfl rfl rfl (ng := 1) rfl (by decide) (fun _ => rfl) (fun _ => rfl) (fun _ => rfl) rfl rfl rfl ⟨Nat.le_of_ble_eq_true rfl, Nat.le_of_ble_eq_true rfl⟩ (Nat.le_of_ble_eq_true rfl) ⟨Nat.le_of_ble_eq_true rfl, Nat.le_of_ble_eq_true rfl⟩ dX6_close_46 rfl (fun u => ?_)
        obtain ⟨μ3, hμ3⟩ := u
        try dsimp only
        exact w_iret_me X ⟨μ3, by rw [cloO, if_neg (by rw [c9]; decide), if_neg (by rw [c23]; decide), if_pos ((cells_0 hR (nI_nm1 (by omega))).mp c31), nI_clamp (by omega)]; exact mc_l2 (fun j hj => hμ1.1.1 j (by omega)) hμ2 (fun j j0 _ => hμ3.1 j j0) hμ3.2⟩ (by rw [cloO, if_neg (by rw [c9]; decide), if_neg (by rw [c23]; decide), if_pos ((cells_0 hR (nI_nm1 (by omega))).mp c31)]; rfl) rfl (Nat.le_of_ble_eq_true rfl) (Nat.le_of_ble_eq_true rfl) dX6_close_49
      · refine w_aload_n X 0 rfl dX6_close_34 ?_
        refine w_iconst X (nI 2) dX6_close_35 (by decide +kernel) ?_
        refine w_muV X hA (gr := []) (gs1 := [moC g ad (rw2 μ1 5 (fun _ => nI 2))]) [0] [] 0 0 (m_X6_fails l g ad μ1 2) cv_X6_fails mk_X6_50 rfl rfl rfl (ng := 1) rfl (by decide) rfl rfl rfl rfl rfl rfl ⟨Nat.le_of_ble_eq_true rfl, Nat.le_of_ble_eq_true rfl⟩ (Nat.le_of_ble_eq_true rfl) ⟨Nat.le_of_ble_eq_true rfl, Nat.le_of_ble_eq_true rfl⟩ dX6_close_36 rfl ?_
        exact w_iret_me X ⟨rw2 μ1 5 (fun _ => nI 2), by rw [cloO, if_neg (by rw [c9]; decide), if_neg (by rw [c23]; decide), if_neg (fun z => c31 ((cells_0 hR (nI_nm1 (by omega))).mpr z))]; exact mc_r (lk_2 hμ1.1.1)⟩ (by rw [cloO, if_neg (by rw [c9]; decide), if_neg (by rw [c23]; decide), if_neg (fun z => c31 ((cells_0 hR (nI_nm1 (by omega))).mpr z))]; rfl) rfl (Nat.le_of_ble_eq_true rfl) (Nat.le_of_ble_eq_true rfl) dX6_close_39
  · refine w_aload_n X 0 rfl dX6_close_12 ?_
    refine w_iconst X (nI 1) dX6_close_13 (by decide +kernel) ?_
    refine w_muV X hA (gr := []) (gs1 := [moC g ad (rw2 (rw2 μ 5 (fun _ => nI (0))) 5 (fun _ => nI 1))]) [0] [] 0 0 (m_X6_fails l g ad (rw2 μ 5 (fun _ => nI (0))) 1) cv_X6_fails mk_X6_50 rfl rfl rfl (ng := 1) rfl (by decide) rfl rfl rfl rfl rfl rfl ⟨Nat.le_of_ble_eq_true rfl, Nat.le_of_ble_eq_true rfl⟩ (Nat.le_of_ble_eq_true rfl) ⟨Nat.le_of_ble_eq_true rfl, Nat.le_of_ble_eq_true rfl⟩ dX6_close_14 rfl ?_
    exact w_iret_me X ⟨rw2 (rw2 μ 5 (fun _ => nI (0))) 5 (fun _ => nI 1), by rw [cloO, if_pos c9]; exact mc_r (lk_1 _ _ _)⟩ (by rw [cloO, if_pos c9]; rfl) rfl (Nat.le_of_ble_eq_true rfl) (Nat.le_of_ble_eq_true rfl) dX6_close_17
