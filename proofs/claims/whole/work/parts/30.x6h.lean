/-! The model: best, share, properties, counts -/
theorem cells_le {σ : Nat → Nat → Int32} {N : Nat → Int32} (hR : RI σ N) {a : Nat} (ha : a < 6) : ∀ n, n ≤ 24 → ∃ z, z ≤ szS σ a n ∧ cellsL σ (suC σ (nI a)) n = nI z
  | 0, _ => ⟨0, Nat.le_refl _, rfl⟩
  | n + 1, hn => by
    obtain ⟨z, hz, e⟩ := cells_le hR ha n (by omega)
    rcases hp : plB (suC σ (nI a)) n with _ | _
    · exact ⟨z, by rw [szS]; omega, by rw [← cell_f (by omega) hp, e, add_0]⟩
    · have hu := su_use hR (nI_nm1 (by omega)) (by omega) hp
      obtain ⟨k, y, d, q, h1, h2, h3, h4, h5, e1, e2, e3, e4, e5⟩ := hR.1.2.2.2.2.1 n (by omega) hu.1
      refine ⟨z + y, ?_, by rw [← cell_t (by omega) hp, e, e3, nI_add]⟩
      rw [szS, if_pos ⟨hu.1, hu.2⟩, e3, nI_clamp (by omega)]
      omega
theorem dead_nI (σ ρ : Nat → Nat → Int32) {a : Nat} (ha : a < 6) : deadI σ ρ (nI a) = σ 9 a - cellsL σ ρ 24 := by rw [deadI, isArB_nI ha, if_neg (by decide), nI_clamp (by omega)]
theorem dead_bd {σ : Nat → Nat → Int32} {N : Nat → Int32} (hR : RI σ N) {a : Nat} (ha : a < 6) : ∃ y, y ≤ 64 ∧ deadI σ (suC σ (nI a)) (nI a) = nI y := by
  obtain ⟨z, hz, e⟩ := cells_le hR ha 24 (Nat.le_refl _)
  obtain ⟨-, q, hq, e2, hs⟩ := hR.1.2.1 a ha
  exact ⟨q - z, by omega, by rw [dead_nI σ _ ha, e, e2, pk_sub (by omega)]⟩
def bsD (σ : Nat → Nat → Int32) (a : Nat) (r : Int32 × Int32) : Int32 × Int32 := if deadI σ (suC σ (nI a)) (nI a) ≤ r.2 then r else (nI a, deadI σ (suC σ (nI a)) (nI a))
theorem i32_le_rf (x : Int32) : x ≤ x := by rw [Int32.le_iff_toInt_le]; omega
theorem bsD_2 (σ : Nat → Nat → Int32) (a : Nat) (r : Int32 × Int32) : bsD σ a (bsD σ a r) = bsD σ a r := by
  rw [bsD, bsD]
  by_cases c : deadI σ (suC σ (nI a)) (nI a) ≤ r.2
  · rw [if_pos c, if_pos c]
  · rw [if_neg c, if_pos (i32_le_rf _)]
theorem bs_any (σ : Nat → Nat → Int32) (a : Nat) (r : Int32 × Int32) : ∀ n, bsI σ a r n = if anyB (cgB σ a) n = true then bsD σ a r else r
  | 0 => rfl
  | n + 1 => by
    have e : ∀ s, bs1 σ a n s = if cgB σ a n = true then bsD σ a s else s := fun s => by
      rw [bs1, cgB, bsD]
      by_cases c : rsC σ (nI a) (nI n) = 0
      · rw [if_pos c, if_pos c, if_pos rfl]
      · rw [if_neg c, if_neg c, if_neg Bool.false_ne_true]
    rw [bsI, bs_any σ a r n, any_s, e]
    rcases c1 : anyB (cgB σ a) n with _ | _
    · rw [if_neg Bool.false_ne_true, if_neg Bool.false_ne_true]
    · rw [if_pos rfl, if_pos rfl, if_pos rfl, bsD_2]
      split <;> rfl
theorem bs_f {σ : Nat → Nat → Int32} {a : Nat} (h : anyB (cgB σ a) 6 = false) : bsO σ (a + 1) = bsO σ a := by rw [bsO, bs_any, h, if_neg Bool.false_ne_true]
theorem bs_t {σ : Nat → Nat → Int32} {a : Nat} (h : anyB (cgB σ a) 6 = true) : bsO σ (a + 1) = bsD σ a (bsO σ a) := by rw [bsO, bs_any, h, if_pos rfl]
def BM (σ : Nat → Nat → Int32) (a : Nat) (t : Int32) : Prop := ((bsO σ a).1 = -1 ∧ (bsO σ a).2 = -1 ∧ t = nI 0) ∨ ∃ k y, k < a ∧ (bsO σ a).1 = nI k ∧ (bsO σ a).2 = nI y ∧ y ≤ 64 ∧ t = nI y
theorem nle_m1 {y : Nat} (h : y < 2 ^ 31) : ¬ nI y ≤ -1 := fun e => by
  rw [Int32.le_iff_toInt_le, nI_toInt h] at e
  have : (-1 : Int32).toInt = -1 := by decide
  omega
theorem bm_new {σ : Nat → Nat → Int32} {a y : Nat} {t : Int32} (ha : a < 6) (hb : BM σ a t) (h : anyB (cgB σ a) 6 = true) (hy : y ≤ 64) (e : deadI σ (suC σ (nI a)) (nI a) = nI y) (hc : (bsO σ a).1 = -1 ∨ ¬ nI y ≤ t) : bsO σ (a + 1) = (nI a, nI y) := by
  rw [bs_t h, bsD, e, if_neg]
  rcases hb with ⟨e1, e2, e3⟩ | ⟨k, z, h1, e1, e2, h2, e3⟩
  · rw [e2]; exact nle_m1 (by omega)
  · rcases hc with hc | hc
    · exact absurd (e1.symm.trans hc) (nI_ne (by omega))
    · rw [e2, ← e3]; exact hc
theorem bm_old {σ : Nat → Nat → Int32} {a y : Nat} {t : Int32} (ha : a < 6) (hb : BM σ a t) (h : anyB (cgB σ a) 6 = true) (e : deadI σ (suC σ (nI a)) (nI a) = nI y) (hc : ¬ (bsO σ a).1 = -1) (hl : nI y ≤ t) : bsO σ (a + 1) = bsO σ a := by
  rw [bs_t h, bsD, e, if_pos]
  rcases hb with ⟨e1, e2, e3⟩ | ⟨k, z, h1, e1, e2, h2, e3⟩
  · exact absurd e1 hc
  · rw [e2, ← e3]; exact hl
theorem bm_k {σ : Nat → Nat → Int32} {a : Nat} {t : Int32} (ha : a < 6) (hb : BM σ a t) : ¬ (bsO σ a).1 = nI a := fun e => by
  rcases hb with ⟨e1, e2, e3⟩ | ⟨k, z, h1, e1, e2, h2, e3⟩
  · exact nI_ne (by omega) (e.symm.trans e1)
  · have := (nI_eq (by omega) (by omega)).mp (e1.symm.trans e)
    omega
theorem BM.mono {σ : Nat → Nat → Int32} {a : Nat} {t : Int32} (hb : BM σ a t) (e : bsO σ (a + 1) = bsO σ a) : BM σ (a + 1) t := by
  rw [BM, e]
  exact hb.elim Or.inl (fun ⟨k, y, h1, h2⟩ => Or.inr ⟨k, y, by omega, h2⟩)
theorem BM.new {σ : Nat → Nat → Int32} {a y : Nat} (hy : y ≤ 64) (e : bsO σ (a + 1) = (nI a, nI y)) : BM σ (a + 1) (nI y) := Or.inr ⟨a, y, by omega, by rw [e], by rw [e], hy, rfl⟩
def plK (ρ : Nat → Nat → Int32) (k j : Nat) : Bool := if plB ρ j = true then decide ((ρ 1 j).toNatClampNeg < k) else false
theorem plK_0 (ρ : Nat → Nat → Int32) (s : Nat → Int32) : sumI (plK ρ 0) s 24 = nI 0 := sumI_0 24 (fun j _ => by
  rw [plK]
  split
  · exact decide_eq_false (by omega)
  · rfl)
theorem plK_s {σ μ ρ : Nat → Nat → Int32} {q k j d : Nat} (hF : FM σ μ ρ q) (hk : k < q) (hj : j < 24) (e : ρ 0 k = nI j) (e1 : ρ 1 j = nI k) (s : Nat → Int32) : sumI (plK ρ (k + 1)) s 24 = sumI (plK ρ k) s 24 + s j := by
  have hq := hF.1
  have hp : plB ρ j = true := pl_t.mpr (by rw [e1]; exact nI_ne (by omega))
  refine sumI_up (by rw [plK, hp, if_pos rfl, e1, nI_clamp (by omega)]; exact decide_eq_false (by omega)) (by rw [plK, hp, if_pos rfl, e1, nI_clamp (by omega)]; exact decide_eq_true (by omega)) 24 (Nat.le_refl _) hj (fun i hi hne => ?_)
  rw [plK, plK]
  rcases hq2 : plB ρ i with _ | _
  · rw [if_neg (by decide), if_neg (by decide)]
  · rw [if_pos rfl, if_pos rfl]
    rcases hF.2.2.2.2.1 i hi with z | ⟨y, hy, y1, y2⟩
    · exact absurd z.1 (pl_t.mp hq2)
    · rw [y1, nI_clamp (by omega)]
      have : y ≠ k := fun z => by
        subst z
        exact hne ((nI_eq (by omega) (by omega)).mp (y2.symm.trans e))
      by_cases c : y < k
      · rw [decide_eq_true c, decide_eq_true (show y < k + 1 by omega)]
      · rw [decide_eq_false c, decide_eq_false (show ¬ y < k + 1 by omega)]
theorem plK_q {σ μ ρ : Nat → Nat → Int32} {q : Nat} (hF : FM σ μ ρ q) (s : Nat → Int32) : sumI (plK ρ q) s 24 = sumI (plB ρ) s 24 := sumI_eq 24 (fun i hi => by
  have hq := hF.1
  rw [plK]
  rcases hq2 : plB ρ i with _ | _
  · rfl
  · rw [if_pos rfl]
    rcases hF.2.2.2.2.1 i hi with z | ⟨y, hy, y1, y2⟩
    · exact absurd z.1 (pl_t.mp hq2)
    · rw [y1, nI_clamp (by omega)]; exact decide_eq_true hy)
theorem mk_bd {σ : Nat → Nat → Int32} {N : Nat → Int32} (hR : RI σ N) : ∀ n, n ≤ 6 → ∃ z, z ≤ 64 * n ∧ mkL σ n = nI z
  | 0, _ => ⟨0, by omega, rfl⟩
  | n + 1, h => by
    obtain ⟨z, hz, e⟩ := mk_bd hR n (by omega)
    obtain ⟨-, q, hq, e2, -⟩ := hR.1.2.1 n (by omega)
    exact ⟨z + q, by omega, by rw [mkL, e, e2, nI_add]⟩
set_option maxRecDepth 100000 in
set_option maxHeartbeats 4000000 in
theorem m_X6_bestArena (l : Launch) (g : GG) (ad : Nat → Nat) (μ : Nat → Nat → Int32) (σ : Nat → Nat → Int32) (hR : RI σ (μ 0)) : MME (U := {μ' : Nat → Nat → Int32 // scr μ μ'}) l g yX6_bestArena cX6_bestArena 5 (some .int) 7 0 0 [.ref (ad 0)] [moC g ad μ] (some (.int ((bsO σ 6).1))) (fun u => [moC g ad u.1]) := by
  refine mk_me (by decide +kernel) (Nat.le_of_ble_eq_true rfl) (fun p e s m below meth c A hA X => ?_)
  refine w_iconst X (-1) dX6_bestArena_0 (by decide +kernel) ?_
  refine w_istore_n X dX6_bestArena_1 (by decide) ?_
  refine w_iconst X (nI 0) dX6_bestArena_2 (by decide +kernel) ?_
  refine w_istore_n X dX6_bestArena_3 (by decide) ?_
  refine w_iconst X (nI 0) dX6_bestArena_4 (by decide +kernel) ?_
  refine w_istore_n X dX6_bestArena_5 (by decide) ?_
  have e0_1 : (-1) = ((bsO σ 0).1) := by rfl
  refine w_all [3, 2, 1, 0] (rfl) (rfl) (by rw [← e0_1]; rfl) (w_loop (st := []) (pc := 6) X (V := Nat × Int32 × (Nat → Nat → Int32)) (fun (v6 : Nat × Int32 × (Nat → Nat → Int32)) => 6 - v6.1) (fun (v6 : Nat × Int32 × (Nat → Nat → Int32)) => (v6.1 ≤ 6) ∧ (scr μ v6.2.2) ∧ (BM σ v6.1 v6.2.1)) (fun (v6 : Nat × Int32 × (Nat → Nat → Int32)) => [(0, .ref (ad 0)), (1, .int ((bsO σ v6.1).1)), (2, .int (v6.2.1)), (3, .int (nI v6.1))]) (fun (v6 : Nat × Int32 × (Nat → Nat → Int32)) => [moC g ad v6.2.2]) (fun v6 hv6 ih6 => ?_) (0, nI 0, μ) (by (try dsimp only); exact ⟨by omega, scr.rf _, Or.inl ⟨rfl, rfl, rfl⟩⟩))
  obtain ⟨a, t, μ2⟩ := v6
  obtain ⟨ha, hs2, hm⟩ := hv6
  try dsimp only at ha hs2 hm ih6 ⊢
  refine w_iload_n X 3 rfl dX6_bestArena_6 ?_
  refine w_bipush X (nI 6) dX6_bestArena_7 (by decide +kernel) ?_
  refine w_nc_ge X (by omega) (by omega) 68 dX6_bestArena_9 (by decide) (fun c9 => ?_) (fun c9 => ?_)
  · have he_a : a = 6 := by omega
    refine w_iload_n X 1 rfl dX6_bestArena_68 ?_
    exact w_iret_me X ⟨μ2, hs2⟩ (by rw [he_a]) rfl (Nat.le_of_ble_eq_true rfl) (Nat.le_of_ble_eq_true rfl) dX6_bestArena_69
  · have hR2 : RI σ (μ2 0) := hs2.RI hR
    refine w_aload_n X 0 rfl dX6_bestArena_12 ?_
    refine w_iload_n X 3 rfl dX6_bestArena_13 ?_
    refine w_meV X hA (U := {μ' : Nat → Nat → Int32 // scr μ2 μ'}) (gr := []) (gs1 := fun u => [moC g ad u.1]) [0] [] 0 0 (m_X6_canGo l g ad μ2 σ a (hR2) (by omega)) cv_X6_canGo mk_X6_209 rfl rfl rfl (ng := 1) rfl (by decide) (fun _ => rfl) (fun _ => rfl) (fun _ => rfl) rfl rfl rfl ⟨Nat.le_of_ble_eq_true rfl, Nat.le_of_ble_eq_true rfl⟩ (Nat.le_of_ble_eq_true rfl) ⟨Nat.le_of_ble_eq_true rfl, Nat.le_of_ble_eq_true rfl⟩ dX6_bestArena_14 rfl (fun u => ?_)
    obtain ⟨μ1, hμ1⟩ := u
    try dsimp only
    refine w_bf_eq X 62 dX6_bestArena_17 (by decide) (fun c17 => ?_) (fun c17 => ?_)
    · refine w_iinc X (nI (a + 1)) 3 rfl (nI_1 _) dX6_bestArena_62 (by decide) ?_
      refine w_goto X 6 dX6_bestArena_65 (by decide) ?_
      have e1_1 : ((bsO σ a).1) = ((bsO σ (a + 1)).1) := by rw [bs_f c17]
      exact w_all [1, 2, 3, 0] (rfl) (rfl) (by rw [← e1_1]; rfl) (ih6 (a + 1, (t), μ1) (by omega) (by (try dsimp only); exact ⟨by omega, hs2.tr hμ1, hm.mono (bs_f c17)⟩))
    · have hR3 : RI σ (μ1 0) := hμ1.RI hR2
      refine w_aload_n X 0 rfl dX6_bestArena_20 ?_
      refine w_iload_n X 3 rfl dX6_bestArena_21 ?_
      refine w_roV X [0] 0 0 (m_X6_mark l g ad μ1 a (by omega)) cv_X6_mark mk_X6_94 rfl rfl rfl rfl rfl ⟨Nat.le_of_ble_eq_true rfl, Nat.le_of_ble_eq_true rfl⟩ (Nat.le_of_ble_eq_true rfl) ⟨Nat.le_of_ble_eq_true rfl, Nat.le_of_ble_eq_true rfl⟩ dX6_bestArena_22 rfl ?_
      refine w_aload_n X 0 rfl dX6_bestArena_25 ?_
      refine w_iload_n X 3 rfl dX6_bestArena_26 ?_
      refine w_meV X hA (U := {μ' : Nat → Nat → Int32 // LQP σ μ1 μ' ∧ LV μ' (suC σ (nI (a)))}) (gr := []) (gs1 := fun u => [moC g ad u.1]) [0] [] 0 0 (m_X6_cellsOf l g ad μ1 σ (nI (a)) (hR3) (nI_nm1 (by omega))) cv_X6_cellsOf mk_X6_134 rfl rfl rfl (ng := 1) rfl (by decide) (fun _ => rfl) (fun _ => rfl) (fun _ => rfl) rfl rfl rfl ⟨Nat.le_of_ble_eq_true rfl, Nat.le_of_ble_eq_true rfl⟩ (Nat.le_of_ble_eq_true rfl) ⟨Nat.le_of_ble_eq_true rfl, Nat.le_of_ble_eq_true rfl⟩ dX6_bestArena_27 rfl (fun u => ?_)
      obtain ⟨μ2, hμ2⟩ := u
      try dsimp only
      refine w_isub X dX6_bestArena_30 ?_
      obtain ⟨y, hy, hy0⟩ := dead_bd hR2 (a := a) (by omega)
      refine w_st (st2 := [.int (nI y)]) (by rw [← hy0, dead_nI σ _ (by omega), (hR3.2.2.1 a (by omega)).2.1] <;> rfl) ?_
      refine w_istore X dX6_bestArena_31 (by decide) ?_
      refine w_iload_n X 2 rfl dX6_bestArena_33 ?_
      refine w_iconst X (-1) dX6_bestArena_34 (by decide +kernel) ?_
      refine w_ic_eq X 44 dX6_bestArena_35 (by decide) (fun c35 => ?_) (fun c35 => ?_)
      · refine w_iload_n X 4 rfl dX6_bestArena_44 ?_
        refine w_goto X 49 dX6_bestArena_45 (by decide) ?_
        refine w_istore_n X dX6_bestArena_49 (by decide) ?_
        refine w_iload_n X 0 rfl dX6_bestArena_50 ?_
        refine w_iload_n X 4 rfl dX6_bestArena_51 ?_
        refine w_nc_ne X (by omega) (by omega) 60 dX6_bestArena_52 (by decide) (fun c52 => by exfalso; exact c52 rfl) (fun c52 => ?_)
        refine w_iload X 1 rfl dX6_bestArena_55 ?_
        refine w_goto X 61 dX6_bestArena_57 (by decide) ?_
        refine w_istore_n X dX6_bestArena_61 (by decide) ?_
        refine w_iinc X (nI (a + 1)) 4 rfl (nI_1 _) dX6_bestArena_62 (by decide) ?_
        refine w_goto X 6 dX6_bestArena_65 (by decide) ?_
        have e2_1 : nI (a) = ((bsO σ (a + 1)).1) := by rw [bm_new (by omega) hm c17 hy hy0 (Or.inl c35)]
        exact w_all [4, 2, 1, 0] (rfl) (rfl) (by rw [← e2_1]; rfl) (ih6 (a + 1, nI (y), μ2) (by omega) (by (try dsimp only); exact ⟨by omega, hs2.tr (hμ1.tr hμ2.1.1), BM.new hy (bm_new (by omega) hm c17 hy hy0 (Or.inl c35))⟩))
      · refine w_iload X 0 rfl dX6_bestArena_38 ?_
        refine w_iload_n X 3 rfl dX6_bestArena_40 ?_
        refine w_ic_le X 48 dX6_bestArena_41 (by decide) (fun c41 => ?_) (fun c41 => ?_)
        · refine w_iload_n X 2 rfl dX6_bestArena_48 ?_
          refine w_istore_n X dX6_bestArena_49 (by decide) ?_
          refine w_iload_n X 0 rfl dX6_bestArena_50 ?_
          refine w_iload_n X 4 rfl dX6_bestArena_51 ?_
          refine w_ic_ne X 60 dX6_bestArena_52 (by decide) (fun c52 => ?_) (fun c52 => by exfalso; exact bm_k (by omega) hm c52)
          refine w_iload_n X 3 rfl dX6_bestArena_60 ?_
          refine w_istore_n X dX6_bestArena_61 (by decide) ?_
          refine w_iinc X (nI (a + 1)) 4 rfl (nI_1 _) dX6_bestArena_62 (by decide) ?_
          refine w_goto X 6 dX6_bestArena_65 (by decide) ?_
          have e3_1 : ((bsO σ a).1) = ((bsO σ (a + 1)).1) := by rw [bm_old (by omega) hm c17 hy0 c35 c41]
          exact w_all [4, 2, 1, 0] (rfl) (rfl) (by rw [← e3_1]; rfl) (ih6 (a + 1, (t), μ2) (by omega) (by (try dsimp only); exact ⟨by omega, hs2.tr (hμ1.tr hμ2.1.1), hm.mono (bm_old (by omega) hm c17 hy0 c35 c41)⟩))
        · refine w_iload_n X 4 rfl dX6_bestArena_44 ?_
          refine w_goto X 49 dX6_bestArena_45 (by decide) ?_
          refine w_istore_n X dX6_bestArena_49 (by decide) ?_
          refine w_iload_n X 0 rfl dX6_bestArena_50 ?_
          refine w_iload_n X 4 rfl dX6_bestArena_51 ?_
          refine w_nc_ne X (by omega) (by omega) 60 dX6_bestArena_52 (by decide) (fun c52 => by exfalso; exact c52 rfl) (fun c52 => ?_)
          refine w_iload X 1 rfl dX6_bestArena_55 ?_
          refine w_goto X 61 dX6_bestArena_57 (by decide) ?_
          refine w_istore_n X dX6_bestArena_61 (by decide) ?_
          refine w_iinc X (nI (a + 1)) 4 rfl (nI_1 _) dX6_bestArena_62 (by decide) ?_
          refine w_goto X 6 dX6_bestArena_65 (by decide) ?_
          have e4_1 : nI (a) = ((bsO σ (a + 1)).1) := by rw [bm_new (by omega) hm c17 hy hy0 (Or.inr c41)]
          exact w_all [4, 2, 1, 0] (rfl) (rfl) (by rw [← e4_1]; rfl) (ih6 (a + 1, nI (y), μ2) (by omega) (by (try dsimp only); exact ⟨by omega, hs2.tr (hμ1.tr hμ2.1.1), BM.new hy (bm_new (by omega) hm c17 hy hy0 (Or.inr c41))⟩))
set_option maxRecDepth 100000 in
set_option maxHeartbeats 4000000 in
theorem m_X6_share (l : Launch) (g : GG) (ad : Nat → Nat) (μ : Nat → Nat → Int32) (σ : Nat → Nat → Int32) (hR : RI σ (μ 0)) (hN : 0 < mkL σ 6 → vf_n64 (FP.ddiv (FP.i2d (cellsL σ (trC σ (-1)) 24)) (FP.i2d (mkL σ 6)))) : MME (U := {μ' : Nat → Nat → Int32 // scr μ μ'}) l g yX6_share cX6_share 4 (some .double) 3 0 0 [.ref (ad 0)] [moC g ad μ] (some (.double (shC σ))) (fun u => [moC g ad u.1]) := by
  refine mk_me (by decide +kernel) (Nat.le_of_ble_eq_true rfl) (fun p e s m below meth c A hA X => ?_)
  refine w_aload_n X 0 rfl dX6_share_0 ?_
  refine w_iconst X (-1) dX6_share_1 (by decide +kernel) ?_
  refine w_meV X hA (U := {μ' : Nat → Nat → Int32 // scr μ μ' ∧ ∃ q, FM σ μ' (trC σ (-1)) q}) (gr := []) (gs1 := fun u => [moC g ad u.1]) [0] [] 0 0 (m_X6_meetsAll l g ad μ σ (-1) (hR)) cv_X6_meetsAll mk_X6_60 rfl rfl rfl (ng := 1) rfl (by decide) (fun _ => rfl) (fun _ => rfl) (fun _ => rfl) rfl rfl rfl ⟨Nat.le_of_ble_eq_true rfl, Nat.le_of_ble_eq_true rfl⟩ (Nat.le_of_ble_eq_true rfl) ⟨Nat.le_of_ble_eq_true rfl, Nat.le_of_ble_eq_true rfl⟩ dX6_share_2 rfl (fun u => ?_)
  obtain ⟨μ1, hμ1⟩ := u
  try dsimp only
  have hR1 : RI σ (μ1 0) := hμ1.1.RI hR
  obtain ⟨q, hF⟩ := hμ1.2
  have hq24 := hF.1
  obtain ⟨zz, hzz, hz6⟩ := mk_bd hR 6 (Nat.le_refl _)
  refine w_iconst X (nI 0) dX6_share_5 (by decide +kernel) ?_
  refine w_istore_n X dX6_share_6 (by decide) ?_
  refine w_iconst X (nI 0) dX6_share_7 (by decide +kernel) ?_
  refine w_istore_n X dX6_share_8 (by decide) ?_
  refine w_iconst X (nI 0) dX6_share_9 (by decide +kernel) ?_
  refine w_istore_n X dX6_share_10 (by decide) ?_
  have e0_1 : nI (0) = (sumI (plK (trC σ (-1)) 0) (σ 3) 24) := by rw [plK_0]
  refine w_all [3, 2, 1, 0] (rfl) (rfl) (by rw [← e0_1]; rfl) (w_loop (st := []) (pc := 11) X (V := Nat) (fun (k : Nat) => q - k) (fun (k : Nat) => (k ≤ q)) (fun (k : Nat) => [(0, .ref (ad 0)), (1, .int (sumI (plK (trC σ (-1)) k) (σ 3) 24)), (2, .int (nI 0)), (3, .int (nI k))]) (fun (k : Nat) => [moC g ad μ1]) (fun k hv11 ih11 => ?_) 0 (by omega))
  have hk := hv11
  try dsimp only at ih11 ⊢
  refine w_iload_n X 3 rfl dX6_share_11 ?_
  refine w_aload_n X 0 rfl dX6_share_12 ?_
  refine w_get X 0 0 rfl rfl rfl in_X6 13 (by decide) fk_X6_54 rfl dX6_share_13 ?_
  refine w_st (st2 := [.int (nI q), .int (nI k)]) (by rw [hF.2.2.1]) ?_
  refine w_nc_ge X (by omega) (by omega) 39 dX6_share_16 (by decide) (fun c16 => ?_) (fun c16 => ?_)
  · have he_k : k = q := by omega
    refine w_iconst X (nI 0) dX6_share_39 (by decide +kernel) ?_
    refine w_istore_n X dX6_share_40 (by decide) ?_
    have e1_1 : (sumI (plK (trC σ (-1)) k) (σ 3) 24) = (cellsL σ (trC σ (-1)) 24) := by rw [he_k, plK_q hF, cells_sum σ _ 24 (Nat.le_refl _)]
    have e1_2 : nI (0) = (mkL σ 0) := by rfl
    refine w_all [1, 2, 3, 0] (rfl) (rfl) (by rw [← e1_1, ← e1_2]; rfl) (w_loop (st := []) (pc := 41) X (V := Nat) (fun (i : Nat) => 6 - i) (fun (i : Nat) => (i ≤ 6)) (fun (i : Nat) => [(0, .ref (ad 0)), (1, .int (cellsL σ (trC σ (-1)) 24)), (2, .int (mkL σ i)), (3, .int (nI i))]) (fun (i : Nat) => [moC g ad μ1]) (fun i hv41 ih41 => ?_) 0 (by omega))
    have hi := hv41
    try dsimp only at ih41 ⊢
    refine w_iload_n X 3 rfl dX6_share_41 ?_
    refine w_bipush X (nI 6) dX6_share_42 (by decide +kernel) ?_
    refine w_nc_ge X (by omega) (by omega) 61 dX6_share_44 (by decide) (fun c44 => ?_) (fun c44 => ?_)
    · have he_i : i = 6 := by omega
      refine w_iload_n X 2 rfl dX6_share_61 ?_
      refine w_if_ne X 69 dX6_share_62 (by decide) (fun c62 => ?_) (fun c62 => ?_)
      · subst he_i
        have cz : 0 < mkL σ 6 := by
              rw [hz6] at c62 ⊢
              exact (nI_ltI (by decide) (by omega)).mpr (Nat.pos_of_ne_zero (fun e => c62 (by rw [e]; rfl)))
        refine w_iload_n X 1 rfl dX6_share_69 ?_
        refine w_i2d X dX6_share_70 ?_
        refine w_iload_n X 2 rfl dX6_share_71 ?_
        refine w_i2d X dX6_share_72 ?_
        refine w_ddiv X dX6_share_73 (hN (by rw [hz6] at cz ⊢; exact cz)) ?_
        exact w_dret_me X ⟨μ1, hμ1.1⟩ (by rw [shC, if_pos cz]) rfl (Nat.le_of_ble_eq_true rfl) (Nat.le_of_ble_eq_true rfl) dX6_share_74
      · refine w_dconst1 X dX6_share_65 ?_
        refine w_goto X 74 dX6_share_66 (by decide) ?_
        exact w_dret_me X ⟨μ1, hμ1.1⟩ (by subst he_i; rw [shC, if_neg (by rw [c62]; decide)]) rfl (Nat.le_of_ble_eq_true rfl) (Nat.le_of_ble_eq_true rfl) dX6_share_74
    · refine w_iload_n X 2 rfl dX6_share_47 ?_
      refine w_aload_n X 0 rfl dX6_share_48 ?_
      refine w_iload_n X 3 rfl dX6_share_49 ?_
      refine w_roV X [0] 0 0 (m_X6_mark l g ad μ1 i (by omega)) cv_X6_mark mk_X6_94 rfl rfl rfl rfl rfl ⟨Nat.le_of_ble_eq_true rfl, Nat.le_of_ble_eq_true rfl⟩ (Nat.le_of_ble_eq_true rfl) ⟨Nat.le_of_ble_eq_true rfl, Nat.le_of_ble_eq_true rfl⟩ dX6_share_50 rfl ?_
      refine w_iadd X dX6_share_53 ?_
      refine w_istore_n X dX6_share_54 (by decide) ?_
      refine w_iinc X (nI (i + 1)) 3 rfl (nI_1 _) dX6_share_55 (by decide) ?_
      refine w_goto X 41 dX6_share_58 (by decide) ?_
      have e2_2 : ((mkL σ i) + (μ1 0 (6 + 3 * i + 1))) = (mkL σ (i + 1)) := by rw [(hR1.2.2.1 i (by omega)).2.1]; rfl
      exact w_all [2, 3, 1, 0] (rfl) (rfl) (by rw [← e2_2]; rfl) (ih41 (i + 1) (by omega) (by omega))
  · obtain ⟨j, d, hj, hd, p0, pm, p1, p2, pf, pu⟩ := hF.2.2.2.1 k (by omega)
    refine w_iload_n X 1 rfl dX6_share_19 ?_
    refine w_aload_n X 0 rfl dX6_share_20 ?_
    refine w_aload_n X 0 rfl dX6_share_21 ?_
    refine w_get X 0 0 rfl rfl rfl in_X6 12 (by decide) fk_X6_25 rfl dX6_share_22 ?_
    refine w_iload_n X 3 rfl dX6_share_25 ?_
    refine w_iald_n X 0 6 0 rfl rfl rfl (by omega) (by decide) dX6_share_26 ?_
    refine w_st (st2 := [.int (nI j), .ref (ad 0), .int (sumI (plK (trC σ (-1)) k) (σ 3) 24)]) (by rw [pm] <;> rfl) ?_
    refine w_iconst X (nI 3) dX6_share_27 (by decide +kernel) ?_
    refine w_roV X [0] 0 0 (m_X6_of l g ad μ1 j 3 (by omega) (by omega)) cv_X6_of mk_X6_43 rfl rfl rfl rfl rfl ⟨Nat.le_of_ble_eq_true rfl, Nat.le_of_ble_eq_true rfl⟩ (Nat.le_of_ble_eq_true rfl) ⟨Nat.le_of_ble_eq_true rfl, Nat.le_of_ble_eq_true rfl⟩ dX6_share_28 rfl ?_
    refine w_iadd X dX6_share_31 ?_
    refine w_istore_n X dX6_share_32 (by decide) ?_
    refine w_iinc X (nI (k + 1)) 3 rfl (nI_1 _) dX6_share_33 (by decide) ?_
    refine w_goto X 11 dX6_share_36 (by decide) ?_
    have e3_1 : ((sumI (plK (trC σ (-1)) k) (σ 3) 24) + (μ1 0 (24 + 9 * j + 3))) = (sumI (plK (trC σ (-1)) (k + 1)) (σ 3) 24) := by rw [plK_s (d := d) hF (by omega) hj p0 p1, (hR1.at hj pu).2.2.1]
    exact w_all [2, 1, 3, 0] (rfl) (rfl) (by rw [← e3_1]; rfl) (ih11 (k + 1) (by omega) (by omega))
