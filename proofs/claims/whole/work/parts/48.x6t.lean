/-! The model: makeAll -/
def mcB (σ : Nat → Nat → Int32) (a z : Nat) (h : Int32) : Bool := if mmB σ a (nI z) = false then false else if h = -1 then true else if h = nI (frN σ) then true else hasB σ h
def mkaO (σ τ : Nat → Nat → Int32) (x : Int32) : OC := if isArB x = false then .inr iOE else if okB (stL τ 60 0 (nI 0)) = false then .inr iAE else if isOpB σ x = false then .inr iSE else rI (nI (mkP x.toNatClampNeg 60 σ τ 0 0).2.2)
def MA (σ τ : Nat → Nat → Int32) (x : Int32) (v : Nat) (μ μ' : Nat → Nat → Int32) : Prop := μ' 5 0 = nI (cO [iOE, iAE, iSE] (mkaO σ τ x)) ∧ match mkaO σ τ x with
  | .inl _ => RI (mkP x.toNatClampNeg 60 σ τ 0 0).1 (μ' 0) ∧ HQ μ μ' v ∧ μ' 3 = μ 3 ∧ μ' 4 0 = nI 0
  | .inr _ => ∀ j, j < 5 → μ' j = μ j
theorem ma_r {σ τ μ μ' : Nat → Nat → Int32} {x : Int32} {v : Nat} {E : String} (h : mkaO σ τ x = .inr E) (l : lk μ μ' (cO [iOE, iAE, iSE] (.inr E))) : MA σ τ x v μ μ' := by
  refine ⟨by rw [h]; exact l.2, ?_⟩
  rw [h]
  exact l.1
theorem ma_l {σ τ μ μ' : Nat → Nat → Int32} {x : Int32} {v : Nat} {rv : Option Value} (h : mkaO σ τ x = .inl rv) (h5 : μ' 5 0 = nI 0) (hR : RI (mkP x.toNatClampNeg 60 σ τ 0 0).1 (μ' 0)) (hq : HQ μ μ' v) (h3 : μ' 3 = μ 3) (h4 : μ' 4 0 = nI 0) : MA σ τ x v μ μ' := by
  refine ⟨by rw [h]; exact h5, ?_⟩
  rw [h]
  exact ⟨hR, hq, h3, h4⟩
theorem lfN_lt {σ : Nat → Nat → Int32} (h : frN σ < 24) : lfN σ = nI (frN σ) := by rw [lfN_fr, if_neg (by omega)]
theorem lfN_24 {σ : Nat → Nat → Int32} (h : frN σ = 24) : lfN σ = -1 := by rw [lfN_fr, if_pos h]
theorem mc_mp {σ τ : Nat → Nat → Int32} {N : Nat → Int32} (hR : RI σ N) {a z : Nat} {h : Int32} (ha : a < 6) (hop : isOpB σ (nI a) = true) (h1 : τ 1 1 = nI z) (h3 : τ 1 3 = h) : mpB σ τ a = mcB σ a z h := by
  have hl := fr_le σ
  rw [mpB, mcB, mmB, h1, h3, if_neg (show ¬ isOpB σ (nI a) = false by rw [hop]; decide)]
  by_cases c : frN σ = 24
  · rw [lfN_24 c, if_pos rfl, if_pos (show (if roomB σ (nI a) (nI z) = false then false else if frN σ = 24 then false else true) = false by
      rw [if_pos c]
      split <;> rfl)]
  · rw [lfN_lt (by omega), if_neg (nI_ne (by omega))]
    rcases roomB σ (nI a) (nI z) with _ | _
    · rw [if_pos rfl, if_pos (show (if false = false then false else if frN σ = 24 then false else true) = false from rfl)]
    · rw [if_neg (show ¬ true = false by decide), if_neg (show ¬ (if true = false then false else if frN σ = 24 then false else true) = false by rw [if_neg (by decide), if_neg c]; decide)]
theorem mc_t {σ : Nat → Nat → Int32} {N : Nat → Int32} (hR : RI σ N) {a z : Nat} {h : Int32} (ha : a < 6) (hc : mcB σ a z h = true) : σ 8 a = nI 1 ∧ roomB σ (nI a) (nI z) = true ∧ frN σ < 24 ∧ σ 0 (frN σ) = nI 0 ∧ (h = -1 ∨ h = nI (frN σ) ∨ hasB σ h = true) := by
  rw [mcB] at hc
  split at hc
  · cases hc
  · rename_i c
    have hm : mmB σ a (nI z) = true := by
      rcases e : mmB σ a (nI z) with _ | _
      · exact absurd e c
      · rfl
    obtain ⟨h1, h2, h3, h4⟩ := mm_t hR ha hm
    refine ⟨h1, h2, h3, h4, ?_⟩
    split at hc
    · exact Or.inl (by assumption)
    · split at hc
      · exact Or.inr (Or.inl (by assumption))
      · exact Or.inr (Or.inr hc)
/-- a part that comes: the class's state and the model's -/
theorem ri_mp {σ τ : Nat → Nat → Int32} {N N1 N2 : Nat → Int32} (hR : RI σ N) {a z w : Nat} {h : Int32} (ha : a < 6) (hop : isOpB σ (nI a) = true) (h1 : τ 1 1 = nI z) (h2 : τ 1 2 = nI w) (hw : w = 0 ∨ w = 1) (h3 : τ 1 3 = h) (hh : h = -1 ∨ ∃ y, y < 24 ∧ h = nI y) (hc : mcB σ a z h = true) (hN1 : RI (addS σ (frN σ) a (nI z)) N1) (e2 : N2 = if h = -1 then upd N1 (24 + 9 * frN σ + 6) (nI w) else upd (upd N1 (24 + 9 * frN σ + 6) (nI w)) (24 + 9 * h.toNatClampNeg + (4 + 0)) (nI (frN σ))) : RI (mpS σ τ a) N2 ∧ isOpB (mpS σ τ a) (nI a) = true := by
  obtain ⟨m1, m2, m3, m4, m5⟩ := mc_t hR ha hc
  have lf := lfN_lt m3
  have rm : roomB σ (nI a) (τ 1 1) = true := by rw [h1]; exact m2
  have u0 : addS σ (frN σ) a (nI z) 0 (frN σ) = nI 1 := by
    rw [addS, rw2_n _ _ (by decide), rw2_n _ _ (by decide), rw2_n _ _ (by decide), rw2_n _ _ (by decide), rw2_n _ _ (by decide), rw2_s, upd_e, if_pos rfl]
  have bw : nI w = bI (decide (w = 1)) := by rcases hw with e | e <;> subst e <;> rfl
  have r1 := ri_root hN1 m3 u0 (decide (w = 1))
  rw [← bw] at r1
  have o8 : addS σ (frN σ) a (nI z) 8 = σ 8 := by rw [addS, rw2_n _ _ (by decide), rw2_n _ _ (by decide), rw2_n _ _ (by decide), rw2_n _ _ (by decide), rw2_n _ _ (by decide), rw2_n _ _ (by decide)]
  have opn : ∀ s : Nat → Nat → Int32, s 8 = σ 8 → isOpB s (nI a) = true := fun s hs => by rw [isOp_nI s ha, hs, ← isOp_nI σ ha]; exact hop
  rcases hh with e | ⟨y, hy, e⟩
  · rw [if_pos e] at e2
    have ms := (mp3 lf m3 rm (h3.trans e)).2
    rw [ms, mpA, h1, h2, e2]
    exact ⟨r1, opn _ (by rw [rtS, rw2_n _ _ (by decide)]; exact o8)⟩
  · rw [if_neg (by rw [e]; exact nI_ne (by omega)), e, nI_clamp (by omega)] at e2
    have uy : y = frN σ ∨ hasB σ (nI y) = true := by
      rw [e] at m5
      rcases m5 with g | g | g
      · exact absurd g (nI_ne (by omega))
      · exact Or.inl ((nI_eq (by omega) (by omega)).mp g)
      · exact Or.inr g
    have ms := (mp4 lf m3 rm (h3.trans e) hy uy).2
    rw [ms, mpA, h1, h2, e2]
    have rt0 : ∀ i, rtS (addS σ (frN σ) a (nI z)) (frN σ) (nI w) 0 i = addS σ (frN σ) a (nI z) 0 i := fun i => by rw [rtS, rw2_n _ _ (by decide)]
    refine ⟨ri_link r1 hy (by decide) ?_ (Or.inr ⟨frN σ, m3, rfl, by rw [rt0]; exact u0⟩), opn _ (by rw [rfS, rw2_n _ _ (by decide), rtS, rw2_n _ _ (by decide)]; exact o8)⟩
    rw [rt0]
    rcases uy with g | g
    · rw [g]; exact u0
    · rw [addS, rw2_n _ _ (by decide), rw2_n _ _ (by decide), rw2_n _ _ (by decide), rw2_n _ _ (by decide), rw2_n _ _ (by decide), rw2_s, upd_e]
      split
      · rfl
      · exact has_used hR hy g
theorem mkP_end {k n : Nat} {σ τ : Nat → Nat → Int32} {f j : Nat} (h : τ 1 0 ≤ nI f) : mkP k n σ τ f j = (σ, τ, j) := by
  cases n with
  | zero => rfl
  | succ n => rw [mkP, if_pos h]
theorem hq_to {μ μ1 μ2 μ4 : Nat → Nat → Int32} {f g : Nat → Int32} {v : Nat} (h1 : ∀ j, j < 6 → μ1 j = rw2 μ 5 f j) (h2 : SQ μ1 μ2 v) (hB : ∀ j, j ≠ 0 → μ4 j = (rw2 μ2 4 g) j) : HQ μ μ4 v := by
  have e0 : μ1 0 = μ 0 := h1 0 (by decide)
  have e1 : μ1 1 = μ 1 := h1 1 (by decide)
  have q := h2.2
  rw [e0, e1] at q
  refine ⟨by rw [hB 2 (by decide), rw2_n _ _ (by decide)]; exact q.1, ?_⟩
  rw [hB 1 (by decide), rw2_n _ _ (by decide)]
  exact q.2
set_option maxRecDepth 100000 in
set_option maxHeartbeats 4000000 in
theorem m_X6_mayCome (l : Launch) (g : GG) (ad : Nat → Nat) (μ : Nat → Nat → Int32) (σ : Nat → Nat → Int32) (z : Nat) (y : Int32) (a : Nat) (n : Nat) (ha : a < 6) (hn : n ≤ 30) (hR : RI σ (μ 0)) (hz : μ 9 (3 * n) = nI z) (hz2 : z ≤ 1000) (hh : μ 9 (3 * n + 2) = y) : MRO l g yX6_mayCome cX6_mayCome 4 (some .boolean) 4 [.ref (ad 0), .int (nI a), .int (nI n)] [moC g ad μ] (some (.int (bI (mcB σ a z y)))) := by
  refine mk_ro (by decide +kernel) (Nat.le_of_ble_eq_true rfl) (fun p e s m below meth c X => ?_)
  refine w_aload_n X 0 rfl dX6_mayCome_0 ?_
  refine w_get X 0 0 rfl rfl rfl in_X6 9 (by decide) fk_X6_19 rfl dX6_mayCome_1 ?_
  refine w_iconst X (nI 3) dX6_mayCome_4 (by decide +kernel) ?_
  refine w_iload_n X 2 rfl dX6_mayCome_5 ?_
  refine w_imul_n X dX6_mayCome_6 ?_
  refine w_iconst X (nI 2) dX6_mayCome_7 (by decide +kernel) ?_
  refine w_iadd_n X dX6_mayCome_8 ?_
  refine w_iald_n X 0 4 0 rfl rfl rfl (by omega) (by decide) dX6_mayCome_9 ?_
  refine w_st (st2 := [.int (y)]) (by exact congrArg (fun v => Value.int v :: _) (hh)) ?_
  refine w_istore_n X dX6_mayCome_10 (by decide) ?_
  refine w_aload_n X 1 rfl dX6_mayCome_11 ?_
  refine w_iload_n X 2 rfl dX6_mayCome_12 ?_
  refine w_aload_n X 1 rfl dX6_mayCome_13 ?_
  refine w_get X 0 0 rfl rfl rfl in_X6 9 (by decide) fk_X6_19 rfl dX6_mayCome_14 ?_
  refine w_iconst X (nI 3) dX6_mayCome_17 (by decide +kernel) ?_
  refine w_iload_n X 3 rfl dX6_mayCome_18 ?_
  refine w_imul_n X dX6_mayCome_19 ?_
  refine w_iald_n X 0 4 0 rfl rfl rfl (by omega) (by decide) dX6_mayCome_20 ?_
  refine w_st (st2 := [.int (nI z), .int (nI a), .ref (ad 0)]) (by exact congrArg (fun v => Value.int v :: _) (hz)) ?_
  refine w_roV X [0] 0 0 (m_X6_mayMake l g ad μ σ a z (by omega) (by omega) (hR)) cv_X6_mayMake mk_X6_106 rfl rfl rfl rfl rfl ⟨Nat.le_of_ble_eq_true rfl, Nat.le_of_ble_eq_true rfl⟩ (Nat.le_of_ble_eq_true rfl) ⟨Nat.le_of_ble_eq_true rfl, Nat.le_of_ble_eq_true rfl⟩ dX6_mayCome_21 rfl ?_
  refine w_bf_eq X 52 dX6_mayCome_24 (by decide) (fun c24 => ?_) (fun c24 => ?_)
  · refine w_iconst X (nI 0) dX6_mayCome_52 (by decide +kernel) ?_
    exact w_zret_ro X (by rw [mcB, if_pos c24]; rfl) (rfl) dX6_mayCome_53
  · refine w_iload_n X 0 rfl dX6_mayCome_27 ?_
    refine w_iconst X (-1) dX6_mayCome_28 (by decide +kernel) ?_
    refine w_ic_eq X 48 dX6_mayCome_29 (by decide) (fun c29 => ?_) (fun c29 => ?_)
    · refine w_iconst X (nI 1) dX6_mayCome_48 (by decide +kernel) ?_
      refine w_goto X 53 dX6_mayCome_49 (by decide) ?_
      exact w_zret_ro X (by rw [mcB, if_neg (by rw [c24]; decide), if_pos c29]; rfl) (rfl) dX6_mayCome_53
    · refine w_iload_n X 0 rfl dX6_mayCome_32 ?_
      refine w_aload_n X 1 rfl dX6_mayCome_33 ?_
      refine w_roV X [0] 0 0 (m_X6_freeNumber l g ad μ σ (hR)) cv_X6_freeNumber mk_X6_100 rfl rfl rfl rfl rfl ⟨Nat.le_of_ble_eq_true rfl, Nat.le_of_ble_eq_true rfl⟩ (Nat.le_of_ble_eq_true rfl) ⟨Nat.le_of_ble_eq_true rfl, Nat.le_of_ble_eq_true rfl⟩ dX6_mayCome_34 rfl ?_
      refine w_ic_eq X 48 dX6_mayCome_37 (by decide) (fun c37 => ?_) (fun c37 => ?_)
      · refine w_iconst X (nI 1) dX6_mayCome_48 (by decide +kernel) ?_
        refine w_goto X 53 dX6_mayCome_49 (by decide) ?_
        exact w_zret_ro X (by rw [mcB, if_neg (by rw [c24]; decide), if_neg c29, if_pos c37]; rfl) (rfl) dX6_mayCome_53
      · refine w_aload_n X 1 rfl dX6_mayCome_40 ?_
        refine w_iload_n X 0 rfl dX6_mayCome_41 ?_
        refine w_roV X [0] 0 0 (m_X6_isObject l g ad μ σ (y) (hR)) cv_X6_isObject mk_X6_112 rfl rfl rfl rfl rfl ⟨Nat.le_of_ble_eq_true rfl, Nat.le_of_ble_eq_true rfl⟩ (Nat.le_of_ble_eq_true rfl) ⟨Nat.le_of_ble_eq_true rfl, Nat.le_of_ble_eq_true rfl⟩ dX6_mayCome_42 rfl ?_
        refine w_bf_eq X 52 dX6_mayCome_45 (by decide) (fun c45 => ?_) (fun c45 => ?_)
        · refine w_iconst X (nI 0) dX6_mayCome_52 (by decide +kernel) ?_
          exact w_zret_ro X (by rw [mcB, if_neg (by rw [c24]; decide), if_neg c29, if_neg c37, c45]; rfl) (rfl) dX6_mayCome_53
        · refine w_iconst X (nI 1) dX6_mayCome_48 (by decide +kernel) ?_
          refine w_goto X 53 dX6_mayCome_49 (by decide) ?_
          exact w_zret_ro X (by rw [mcB, if_neg (by rw [c24]; decide), if_neg c29, if_neg c37, c45]; rfl) (rfl) dX6_mayCome_53
theorem rdT_i (τ : Nat → Nat → Int32) (r : Int32 × Int32 × Int32 × Int32) : rdT τ r 1 1 = r.2.1 ∧ rdT τ r 1 2 = r.2.2.1 ∧ rdT τ r 1 3 = r.2.2.2 := ⟨rfl, rfl, rfl⟩
theorem rtx_rd {τ : Nat → Nat → Int32} {cd : Nat → Nat} {t : Nat} (h : RTX τ cd t) (r : Int32 × Int32 × Int32 × Int32) : RTX (rdT τ r) cd t := h
/-- where the n-th part begins, or the text ends -/
def nxF (cd : Nat → Nat) (t k n : Nat) : Nat := if n < k then stN cd t n else t
theorem mkp_on {σ τ : Nat → Nat → Int32} {cd : Nat → Nat} {t k n a : Nat} {N : Nat → Int32} (hτ : RTX τ cd t) (hk : CT cd t k) (hn : n < k) (hn60 : n < 60) {r : Nat × Nat × Int32 × Nat} (hr : ptN cd t (stN cd t n) = some r) (hR : RI σ N) (ha : a < 6) (hop : isOpB σ (nI a) = true) : mkP a (60 - n) σ τ (nxF cd t k n) n = if mcB σ a r.1 r.2.2.1 = true then mkP a (60 - (n + 1)) (mpS σ (rdT τ (rdR τ (stN cd t n))) a) (rdT τ (rdR τ (stN cd t n))) (nxF cd t k (n + 1)) (n + 1) else (σ, rdT τ (rdR τ (stN cd t n)), n) := by
  have ht := hτ.2.1
  obtain ⟨r2, hr2, he, hs⟩ := ct_part hτ hk hn
  rw [hr] at hr2
  cases hr2
  obtain ⟨e1, e2, e3, e4⟩ := rd_part hτ hr he
  obtain ⟨s, _, _, b1, b2⟩ := df_part hτ hr
  have c : ¬ τ 1 0 ≤ nI (stN cd t n) := by rw [hτ.1, nI_leI (by omega) (by omega)]; omega
  have b3 := (sg_bd (cd := cd) (x := 59) b2).2
  rw [nxF, if_pos hn, show 60 - n = (60 - (n + 1)) + 1 by omega, mkP, if_neg c, mc_mp (z := r.1) (h := r.2.2.1) hR ha hop (by rw [e1]; rfl) (by rw [e1]; rfl)]
  have e5 : (rdR τ (stN cd t n)).1.toNatClampNeg = nxF cd t k (n + 1) := by
    rw [e1]
    show (nI (sgP cd t r.2.2.2 59)).toNatClampNeg = _
    rw [nI_clamp (by omega), hs, nxF]
  rw [e5]
theorem ma_id {a : Prop} (h : a) : a := h
theorem lk_tq {τ μ μ1 : Nat → Nat → Int32} {cd : Nat → Nat} {t q : Nat} {f : Nat → Int32} (h : TQ τ cd t (rw2 μ 5 f) μ1) : lk μ (rw2 μ1 5 (fun _ => nI q)) q := ⟨fun j hj => (rw2_n _ _ (by omega)).trans ((h.1 j (by omega)).trans (rw2_n _ _ (by omega))), rfl⟩
set_option maxRecDepth 100000 in
set_option maxHeartbeats 4000000 in
theorem m_X6_makeAll (l : Launch) (g : GG) (ad : Nat → Nat) (μ : Nat → Nat → Int32) (σ : Nat → Nat → Int32) (v : Nat) (cd : Nat → Nat) (t : Nat) (τ : Nat → Nat → Int32) (x : Int32) (hR : RI σ (μ 0)) (hv : μ 2 0 = nI v) (hv6 : v ≤ 6) (hT : TXM μ cd t) (hτ : RTX τ cd t) : MME (U := {μ' : Nat → Nat → Int32 // MA σ τ x v μ μ'}) l g yX6_makeAll cX6_makeAll 4 (some .int) 6 0 0 [.ref (ad 0), .int (x)] [moC g ad μ] (some (.int (vO (mkaO σ τ x)))) (fun u => [moC g ad u.1]) := by
  refine mk_me (by decide +kernel) (Nat.le_of_ble_eq_true rfl) (fun p e s m below meth c A hA X => ?_)
  refine w_aload_n X 0 rfl dX6_makeAll_0 ?_
  refine w_iconst X (nI 0) dX6_makeAll_1 (by decide +kernel) ?_
  refine w_put X 0 0 rfl rfl rfl in_X6 tyX6 tyX6_ok nmX6 5 (by decide) fk_X6_35 rfl rfl rfl rfl (Nat.le_of_ble_eq_true rfl) (show _ = moC g ad (rw2 μ 5 (fun _ => nI (0))) from rfl) dX6_makeAll_2 ?_
  refine w_iload_n X 1 rfl dX6_makeAll_5 ?_
  refine w_roS X [] (m_X6_isArena l g (x)) cs_X6_isArena mk_X6_103 rfl rfl ⟨Nat.le_of_ble_eq_true rfl, Nat.le_of_ble_eq_true rfl⟩ (Nat.le_of_ble_eq_true rfl) ⟨Nat.le_of_ble_eq_true rfl, Nat.le_of_ble_eq_true rfl⟩ dX6_makeAll_6 rfl ?_
  refine w_bf_ne X 18 dX6_makeAll_9 (by decide) (fun c9 => ?_) (fun c9 => ?_)
  · obtain ⟨a, ha, rfl⟩ := isArB_ex c9
    refine w_aload_n X 0 rfl dX6_makeAll_18 ?_
    refine w_meV X hA (U := {μ' : Nat → Nat → Int32 // TQ τ cd t (rw2 μ 5 (fun _ => nI (0))) μ'}) (gr := []) (gs1 := fun u => [moC g ad u.1]) [0] [] 0 0 (m_X6_isText l g ad (rw2 μ 5 (fun _ => nI (0))) cd t τ (hT) (hτ)) cv_X6_isText mk_X6_169 rfl rfl rfl (ng := 1) rfl (by decide) (fun _ => rfl) (fun _ => rfl) (fun _ => rfl) rfl rfl rfl ⟨Nat.le_of_ble_eq_true rfl, Nat.le_of_ble_eq_true rfl⟩ (Nat.le_of_ble_eq_true rfl) ⟨Nat.le_of_ble_eq_true rfl, Nat.le_of_ble_eq_true rfl⟩ dX6_makeAll_19 rfl (fun u => ?_)
    obtain ⟨μ1, hμ1⟩ := u
    try dsimp only
    have hR1 : RI σ (μ1 0) := by rw [hμ1.1 0 (by decide)]; exact hR
    refine w_bf_ne X 31 dX6_makeAll_22 (by decide) (fun c22 => ?_) (fun c22 => ?_)
    · refine w_aload_n X 0 rfl dX6_makeAll_31 ?_
      refine w_iload_n X 1 rfl dX6_makeAll_32 ?_
      refine w_roV X [0] 0 0 (m_X6_isOpen l g ad μ1 σ a (by omega) (hR1)) cv_X6_isOpen mk_X6_88 rfl rfl rfl rfl rfl ⟨Nat.le_of_ble_eq_true rfl, Nat.le_of_ble_eq_true rfl⟩ (Nat.le_of_ble_eq_true rfl) ⟨Nat.le_of_ble_eq_true rfl, Nat.le_of_ble_eq_true rfl⟩ dX6_makeAll_33 rfl ?_
      refine w_bf_ne X 45 dX6_makeAll_36 (by decide) (fun c36 => ?_) (fun c36 => ?_)
      · refine w_aload_n X 0 rfl dX6_makeAll_45 ?_
        refine w_meV X hA (U := {μ' : Nat → Nat → Int32 // SQ μ1 μ' v}) (gr := []) (gs1 := fun u => [moC g ad u.1]) [0] [] 0 0 (m_X6_saves l g ad μ1 v (by rw [hμ1.1 2 (by decide)]; exact hv) (hv6)) cv_X6_saves mk_X6_97 rfl rfl rfl (ng := 1) rfl (by decide) (fun _ => rfl) (fun _ => rfl) (fun _ => rfl) rfl rfl rfl ⟨Nat.le_of_ble_eq_true rfl, Nat.le_of_ble_eq_true rfl⟩ (Nat.le_of_ble_eq_true rfl) ⟨Nat.le_of_ble_eq_true rfl, Nat.le_of_ble_eq_true rfl⟩ dX6_makeAll_46 rfl (fun u => ?_)
        obtain ⟨μ2, hμ2⟩ := u
        try dsimp only
        have hR2 : RI σ (μ2 0) := by rw [hμ2.1 0 (by decide) (by decide)]; exact hR1
        obtain ⟨herr, K, hK0, hK31, hK, htd, hsp, hlast⟩ := hμ1.2.1 c22
        have hct : CT cd t K := ⟨hK0, fun i hi => (htd i hi).some, hsp, hlast⟩
        have ht60 := hT.2.1
        refine w_aload_n X 0 rfl dX6_makeAll_49 ?_
        refine w_iconst X (nI 0) dX6_makeAll_50 (by decide +kernel) ?_
        refine w_put X 0 0 rfl rfl rfl in_X6 tyX6 tyX6_ok nmX6 4 (by decide) fk_X6_137 rfl rfl rfl rfl (Nat.le_of_ble_eq_true rfl) (show _ = moC g ad (rw2 μ2 4 (fun _ => nI (0))) from rfl) dX6_makeAll_51 ?_
        refine w_iconst X (nI 0) dX6_makeAll_54 (by decide +kernel) ?_
        refine w_istore_n X dX6_makeAll_55 (by decide) ?_
        refine w_all [1, 2, 0] (rfl) (rfl) rfl (w_loop (st := []) (pc := 56) X (V := Nat × (Nat → Nat → Int32) × (Nat → Nat → Int32) × (Nat → Nat → Int32)) (fun (v56 : Nat × (Nat → Nat → Int32) × (Nat → Nat → Int32) × (Nat → Nat → Int32)) => K - v56.1) (fun (v56 : Nat × (Nat → Nat → Int32) × (Nat → Nat → Int32) × (Nat → Nat → Int32)) => (v56.1 ≤ K) ∧ (RI v56.2.1 (v56.2.2.2 0)) ∧ (isOpB v56.2.1 (nI a) = true) ∧ (RTX v56.2.2.1 cd t) ∧ (mkP a (60 - v56.1) v56.2.1 v56.2.2.1 (nxF cd t K v56.1) v56.1 = mkP a 60 σ τ 0 0) ∧ (∀ j, j ≠ 0 → v56.2.2.2 j = (rw2 μ2 4 (fun _ => nI 0)) j)) (fun (v56 : Nat × (Nat → Nat → Int32) × (Nat → Nat → Int32) × (Nat → Nat → Int32)) => [(0, .ref (ad 0)), (1, .int (nI a)), (2, .int (nI v56.1))]) (fun (v56 : Nat × (Nat → Nat → Int32) × (Nat → Nat → Int32) × (Nat → Nat → Int32)) => [moC g ad v56.2.2.2]) (fun v56 hv56 ih56 => ?_) (0, σ, τ, rw2 μ2 4 (fun _ => nI (0))) (by (try dsimp only); exact ⟨Nat.zero_le _, hR2, c36, hτ, by rw [nxF, if_pos hK0]; rfl, fun j _ => rfl⟩))
        obtain ⟨n, σn, τn, μ4⟩ := v56
        obtain ⟨hn, hR4, hopn, hτn, hz, hB⟩ := hv56
        try dsimp only at hn hR4 hopn hτn hz hB ih56 ⊢
        have hB9 : μ4 9 = μ1 9 := (hB 9 (by decide)).trans ((rw2_n _ _ (by decide)).trans (hμ2.1 9 (by decide) (by decide)))
        have h10 : μ4 10 0 = nI K := (congrFun ((hB 10 (by decide)).trans ((rw2_n _ _ (by decide)).trans (hμ2.1 10 (by decide) (by decide)))) 0).trans hK
        have h45 : μ4 5 0 = nI 0 := (congrFun ((hB 5 (by decide)).trans ((rw2_n _ _ (by decide)).trans ((hμ2.1 5 (by decide) (by decide)).trans (hμ1.1 5 (by decide))))) 0).trans rfl
        have h44 : μ4 4 0 = nI 0 := (congrFun (hB 4 (by decide)) 0).trans rfl
        have h43 : μ4 3 = μ 3 := (hB 3 (by decide)).trans ((rw2_n _ _ (by decide)).trans ((hμ2.1 3 (by decide) (by decide)).trans ((hμ1.1 3 (by decide)).trans (rw2_n _ _ (by decide)))))
        have hq4 : HQ μ μ4 v := hq_to hμ1.1 hμ2 hB
        refine w_iload_n X 2 rfl dX6_makeAll_56 ?_
        refine w_aload_n X 0 rfl dX6_makeAll_57 ?_
        refine w_get X 0 0 rfl rfl rfl in_X6 10 (by decide) fk_X6_160 rfl dX6_makeAll_58 ?_
        refine w_st (st2 := [.int (nI K), .int (nI n)]) (by exact congrArg (fun v => Value.int v :: _) (h10)) ?_
        refine w_nc_ge X (by omega) (by omega) 142 dX6_makeAll_61 (by decide) (fun c61 => ?_) (fun c61 => ?_)
        · refine w_iload_n X 2 rfl dX6_makeAll_142 ?_
          exact w_iret_me X ⟨μ4, ma_id (ma_l (by rw [mkaO, if_neg (by rw [c9]; decide), if_neg (by rw [c22]; decide), if_neg (by rw [c36]; decide)]) h45 (by rw [nI_clamp (by omega), ← hz, nxF, if_neg (by omega), mkP_end (by rw [hτn.1]; exact i32_le_rf _)]; exact hR4) (hq4) h43 h44)⟩ (by rw [mkaO, if_neg (by rw [c9]; decide), if_neg (by rw [c22]; decide), if_neg (by rw [c36]; decide), nI_clamp (by omega), ← hz, nxF, if_neg (by omega), mkP_end (by rw [hτn.1]; exact i32_le_rf _)]; rfl) rfl (Nat.le_of_ble_eq_true rfl) (Nat.le_of_ble_eq_true rfl) dX6_makeAll_143
        · obtain ⟨r, hr, t0, t1, t2⟩ := htd n (by omega)
          rw [← hB9] at t0 t1 t2
          obtain ⟨r2, hr2, hpe, hps⟩ := ct_part hτn hct (i := n) (by omega)
          rw [hr] at hr2
          cases hr2
          obtain ⟨e1, e2, e3, e4, e5⟩ := rd_part hτn hr hpe
          refine w_aload_n X 0 rfl dX6_makeAll_64 ?_
          refine w_iload_n X 1 rfl dX6_makeAll_65 ?_
          refine w_iload_n X 2 rfl dX6_makeAll_66 ?_
          refine w_roV X [0] 0 0 (m_X6_mayCome l g ad μ4 σn r.1 r.2.2.1 a n (ha) (by omega) (hR4) (t0) (by omega) (t2)) cv_X6_mayCome mk_X6_172 rfl rfl rfl rfl rfl ⟨Nat.le_of_ble_eq_true rfl, Nat.le_of_ble_eq_true rfl⟩ (Nat.le_of_ble_eq_true rfl) ⟨Nat.le_of_ble_eq_true rfl, Nat.le_of_ble_eq_true rfl⟩ dX6_makeAll_67 rfl ?_
          refine w_bf_eq X 142 dX6_makeAll_70 (by decide) (fun c70 => ?_) (fun c70 => ?_)
          · refine w_iload_n X 2 rfl dX6_makeAll_142 ?_
            exact w_iret_me X ⟨μ4, ma_id (ma_l (by rw [mkaO, if_neg (by rw [c9]; decide), if_neg (by rw [c22]; decide), if_neg (by rw [c36]; decide)]) h45 (by rw [nI_clamp (by omega), ← hz, mkp_on hτn hct (by omega) (by omega) hr hR4 ha hopn, if_neg (by rw [c70]; decide)]; exact hR4) (hq4) h43 h44)⟩ (by rw [mkaO, if_neg (by rw [c9]; decide), if_neg (by rw [c22]; decide), if_neg (by rw [c36]; decide), nI_clamp (by omega), ← hz, mkp_on hτn hct (by omega) (by omega) hr hR4 ha hopn, if_neg (by rw [c70]; decide)]; rfl) rfl (Nat.le_of_ble_eq_true rfl) (Nat.le_of_ble_eq_true rfl) dX6_makeAll_143
          · have hmc := mc_t hR4 ha c70
            refine w_aload_n X 0 rfl dX6_makeAll_73 ?_
            refine w_iload_n X 1 rfl dX6_makeAll_74 ?_
            refine w_aload_n X 0 rfl dX6_makeAll_75 ?_
            refine w_get X 0 0 rfl rfl rfl in_X6 9 (by decide) fk_X6_19 rfl dX6_makeAll_76 ?_
            refine w_iconst X (nI 3) dX6_makeAll_79 (by decide +kernel) ?_
            refine w_iload_n X 2 rfl dX6_makeAll_80 ?_
            refine w_imul_n X dX6_makeAll_81 ?_
            refine w_iald_n X 0 4 0 rfl rfl rfl (by omega) (by decide) dX6_makeAll_82 ?_
            refine w_st (st2 := [.int (nI r.1), .int (nI a), .ref (ad 0)]) (by exact congrArg (fun v => Value.int v :: _) (t0)) ?_
            refine w_meV X hA (U := {μ' : Nat → Nat → Int32 // (∀ j, j ≠ 0 → μ' j = μ4 j) ∧ RI (addS σn (frN σn) a (nI r.1)) (μ' 0)}) (gr := []) (gs1 := fun u => [moC g ad u.1]) [0] [] 0 0 (m_X6_makes l g ad μ4 σn a r.1 (hR4) (ha) (e4) (e5) (hmc.2.2.1) (hmc.2.2.2.1) (hmc.1) (hmc.2.1)) cv_X6_makes mk_X6_109 rfl rfl rfl (ng := 1) rfl (by decide) (fun _ => rfl) (fun _ => rfl) (fun _ => rfl) rfl rfl rfl ⟨Nat.le_of_ble_eq_true rfl, Nat.le_of_ble_eq_true rfl⟩ (Nat.le_of_ble_eq_true rfl) ⟨Nat.le_of_ble_eq_true rfl, Nat.le_of_ble_eq_true rfl⟩ dX6_makeAll_83 rfl (fun u => ?_)
            obtain ⟨μ3, hμ3⟩ := u
            try dsimp only
            have hmk := hμ3
            refine w_istore_n X dX6_makeAll_86 (by decide) ?_
            refine w_aload_n X 1 rfl dX6_makeAll_87 ?_
            refine w_iload_n X 0 rfl dX6_makeAll_88 ?_
            refine w_bipush X (nI 6) dX6_makeAll_89 (by decide +kernel) ?_
            refine w_aload_n X 1 rfl dX6_makeAll_91 ?_
            refine w_get X 0 0 rfl rfl rfl in_X6 9 (by decide) fk_X6_19 rfl dX6_makeAll_92 ?_
            refine w_iconst X (nI 3) dX6_makeAll_95 (by decide +kernel) ?_
            refine w_iload_n X 3 rfl dX6_makeAll_96 ?_
            refine w_imul_n X dX6_makeAll_97 ?_
            refine w_iconst X (nI 1) dX6_makeAll_98 (by decide +kernel) ?_
            refine w_iadd_n X dX6_makeAll_99 ?_
            refine w_iald_n X 0 4 0 rfl rfl rfl (by omega) (by decide) dX6_makeAll_100 ?_
            refine w_st (st2 := [.int (nI r.2.1), .int (nI 6), .int (nI (frN σn)), .ref (ad 0)]) (by exact congrArg (fun v => Value.int v :: _) ((congrFun (hmk.1 9 (by decide)) _).trans t1)) ?_
            refine w_muV X hA (gr := []) (gs1 := [moC g ad (rw2 μ3 0 (upd (μ3 0) (24 + 9 * (frN σn) + 6) (nI (r.2.1))))]) [0] [] 0 0 (m_X6_changes l g ad μ3 (frN σn) 6 (nI (r.2.1)) (hmc.2.2.1) (by omega)) cv_X6_changes mk_X6_115 rfl rfl rfl (ng := 1) rfl (by decide) rfl rfl rfl rfl rfl rfl ⟨Nat.le_of_ble_eq_true rfl, Nat.le_of_ble_eq_true rfl⟩ (Nat.le_of_ble_eq_true rfl) ⟨Nat.le_of_ble_eq_true rfl, Nat.le_of_ble_eq_true rfl⟩ dX6_makeAll_101 rfl ?_
            refine w_pop X dX6_makeAll_104 rfl ?_
            refine w_aload_n X 1 rfl dX6_makeAll_105 ?_
            refine w_get X 0 0 rfl rfl rfl in_X6 9 (by decide) fk_X6_19 rfl dX6_makeAll_106 ?_
            refine w_iconst X (nI 3) dX6_makeAll_109 (by decide +kernel) ?_
            refine w_iload_n X 3 rfl dX6_makeAll_110 ?_
            refine w_imul_n X dX6_makeAll_111 ?_
            refine w_iconst X (nI 2) dX6_makeAll_112 (by decide +kernel) ?_
            refine w_iadd_n X dX6_makeAll_113 ?_
            refine w_iald_n X 0 4 0 rfl rfl rfl (by omega) (by decide) dX6_makeAll_114 ?_
            refine w_st (st2 := [.int (r.2.2.1)]) (by exact congrArg (fun v => Value.int v :: _) ((congrFun (hmk.1 9 (by decide)) _).trans t2)) ?_
            refine w_iconst X (-1) dX6_makeAll_115 (by decide +kernel) ?_
            refine w_ic_eq X 136 dX6_makeAll_116 (by decide) (fun c116 => ?_) (fun c116 => ?_)
            · refine w_iinc X (nI (n + 1)) 3 rfl (nI_1 _) dX6_makeAll_136 (by decide) ?_
              refine w_goto X 56 dX6_makeAll_139 (by decide) ?_
              exact w_all [2, 3, 0] (rfl) (rfl) rfl (ih56 (n + 1, mpS σn (rdT τn (rdR τn (stN cd t n))) a, rdT τn (rdR τn (stN cd t n)), rw2 μ3 0 (upd (μ3 0) (24 + 9 * (frN σn) + 6) (nI (r.2.1)))) (by (try dsimp only); omega) (by (try dsimp only); exact ⟨by omega, (ri_mp (τ := rdT τn (rdR τn (stN cd t n))) (w := r.2.1) (N2 := (rw2 μ3 0 (upd (μ3 0) (24 + 9 * (frN σn) + 6) (nI (r.2.1)))) 0) hR4 ha hopn (by rw [e1]; rfl) (by rw [e1]; rfl) (by rcases e2 with g | g; (exact Or.inl g); (exact Or.inr g)) (by rw [e1]; rfl) e3 c70 hμ3.2 (by rw [if_pos c116]; rfl)).1, (ri_mp (τ := rdT τn (rdR τn (stN cd t n))) (w := r.2.1) (N2 := (rw2 μ3 0 (upd (μ3 0) (24 + 9 * (frN σn) + 6) (nI (r.2.1)))) 0) hR4 ha hopn (by rw [e1]; rfl) (by rw [e1]; rfl) (by rcases e2 with g | g; (exact Or.inl g); (exact Or.inr g)) (by rw [e1]; rfl) e3 c70 hμ3.2 (by rw [if_pos c116]; rfl)).2, rtx_rd hτn _, by rw [mkp_on hτn hct (by omega) (by omega) hr hR4 ha hopn, if_pos c70] at hz; exact hz, fun j hj => by rw [rw2_n _ _ hj]; exact (hμ3.1 j hj).trans (hB j hj)⟩))
            · obtain ⟨y, hy, hy0⟩ := e3.resolve_left c116
              refine w_aload_n X 1 rfl dX6_makeAll_119 ?_
              refine w_aload_n X 1 rfl dX6_makeAll_120 ?_
              refine w_get X 0 0 rfl rfl rfl in_X6 9 (by decide) fk_X6_19 rfl dX6_makeAll_121 ?_
              refine w_iconst X (nI 3) dX6_makeAll_124 (by decide +kernel) ?_
              refine w_iload_n X 3 rfl dX6_makeAll_125 ?_
              refine w_imul_n X dX6_makeAll_126 ?_
              refine w_iconst X (nI 2) dX6_makeAll_127 (by decide +kernel) ?_
              refine w_iadd_n X dX6_makeAll_128 ?_
              refine w_iald_n X 0 4 0 rfl rfl rfl (by omega) (by decide) dX6_makeAll_129 ?_
              refine w_st (st2 := [.int (nI y), .ref (ad 0)]) (by exact congrArg (fun v => Value.int v :: _) (((congrFun (hmk.1 9 (by decide)) _).trans t2).trans hy0)) ?_
              refine w_iconst X (nI 4) dX6_makeAll_130 (by decide +kernel) ?_
              refine w_iload_n X 0 rfl dX6_makeAll_131 ?_
              refine w_muV X hA (gr := []) (gs1 := [moC g ad (rw2 (rw2 μ3 0 (upd (μ3 0) (24 + 9 * (frN σn) + 6) (nI (r.2.1)))) 0 (upd ((rw2 μ3 0 (upd (μ3 0) (24 + 9 * (frN σn) + 6) (nI (r.2.1)))) 0) (24 + 9 * y + 4) (nI (frN σn))))]) [0] [] 0 0 (m_X6_changes l g ad (rw2 μ3 0 (upd (μ3 0) (24 + 9 * (frN σn) + 6) (nI (r.2.1)))) y 4 (nI (frN σn)) (hy) (by omega)) cv_X6_changes mk_X6_115 rfl rfl rfl (ng := 1) rfl (by decide) rfl rfl rfl rfl rfl rfl ⟨Nat.le_of_ble_eq_true rfl, Nat.le_of_ble_eq_true rfl⟩ (Nat.le_of_ble_eq_true rfl) ⟨Nat.le_of_ble_eq_true rfl, Nat.le_of_ble_eq_true rfl⟩ dX6_makeAll_132 rfl ?_
              refine w_pop X dX6_makeAll_135 rfl ?_
              refine w_iinc X (nI (n + 1)) 3 rfl (nI_1 _) dX6_makeAll_136 (by decide) ?_
              refine w_goto X 56 dX6_makeAll_139 (by decide) ?_
              exact w_all [2, 3, 0] (rfl) (rfl) rfl (ih56 (n + 1, mpS σn (rdT τn (rdR τn (stN cd t n))) a, rdT τn (rdR τn (stN cd t n)), rw2 (rw2 μ3 0 (upd (μ3 0) (24 + 9 * (frN σn) + 6) (nI (r.2.1)))) 0 (upd ((rw2 μ3 0 (upd (μ3 0) (24 + 9 * (frN σn) + 6) (nI (r.2.1)))) 0) (24 + 9 * y + 4) (nI (frN σn)))) (by (try dsimp only); omega) (by (try dsimp only); exact ⟨by omega, (ri_mp (τ := rdT τn (rdR τn (stN cd t n))) (w := r.2.1) (N2 := (rw2 (rw2 μ3 0 (upd (μ3 0) (24 + 9 * (frN σn) + 6) (nI (r.2.1)))) 0 (upd ((rw2 μ3 0 (upd (μ3 0) (24 + 9 * (frN σn) + 6) (nI (r.2.1)))) 0) (24 + 9 * y + 4) (nI (frN σn)))) 0) hR4 ha hopn (by rw [e1]; rfl) (by rw [e1]; rfl) (by rcases e2 with g | g; (exact Or.inl g); (exact Or.inr g)) (by rw [e1]; rfl) e3 c70 hμ3.2 (by rw [if_neg c116, hy0, nI_clamp (by omega)]; rfl)).1, (ri_mp (τ := rdT τn (rdR τn (stN cd t n))) (w := r.2.1) (N2 := (rw2 (rw2 μ3 0 (upd (μ3 0) (24 + 9 * (frN σn) + 6) (nI (r.2.1)))) 0 (upd ((rw2 μ3 0 (upd (μ3 0) (24 + 9 * (frN σn) + 6) (nI (r.2.1)))) 0) (24 + 9 * y + 4) (nI (frN σn)))) 0) hR4 ha hopn (by rw [e1]; rfl) (by rw [e1]; rfl) (by rcases e2 with g | g; (exact Or.inl g); (exact Or.inr g)) (by rw [e1]; rfl) e3 c70 hμ3.2 (by rw [if_neg c116, hy0, nI_clamp (by omega)]; rfl)).2, rtx_rd hτn _, by rw [mkp_on hτn hct (by omega) (by omega) hr hR4 ha hopn, if_pos c70] at hz; exact hz, fun j hj => by rw [rw2_n _ _ hj, rw2_n _ _ hj]; exact (hμ3.1 j hj).trans (hB j hj)⟩))
      · refine w_aload_n X 0 rfl dX6_makeAll_39 ?_
        refine w_iconst X (nI 3) dX6_makeAll_40 (by decide +kernel) ?_
        refine w_muV X hA (gr := []) (gs1 := [moC g ad (rw2 μ1 5 (fun _ => nI 3))]) [0] [] 0 0 (m_X6_fails l g ad μ1 3) cv_X6_fails mk_X6_50 rfl rfl rfl (ng := 1) rfl (by decide) rfl rfl rfl rfl rfl rfl ⟨Nat.le_of_ble_eq_true rfl, Nat.le_of_ble_eq_true rfl⟩ (Nat.le_of_ble_eq_true rfl) ⟨Nat.le_of_ble_eq_true rfl, Nat.le_of_ble_eq_true rfl⟩ dX6_makeAll_41 rfl ?_
        exact w_iret_me X ⟨rw2 μ1 5 (fun _ => nI 3), ma_id (ma_r (by rw [mkaO, if_neg (by rw [c9]; decide), if_neg (by rw [c22]; decide), if_pos c36]) (lk_tq hμ1))⟩ (by rw [mkaO, if_neg (by rw [c9]; decide), if_neg (by rw [c22]; decide), if_pos c36]; rfl) rfl (Nat.le_of_ble_eq_true rfl) (Nat.le_of_ble_eq_true rfl) dX6_makeAll_44
    · refine w_aload_n X 0 rfl dX6_makeAll_25 ?_
      refine w_iconst X (nI 2) dX6_makeAll_26 (by decide +kernel) ?_
      refine w_muV X hA (gr := []) (gs1 := [moC g ad (rw2 μ1 5 (fun _ => nI 2))]) [0] [] 0 0 (m_X6_fails l g ad μ1 2) cv_X6_fails mk_X6_50 rfl rfl rfl (ng := 1) rfl (by decide) rfl rfl rfl rfl rfl rfl ⟨Nat.le_of_ble_eq_true rfl, Nat.le_of_ble_eq_true rfl⟩ (Nat.le_of_ble_eq_true rfl) ⟨Nat.le_of_ble_eq_true rfl, Nat.le_of_ble_eq_true rfl⟩ dX6_makeAll_27 rfl ?_
      exact w_iret_me X ⟨rw2 μ1 5 (fun _ => nI 2), ma_id (ma_r (by rw [mkaO, if_neg (by rw [c9]; decide), if_pos c22]) (lk_tq hμ1))⟩ (by rw [mkaO, if_neg (by rw [c9]; decide), if_pos c22]; rfl) rfl (Nat.le_of_ble_eq_true rfl) (Nat.le_of_ble_eq_true rfl) dX6_makeAll_30
  · refine w_aload_n X 0 rfl dX6_makeAll_12 ?_
    refine w_iconst X (nI 1) dX6_makeAll_13 (by decide +kernel) ?_
    refine w_muV X hA (gr := []) (gs1 := [moC g ad (rw2 (rw2 μ 5 (fun _ => nI (0))) 5 (fun _ => nI 1))]) [0] [] 0 0 (m_X6_fails l g ad (rw2 μ 5 (fun _ => nI (0))) 1) cv_X6_fails mk_X6_50 rfl rfl rfl (ng := 1) rfl (by decide) rfl rfl rfl rfl rfl rfl ⟨Nat.le_of_ble_eq_true rfl, Nat.le_of_ble_eq_true rfl⟩ (Nat.le_of_ble_eq_true rfl) ⟨Nat.le_of_ble_eq_true rfl, Nat.le_of_ble_eq_true rfl⟩ dX6_makeAll_14 rfl ?_
    exact w_iret_me X ⟨rw2 (rw2 μ 5 (fun _ => nI (0))) 5 (fun _ => nI 1), ma_id (ma_r (by rw [mkaO, if_pos c9]) (lk_1 _ _ _))⟩ (by rw [mkaO, if_pos c9]; rfl) rfl (Nat.le_of_ble_eq_true rfl) (Nat.le_of_ble_eq_true rfl) dX6_makeAll_17
