/-! The model: whole texts -/
def pE (cd : Nat → Nat) (t q : Nat) : Nat := match ptN cd t q with
  | some r => r.2.2.2
  | none => q
def stN (cd : Nat → Nat) (t : Nat) : Nat → Nat
  | 0 => 0
  | i + 1 => sgP cd t (pE cd t (stN cd t i)) 59
def spB (cd : Nat → Nat) (t i : Nat) : Bool := atD cd t (pE cd t (stN cd t i)) 59 59
def TD (cd : Nat → Nat) (t : Nat) (μ : Nat → Nat → Int32) (i : Nat) : Prop := ∃ r, ptN cd t (stN cd t i) = some r ∧ μ 9 (3 * i) = nI r.1 ∧ μ 9 (3 * i + 1) = nI r.2.1 ∧ μ 9 (3 * i + 2) = r.2.2.1
def TQ (τ : Nat → Nat → Int32) (cd : Nat → Nat) (t : Nat) (μ μ' : Nat → Nat → Int32) : Prop := (∀ j, j < 6 → μ' j = μ j) ∧ (okB (stL τ 60 0 (nI 0)) = true → errL τ 60 0 (nI 0) = nI t ∧ ∃ k, 0 < k ∧ k ≤ 31 ∧ μ' 10 0 = nI k ∧ (∀ i, i < k → TD cd t μ' i) ∧ (∀ i, i + 1 < k → spB cd t i = true) ∧ pE cd t (stN cd t (k - 1)) = t) ∧ (okB (stL τ 60 0 (nI 0)) = false → (μ' 7 0 = nI 0 ∧ errL τ 60 0 (nI 0) = nI t) ∨ (μ' 7 0 = nI 1 ∧ μ' 6 0 = errL τ 60 0 (nI 0)))
theorem pE_some {cd : Nat → Nat} {t q : Nat} {r : Nat × Nat × Int32 × Nat} (h : ptN cd t q = some r) : pE cd t q = r.2.2.2 := by rw [pE, h]
section TXS
variable {τ : Nat → Nat → Int32} {cd : Nat → Nat} {t : Nat}
theorem ch_df (hτ : RTX τ cd t) : ∀ k, (∀ i, i < k → (ptN cd t (stN cd t i)).isSome = true ∧ spB cd t i = true) → DF τ 0 (nI 0) = DF τ (stN cd t k) (nI 0) ∧ 2 * k ≤ stN cd t k ∧ stN cd t k ≤ t
  | 0, _ => ⟨rfl, by omega, by rw [stN]; omega⟩
  | k + 1, h => by
    obtain ⟨h1, h2, h3⟩ := ch_df hτ k (fun i hi => h i (by omega))
    obtain ⟨hs, hp⟩ := h k (by omega)
    obtain ⟨r, hr⟩ := Option.isSome_iff_exists.mp hs
    obtain ⟨s, d1, en, b1, b2⟩ := df_part hτ hr
    have e := pE_some hr
    rw [spB, e] at hp
    have c := at_t hp
    have e2 : stN cd t (k + 1) = r.2.2.2 + 1 := by rw [stN, e, sgP, if_pos hp]
    rw [e2, h1, d1]
    exact ⟨en.2.1 c.1 (by omega), by omega, by omega⟩
theorem ch_bad (hτ : RTX τ cd t) {k : Nat} (h : ∀ i, i < k → (ptN cd t (stN cd t i)).isSome = true ∧ spB cd t i = true) (hn : ptN cd t (stN cd t k) = none) : okB (stL τ 60 0 (nI 0)) = false ∧ errL τ 60 0 (nI 0) = nI (ptF cd t (stN cd t k)) ∧ ptF cd t (stN cd t k) ≤ t := by
  obtain ⟨h1, h2, h3⟩ := ch_df hτ k h
  obtain ⟨a, b, c⟩ := df_part_n hτ h3 hn
  rw [← h1] at a b
  exact ⟨a, b, c⟩
theorem ch_end (hτ : RTX τ cd t) {k : Nat} (h : ∀ i, i < k → (ptN cd t (stN cd t i)).isSome = true ∧ spB cd t i = true) {r : Nat × Nat × Int32 × Nat} (hr : ptN cd t (stN cd t k) = some r) (hp : spB cd t k = false) : stN cd t (k + 1) = r.2.2.2 ∧ r.2.2.2 ≤ t ∧ (r.2.2.2 = t → okB (stL τ 60 0 (nI 0)) = true ∧ errL τ 60 0 (nI 0) = nI t) ∧ (¬ r.2.2.2 = t → okB (stL τ 60 0 (nI 0)) = false ∧ errL τ 60 0 (nI 0) = nI r.2.2.2) := by
  obtain ⟨h1, h2, h3⟩ := ch_df hτ k h
  obtain ⟨s, d1, en, b1, b2⟩ := df_part hτ hr
  have e := pE_some hr
  rw [spB, e] at hp
  have d2 := h1.trans d1
  refine ⟨by rw [stN, e, sgP, if_neg (by rw [hp]; decide)], b2, fun z => ?_, fun z => ?_⟩
  · rw [z, df_end hτ] at d2
    have a1 : stL τ 60 0 (nI 0) = s := congrArg Prod.fst d2
    have a2 : errL τ 60 0 (nI 0) = nI t := congrArg Prod.snd d2
    rw [a1, a2]
    exact ⟨en.1, rfl⟩
  · have hl : r.2.2.2 < t := by omega
    have b := df_bad hτ hl (en.2.2 hl (fun y => at_f hp ⟨hl, y⟩))
    rw [← d2] at b
    exact b
end TXS
theorem pq_i {cd : Nat → Nat} {t q k : Nat} {μ μ' : Nat → Nat → Int32} (h : PQ cd t q k μ μ') (c : (ptN cd t q).isSome = true) : ∃ r, ptN cd t q = some r ∧ μ' 6 0 = nI r.2.2.2 ∧ μ' 9 (3 * k) = nI r.1 ∧ μ' 9 (3 * k + 1) = nI r.2.1 ∧ μ' 9 (3 * k + 2) = r.2.2.1 ∧ ∀ i, i < 3 * k → μ' 9 i = μ 9 i := by
  obtain ⟨r, hr⟩ := Option.isSome_iff_exists.mp c
  have h2 := h.2
  rw [hr] at h2
  exact ⟨r, hr, h2⟩
theorem pq_f {cd : Nat → Nat} {t q k : Nat} {μ μ' : Nat → Nat → Int32} (h : PQ cd t q k μ μ') (c : (ptN cd t q).isSome = false) : ptN cd t q = none ∧ μ' 6 0 = nI (ptF cd t q) ∧ μ' 7 0 = bI (decide (ptF cd t q < t)) := by
  have h2 := h.2
  rcases e : ptN cd t q with _ | r
  · rw [e] at h2
    exact ⟨rfl, h2⟩
  · rw [e] at c; cases c
theorem TD.to {cd : Nat → Nat} {t i : Nat} {μ μ' : Nat → Nat → Int32} (h : TD cd t μ i) (e : ∀ j, j < 3 * i + 3 → μ' 9 j = μ 9 j) : TD cd t μ' i := by
  obtain ⟨r, h1, h2, h3, h4⟩ := h
  exact ⟨r, h1, by rw [e _ (by omega)]; exact h2, by rw [e _ (by omega)]; exact h3, by rw [e _ (by omega)]; exact h4⟩
/-- a text's reading on its way: b whether a part must follow -/
def LT (cd : Nat → Nat) (t : Nat) (μ μ2 : Nat → Nat → Int32) (b : Bool) (k : Nat) : Prop := (∀ j, j ≠ 6 → j ≠ 7 → j ≠ 8 → j ≠ 9 → j ≠ 10 → μ2 j = μ j) ∧ μ2 6 0 = nI (stN cd t k) ∧ μ2 10 0 = nI k ∧ (∀ i, i < k → TD cd t μ2 i) ∧ (b = true → ∀ i, i < k → spB cd t i = true) ∧ (b = false → 0 < k ∧ (∀ i, i + 1 < k → spB cd t i = true) ∧ spB cd t (k - 1) = false)
theorem TD.some {cd : Nat → Nat} {t i : Nat} {μ : Nat → Nat → Int32} (h : TD cd t μ i) : (ptN cd t (stN cd t i)).isSome = true := by
  obtain ⟨r, h1, _⟩ := h
  rw [h1]; rfl
theorem lt_on {cd : Nat → Nat} {t k : Nat} {μ μ2 μ1 : Nat → Nat → Int32} (h : LT cd t μ μ2 true k) (hq : PQ cd t (stN cd t k) k μ2 μ1) {r : Nat × Nat × Int32 × Nat} (hr : ptN cd t (stN cd t k) = some r) (h0 : μ1 9 (3 * k) = nI r.1) (h1 : μ1 9 (3 * k + 1) = nI r.2.1) (h2 : μ1 9 (3 * k + 2) = r.2.2.1) (h3 : ∀ i, i < 3 * k → μ1 9 i = μ2 9 i) : LT cd t μ (rw2 (rw2 μ1 10 (fun _ => nI (k + 1))) 6 (fun _ => nI (sgP cd t (pE cd t (stN cd t k)) 59))) (atD cd t (pE cd t (stN cd t k)) 59 59) (k + 1) := by
  have e9 : rw2 (rw2 μ1 10 (fun _ => nI (k + 1))) 6 (fun _ => nI (sgP cd t (pE cd t (stN cd t k)) 59)) 9 = μ1 9 := by rw [rw2_n _ _ (by decide), rw2_n _ _ (by decide)]
  refine ⟨fun j j6 j7 j8 j9 j10 => by rw [rw2_n _ _ j6, rw2_n _ _ j10, hq.1 j j6 j7 j8 j9, h.1 j j6 j7 j8 j9 j10], by rw [rw2_s]; rfl, by rw [rw2_n _ _ (by decide), rw2_s], fun i hi => ?_, fun hb i hi => ?_, fun hb => ⟨by omega, fun i hi => ?_, hb⟩⟩
  · by_cases e : i = k
    · subst e
      exact ⟨r, hr, by rw [e9]; exact h0, by rw [e9]; exact h1, by rw [e9]; exact h2⟩
    · exact (h.2.2.2.1 i (by omega)).to (fun j hj => by rw [e9]; exact h3 j (by omega))
  · by_cases e : i = k
    · subst e; exact hb
    · exact h.2.2.2.2.1 rfl i (by omega)
  · exact h.2.2.2.2.1 rfl i (by omega)
theorem tq_bad {τ μ : Nat → Nat → Int32} {t f : Nat} {b : Bool} (h : b = false ∧ errL τ 60 0 (nI 0) = nI f ∧ f ≤ t) (h2 : μ 6 0 = nI f ∧ μ 7 0 = bI (decide (f < t))) : (μ 7 0 = nI 0 ∧ errL τ 60 0 (nI 0) = nI t) ∨ (μ 7 0 = nI 1 ∧ μ 6 0 = errL τ 60 0 (nI 0)) := by
  by_cases c : f < t
  · exact Or.inr ⟨by rw [h2.2, decide_eq_true c]; rfl, by rw [h2.1, h.2.1]⟩
  · exact Or.inl ⟨by rw [h2.2, decide_eq_false c]; rfl, by rw [h.2.1, show f = t by omega]⟩
set_option maxRecDepth 100000 in
set_option maxHeartbeats 4000000 in
theorem m_X6_isText (l : Launch) (g : GG) (ad : Nat → Nat) (μ : Nat → Nat → Int32) (cd : Nat → Nat) (t : Nat) (τ : Nat → Nat → Int32) (hT : TXM μ cd t) (hτ : RTX τ cd t) : MME (U := {μ' : Nat → Nat → Int32 // TQ τ cd t μ μ'}) l g yX6_isText cX6_isText 2 (some .boolean) 5 0 0 [.ref (ad 0)] [moC g ad μ] (some (.int (bI (okB (stL τ 60 0 (nI 0)))))) (fun u => [moC g ad u.1]) := by
  refine mk_me (by decide +kernel) (Nat.le_of_ble_eq_true rfl) (fun p e s m below meth c A hA X => ?_)
  have ht60 := hT.2.1
  refine w_aload_n X 0 rfl dX6_isText_0 ?_
  refine w_iconst X (nI 0) dX6_isText_1 (by decide +kernel) ?_
  refine w_put X 0 0 rfl rfl rfl in_X6 tyX6 tyX6_ok nmX6 6 (by decide) fk_X6_140 rfl rfl rfl rfl (Nat.le_of_ble_eq_true rfl) (show _ = moC g ad (rw2 μ 6 (fun _ => nI (0))) from rfl) dX6_isText_2 ?_
  refine w_aload_n X 0 rfl dX6_isText_5 ?_
  refine w_iconst X (nI 0) dX6_isText_6 (by decide +kernel) ?_
  refine w_put X 0 0 rfl rfl rfl in_X6 tyX6 tyX6_ok nmX6 10 (by decide) fk_X6_160 rfl rfl rfl rfl (Nat.le_of_ble_eq_true rfl) (show _ = moC g ad (rw2 (rw2 μ 6 (fun _ => nI (0))) 10 (fun _ => nI (0))) from rfl) dX6_isText_7 ?_
  refine w_aload_n X 0 rfl dX6_isText_10 ?_
  refine w_iconst X (nI 0) dX6_isText_11 (by decide +kernel) ?_
  refine w_put X 0 0 rfl rfl rfl in_X6 tyX6 tyX6_ok nmX6 7 (by decide) fk_X6_143 rfl rfl (rfl) (rfl) (Nat.le_of_ble_eq_true rfl) (show _ = moC g ad (rw2 (rw2 (rw2 μ 6 (fun _ => nI (0))) 10 (fun _ => nI (0))) 7 (fun _ => nI (0))) from rfl) dX6_isText_12 ?_
  refine w_iconst X (nI 1) dX6_isText_15 (by decide +kernel) ?_
  refine w_istore_n X dX6_isText_16 (by decide) ?_
  refine w_all [1, 0] (rfl) (rfl) rfl (w_loop (st := []) (pc := 17) X (V := Bool × Nat × (Nat → Nat → Int32)) (fun (v17 : Bool × Nat × (Nat → Nat → Int32)) => t - stN cd t v17.2.1) (fun (v17 : Bool × Nat × (Nat → Nat → Int32)) => (LT cd t μ v17.2.2 v17.1 v17.2.1)) (fun (v17 : Bool × Nat × (Nat → Nat → Int32)) => [(0, .ref (ad 0)), (1, .int (bI (v17.1)))]) (fun (v17 : Bool × Nat × (Nat → Nat → Int32)) => [moC g ad v17.2.2]) (fun v17 hv17 ih17 => ?_) (true, 0, rw2 (rw2 (rw2 μ 6 (fun _ => nI (0))) 10 (fun _ => nI (0))) 7 (fun _ => nI (0))) ((by (try dsimp only); exact ⟨fun j j6 j7 j8 j9 j10 => by rw [rw2_n _ _ j7, rw2_n _ _ j10, rw2_n _ _ j6], rfl, rfl, fun i h => by omega, fun _ i h => by omega, fun z => by cases z⟩)))
  obtain ⟨b, k, μ2⟩ := v17
  have hL := hv17
  try dsimp only at hL ih17 ⊢
  refine w_iload_n X 1 rfl dX6_isText_17 ?_
  refine w_bf_eq X 50 dX6_isText_18 (by decide) (fun c18 => ?_) (fun c18 => ?_)
  · subst c18
    obtain ⟨hk0, hsp, hsl⟩ := hL.2.2.2.2.2 rfl
    have hch : ∀ i, i < k - 1 → (ptN cd t (stN cd t i)).isSome = true ∧ spB cd t i = true := fun i hi => ⟨(hL.2.2.2.1 i (by omega)).some, hsp i (by omega)⟩
    obtain ⟨r, hr, _⟩ := hL.2.2.2.1 (k - 1) (by omega)
    have he := ch_end hτ hch hr hsl
    rw [show k - 1 + 1 = k by omega] at he
    have hpe := pE_some hr
    have hkk := (ch_df hτ (k - 1) hch).2
    have hT2 : TXM μ2 cd t := hT.to (hL.1 3 (by decide) (by decide) (by decide) (by decide) (by decide)) (hL.1 4 (by decide) (by decide) (by decide) (by decide) (by decide))
    refine w_aload_n X 0 rfl dX6_isText_50 ?_
    refine w_aload_n X 0 rfl dX6_isText_51 ?_
    refine w_get X 0 0 rfl rfl rfl in_X6 6 (by decide) fk_X6_140 rfl dX6_isText_52 ?_
    refine w_st (st2 := [.int (nI (stN cd t k)), .ref (ad 0)]) (by exact congrArg (fun v => Value.int v :: _) (hL.2.1)) ?_
    refine w_aload_n X 0 rfl dX6_isText_55 ?_
    refine w_get X 0 0 rfl rfl rfl in_X6 4 (by decide) fk_X6_137 rfl dX6_isText_56 ?_
    refine w_st (st2 := [.int (nI t), .int (nI (stN cd t k)), .ref (ad 0)]) (by exact congrArg (fun v => Value.int v :: _) (hT2.1)) ?_
    refine w_nc_ge X (by omega) (by omega) 66 dX6_isText_59 (by decide) (fun c59 => ?_) (fun c59 => ?_)
    · refine w_iconst X (nI 0) dX6_isText_66 (by decide +kernel) ?_
      refine w_put X 0 0 rfl rfl rfl in_X6 tyX6 tyX6_ok nmX6 7 (by decide) fk_X6_143 rfl rfl (rfl) (rfl) (Nat.le_of_ble_eq_true rfl) (show _ = moC g ad (rw2 μ2 7 (fun _ => nI (0))) from rfl) dX6_isText_67 ?_
      refine w_aload_n X 0 rfl dX6_isText_70 ?_
      refine w_get X 0 0 rfl rfl rfl in_X6 6 (by decide) fk_X6_140 rfl dX6_isText_71 ?_
      refine w_st (st2 := [.int (μ2 6 0)]) rfl ?_
      refine w_st (st2 := [.int (nI (stN cd t k))]) (by exact congrArg (fun v => Value.int v :: _) (hL.2.1)) ?_
      refine w_aload_n X 0 rfl dX6_isText_74 ?_
      refine w_get X 0 0 rfl rfl rfl in_X6 4 (by decide) fk_X6_137 rfl dX6_isText_75 ?_
      refine w_st (st2 := [.int (μ2 4 0), .int (nI (stN cd t k))]) rfl ?_
      refine w_st (st2 := [.int (nI t), .int (nI (stN cd t k))]) (by exact congrArg (fun v => Value.int v :: _) (hT2.1)) ?_
      refine w_nc_ne X (by omega) (by omega) 85 dX6_isText_78 (by decide) (fun c78 => ?_) (fun c78 => ?_)
      · refine w_iconst X (nI 0) dX6_isText_85 (by decide +kernel) ?_
        exact w_zret_me X ⟨rw2 μ2 7 (fun _ => nI (0)), ⟨fun j hj => (rw2_n _ _ (by omega)).trans (hL.1 j (by omega) (by omega) (by omega) (by omega) (by omega)), fun z => (by rw [(he.2.2.2 (fun y => c78 (he.1.trans y))).1] at z; cases z), fun _ => by have := he.1; omega⟩⟩ (by rw [(he.2.2.2 (fun y => c78 (he.1.trans y))).1]; rfl) rfl (Nat.le_of_ble_eq_true rfl) (Nat.le_of_ble_eq_true rfl) (rfl) dX6_isText_86
      · refine w_iconst X (nI 1) dX6_isText_81 (by decide +kernel) ?_
        refine w_goto X 86 dX6_isText_82 (by decide) ?_
        exact w_zret_me X ⟨rw2 μ2 7 (fun _ => nI (0)), ⟨fun j hj => (rw2_n _ _ (by omega)).trans (hL.1 j (by omega) (by omega) (by omega) (by omega) (by omega)), fun _ => ⟨(he.2.2.1 (he.1.symm.trans c78)).2, k, hk0, by omega, hL.2.2.1, fun i hi => (hL.2.2.2.1 i hi).to (fun _ _ => rfl), hsp, by rw [hpe, ← he.1]; exact c78⟩, fun z => (by rw [(he.2.2.1 (he.1.symm.trans c78)).1] at z; cases z)⟩⟩ (by rw [(he.2.2.1 (he.1.symm.trans c78)).1]; rfl) rfl (Nat.le_of_ble_eq_true rfl) (Nat.le_of_ble_eq_true rfl) (rfl) dX6_isText_86
    · refine w_iconst X (nI 1) dX6_isText_62 (by decide +kernel) ?_
      refine w_goto X 67 dX6_isText_63 (by decide) ?_
      refine w_put X 0 0 rfl rfl rfl in_X6 tyX6 tyX6_ok nmX6 7 (by decide) fk_X6_143 rfl rfl (rfl) (rfl) (Nat.le_of_ble_eq_true rfl) (show _ = moC g ad (rw2 μ2 7 (fun _ => nI (1))) from rfl) dX6_isText_67 ?_
      refine w_aload_n X 0 rfl dX6_isText_70 ?_
      refine w_get X 0 0 rfl rfl rfl in_X6 6 (by decide) fk_X6_140 rfl dX6_isText_71 ?_
      refine w_st (st2 := [.int (μ2 6 0)]) rfl ?_
      refine w_st (st2 := [.int (nI (stN cd t k))]) (by exact congrArg (fun v => Value.int v :: _) (hL.2.1)) ?_
      refine w_aload_n X 0 rfl dX6_isText_74 ?_
      refine w_get X 0 0 rfl rfl rfl in_X6 4 (by decide) fk_X6_137 rfl dX6_isText_75 ?_
      refine w_st (st2 := [.int (μ2 4 0), .int (nI (stN cd t k))]) rfl ?_
      refine w_st (st2 := [.int (nI t), .int (nI (stN cd t k))]) (by exact congrArg (fun v => Value.int v :: _) (hT2.1)) ?_
      refine w_nc_ne X (by omega) (by omega) 85 dX6_isText_78 (by decide) (fun c78 => ?_) (fun c78 => ?_)
      · refine w_iconst X (nI 0) dX6_isText_85 (by decide +kernel) ?_
        exact w_zret_me X ⟨rw2 μ2 7 (fun _ => nI (1)), ⟨fun j hj => (rw2_n _ _ (by omega)).trans (hL.1 j (by omega) (by omega) (by omega) (by omega) (by omega)), fun z => (by rw [(he.2.2.2 (fun y => c78 (he.1.trans y))).1] at z; cases z), fun _ => Or.inr ⟨rfl, by rw [(he.2.2.2 (fun y => c78 (he.1.trans y))).2, ← he.1]; exact hL.2.1⟩⟩⟩ (by rw [(he.2.2.2 (fun y => c78 (he.1.trans y))).1]; rfl) rfl (Nat.le_of_ble_eq_true rfl) (Nat.le_of_ble_eq_true rfl) (rfl) dX6_isText_86
      · refine w_iconst X (nI 1) dX6_isText_81 (by decide +kernel) ?_
        refine w_goto X 86 dX6_isText_82 (by decide) ?_
        exact w_zret_me X ⟨rw2 μ2 7 (fun _ => nI (1)), ⟨fun j hj => (rw2_n _ _ (by omega)).trans (hL.1 j (by omega) (by omega) (by omega) (by omega) (by omega)), fun _ => ⟨(he.2.2.1 (he.1.symm.trans c78)).2, k, hk0, by omega, hL.2.2.1, fun i hi => (hL.2.2.2.1 i hi).to (fun _ _ => rfl), hsp, by rw [hpe, ← he.1]; exact c78⟩, fun z => (by rw [(he.2.2.1 (he.1.symm.trans c78)).1] at z; cases z)⟩⟩ (by rw [(he.2.2.1 (he.1.symm.trans c78)).1]; rfl) rfl (Nat.le_of_ble_eq_true rfl) (Nat.le_of_ble_eq_true rfl) (rfl) dX6_isText_86
  · subst c18
    have hch : ∀ i, i < k → (ptN cd t (stN cd t i)).isSome = true ∧ spB cd t i = true := fun i hi => ⟨(hL.2.2.2.1 i hi).some, hL.2.2.2.2.1 rfl i hi⟩
    have hd := ch_df hτ k hch
    have hT2 : TXM μ2 cd t := hT.to (hL.1 3 (by decide) (by decide) (by decide) (by decide) (by decide)) (hL.1 4 (by decide) (by decide) (by decide) (by decide) (by decide))
    refine w_aload_n X 0 rfl dX6_isText_21 ?_
    refine w_meV X hA (U := {μ' : Nat → Nat → Int32 // PQ cd t (stN cd t k) k μ2 μ'}) (gr := []) (gs1 := fun u => [moC g ad u.1]) [0] [] 0 0 (m_X6_isPart l g ad μ2 cd t (stN cd t k) k (hT2) (hL.2.1) (hd.2.2) (hL.2.2.1) (by omega)) cv_X6_isPart mk_X6_166 rfl rfl rfl (ng := 1) rfl (by decide) (fun _ => rfl) (fun _ => rfl) (fun _ => rfl) rfl rfl rfl ⟨Nat.le_of_ble_eq_true rfl, Nat.le_of_ble_eq_true rfl⟩ (Nat.le_of_ble_eq_true rfl) ⟨Nat.le_of_ble_eq_true rfl, Nat.le_of_ble_eq_true rfl⟩ dX6_isText_22 rfl (fun u => ?_)
    obtain ⟨μ1, hμ1⟩ := u
    try dsimp only
    refine w_bf_ne X 30 dX6_isText_25 (by decide) (fun c25 => ?_) (fun c25 => ?_)
    · obtain ⟨r, hr, h16, h90, h91, h92, h93⟩ := pq_i hμ1 c25
      have hpe := pE_some hr
      have hT1 : TXM μ1 cd t := hT2.to (hμ1.1 3 (by decide) (by decide) (by decide) (by decide)) (hμ1.1 4 (by decide) (by decide) (by decide) (by decide))
      have hk1 : μ1 10 0 = nI k := by rw [hμ1.1 10 (by decide) (by decide) (by decide) (by decide)]; exact hL.2.2.1
      obtain ⟨s, d1, en, b1, b2⟩ := df_part hτ hr
      refine w_aload_n X 0 rfl dX6_isText_30 ?_
      refine w_dup X dX6_isText_31 rfl ?_
      refine w_get X 0 0 rfl rfl rfl in_X6 10 (by decide) fk_X6_160 rfl dX6_isText_32 ?_
      refine w_st (st2 := [.int (nI k), .ref (ad 0)]) (by exact congrArg (fun v => Value.int v :: _) (hk1)) ?_
      refine w_iconst X (nI 1) dX6_isText_35 (by decide +kernel) ?_
      refine w_iadd_n X dX6_isText_36 ?_
      refine w_put X 0 0 rfl rfl rfl in_X6 tyX6 tyX6_ok nmX6 10 (by decide) fk_X6_160 rfl rfl rfl rfl (Nat.le_of_ble_eq_true rfl) (show _ = moC g ad (rw2 μ1 10 (fun _ => nI (k + 1))) from rfl) dX6_isText_37 ?_
      refine w_aload_n X 0 rfl dX6_isText_40 ?_
      refine w_bipush X (nI 59) dX6_isText_41 (by decide +kernel) ?_
      refine w_muV X hA (gr := []) (gs1 := [moC g ad (rw2 (rw2 μ1 10 (fun _ => nI (k + 1))) 6 (fun _ => nI (sgP cd t (pE cd t (stN cd t k)) 59)))]) [0] [] 0 0 (m_X6_isSign l g ad (rw2 μ1 10 (fun _ => nI (k + 1))) cd t (pE cd t (stN cd t k)) 59 (hT1) (by rw [hpe]; exact h16) (by rw [hpe]; exact b2) (by omega)) cv_X6_isSign mk_X6_163 rfl rfl rfl (ng := 1) rfl (by decide) rfl rfl rfl rfl rfl rfl ⟨Nat.le_of_ble_eq_true rfl, Nat.le_of_ble_eq_true rfl⟩ (Nat.le_of_ble_eq_true rfl) ⟨Nat.le_of_ble_eq_true rfl, Nat.le_of_ble_eq_true rfl⟩ dX6_isText_43 rfl ?_
      refine w_istore_n X dX6_isText_46 (by decide) ?_
      refine w_goto X 17 dX6_isText_47 (by decide) ?_
      exact w_all [1, 0] (rfl) (rfl) rfl (ih17 (atD cd t (pE cd t (stN cd t k)) 59 59, k + 1, rw2 (rw2 μ1 10 (fun _ => nI (k + 1))) 6 (fun _ => nI (sgP cd t (pE cd t (stN cd t k)) 59))) (by (try dsimp only); rw [stN, hpe]; have := (sg_bd (cd := cd) (x := 59) b2).1; omega) (by (try dsimp only); exact lt_on hL hμ1 hr h90 h91 h92 h93))
    · refine w_iconst X (nI 0) dX6_isText_28 (by decide +kernel) ?_
      exact w_zret_me X ⟨μ1, ⟨fun j hj => (hμ1.1 j (by omega) (by omega) (by omega) (by omega)).trans (hL.1 j (by omega) (by omega) (by omega) (by omega) (by omega)), fun z => (by rw [(ch_bad hτ hch (pq_f hμ1 c25).1).1] at z; cases z), fun _ => tq_bad (ch_bad hτ hch (pq_f hμ1 c25).1) (pq_f hμ1 c25).2⟩⟩ (by rw [(ch_bad hτ hch (pq_f hμ1 c25).1).1]; rfl) rfl (Nat.le_of_ble_eq_true rfl) (Nat.le_of_ble_eq_true rfl) (rfl) dX6_isText_29
