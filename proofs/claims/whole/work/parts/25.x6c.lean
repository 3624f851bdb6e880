/-! The model: who survives -/
def rm1 (μ : Nat → Nat → Int32) (o j : Nat) : Bool := if μ 0 (24 + 9 * j + 0) = nI 1 then (if μ 0 (24 + 9 * j + 4) = nI o then true else if μ 0 (24 + 9 * j + 5) = nI o then true else false) else false
def rmB (μ : Nat → Nat → Int32) (o j : Nat) : Bool := if rm1 μ o j = false then false else if μ 0 (24 + 9 * j + 1) = μ 0 (24 + 9 * o + 1) then (if μ 14 j = 0 then false else true) else true
theorem anyB_ex {p : Nat → Bool} {n : Nat} (h : anyB p n = true) : ∃ k, k < n ∧ p k = true := by
  rcases lowI_cases p n with ⟨_, h2⟩ | ⟨k, hk, _, h3, _⟩
  · rw [anyB_none h2] at h; cases h
  · exact ⟨k, hk, h3⟩
theorem anyB_of {p : Nat → Bool} {n k : Nat} (hk : k < n) (h : p k = true) : anyB p n = true := by
  rcases lowI_cases p n with ⟨_, h2⟩ | ⟨k2, hk2, _, h3, h4⟩
  · rw [h2 k hk] at h; cases h
  · exact anyB_found h4 hk2 h3
theorem rm1_iff {σ μ : Nat → Nat → Int32} (hR : RI σ (μ 0)) {o j : Nat} (hj : j < 24) : rm1 μ o j = true ↔ σ 0 j = nI 1 ∧ ∃ f, f < 2 ∧ σ 4 (j * 2 + f) = nI o := by
  rw [rm1, hR.used hj]
  by_cases hu : σ 0 j = nI 1
  · have e0 := hR.fld hj (f := 0) (by decide) hu
    have e1 := hR.fld hj (f := 1) (by decide) hu
    rw [if_pos hu, show (24 + 9 * j + 4) = 24 + 9 * j + (4 + 0) from rfl, show (24 + 9 * j + 5) = 24 + 9 * j + (4 + 1) from rfl, e0, e1]
    by_cases c0 : σ 4 (j * 2 + 0) = nI o
    · rw [if_pos c0]
      exact ⟨fun _ => ⟨hu, 0, by decide, c0⟩, fun _ => rfl⟩
    · rw [if_neg c0]
      by_cases c1 : σ 4 (j * 2 + 1) = nI o
      · rw [if_pos c1]
        exact ⟨fun _ => ⟨hu, 1, by decide, c1⟩, fun _ => rfl⟩
      · rw [if_neg c1]
        refine ⟨fun h => (by cases h), fun ⟨_, f, hf, e⟩ => ?_⟩
        rcases (show f = 0 ∨ f = 1 by omega) with rfl | rfl
        · exact absurd e c0
        · exact absurd e c1
  · rw [if_neg hu]
    exact ⟨fun h => (by cases h), fun h => absurd h.1 hu⟩
def l0 (σ : Nat → Nat → Int32) (a : Int32) (j : Nat) : Bool := if isInB σ (nI j) a = false then false else plB (trC σ (-1)) j
theorem l0_iff {σ : Nat → Nat → Int32} {a : Int32} {j : Nat} : l0 σ a j = true ↔ isInB σ (nI j) a = true ∧ plB (trC σ (-1)) j = true := by
  rw [l0]
  cases isInB σ (nI j) a <;> simp
/-- the model's lives, on their way -/
def WL (σ : Nat → Nat → Int32) (a : Int32) (μ : Nat → Nat → Int32) : Prop := (∀ j, j < 24 → μ 14 j = nI 0 ∨ μ 14 j = nI 1) ∧ (∀ j, j < 24 → l0 σ a j = true → μ 14 j = nI 1) ∧ ∀ j, j < 24 → μ 14 j = nI 1 → plB (suC σ a) j = true ∧ isInB σ (nI j) a = true
def LQP (σ μ μ' : Nat → Nat → Int32) : Prop := scr μ μ' ∧ ∃ q, FM σ μ' (trC σ (-1)) q
def LV (μ ρ : Nat → Nat → Int32) : Prop := ∀ j, j < 24 → μ 14 j = bI (plB ρ j)
theorem LQP.up {σ μ μ' : Nat → Nat → Int32} (h : LQP σ μ μ') (f : Nat → Int32) : LQP σ μ (rw2 μ' 14 f) := ⟨fun k hk => (rw2_n _ _ (by omega)).trans (h.1 k hk), h.2.elim fun q hq => ⟨q, hq⟩⟩
section SVS
variable {σ μ : Nat → Nat → Int32} {a : Int32}
theorem wl_add (hR : RI σ (μ 0)) (ha : a ≠ -1) (h : WL σ a μ) (hs : σ 11 0 = nI 1) {o : Nat} (ho : o < 24) (hi : isInB σ (nI o) a = true) (hr : anyB (rmB μ o) 24 = true) : WL σ a (rw2 μ 14 (upd (μ 14) o (nI 1))) := by
  have e : ∀ j, rw2 μ 14 (upd (μ 14) o (nI 1)) 14 j = if j = o then nI 1 else μ 14 j := fun j => by rw [rw2_s, upd_e]
  refine ⟨fun j hj => ?_, fun j hj hl => ?_, fun j hj hl => ?_⟩
  · rw [e]
    split
    · exact Or.inr rfl
    · exact h.1 j hj
  · rw [e]
    split
    · rfl
    · exact h.2.1 j hj hl
  · rw [e] at hl
    by_cases c : j = o
    · subst c
      refine ⟨?_, hi⟩
      obtain ⟨k, hk, hb⟩ := anyB_ex hr
      rw [rmB] at hb
      rcases c1 : rm1 μ j k with _ | _
      · rw [c1, if_pos rfl] at hb; cases hb
      · rw [c1, if_neg (by decide)] at hb
        obtain ⟨hu, f, hf, ef⟩ := (rm1_iff hR hk).mp c1
        have ui := in_used hR ho hi
        rw [(hR.at hk hu).1, (hR.at ho ui.1).1] at hb
        obtain ⟨-, -, s3, s4, -⟩ := su_clo hR.1.2.2.2.2.2.1 ha
        by_cases c2 : σ 1 k = σ 1 j
        · rw [if_pos c2] at hb
          have hl1 : μ 14 k = nI 1 := by
            rcases h.1 k hk with z | z
            · rw [z, if_pos (by decide)] at hb; cases hb
            · exact z
          exact s4 k f j hk hf ho (h.2.2 k hk hl1).1 ef hi
        · exact s3 hs k f j hk hf ho (by rw [isIn_nI σ hk, hu, if_neg n10, if_neg (fun z => c2 (z.trans ui.2.symm))]) ef hi
    · rw [if_neg c] at hl
      exact h.2.2 j hj hl
theorem wl_fix (hR : RI σ (μ 0)) (ha : a ≠ -1) (h : WL σ a μ) (hc : ∀ j, j < 24 → isInB σ (nI j) a = true → anyB (rmB μ j) 24 = true → μ 14 j = nI 1) : LV μ (suC σ a) := by
  intro j hj
  obtain ⟨-, -, -, -, s5⟩ := su_clo hR.1.2.2.2.2.2.1 ha
  have key : plB (suC σ a) j = true → μ 14 j = nI 1 := by
    refine s5 (fun j => μ 14 j = nI 1) (fun j hj h1 h2 => h.2.1 j hj (l0_iff.mpr ⟨h1, h2⟩)) (fun hs k f t hk hf ht h1 h2 h3 => hc t ht h3 (anyB_of hk ?_)) (fun k f t hk hf ht h1 h2 h3 => hc t ht h3 (anyB_of hk ?_)) j hj
    · have hu : σ 0 k = nI 1 := by
        rcases hR.flag hk with z | z
        · exact absurd (h2.symm.trans (hR.unf hk hf z)) (nI_ne (by omega))
        · exact z
      have ut := in_used hR ht h3
      rw [rmB, (rm1_iff hR hk).mpr ⟨hu, f, hf, h2⟩, if_neg (by decide), (hR.at hk hu).1, (hR.at ht ut.1).1, if_neg]
      intro z
      rw [isIn_nI σ hk, hu, if_neg n10, if_pos (z.trans ut.2)] at h1
      cases h1
    · have hu := (in_used hR hk (h.2.2 k hk h1).2).1
      rw [rmB, (rm1_iff hR hk).mpr ⟨hu, f, hf, h2⟩, if_neg (by decide), h1]
      split <;> rfl
  rcases h.1 j hj with z | z
  · rcases hp : plB (suC σ a) j with _ | _
    · exact z
    · exact key hp
  · rw [z, (h.2.2 j hj z).1]; rfl
theorem l0_su (hR : RI σ (μ 0)) (ha : a ≠ -1) (hs : ¬ σ 11 0 = nI 1) {j : Nat} (hj : j < 24) : l0 σ a j = plB (suC σ a) j := by
  obtain ⟨-, s2, -, -, s5⟩ := su_clo hR.1.2.2.2.2.2.1 ha
  obtain ⟨-, -, t3⟩ := tr_clo hR.1.2.2.2.2.2.1 (-1)
  rcases hp : plB (suC σ a) j with _ | _
  · rcases hl : l0 σ a j with _ | _
    · rfl
    · rw [s2 j hj (l0_iff.mp hl).1 (l0_iff.mp hl).2] at hp; cases hp
  · exact s5 (fun j => l0 σ a j = true) (fun j hj h1 h2 => l0_iff.mpr ⟨h1, h2⟩) (fun z => absurd z hs) (fun k f t hk hf ht h1 h2 h3 => l0_iff.mpr ⟨h3, t3 k f t hk hf ht (l0_iff.mp h1).2 ⟨h2, nI_ne (by omega), Or.inl rfl⟩⟩) j hj hp
theorem wl_0 (ha : a ≠ -1) (hR : RI σ (μ 0)) (h : ∀ j, j < 24 → μ 14 j = bI (l0 σ a j)) : WL σ a μ := by
  refine ⟨fun j hj => ?_, fun j hj hl => by rw [h j hj, hl]; rfl, fun j hj hl => ?_⟩
  · rw [h j hj]
    cases l0 σ a j
    · exact Or.inl rfl
    · exact Or.inr rfl
  · rw [h j hj] at hl
    rcases c : l0 σ a j with _ | _
    · rw [c] at hl; exact absurd hl n01
    · obtain ⟨-, s2, -⟩ := su_clo hR.1.2.2.2.2.2.1 ha
      exact ⟨s2 j hj (l0_iff.mp c).1 (l0_iff.mp c).2, (l0_iff.mp c).1⟩
def ddB (μ : Nat → Nat → Int32) (j : Nat) : Bool := if μ 14 j = nI 0 then true else false
theorem dd_lt {o : Nat} (ho : o < 24) (h : μ 14 o = nI 0) : cn (ddB (rw2 μ 14 (upd (μ 14) o (nI 1)))) 24 < cn (ddB μ) 24 := by
  have := cn_up (P := ddB (rw2 μ 14 (upd (μ 14) o (nI 1)))) (Q := ddB μ) (j := o) (by rw [ddB, rw2_s, upd_e, if_pos rfl, if_neg n10]) (if_pos h) (fun i hi => by rw [ddB, ddB, rw2_s, upd_e, if_neg hi]) 24 ho
  omega
end SVS
set_option maxRecDepth 100000 in
set_option maxHeartbeats 4000000 in
theorem m_X6_isRemembered (l : Launch) (g : GG) (ad : Nat → Nat) (μ : Nat → Nat → Int32) (o : Nat) (ho : o < 24) : MRO l g yX6_isRemembered cX6_isRemembered 4 (some .boolean) 2 [.ref (ad 0), .int (nI o)] [moC g ad μ] (some (.int (bI (anyB (rmB μ o) 24)))) := by
  refine mk_ro (by decide +kernel) (Nat.le_of_ble_eq_true rfl) (fun p e s m below meth c X => ?_)
  refine w_iconst X (nI 0) dX6_isRemembered_0 (by decide +kernel) ?_
  refine w_istore_n X dX6_isRemembered_1 (by decide) ?_
  refine w_all [1, 2, 0] (rfl) (rfl) rfl (w_loop (st := []) (pc := 2) X (V := Nat) (fun (i : Nat) => 24 - i) (fun (i : Nat) => (i ≤ 24) ∧ (∀ j, j < i → rmB μ o j = false)) (fun (i : Nat) => [(0, .ref (ad 0)), (1, .int (nI o)), (2, .int (nI i))]) (fun (i : Nat) => [moC g ad μ]) (fun i hv2 ih2 => ?_) 0 ⟨by omega, fun j h => by omega⟩)
  obtain ⟨hi, hn⟩ := hv2
  try dsimp only at ih2 ⊢
  refine w_iload_n X 2 rfl dX6_isRemembered_2 ?_
  refine w_bipush X (nI 24) dX6_isRemembered_3 (by decide +kernel) ?_
  refine w_nc_ge X (by omega) (by omega) 80 dX6_isRemembered_5 (by decide) (fun c5 => ?_) (fun c5 => ?_)
  · refine w_iconst X (nI 0) dX6_isRemembered_80 (by decide +kernel) ?_
    exact w_zret_ro X (by rw [anyB_none (fun j hj => hn j (by omega))]; rfl) (rfl) dX6_isRemembered_81
  · refine w_aload_n X 0 rfl dX6_isRemembered_8 ?_
    refine w_iload_n X 2 rfl dX6_isRemembered_9 ?_
    refine w_iconst X (nI 0) dX6_isRemembered_10 (by decide +kernel) ?_
    refine w_roV X [0] 0 0 (m_X6_of l g ad μ i 0 (by omega) (by omega)) cv_X6_of mk_X6_43 rfl rfl rfl rfl rfl ⟨Nat.le_of_ble_eq_true rfl, Nat.le_of_ble_eq_true rfl⟩ (Nat.le_of_ble_eq_true rfl) ⟨Nat.le_of_ble_eq_true rfl, Nat.le_of_ble_eq_true rfl⟩ dX6_isRemembered_11 rfl ?_
    refine w_iconst X (nI 1) dX6_isRemembered_14 (by decide +kernel) ?_
    refine w_ic_ne X 42 dX6_isRemembered_15 (by decide) (fun c15 => ?_) (fun c15 => ?_)
    · refine w_iconst X (nI 0) dX6_isRemembered_42 (by decide +kernel) ?_
      refine w_istore_n X dX6_isRemembered_43 (by decide) ?_
      refine w_iload_n X 0 rfl dX6_isRemembered_44 ?_
      refine w_nf_eq X (by omega) 74 dX6_isRemembered_45 (by decide) (fun c45 => ?_) (fun c45 => by exfalso; omega)
      refine w_iinc X (nI (i + 1)) 3 rfl (nI_1 _) dX6_isRemembered_74 (by decide) ?_
      refine w_goto X 2 dX6_isRemembered_77 (by decide) ?_
      exact w_all [2, 3, 0] (rfl) (rfl) rfl (ih2 (i + 1) (by omega) ⟨by omega, lt_ext hn (by rw [rmB, rm1, if_neg c15]; rfl)⟩)
    · refine w_aload_n X 0 rfl dX6_isRemembered_18 ?_
      refine w_iload_n X 2 rfl dX6_isRemembered_19 ?_
      refine w_iconst X (nI 4) dX6_isRemembered_20 (by decide +kernel) ?_
      refine w_roV X [0] 0 0 (m_X6_of l g ad μ i 4 (by omega) (by omega)) cv_X6_of mk_X6_43 rfl rfl rfl rfl rfl ⟨Nat.le_of_ble_eq_true rfl, Nat.le_of_ble_eq_true rfl⟩ (Nat.le_of_ble_eq_true rfl) ⟨Nat.le_of_ble_eq_true rfl, Nat.le_of_ble_eq_true rfl⟩ dX6_isRemembered_21 rfl ?_
      refine w_iload_n X 1 rfl dX6_isRemembered_24 ?_
      refine w_ic_eq X 38 dX6_isRemembered_25 (by decide) (fun c25 => ?_) (fun c25 => ?_)
      · refine w_iconst X (nI 1) dX6_isRemembered_38 (by decide +kernel) ?_
        refine w_goto X 43 dX6_isRemembered_39 (by decide) ?_
        refine w_istore_n X dX6_isRemembered_43 (by decide) ?_
        refine w_iload_n X 0 rfl dX6_isRemembered_44 ?_
        refine w_nf_eq X (by omega) 74 dX6_isRemembered_45 (by decide) (fun c45 => by exfalso; omega) (fun c45 => ?_)
        refine w_aload_n X 1 rfl dX6_isRemembered_48 ?_
        refine w_iload_n X 3 rfl dX6_isRemembered_49 ?_
        refine w_iconst X (nI 1) dX6_isRemembered_50 (by decide +kernel) ?_
        refine w_roV X [0] 0 0 (m_X6_of l g ad μ i 1 (by omega) (by omega)) cv_X6_of mk_X6_43 rfl rfl rfl rfl rfl ⟨Nat.le_of_ble_eq_true rfl, Nat.le_of_ble_eq_true rfl⟩ (Nat.le_of_ble_eq_true rfl) ⟨Nat.le_of_ble_eq_true rfl, Nat.le_of_ble_eq_true rfl⟩ dX6_isRemembered_51 rfl ?_
        refine w_aload_n X 1 rfl dX6_isRemembered_54 ?_
        refine w_iload_n X 2 rfl dX6_isRemembered_55 ?_
        refine w_iconst X (nI 1) dX6_isRemembered_56 (by decide +kernel) ?_
        refine w_roV X [0] 0 0 (m_X6_of l g ad μ o 1 (by omega) (by omega)) cv_X6_of mk_X6_43 rfl rfl rfl rfl rfl ⟨Nat.le_of_ble_eq_true rfl, Nat.le_of_ble_eq_true rfl⟩ (Nat.le_of_ble_eq_true rfl) ⟨Nat.le_of_ble_eq_true rfl, Nat.le_of_ble_eq_true rfl⟩ dX6_isRemembered_57 rfl ?_
        refine w_ic_ne X 72 dX6_isRemembered_60 (by decide) (fun c60 => ?_) (fun c60 => ?_)
        · refine w_iconst X (nI 1) dX6_isRemembered_72 (by decide +kernel) ?_
          exact w_zret_ro X (by rw [anyB_found (k := i) hn (by omega) (by rw [rmB, rm1, if_pos c15, if_pos c25, if_neg (by decide), if_neg c60])]; rfl) (rfl) dX6_isRemembered_73
        · refine w_aload_n X 1 rfl dX6_isRemembered_63 ?_
          refine w_get X 0 0 rfl rfl rfl in_X6 14 (by decide) fk_X6_28 rfl dX6_isRemembered_64 ?_
          refine w_iload_n X 3 rfl dX6_isRemembered_67 ?_
          refine w_zald_n X 0 7 1 rfl rfl rfl (by omega) (by decide) dX6_isRemembered_68 ?_
          refine w_if_eq X 74 dX6_isRemembered_69 (by decide) (fun c69 => ?_) (fun c69 => ?_)
          · refine w_iinc X (nI (i + 1)) 3 rfl (nI_1 _) dX6_isRemembered_74 (by decide) ?_
            refine w_goto X 2 dX6_isRemembered_77 (by decide) ?_
            exact w_all [2, 3, 0] (rfl) (rfl) rfl (ih2 (i + 1) (by omega) ⟨by omega, lt_ext hn (by rw [rmB, rm1, if_pos c15, if_pos c25, if_neg (by decide), if_pos c60, if_pos c69])⟩)
          · refine w_iconst X (nI 1) dX6_isRemembered_72 (by decide +kernel) ?_
            exact w_zret_ro X (by rw [anyB_found (k := i) hn (by omega) (by rw [rmB, rm1, if_pos c15, if_pos c25, if_neg (by decide), if_pos c60, if_neg c69])]; rfl) (rfl) dX6_isRemembered_73
      · refine w_aload_n X 0 rfl dX6_isRemembered_28 ?_
        refine w_iload_n X 2 rfl dX6_isRemembered_29 ?_
        refine w_iconst X (nI 5) dX6_isRemembered_30 (by decide +kernel) ?_
        refine w_roV X [0] 0 0 (m_X6_of l g ad μ i 5 (by omega) (by omega)) cv_X6_of mk_X6_43 rfl rfl rfl rfl rfl ⟨Nat.le_of_ble_eq_true rfl, Nat.le_of_ble_eq_true rfl⟩ (Nat.le_of_ble_eq_true rfl) ⟨Nat.le_of_ble_eq_true rfl, Nat.le_of_ble_eq_true rfl⟩ dX6_isRemembered_31 rfl ?_
        refine w_iload_n X 1 rfl dX6_isRemembered_34 ?_
        refine w_ic_ne X 42 dX6_isRemembered_35 (by decide) (fun c35 => ?_) (fun c35 => ?_)
        · refine w_iconst X (nI 0) dX6_isRemembered_42 (by decide +kernel) ?_
          refine w_istore_n X dX6_isRemembered_43 (by decide) ?_
          refine w_iload_n X 0 rfl dX6_isRemembered_44 ?_
          refine w_nf_eq X (by omega) 74 dX6_isRemembered_45 (by decide) (fun c45 => ?_) (fun c45 => by exfalso; omega)
          refine w_iinc X (nI (i + 1)) 3 rfl (nI_1 _) dX6_isRemembered_74 (by decide) ?_
          refine w_goto X 2 dX6_isRemembered_77 (by decide) ?_
          exact w_all [2, 3, 0] (rfl) (rfl) rfl (ih2 (i + 1) (by omega) ⟨by omega, lt_ext hn (by rw [rmB, rm1, if_pos c15, if_neg c25, if_neg c35]; rfl)⟩)
        · refine w_iconst X (nI 1) dX6_isRemembered_38 (by decide +kernel) ?_
          refine w_goto X 43 dX6_isRemembered_39 (by decide) ?_
          refine w_istore_n X dX6_isRemembered_43 (by decide) ?_
          refine w_iload_n X 0 rfl dX6_isRemembered_44 ?_
          refine w_nf_eq X (by omega) 74 dX6_isRemembered_45 (by decide) (fun c45 => by exfalso; omega) (fun c45 => ?_)
          refine w_aload_n X 1 rfl dX6_isRemembered_48 ?_
          refine w_iload_n X 3 rfl dX6_isRemembered_49 ?_
          refine w_iconst X (nI 1) dX6_isRemembered_50 (by decide +kernel) ?_
          refine w_roV X [0] 0 0 (m_X6_of l g ad μ i 1 (by omega) (by omega)) cv_X6_of mk_X6_43 rfl rfl rfl rfl rfl ⟨Nat.le_of_ble_eq_true rfl, Nat.le_of_ble_eq_true rfl⟩ (Nat.le_of_ble_eq_true rfl) ⟨Nat.le_of_ble_eq_true rfl, Nat.le_of_ble_eq_true rfl⟩ dX6_isRemembered_51 rfl ?_
          refine w_aload_n X 1 rfl dX6_isRemembered_54 ?_
          refine w_iload_n X 2 rfl dX6_isRemembered_55 ?_
          refine w_iconst X (nI 1) dX6_isRemembered_56 (by decide +kernel) ?_
          refine w_roV X [0] 0 0 (m_X6_of l g ad μ o 1 (by omega) (by omega)) cv_X6_of mk_X6_43 rfl rfl rfl rfl rfl ⟨Nat.le_of_ble_eq_true rfl, Nat.le_of_ble_eq_true rfl⟩ (Nat.le_of_ble_eq_true rfl) ⟨Nat.le_of_ble_eq_true rfl, Nat.le_of_ble_eq_true rfl⟩ dX6_isRemembered_57 rfl ?_
          refine w_ic_ne X 72 dX6_isRemembered_60 (by decide) (fun c60 => ?_) (fun c60 => ?_)
          · refine w_iconst X (nI 1) dX6_isRemembered_72 (by decide +kernel) ?_
            exact w_zret_ro X (by rw [anyB_found (k := i) hn (by omega) (by rw [rmB, rm1, if_pos c15, if_neg c25, if_pos c35, if_neg (by decide), if_neg c60])]; rfl) (rfl) dX6_isRemembered_73
          · refine w_aload_n X 1 rfl dX6_isRemembered_63 ?_
            refine w_get X 0 0 rfl rfl rfl in_X6 14 (by decide) fk_X6_28 rfl dX6_isRemembered_64 ?_
            refine w_iload_n X 3 rfl dX6_isRemembered_67 ?_
            refine w_zald_n X 0 7 1 rfl rfl rfl (by omega) (by decide) dX6_isRemembered_68 ?_
            refine w_if_eq X 74 dX6_isRemembered_69 (by decide) (fun c69 => ?_) (fun c69 => ?_)
            · refine w_iinc X (nI (i + 1)) 3 rfl (nI_1 _) dX6_isRemembered_74 (by decide) ?_
              refine w_goto X 2 dX6_isRemembered_77 (by decide) ?_
              exact w_all [2, 3, 0] (rfl) (rfl) rfl (ih2 (i + 1) (by omega) ⟨by omega, lt_ext hn (by rw [rmB, rm1, if_pos c15, if_neg c25, if_pos c35, if_neg (by decide), if_pos c60, if_pos c69])⟩)
            · refine w_iconst X (nI 1) dX6_isRemembered_72 (by decide +kernel) ?_
              exact w_zret_ro X (by rw [anyB_found (k := i) hn (by omega) (by rw [rmB, rm1, if_pos c15, if_neg c25, if_pos c35, if_neg (by decide), if_pos c60, if_neg c69])]; rfl) (rfl) dX6_isRemembered_73
theorem LQP.RI {σ μ μ' : Nat → Nat → Int32} (h : LQP σ μ μ') (hR : RI σ (μ 0)) : RI σ (μ' 0) := h.1.RI hR
set_option maxRecDepth 100000 in
set_option maxHeartbeats 4000000 in
theorem m_X6_survives (l : Launch) (g : GG) (ad : Nat → Nat) (μ : Nat → Nat → Int32) (σ : Nat → Nat → Int32) (a : Int32) (hR : RI σ (μ 0)) (ha : a ≠ -1) : MME (U := {μ' : Nat → Nat → Int32 // LQP σ μ μ' ∧ LV μ' (suC σ a)}) l g yX6_survives cX6_survives 4 none 3 0 0 [.ref (ad 0), .int (a)] [moC g ad μ] (none) (fun u => [moC g ad u.1]) := by
  refine mk_me (by decide +kernel) (Nat.le_of_ble_eq_true rfl) (fun p e s m below meth c A hA X => ?_)
  refine w_aload_n X 0 rfl dX6_survives_0 ?_
  refine w_iconst X (-1) dX6_survives_1 (by decide +kernel) ?_
  refine w_meV X hA (U := {μ' : Nat → Nat → Int32 // scr μ μ' ∧ ∃ q, FM σ μ' (trC σ (-1)) q}) (gr := []) (gs1 := fun u => [moC g ad u.1]) [0] [] 0 0 (m_X6_meetsAll l g ad μ σ (-1) (hR)) cv_X6_meetsAll mk_X6_60 rfl rfl rfl (ng := 1) rfl (by decide) (fun _ => rfl) (fun _ => rfl) (fun _ => rfl) rfl rfl rfl ⟨Nat.le_of_ble_eq_true rfl, Nat.le_of_ble_eq_true rfl⟩ (Nat.le_of_ble_eq_true rfl) ⟨Nat.le_of_ble_eq_true rfl, Nat.le_of_ble_eq_true rfl⟩ dX6_survives_2 rfl (fun u => ?_)
  obtain ⟨μ1, hμ1⟩ := u
  try dsimp only
  refine w_iconst X (nI 0) dX6_survives_5 (by decide +kernel) ?_
  refine w_istore_n X dX6_survives_6 (by decide) ?_
  refine w_all [1, 2, 0] (rfl) (rfl) rfl (w_loop (st := []) (pc := 7) X (V := Nat × (Nat → Nat → Int32)) (fun (v7 : Nat × (Nat → Nat → Int32)) => 24 - v7.1) (fun (v7 : Nat × (Nat → Nat → Int32)) => (v7.1 ≤ 24) ∧ (LQP σ μ v7.2) ∧ (∀ j, j < v7.1 → v7.2 14 j = bI (l0 σ a j))) (fun (v7 : Nat × (Nat → Nat → Int32)) => [(0, .ref (ad 0)), (1, .int (a)), (2, .int (nI v7.1))]) (fun (v7 : Nat × (Nat → Nat → Int32)) => [moC g ad v7.2]) (fun v7 hv7 ih7 => ?_) (0, μ1) (by try dsimp only; exact ⟨by omega, hμ1, fun j h => by omega⟩))
  obtain ⟨i, μ2⟩ := v7
  obtain ⟨hi, hA2, hl⟩ := hv7
  try dsimp only at hi hA2 hl ih7 ⊢
  refine w_iload_n X 2 rfl dX6_survives_7 ?_
  refine w_bipush X (nI 24) dX6_survives_8 (by decide +kernel) ?_
  refine w_nc_ge X (by omega) (by omega) 49 dX6_survives_10 (by decide) (fun c10 => ?_) (fun c10 => ?_)
  · have he_i : i = 24 := by omega
    refine w_aload_n X 0 rfl dX6_survives_49 ?_
    refine w_get X 0 0 rfl rfl rfl in_X6 0 (by decide) fk_X6_7 rfl dX6_survives_50 ?_
    refine w_iconst X (nI 0) dX6_survives_53 (by decide +kernel) ?_
    refine w_iald_n X 0 1 0 rfl rfl rfl (by omega) (by decide) dX6_survives_54 ?_
    refine w_iconst X (nI 1) dX6_survives_55 (by decide +kernel) ?_
    refine w_ic_ne X 63 dX6_survives_56 (by decide) (fun c56 => ?_) (fun c56 => ?_)
    · refine w_iconst X (nI 0) dX6_survives_63 (by decide +kernel) ?_
      refine w_istore_n X dX6_survives_64 (by decide) ?_
      refine w_all [1, 2, 0] (rfl) (rfl) rfl (w_loop (st := []) (pc := 65) X (V := Nat × (Nat → Nat → Int32)) (fun (v65 : Nat × (Nat → Nat → Int32)) => if v65.1 = 0 then 0 else 1 + cn (ddB v65.2) 24) (fun (v65 : Nat × (Nat → Nat → Int32)) => (v65.1 = 0 ∨ v65.1 = 1) ∧ (LQP σ μ v65.2) ∧ (WL σ a v65.2) ∧ (v65.1 = 0 → LV v65.2 (suC σ a)) ∧ (v65.1 = 1 → σ 11 0 = nI 1)) (fun (v65 : Nat × (Nat → Nat → Int32)) => [(0, .ref (ad 0)), (1, .int (a)), (2, .int (nI v65.1))]) (fun (v65 : Nat × (Nat → Nat → Int32)) => [moC g ad v65.2]) (fun v65 hv65 ih65 => ?_) (0, μ2) (by try dsimp only; exact ⟨Or.inl rfl, hA2, wl_0 ha (hA2.RI hR) (fun j h => hl j (by omega)), fun _ j h => by rw [hl j (by omega), l0_su (hA2.RI hR) ha (fun z => c56 (((hA2.RI hR).2.1.1).trans z)) h], fun z => absurd z (by decide)⟩))
      obtain ⟨b, μ3⟩ := v65
      obtain ⟨hb, hA3, hW3, hz, hs⟩ := hv65
      try dsimp only at hb hA3 hW3 hz hs ih65 ⊢
      refine w_iload_n X 2 rfl dX6_survives_65 ?_
      refine w_nf_eq X (by omega) 123 dX6_survives_66 (by decide) (fun c66 => ?_) (fun c66 => ?_)
      · exact w_vret_me X ⟨μ3, hA3, hz c66⟩ rfl (Nat.le_of_ble_eq_true rfl) (Nat.le_of_ble_eq_true rfl) dX6_survives_123
      · have hs1 : σ 11 0 = nI 1 := hs (by omega)
        refine w_iconst X (nI 0) dX6_survives_69 (by decide +kernel) ?_
        refine w_istore_n X dX6_survives_70 (by decide) ?_
        refine w_iconst X (nI 0) dX6_survives_71 (by decide +kernel) ?_
        refine w_istore_n X dX6_survives_72 (by decide) ?_
        refine w_all [2, 3, 1, 0] (rfl) (rfl) rfl (w_loop (st := []) (pc := 73) X (V := Nat × Nat × (Nat → Nat → Int32)) (fun (v73 : Nat × Nat × (Nat → Nat → Int32)) => 24 - v73.1) (fun (v73 : Nat × Nat × (Nat → Nat → Int32)) => (v73.1 ≤ 24) ∧ (LQP σ μ v73.2.2) ∧ (WL σ a v73.2.2) ∧ (v73.2.1 = 0 ∨ v73.2.1 = 1) ∧ (v73.2.1 = 0 → v73.2.2 = μ3 ∧ ∀ j, j < v73.1 → isInB σ (nI j) a = true → anyB (rmB μ3 j) 24 = true → μ3 14 j = nI 1) ∧ (v73.2.1 = 1 → cn (ddB v73.2.2) 24 < cn (ddB μ3) 24)) (fun (v73 : Nat × Nat × (Nat → Nat → Int32)) => [(0, .ref (ad 0)), (1, .int (a)), (2, .int (nI v73.2.1)), (3, .int (nI v73.1))]) (fun (v73 : Nat × Nat × (Nat → Nat → Int32)) => [moC g ad v73.2.2]) (fun v73 hv73 ih73 => ?_) (0, 0, μ3) (by try dsimp only; exact ⟨by omega, hA3, hW3, Or.inl rfl, fun _ => ⟨rfl, fun j h => by omega⟩, fun z => absurd z (by decide)⟩))
        obtain ⟨o, b2, μ4⟩ := v73
        obtain ⟨ho, hA4, hW4, hb2, h0, h1⟩ := hv73
        try dsimp only at ho hA4 hW4 hb2 h0 h1 ih73 ⊢
        refine w_iload_n X 3 rfl dX6_survives_73 ?_
        refine w_bipush X (nI 24) dX6_survives_74 (by decide +kernel) ?_
        refine w_nc_ge X (by omega) (by omega) 120 dX6_survives_76 (by decide) (fun c76 => ?_) (fun c76 => ?_)
        · refine w_goto X 65 dX6_survives_120 (by decide) ?_
          exact w_all [0, 1, 2] (rfl) (rfl) rfl (ih65 (b2, μ4) (by try dsimp only; rcases hb2 with z | z; (rw [if_pos z, if_neg c66]; omega); (have := h1 z; rw [if_neg (by omega), if_neg c66]; omega)) (by try dsimp only; exact ⟨hb2, hA4, hW4, fun z => by rw [(h0 z).1]; exact wl_fix (hA3.RI hR) ha hW3 (fun j hj => (h0 z).2 j (by omega)), fun _ => hs1⟩))
        · have hR4 : RI σ (μ4 0) := hA4.RI hR
          refine w_aload_n X 0 rfl dX6_survives_79 ?_
          refine w_iload_n X 3 rfl dX6_survives_80 ?_
          refine w_iload_n X 1 rfl dX6_survives_81 ?_
          refine w_roV X [0] 0 0 (m_X6_isIn l g ad μ4 σ o (a) (by omega) (hR4)) cv_X6_isIn mk_X6_64 rfl rfl rfl rfl rfl ⟨Nat.le_of_ble_eq_true rfl, Nat.le_of_ble_eq_true rfl⟩ (Nat.le_of_ble_eq_true rfl) ⟨Nat.le_of_ble_eq_true rfl, Nat.le_of_ble_eq_true rfl⟩ dX6_survives_82 rfl ?_
          refine w_bf_eq X 114 dX6_survives_85 (by decide) (fun c85 => ?_) (fun c85 => ?_)
          · refine w_iinc X (nI (o + 1)) 3 rfl (nI_1 _) dX6_survives_114 (by decide) ?_
            refine w_goto X 73 dX6_survives_117 (by decide) ?_
            exact w_all [1, 2, 3, 0] (rfl) (rfl) rfl (ih73 (o + 1, b2, μ4) (by omega) (by try dsimp only; exact ⟨by omega, hA4, hW4, hb2, fun z => ⟨(h0 z).1, lt_ext (h0 z).2 (fun e => by rw [c85] at e; cases e)⟩, h1⟩))
          · refine w_aload_n X 0 rfl dX6_survives_88 ?_
            refine w_get X 0 0 rfl rfl rfl in_X6 14 (by decide) fk_X6_28 rfl dX6_survives_89 ?_
            refine w_iload_n X 3 rfl dX6_survives_92 ?_
            refine w_zald_n X 0 7 1 rfl rfl rfl (by omega) (by decide) dX6_survives_93 ?_
            refine w_if_ne X 114 dX6_survives_94 (by decide) (fun c94 => ?_) (fun c94 => ?_)
            · refine w_iinc X (nI (o + 1)) 3 rfl (nI_1 _) dX6_survives_114 (by decide) ?_
              refine w_goto X 73 dX6_survives_117 (by decide) ?_
              exact w_all [1, 2, 3, 0] (rfl) (rfl) rfl (ih73 (o + 1, b2, μ4) (by omega) (by try dsimp only; exact ⟨by omega, hA4, hW4, hb2, fun z => ⟨(h0 z).1, lt_ext (h0 z).2 (fun _ _ => by rw [← (h0 z).1]; exact (hW4.1 o (by omega)).elim (fun e => absurd e c94) id)⟩, h1⟩))
            · refine w_aload_n X 0 rfl dX6_survives_97 ?_
              refine w_iload_n X 3 rfl dX6_survives_98 ?_
              refine w_roV X [0] 0 0 (m_X6_isRemembered l g ad μ4 o (by omega)) cv_X6_isRemembered mk_X6_68 rfl rfl rfl rfl rfl ⟨Nat.le_of_ble_eq_true rfl, Nat.le_of_ble_eq_true rfl⟩ (Nat.le_of_ble_eq_true rfl) ⟨Nat.le_of_ble_eq_true rfl, Nat.le_of_ble_eq_true rfl⟩ dX6_survives_99 rfl ?_
              refine w_bf_eq X 114 dX6_survives_102 (by decide) (fun c102 => ?_) (fun c102 => ?_)
              · refine w_iinc X (nI (o + 1)) 3 rfl (nI_1 _) dX6_survives_114 (by decide) ?_
                refine w_goto X 73 dX6_survives_117 (by decide) ?_
                exact w_all [1, 2, 3, 0] (rfl) (rfl) rfl (ih73 (o + 1, b2, μ4) (by omega) (by try dsimp only; exact ⟨by omega, hA4, hW4, hb2, fun z => ⟨(h0 z).1, lt_ext (h0 z).2 (fun _ e => by rw [← (h0 z).1, c102] at e; cases e)⟩, h1⟩))
              · refine w_aload_n X 0 rfl dX6_survives_105 ?_
                refine w_get X 0 0 rfl rfl rfl in_X6 14 (by decide) fk_X6_28 rfl dX6_survives_106 ?_
                refine w_iload_n X 3 rfl dX6_survives_109 ?_
                refine w_iconst X (nI 1) dX6_survives_110 (by decide +kernel) ?_
                refine w_zast_n X 0 7 1 rfl rfl rfl (by omega) (by decide) (show _ = moC g ad (rw2 μ4 14 (upd (μ4 14) o (nI (1)))) from rfl) dX6_survives_111 ?_
                refine w_iconst X (nI 1) dX6_survives_112 (by decide +kernel) ?_
                refine w_istore_n X dX6_survives_113 (by decide) ?_
                refine w_iinc X (nI (o + 1)) 3 rfl (nI_1 _) dX6_survives_114 (by decide) ?_
                refine w_goto X 73 dX6_survives_117 (by decide) ?_
                exact w_all [2, 3, 1, 0] (rfl) (rfl) rfl (ih73 (o + 1, 1, rw2 μ4 14 (upd (μ4 14) o (nI (1)))) (by omega) (by try dsimp only; exact ⟨by omega, hA4.up _, wl_add hR4 ha hW4 hs1 (by omega) c85 c102, Or.inr rfl, fun z => absurd z (by decide), fun _ => Nat.lt_of_lt_of_le (dd_lt (by omega) c94) (by rcases hb2 with z | z; exact Nat.le_of_eq (by rw [(h0 z).1]); exact Nat.le_of_lt (h1 z))⟩))
    · refine w_iconst X (nI 1) dX6_survives_59 (by decide +kernel) ?_
      refine w_goto X 64 dX6_survives_60 (by decide) ?_
      refine w_istore_n X dX6_survives_64 (by decide) ?_
      refine w_all [1, 2, 0] (rfl) (rfl) rfl (w_loop (st := []) (pc := 65) X (V := Nat × (Nat → Nat → Int32)) (fun (v65 : Nat × (Nat → Nat → Int32)) => if v65.1 = 0 then 0 else 1 + cn (ddB v65.2) 24) (fun (v65 : Nat × (Nat → Nat → Int32)) => (v65.1 = 0 ∨ v65.1 = 1) ∧ (LQP σ μ v65.2) ∧ (WL σ a v65.2) ∧ (v65.1 = 0 → LV v65.2 (suC σ a)) ∧ (v65.1 = 1 → σ 11 0 = nI 1)) (fun (v65 : Nat × (Nat → Nat → Int32)) => [(0, .ref (ad 0)), (1, .int (a)), (2, .int (nI v65.1))]) (fun (v65 : Nat × (Nat → Nat → Int32)) => [moC g ad v65.2]) (fun v65 hv65 ih65 => ?_) (1, μ2) (by try dsimp only; exact ⟨Or.inr rfl, hA2, wl_0 ha (hA2.RI hR) (fun j h => hl j (by omega)), fun z => absurd z (by decide), fun _ => ((hA2.RI hR).2.1.1).symm.trans c56⟩))
      obtain ⟨b, μ3⟩ := v65
      obtain ⟨hb, hA3, hW3, hz, hs⟩ := hv65
      try dsimp only at hb hA3 hW3 hz hs ih65 ⊢
      refine w_iload_n X 2 rfl dX6_survives_65 ?_
      refine w_nf_eq X (by omega) 123 dX6_survives_66 (by decide) (fun c66 => ?_) (fun c66 => ?_)
      · exact w_vret_me X ⟨μ3, hA3, hz c66⟩ rfl (Nat.le_of_ble_eq_true rfl) (Nat.le_of_ble_eq_true rfl) dX6_survives_123
      · have hs1 : σ 11 0 = nI 1 := hs (by omega)
        refine w_iconst X (nI 0) dX6_survives_69 (by decide +kernel) ?_
        refine w_istore_n X dX6_survives_70 (by decide) ?_
        refine w_iconst X (nI 0) dX6_survives_71 (by decide +kernel) ?_
        refine w_istore_n X dX6_survives_72 (by decide) ?_
        refine w_all [2, 3, 1, 0] (rfl) (rfl) rfl (w_loop (st := []) (pc := 73) X (V := Nat × Nat × (Nat → Nat → Int32)) (fun (v73 : Nat × Nat × (Nat → Nat → Int32)) => 24 - v73.1) (fun (v73 : Nat × Nat × (Nat → Nat → Int32)) => (v73.1 ≤ 24) ∧ (LQP σ μ v73.2.2) ∧ (WL σ a v73.2.2) ∧ (v73.2.1 = 0 ∨ v73.2.1 = 1) ∧ (v73.2.1 = 0 → v73.2.2 = μ3 ∧ ∀ j, j < v73.1 → isInB σ (nI j) a = true → anyB (rmB μ3 j) 24 = true → μ3 14 j = nI 1) ∧ (v73.2.1 = 1 → cn (ddB v73.2.2) 24 < cn (ddB μ3) 24)) (fun (v73 : Nat × Nat × (Nat → Nat → Int32)) => [(0, .ref (ad 0)), (1, .int (a)), (2, .int (nI v73.2.1)), (3, .int (nI v73.1))]) (fun (v73 : Nat × Nat × (Nat → Nat → Int32)) => [moC g ad v73.2.2]) (fun v73 hv73 ih73 => ?_) (0, 0, μ3) (by try dsimp only; exact ⟨by omega, hA3, hW3, Or.inl rfl, fun _ => ⟨rfl, fun j h => by omega⟩, fun z => absurd z (by decide)⟩))
        obtain ⟨o, b2, μ4⟩ := v73
        obtain ⟨ho, hA4, hW4, hb2, h0, h1⟩ := hv73
        try dsimp only at ho hA4 hW4 hb2 h0 h1 ih73 ⊢
        refine w_iload_n X 3 rfl dX6_survives_73 ?_
        refine w_bipush X (nI 24) dX6_survives_74 (by decide +kernel) ?_
        refine w_nc_ge X (by omega) (by omega) 120 dX6_survives_76 (by decide) (fun c76 => ?_) (fun c76 => ?_)
        · refine w_goto X 65 dX6_survives_120 (by decide) ?_
          exact w_all [0, 1, 2] (rfl) (rfl) rfl (ih65 (b2, μ4) (by try dsimp only; rcases hb2 with z | z; (rw [if_pos z, if_neg c66]; omega); (have := h1 z; rw [if_neg (by omega), if_neg c66]; omega)) (by try dsimp only; exact ⟨hb2, hA4, hW4, fun z => by rw [(h0 z).1]; exact wl_fix (hA3.RI hR) ha hW3 (fun j hj => (h0 z).2 j (by omega)), fun _ => hs1⟩))
        · have hR4 : RI σ (μ4 0) := hA4.RI hR
          refine w_aload_n X 0 rfl dX6_survives_79 ?_
          refine w_iload_n X 3 rfl dX6_survives_80 ?_
          refine w_iload_n X 1 rfl dX6_survives_81 ?_
          refine w_roV X [0] 0 0 (m_X6_isIn l g ad μ4 σ o (a) (by omega) (hR4)) cv_X6_isIn mk_X6_64 rfl rfl rfl rfl rfl ⟨Nat.le_of_ble_eq_true rfl, Nat.le_of_ble_eq_true rfl⟩ (Nat.le_of_ble_eq_true rfl) ⟨Nat.le_of_ble_eq_true rfl, Nat.le_of_ble_eq_true rfl⟩ dX6_survives_82 rfl ?_
          refine w_bf_eq X 114 dX6_survives_85 (by decide) (fun c85 => ?_) (fun c85 => ?_)
          · refine w_iinc X (nI (o + 1)) 3 rfl (nI_1 _) dX6_survives_114 (by decide) ?_
            refine w_goto X 73 dX6_survives_117 (by decide) ?_
            exact w_all [1, 2, 3, 0] (rfl) (rfl) rfl (ih73 (o + 1, b2, μ4) (by omega) (by try dsimp only; exact ⟨by omega, hA4, hW4, hb2, fun z => ⟨(h0 z).1, lt_ext (h0 z).2 (fun e => by rw [c85] at e; cases e)⟩, h1⟩))
          · refine w_aload_n X 0 rfl dX6_survives_88 ?_
            refine w_get X 0 0 rfl rfl rfl in_X6 14 (by decide) fk_X6_28 rfl dX6_survives_89 ?_
            refine w_iload_n X 3 rfl dX6_survives_92 ?_
            refine w_zald_n X 0 7 1 rfl rfl rfl (by omega) (by decide) dX6_survives_93 ?_
            refine w_if_ne X 114 dX6_survives_94 (by decide) (fun c94 => ?_) (fun c94 => ?_)
            · refine w_iinc X (nI (o + 1)) 3 rfl (nI_1 _) dX6_survives_114 (by decide) ?_
              refine w_goto X 73 dX6_survives_117 (by decide) ?_
              exact w_all [1, 2, 3, 0] (rfl) (rfl) rfl (ih73 (o + 1, b2, μ4) (by omega) (by try dsimp only; exact ⟨by omega, hA4, hW4, hb2, fun z => ⟨(h0 z).1, lt_ext (h0 z).2 (fun _ _ => by rw [← (h0 z).1]; exact (hW4.1 o (by omega)).elim (fun e => absurd e c94) id)⟩, h1⟩))
            · refine w_aload_n X 0 rfl dX6_survives_97 ?_
              refine w_iload_n X 3 rfl dX6_survives_98 ?_
              refine w_roV X [0] 0 0 (m_X6_isRemembered l g ad μ4 o (by omega)) cv_X6_isRemembered mk_X6_68 rfl rfl rfl rfl rfl ⟨Nat.le_of_ble_eq_true rfl, Nat.le_of_ble_eq_true rfl⟩ (Nat.le_of_ble_eq_true rfl) ⟨Nat.le_of_ble_eq_true rfl, Nat.le_of_ble_eq_true rfl⟩ dX6_survives_99 rfl ?_
              refine w_bf_eq X 114 dX6_survives_102 (by decide) (fun c102 => ?_) (fun c102 => ?_)
              · refine w_iinc X (nI (o + 1)) 3 rfl (nI_1 _) dX6_survives_114 (by decide) ?_
                refine w_goto X 73 dX6_survives_117 (by decide) ?_
                exact w_all [1, 2, 3, 0] (rfl) (rfl) rfl (ih73 (o + 1, b2, μ4) (by omega) (by try dsimp only; exact ⟨by omega, hA4, hW4, hb2, fun z => ⟨(h0 z).1, lt_ext (h0 z).2 (fun _ e => by rw [← (h0 z).1, c102] at e; cases e)⟩, h1⟩))
              · refine w_aload_n X 0 rfl dX6_survives_105 ?_
                refine w_get X 0 0 rfl rfl rfl in_X6 14 (by decide) fk_X6_28 rfl dX6_survives_106 ?_
                refine w_iload_n X 3 rfl dX6_survives_109 ?_
                refine w_iconst X (nI 1) dX6_survives_110 (by decide +kernel) ?_
                refine w_zast_n X 0 7 1 rfl rfl rfl (by omega) (by decide) (show _ = moC g ad (rw2 μ4 14 (upd (μ4 14) o (nI (1)))) from rfl) dX6_survives_111 ?_
                refine w_iconst X (nI 1) dX6_survives_112 (by decide +kernel) ?_
                refine w_istore_n X dX6_survives_113 (by decide) ?_
                refine w_iinc X (nI (o + 1)) 3 rfl (nI_1 _) dX6_survives_114 (by decide) ?_
                refine w_goto X 73 dX6_survives_117 (by decide) ?_
                exact w_all [2, 3, 1, 0] (rfl) (rfl) rfl (ih73 (o + 1, 1, rw2 μ4 14 (upd (μ4 14) o (nI (1)))) (by omega) (by try dsimp only; exact ⟨by omega, hA4.up _, wl_add hR4 ha hW4 hs1 (by omega) c85 c102, Or.inr rfl, fun z => absurd z (by decide), fun _ => Nat.lt_of_lt_of_le (dd_lt (by omega) c94) (by rcases hb2 with z | z; exact Nat.le_of_eq (by rw [(h0 z).1]); exact Nat.le_of_lt (h1 z))⟩))
  · have hR2 : RI σ (μ2 0) := hA2.RI hR
    obtain ⟨q, hq⟩ := hA2.2
    refine w_aload_n X 0 rfl dX6_survives_13 ?_
    refine w_get X 0 0 rfl rfl rfl in_X6 14 (by decide) fk_X6_28 rfl dX6_survives_14 ?_
    refine w_iload_n X 2 rfl dX6_survives_17 ?_
    refine w_aload_n X 0 rfl dX6_survives_18 ?_
    refine w_iload_n X 2 rfl dX6_survives_19 ?_
    refine w_iload_n X 1 rfl dX6_survives_20 ?_
    refine w_roV X [0] 0 0 (m_X6_isIn l g ad μ2 σ i (a) (by omega) (hR2)) cv_X6_isIn mk_X6_64 rfl rfl rfl rfl rfl ⟨Nat.le_of_ble_eq_true rfl, Nat.le_of_ble_eq_true rfl⟩ (Nat.le_of_ble_eq_true rfl) ⟨Nat.le_of_ble_eq_true rfl, Nat.le_of_ble_eq_true rfl⟩ dX6_survives_21 rfl ?_
    refine w_bf_eq X 41 dX6_survives_24 (by decide) (fun c24 => ?_) (fun c24 => ?_)
    · refine w_iconst X (nI 0) dX6_survives_41 (by decide +kernel) ?_
      refine w_zast_n X 0 7 1 rfl rfl rfl (by omega) (by decide) (show _ = moC g ad (rw2 μ2 14 (upd (μ2 14) i (nI (0)))) from rfl) dX6_survives_42 ?_
      refine w_iinc X (nI (i + 1)) 2 rfl (nI_1 _) dX6_survives_43 (by decide) ?_
      refine w_goto X 7 dX6_survives_46 (by decide) ?_
      exact w_all [1, 2, 0] (rfl) (rfl) rfl (ih7 (i + 1, rw2 μ2 14 (upd (μ2 14) i (nI (0)))) (by omega) (by try dsimp only; exact ⟨by omega, hA2.up _, lt_ext (fun j hj => by rw [rw2_s, upd_e, if_neg (by omega)]; exact hl j hj) (by rw [rw2_s, upd_e, if_pos rfl, l0]; rw [c24, if_pos rfl]; rfl)⟩))
    · refine w_aload_n X 0 rfl dX6_survives_27 ?_
      refine w_get X 0 0 rfl rfl rfl in_X6 11 (by decide) fk_X6_22 rfl dX6_survives_28 ?_
      refine w_iload_n X 2 rfl dX6_survives_31 ?_
      refine w_iald_n X 0 5 0 rfl rfl rfl (by omega) (by decide) dX6_survives_32 ?_
      refine w_iconst X (-1) dX6_survives_33 (by decide +kernel) ?_
      refine w_ic_eq X 41 dX6_survives_34 (by decide) (fun c34 => ?_) (fun c34 => ?_)
      · refine w_iconst X (nI 0) dX6_survives_41 (by decide +kernel) ?_
        refine w_zast_n X 0 7 1 rfl rfl rfl (by omega) (by decide) (show _ = moC g ad (rw2 μ2 14 (upd (μ2 14) i (nI (0)))) from rfl) dX6_survives_42 ?_
        refine w_iinc X (nI (i + 1)) 2 rfl (nI_1 _) dX6_survives_43 (by decide) ?_
        refine w_goto X 7 dX6_survives_46 (by decide) ?_
        exact w_all [1, 2, 0] (rfl) (rfl) rfl (ih7 (i + 1, rw2 μ2 14 (upd (μ2 14) i (nI (0)))) (by omega) (by try dsimp only; exact ⟨by omega, hA2.up _, lt_ext (fun j hj => by rw [rw2_s, upd_e, if_neg (by omega)]; exact hl j hj) (by rw [rw2_s, upd_e, if_pos rfl, l0]; rw [c24, if_neg (by decide), pl_f.mpr ((hq.un (by omega)).mp c34)]; rfl)⟩))
      · refine w_iconst X (nI 1) dX6_survives_37 (by decide +kernel) ?_
        refine w_goto X 42 dX6_survives_38 (by decide) ?_
        refine w_zast_n X 0 7 1 rfl rfl rfl (by omega) (by decide) (show _ = moC g ad (rw2 μ2 14 (upd (μ2 14) i (nI (1)))) from rfl) dX6_survives_42 ?_
        refine w_iinc X (nI (i + 1)) 2 rfl (nI_1 _) dX6_survives_43 (by decide) ?_
        refine w_goto X 7 dX6_survives_46 (by decide) ?_
        exact w_all [1, 2, 0] (rfl) (rfl) rfl (ih7 (i + 1, rw2 μ2 14 (upd (μ2 14) i (nI (1)))) (by omega) (by try dsimp only; exact ⟨by omega, hA2.up _, lt_ext (fun j hj => by rw [rw2_s, upd_e, if_neg (by omega)]; exact hl j hj) (by rw [rw2_s, upd_e, if_pos rfl, l0]; rw [c24, if_neg (by decide), pl_t.mpr (fun z => c34 ((hq.un (by omega)).mpr z))]; rfl)⟩))
