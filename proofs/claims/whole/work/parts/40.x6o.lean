/-! The model: what changes -/
def opnO (σ : Nat → Nat → Int32) : OC := if lfA σ = -1 then .inr iSE else rI (lfA σ)
def makO (σ : Nat → Nat → Int32) (x z : Int32) : OC := if isArB x = false then .inr iOE else if digB z (nI 1) (nI 16) = false then .inr iAE else if mmB σ x.toNatClampNeg z = false then .inr iSE else rI (nI (frN σ))
def linO (σ : Nat → Nat → Int32) (x f t : Int32) : OC := if hasB σ x = false then .inr iOE else if digB f (nI 0) (nI 1) = false then .inr iOE else if t = -1 then rI (refI σ x f) else if hasB σ t = false then .inr iOE else rI (refI σ x f)
def rooO (σ : Nat → Nat → Int32) (x : Int32) : OC := if hasB σ x = false then .inr iOE else rI (bI (nz (σ 5 x.toNatClampNeg)))
def pinO (σ : Nat → Nat → Int32) (x : Int32) (b : Bool) : OC := if hasB σ x = false then .inr iOE else rI (pinC (pnS σ x.toNatClampNeg (bI b)) (σ 1 x.toNatClampNeg))
def sttO (σ : Nat → Nat → Int32) (x v : Int32) : OC := if digB x (nI 0) (nI 1) = false then .inr iOE else if digB v (nI 0) (nI (1 + x.toNatClampNeg)) = false then .inr iAE else rI (σ 11 x.toNatClampNeg)
def HQ (μ μ' : Nat → Nat → Int32) (v : Nat) : Prop := μ' 2 0 = nI (svN v) ∧ (∀ k i, k + 1 < svN v → i < 240 → μ' 1 (240 * k + i) = μ 1 (240 * (if v = 6 then k + 1 else k) + i)) ∧ ∀ i, i < 240 → μ' 1 (240 * (svN v - 1) + i) = μ 0 i
theorem SQ.hq {μ μ' : Nat → Nat → Int32} {v : Nat} {f : Nat → Int32} (h : SQ (rw2 μ 5 f) μ' v) : HQ μ μ' v := ⟨h.2.1, h.2.2.1, h.2.2.2⟩
theorem HRel.saveQ {σ η μ μ' : Nat → Nat → Int32} {hσ : Nat → Nat → Nat → Int32} {nx sv : Nat} (h : HRel η hσ μ nx sv) (hR : RI σ (μ 0)) (hs : HQ μ μ' sv) : HRel (hiS η (nxN nx) (svN sv)) (rw2 hσ nx σ) μ' (nxN nx) (svN sv) := by
  have := HRel.save (μ' := rw2 (rw2 μ 1 (μ' 1)) 2 (μ' 2)) h hR ⟨fun j j1 j2 => by rw [rw2_n _ _ j2, rw2_n _ _ j1], by rw [rw2_s]; exact hs.1, fun k i a b => by rw [rw2_n _ _ (by decide), rw2_s]; exact hs.2.1 k i a b, fun i a => by rw [rw2_n _ _ (by decide), rw2_s]; exact hs.2.2 i a⟩
  obtain ⟨a, b, c, d, e, f⟩ := this
  exact ⟨a, b, c, d, by rw [rw2_s] at e; exact e, fun k hk => f k hk⟩
/-- what a change does to the model: saved and done, or refused -/
def MC (σ1 : Nat → Nat → Int32) (o : OC) (L : List String) (v : Nat) (μ μ' : Nat → Nat → Int32) : Prop := μ' 3 = μ 3 ∧ μ' 4 = μ 4 ∧ μ' 5 0 = nI (cO L o) ∧ match o with
  | .inl _ => RI σ1 (μ' 0) ∧ HQ μ μ' v
  | .inr _ => ∀ j, j < 5 → μ' j = μ j
theorem mc_r {σ1 μ μ' : Nat → Nat → Int32} {E : String} {L : List String} {v : Nat} (h : lk μ μ' (cO L (.inr E))) : MC σ1 (.inr E) L v μ μ' := ⟨h.1 3 (by decide), h.1 4 (by decide), h.2, h.1⟩
theorem mc_l {σ1 μ μ1 μ' : Nat → Nat → Int32} {rv : Option Value} {L : List String} {v : Nat} (h : SQ (rw2 μ 5 (fun _ => nI 0)) μ1 v) (h0 : ∀ j, j ≠ 0 → μ' j = μ1 j) (h1 : RI σ1 (μ' 0)) : MC σ1 (.inl rv) L v μ μ' := by
  refine ⟨?_, ?_, ?_, h1, ?_⟩
  · rw [h0 3 (by decide), h.1 3 (by decide) (by decide), rw2_n _ _ (by decide)]
  · rw [h0 4 (by decide), h.1 4 (by decide) (by decide), rw2_n _ _ (by decide)]
  · rw [h0 5 (by decide), h.1 5 (by decide) (by decide), rw2_s]; rfl
  · have q := h.hq
    refine ⟨by rw [h0 2 (by decide)]; exact q.1, ?_⟩
    rw [h0 1 (by decide)]
    exact q.2
theorem sq_R {σ μ μ1 : Nat → Nat → Int32} {v : Nat} {f : Nat → Int32} (h : SQ (rw2 μ 5 f) μ1 v) (hR : RI σ (μ 0)) : RI σ (μ1 0) := by
  rw [h.1 0 (by decide) (by decide)]
  exact hR
theorem dig_1 {x : Int32} (h : digB x (nI 1) (nI 16) = true) : ∃ q, 1 ≤ q ∧ q ≤ 16 ∧ x = nI q := by
  rw [digB] at h
  split at h
  · cases h
  · rename_i c1
    split at h
    · cases h
    · rename_i c2
      have e1 : (nI 1).toInt = 1 := nI_toInt (by decide)
      have e2 : (nI 16).toInt = 16 := nI_toInt (by decide)
      rw [Int32.lt_iff_toInt_lt, e1] at c1
      rw [Int32.lt_iff_toInt_lt, e2] at c2
      exact ⟨x.toInt.toNat, by omega, by omega, Int32.toInt_inj.mp (by rw [nI_toInt (by omega)]; omega)⟩
theorem mm_t {σ : Nat → Nat → Int32} {N : Nat → Int32} (hR : RI σ N) {a : Nat} (ha : a < 6) {z : Int32} (h : mmB σ a z = true) : σ 8 a = nI 1 ∧ roomB σ (nI a) z = true ∧ frN σ < 24 ∧ σ 0 (frN σ) = nI 0 := by
  rw [mmB] at h
  rcases c1 : isOpB σ (nI a) with _ | _
  · rw [c1, if_pos rfl] at h; cases h
  · rw [c1, if_neg (by decide)] at h
    rcases c2 : roomB σ (nI a) z with _ | _
    · rw [c2, if_pos rfl] at h; cases h
    · rw [c2, if_neg (by decide)] at h
      split at h
      · cases h
      · rename_i c3
        have hl := fr_le σ
        refine ⟨?_, rfl, by omega, ?_⟩
        · rw [isOp_nI σ ha] at c1
          rcases (hR.1.2.1 a ha).1 with e | e
          · rw [e, if_pos rfl] at c1; cases c1
          · exact e
        · have hp : (!nz (σ 0 (frN σ))) = true := ffst_spec (p := fun o => !nz (σ 0 o)) 24 0 (show frN σ < 0 + 24 by omega)
          rcases hR.flag (show frN σ < 24 by omega) with e | e
          · exact e
          · rw [e] at hp; cases hp
set_option maxRecDepth 100000 in
set_option maxHeartbeats 4000000 in
theorem m_X6_changes (l : Launch) (g : GG) (ad : Nat → Nat) (μ : Nat → Nat → Int32) (o : Nat) (w : Nat) (v : Int32) (ho : o < 24) (hw : w < 9) : MMU l g yX6_changes cX6_changes 5 (some .int) 1 0 0 [.ref (ad 0), .int (nI o), .int (nI w), .int (v)] [moC g ad μ] (some (.int (μ 0 (24 + 9 * o + w)))) [moC g ad (rw2 μ 0 (upd (μ 0) (24 + 9 * o + w) v))] := by
  refine mk_mu (by decide +kernel) (Nat.le_of_ble_eq_true rfl) (fun p e s m below meth c A hA X => ?_)
  refine w_aload_n X 0 rfl dX6_changes_0 ?_
  refine w_iload_n X 1 rfl dX6_changes_1 ?_
  refine w_iload_n X 2 rfl dX6_changes_2 ?_
  refine w_roV X [0] 0 0 (m_X6_of l g ad μ o w (by omega) (by omega)) cv_X6_of mk_X6_43 rfl rfl rfl rfl rfl ⟨Nat.le_of_ble_eq_true rfl, Nat.le_of_ble_eq_true rfl⟩ (Nat.le_of_ble_eq_true rfl) ⟨Nat.le_of_ble_eq_true rfl, Nat.le_of_ble_eq_true rfl⟩ dX6_changes_3 rfl ?_
  refine w_istore X dX6_changes_6 (by decide) ?_
  refine w_aload_n X 1 rfl dX6_changes_8 ?_
  refine w_get X 0 0 rfl rfl rfl in_X6 0 (by decide) fk_X6_7 rfl dX6_changes_9 ?_
  refine w_bipush X (nI 24) dX6_changes_12 (by decide +kernel) ?_
  refine w_bipush X (nI 9) dX6_changes_14 (by decide +kernel) ?_
  refine w_iload_n X 2 rfl dX6_changes_16 ?_
  refine w_imul_n X dX6_changes_17 ?_
  refine w_iadd_n X dX6_changes_18 ?_
  refine w_iload_n X 3 rfl dX6_changes_19 ?_
  refine w_iadd_n X dX6_changes_20 ?_
  refine w_iload_n X 4 rfl dX6_changes_21 ?_
  refine w_iast_n X 0 1 0 rfl rfl rfl (by omega) (by decide) (show _ = moC g ad (rw2 μ 0 (upd (μ 0) ((24 + (9 * o)) + w) ((v)))) from rfl) dX6_changes_22 ?_
  refine w_iload X 0 rfl dX6_changes_23 ?_
  exact w_iret_mu X (by first | rfl | (subst he_i; rfl) | simp (decide := true) [bI]) (rfl) (Nat.le_of_ble_eq_true rfl) (Nat.le_of_ble_eq_true rfl) dX6_changes_25
set_option maxRecDepth 100000 in
set_option maxHeartbeats 4000000 in
theorem m_X6_makes (l : Launch) (g : GG) (ad : Nat → Nat) (μ : Nat → Nat → Int32) (σ : Nat → Nat → Int32) (a : Nat) (z : Nat) (hR : RI σ (μ 0)) (ha : a < 6) (hz1 : 1 ≤ z) (hz : z ≤ 16) (hfr : frN σ < 24) (h0 : σ 0 (frN σ) = nI 0) (h8 : σ 8 a = nI 1) (hrm : roomB σ (nI a) (nI z) = true) : MME (U := {μ' : Nat → Nat → Int32 // (∀ j, j ≠ 0 → μ' j = μ j) ∧ RI (addS σ (frN σ) a (nI z)) (μ' 0)}) l g yX6_makes cX6_makes 5 (some .int) 3 0 0 [.ref (ad 0), .int (nI a), .int (nI z)] [moC g ad μ] (some (.int (nI (frN σ)))) (fun u => [moC g ad u.1]) := by
  refine mk_me (by decide +kernel) (Nat.le_of_ble_eq_true rfl) (fun p e s m below meth c A hA X => ?_)
  refine w_aload_n X 0 rfl dX6_makes_0 ?_
  refine w_roV X [0] 0 0 (m_X6_freeNumber l g ad μ σ (hR)) cv_X6_freeNumber mk_X6_100 rfl rfl rfl rfl rfl ⟨Nat.le_of_ble_eq_true rfl, Nat.le_of_ble_eq_true rfl⟩ (Nat.le_of_ble_eq_true rfl) ⟨Nat.le_of_ble_eq_true rfl, Nat.le_of_ble_eq_true rfl⟩ dX6_makes_1 rfl ?_
  refine w_istore_n X dX6_makes_4 (by decide) ?_
  refine w_bipush X (nI 24) dX6_makes_5 (by decide +kernel) ?_
  refine w_bipush X (nI 9) dX6_makes_7 (by decide +kernel) ?_
  refine w_iload_n X 0 rfl dX6_makes_9 ?_
  refine w_imul_n X dX6_makes_10 ?_
  refine w_iadd_n X dX6_makes_11 ?_
  refine w_istore X dX6_makes_12 (by decide) ?_
  refine w_aload_n X 2 rfl dX6_makes_14 ?_
  refine w_get X 0 0 rfl rfl rfl in_X6 0 (by decide) fk_X6_7 rfl dX6_makes_15 ?_
  refine w_iload X 0 rfl dX6_makes_18 ?_
  refine w_iconst X (nI 1) dX6_makes_20 (by decide +kernel) ?_
  refine w_iast_n X 0 1 0 rfl rfl rfl (by omega) (by decide) (show _ = moC g ad (rw2 μ 0 (upd (μ 0) (24 + (9 * (frN σ))) (nI (1)))) from rfl) dX6_makes_21 ?_
  refine w_aload_n X 2 rfl dX6_makes_22 ?_
  refine w_get X 0 0 rfl rfl rfl in_X6 0 (by decide) fk_X6_7 rfl dX6_makes_23 ?_
  refine w_iload X 0 rfl dX6_makes_26 ?_
  refine w_iconst X (nI 1) dX6_makes_28 (by decide +kernel) ?_
  refine w_iadd_n X dX6_makes_29 ?_
  refine w_iload_n X 3 rfl dX6_makes_30 ?_
  refine w_iast_n X 0 1 0 rfl rfl rfl (by omega) (by decide) (show _ = moC g ad (rw2 μ 0 (upd ((upd (μ 0) (24 + (9 * (frN σ))) (nI (1)))) ((24 + (9 * (frN σ))) + 1) (nI (a)))) from rfl) dX6_makes_31 ?_
  refine w_aload_n X 2 rfl dX6_makes_32 ?_
  refine w_get X 0 0 rfl rfl rfl in_X6 0 (by decide) fk_X6_7 rfl dX6_makes_33 ?_
  refine w_iload X 0 rfl dX6_makes_36 ?_
  refine w_iconst X (nI 2) dX6_makes_38 (by decide +kernel) ?_
  refine w_iadd_n X dX6_makes_39 ?_
  refine w_aload_n X 2 rfl dX6_makes_40 ?_
  refine w_iload_n X 3 rfl dX6_makes_41 ?_
  refine w_roV X [0] 0 0 (m_X6_mark l g ad (rw2 μ 0 (upd ((upd (μ 0) (24 + (9 * (frN σ))) (nI (1)))) ((24 + (9 * (frN σ))) + 1) (nI (a)))) a (by omega)) cv_X6_mark mk_X6_94 rfl rfl rfl rfl rfl ⟨Nat.le_of_ble_eq_true rfl, Nat.le_of_ble_eq_true rfl⟩ (Nat.le_of_ble_eq_true rfl) ⟨Nat.le_of_ble_eq_true rfl, Nat.le_of_ble_eq_true rfl⟩ dX6_makes_42 rfl ?_
  refine w_iast_n X 0 1 0 rfl rfl rfl (by omega) (by decide) (show _ = moC g ad (rw2 μ 0 (upd ((upd ((upd (μ 0) (24 + (9 * (frN σ))) (nI (1)))) ((24 + (9 * (frN σ))) + 1) (nI (a)))) ((24 + (9 * (frN σ))) + 2) (((rw2 μ 0 (upd ((upd (μ 0) (24 + (9 * (frN σ))) (nI (1)))) ((24 + (9 * (frN σ))) + 1) (nI (a)))) 0 (6 + 3 * a + 1))))) from rfl) dX6_makes_45 ?_
  refine w_aload_n X 2 rfl dX6_makes_46 ?_
  refine w_get X 0 0 rfl rfl rfl in_X6 0 (by decide) fk_X6_7 rfl dX6_makes_47 ?_
  refine w_iload X 0 rfl dX6_makes_50 ?_
  refine w_iconst X (nI 3) dX6_makes_52 (by decide +kernel) ?_
  refine w_iadd_n X dX6_makes_53 ?_
  refine w_iload_n X 4 rfl dX6_makes_54 ?_
  refine w_iast_n X 0 1 0 rfl rfl rfl (by omega) (by decide) (show _ = moC g ad (rw2 μ 0 (upd ((upd ((upd ((upd (μ 0) (24 + (9 * (frN σ))) (nI (1)))) ((24 + (9 * (frN σ))) + 1) (nI (a)))) ((24 + (9 * (frN σ))) + 2) (((rw2 μ 0 (upd ((upd (μ 0) (24 + (9 * (frN σ))) (nI (1)))) ((24 + (9 * (frN σ))) + 1) (nI (a)))) 0 (6 + 3 * a + 1))))) ((24 + (9 * (frN σ))) + 3) (nI (z)))) from rfl) dX6_makes_55 ?_
  refine w_aload_n X 2 rfl dX6_makes_56 ?_
  refine w_get X 0 0 rfl rfl rfl in_X6 0 (by decide) fk_X6_7 rfl dX6_makes_57 ?_
  refine w_iload X 0 rfl dX6_makes_60 ?_
  refine w_iconst X (nI 4) dX6_makes_62 (by decide +kernel) ?_
  refine w_iadd_n X dX6_makes_63 ?_
  refine w_iconst X (-1) dX6_makes_64 (by decide +kernel) ?_
  refine w_iast_n X 0 1 0 rfl rfl rfl (by omega) (by decide) (show _ = moC g ad (rw2 μ 0 (upd ((upd ((upd ((upd ((upd (μ 0) (24 + (9 * (frN σ))) (nI (1)))) ((24 + (9 * (frN σ))) + 1) (nI (a)))) ((24 + (9 * (frN σ))) + 2) (((rw2 μ 0 (upd ((upd (μ 0) (24 + (9 * (frN σ))) (nI (1)))) ((24 + (9 * (frN σ))) + 1) (nI (a)))) 0 (6 + 3 * a + 1))))) ((24 + (9 * (frN σ))) + 3) (nI (z)))) ((24 + (9 * (frN σ))) + 4) ((-1)))) from rfl) dX6_makes_65 ?_
  refine w_aload_n X 2 rfl dX6_makes_66 ?_
  refine w_get X 0 0 rfl rfl rfl in_X6 0 (by decide) fk_X6_7 rfl dX6_makes_67 ?_
  refine w_iload X 0 rfl dX6_makes_70 ?_
  refine w_iconst X (nI 4) dX6_makes_72 (by decide +kernel) ?_
  refine w_iadd_n X dX6_makes_73 ?_
  refine w_iconst X (nI 1) dX6_makes_74 (by decide +kernel) ?_
  refine w_iadd_n X dX6_makes_75 ?_
  refine w_iconst X (-1) dX6_makes_76 (by decide +kernel) ?_
  refine w_iast_n X 0 1 0 rfl rfl rfl (by omega) (by decide) (show _ = moC g ad (rw2 μ 0 (upd ((upd ((upd ((upd ((upd ((upd (μ 0) (24 + (9 * (frN σ))) (nI (1)))) ((24 + (9 * (frN σ))) + 1) (nI (a)))) ((24 + (9 * (frN σ))) + 2) (((rw2 μ 0 (upd ((upd (μ 0) (24 + (9 * (frN σ))) (nI (1)))) ((24 + (9 * (frN σ))) + 1) (nI (a)))) 0 (6 + 3 * a + 1))))) ((24 + (9 * (frN σ))) + 3) (nI (z)))) ((24 + (9 * (frN σ))) + 4) ((-1)))) (((24 + (9 * (frN σ))) + 4) + 1) ((-1)))) from rfl) dX6_makes_77 ?_
  refine w_aload_n X 2 rfl dX6_makes_78 ?_
  refine w_get X 0 0 rfl rfl rfl in_X6 0 (by decide) fk_X6_7 rfl dX6_makes_79 ?_
  refine w_iload X 0 rfl dX6_makes_82 ?_
  refine w_bipush X (nI 6) dX6_makes_84 (by decide +kernel) ?_
  refine w_iadd_n X dX6_makes_86 ?_
  refine w_iconst X (nI 0) dX6_makes_87 (by decide +kernel) ?_
  refine w_iast_n X 0 1 0 rfl rfl rfl (by omega) (by decide) (show _ = moC g ad (rw2 μ 0 (upd ((upd ((upd ((upd ((upd ((upd ((upd (μ 0) (24 + (9 * (frN σ))) (nI (1)))) ((24 + (9 * (frN σ))) + 1) (nI (a)))) ((24 + (9 * (frN σ))) + 2) (((rw2 μ 0 (upd ((upd (μ 0) (24 + (9 * (frN σ))) (nI (1)))) ((24 + (9 * (frN σ))) + 1) (nI (a)))) 0 (6 + 3 * a + 1))))) ((24 + (9 * (frN σ))) + 3) (nI (z)))) ((24 + (9 * (frN σ))) + 4) ((-1)))) (((24 + (9 * (frN σ))) + 4) + 1) ((-1)))) ((24 + (9 * (frN σ))) + 6) (nI (0)))) from rfl) dX6_makes_88 ?_
  refine w_aload_n X 2 rfl dX6_makes_89 ?_
  refine w_get X 0 0 rfl rfl rfl in_X6 0 (by decide) fk_X6_7 rfl dX6_makes_90 ?_
  refine w_iload X 0 rfl dX6_makes_93 ?_
  refine w_bipush X (nI 7) dX6_makes_95 (by decide +kernel) ?_
  refine w_iadd_n X dX6_makes_97 ?_
  refine w_iconst X (nI 0) dX6_makes_98 (by decide +kernel) ?_
  refine w_iast_n X 0 1 0 rfl rfl rfl (by omega) (by decide) (show _ = moC g ad (rw2 μ 0 (upd ((upd ((upd ((upd ((upd ((upd ((upd ((upd (μ 0) (24 + (9 * (frN σ))) (nI (1)))) ((24 + (9 * (frN σ))) + 1) (nI (a)))) ((24 + (9 * (frN σ))) + 2) (((rw2 μ 0 (upd ((upd (μ 0) (24 + (9 * (frN σ))) (nI (1)))) ((24 + (9 * (frN σ))) + 1) (nI (a)))) 0 (6 + 3 * a + 1))))) ((24 + (9 * (frN σ))) + 3) (nI (z)))) ((24 + (9 * (frN σ))) + 4) ((-1)))) (((24 + (9 * (frN σ))) + 4) + 1) ((-1)))) ((24 + (9 * (frN σ))) + 6) (nI (0)))) ((24 + (9 * (frN σ))) + 7) (nI (0)))) from rfl) dX6_makes_99 ?_
  refine w_aload_n X 2 rfl dX6_makes_100 ?_
  refine w_get X 0 0 rfl rfl rfl in_X6 0 (by decide) fk_X6_7 rfl dX6_makes_101 ?_
  refine w_iload X 0 rfl dX6_makes_104 ?_
  refine w_bipush X (nI 8) dX6_makes_106 (by decide +kernel) ?_
  refine w_iadd_n X dX6_makes_108 ?_
  refine w_iconst X (nI 0) dX6_makes_109 (by decide +kernel) ?_
  refine w_iast_n X 0 1 0 rfl rfl rfl (by omega) (by decide) (show _ = moC g ad (rw2 μ 0 (upd ((upd ((upd ((upd ((upd ((upd ((upd ((upd ((upd (μ 0) (24 + (9 * (frN σ))) (nI (1)))) ((24 + (9 * (frN σ))) + 1) (nI (a)))) ((24 + (9 * (frN σ))) + 2) (((rw2 μ 0 (upd ((upd (μ 0) (24 + (9 * (frN σ))) (nI (1)))) ((24 + (9 * (frN σ))) + 1) (nI (a)))) 0 (6 + 3 * a + 1))))) ((24 + (9 * (frN σ))) + 3) (nI (z)))) ((24 + (9 * (frN σ))) + 4) ((-1)))) (((24 + (9 * (frN σ))) + 4) + 1) ((-1)))) ((24 + (9 * (frN σ))) + 6) (nI (0)))) ((24 + (9 * (frN σ))) + 7) (nI (0)))) ((24 + (9 * (frN σ))) + 8) (nI (0)))) from rfl) dX6_makes_110 ?_
  refine w_aload_n X 2 rfl dX6_makes_111 ?_
  refine w_get X 0 0 rfl rfl rfl in_X6 0 (by decide) fk_X6_7 rfl dX6_makes_112 ?_
  refine w_bipush X (nI 6) dX6_makes_115 (by decide +kernel) ?_
  refine w_iconst X (nI 3) dX6_makes_117 (by decide +kernel) ?_
  refine w_iload_n X 3 rfl dX6_makes_118 ?_
  refine w_imul_n X dX6_makes_119 ?_
  refine w_iadd_n X dX6_makes_120 ?_
  refine w_iconst X (nI 1) dX6_makes_121 (by decide +kernel) ?_
  refine w_iadd_n X dX6_makes_122 ?_
  refine w_dup2 X dX6_makes_123 rfl rfl ?_
  refine w_iald_n X 0 1 0 rfl rfl rfl (by omega) (by decide) dX6_makes_124 ?_
  refine w_st (st2 := [.int ((upd ((upd ((upd ((upd ((upd ((upd ((upd ((upd ((upd (μ 0) (24 + (9 * (frN σ))) (nI (1)))) ((24 + (9 * (frN σ))) + 1) (nI (a)))) ((24 + (9 * (frN σ))) + 2) (((rw2 μ 0 (upd ((upd (μ 0) (24 + (9 * (frN σ))) (nI (1)))) ((24 + (9 * (frN σ))) + 1) (nI (a)))) 0 (6 + 3 * a + 1))))) ((24 + (9 * (frN σ))) + 3) (nI (z)))) ((24 + (9 * (frN σ))) + 4) ((-1)))) (((24 + (9 * (frN σ))) + 4) + 1) ((-1)))) ((24 + (9 * (frN σ))) + 6) (nI (0)))) ((24 + (9 * (frN σ))) + 7) (nI (0)))) ((24 + (9 * (frN σ))) + 8) (nI (0))) ((6 + (3 * a)) + 1)), .int (nI ((6 + (3 * a)) + 1)), .ref (ad 1)]) rfl ?_
  refine w_iload_n X 4 rfl dX6_makes_125 ?_
  refine w_iadd X dX6_makes_126 ?_
  refine w_iast_n X 0 1 0 rfl rfl rfl (by omega) (by decide) (show _ = moC g ad (rw2 μ 0 (upd ((upd ((upd ((upd ((upd ((upd ((upd ((upd ((upd ((upd (μ 0) (24 + (9 * (frN σ))) (nI (1)))) ((24 + (9 * (frN σ))) + 1) (nI (a)))) ((24 + (9 * (frN σ))) + 2) (((rw2 μ 0 (upd ((upd (μ 0) (24 + (9 * (frN σ))) (nI (1)))) ((24 + (9 * (frN σ))) + 1) (nI (a)))) 0 (6 + 3 * a + 1))))) ((24 + (9 * (frN σ))) + 3) (nI (z)))) ((24 + (9 * (frN σ))) + 4) ((-1)))) (((24 + (9 * (frN σ))) + 4) + 1) ((-1)))) ((24 + (9 * (frN σ))) + 6) (nI (0)))) ((24 + (9 * (frN σ))) + 7) (nI (0)))) ((24 + (9 * (frN σ))) + 8) (nI (0)))) ((6 + (3 * a)) + 1) ((((upd ((upd ((upd ((upd ((upd ((upd ((upd ((upd ((upd (μ 0) (24 + (9 * (frN σ))) (nI (1)))) ((24 + (9 * (frN σ))) + 1) (nI (a)))) ((24 + (9 * (frN σ))) + 2) (((rw2 μ 0 (upd ((upd (μ 0) (24 + (9 * (frN σ))) (nI (1)))) ((24 + (9 * (frN σ))) + 1) (nI (a)))) 0 (6 + 3 * a + 1))))) ((24 + (9 * (frN σ))) + 3) (nI (z)))) ((24 + (9 * (frN σ))) + 4) ((-1)))) (((24 + (9 * (frN σ))) + 4) + 1) ((-1)))) ((24 + (9 * (frN σ))) + 6) (nI (0)))) ((24 + (9 * (frN σ))) + 7) (nI (0)))) ((24 + (9 * (frN σ))) + 8) (nI (0))) ((6 + (3 * a)) + 1)) + nI (z))))) from rfl) dX6_makes_127 ?_
  refine w_aload_n X 2 rfl dX6_makes_128 ?_
  refine w_get X 0 0 rfl rfl rfl in_X6 0 (by decide) fk_X6_7 rfl dX6_makes_129 ?_
  refine w_iconst X (nI 2) dX6_makes_132 (by decide +kernel) ?_
  refine w_dup2 X dX6_makes_133 rfl rfl ?_
  refine w_iald_n X 0 1 0 rfl rfl rfl (by omega) (by decide) dX6_makes_134 ?_
  refine w_st (st2 := [.int ((upd ((upd ((upd ((upd ((upd ((upd ((upd ((upd ((upd ((upd (μ 0) (24 + (9 * (frN σ))) (nI (1)))) ((24 + (9 * (frN σ))) + 1) (nI (a)))) ((24 + (9 * (frN σ))) + 2) (((rw2 μ 0 (upd ((upd (μ 0) (24 + (9 * (frN σ))) (nI (1)))) ((24 + (9 * (frN σ))) + 1) (nI (a)))) 0 (6 + 3 * a + 1))))) ((24 + (9 * (frN σ))) + 3) (nI (z)))) ((24 + (9 * (frN σ))) + 4) ((-1)))) (((24 + (9 * (frN σ))) + 4) + 1) ((-1)))) ((24 + (9 * (frN σ))) + 6) (nI (0)))) ((24 + (9 * (frN σ))) + 7) (nI (0)))) ((24 + (9 * (frN σ))) + 8) (nI (0)))) ((6 + (3 * a)) + 1) ((((upd ((upd ((upd ((upd ((upd ((upd ((upd ((upd ((upd (μ 0) (24 + (9 * (frN σ))) (nI (1)))) ((24 + (9 * (frN σ))) + 1) (nI (a)))) ((24 + (9 * (frN σ))) + 2) (((rw2 μ 0 (upd ((upd (μ 0) (24 + (9 * (frN σ))) (nI (1)))) ((24 + (9 * (frN σ))) + 1) (nI (a)))) 0 (6 + 3 * a + 1))))) ((24 + (9 * (frN σ))) + 3) (nI (z)))) ((24 + (9 * (frN σ))) + 4) ((-1)))) (((24 + (9 * (frN σ))) + 4) + 1) ((-1)))) ((24 + (9 * (frN σ))) + 6) (nI (0)))) ((24 + (9 * (frN σ))) + 7) (nI (0)))) ((24 + (9 * (frN σ))) + 8) (nI (0))) ((6 + (3 * a)) + 1)) + nI (z)))) 2), .int (nI 2), .ref (ad 1)]) rfl ?_
  refine w_iconst X (nI 1) dX6_makes_135 (by decide +kernel) ?_
  refine w_iadd X dX6_makes_136 ?_
  refine w_iast_n X 0 1 0 rfl rfl rfl (by omega) (by decide) (show _ = moC g ad (rw2 μ 0 (upd ((upd ((upd ((upd ((upd ((upd ((upd ((upd ((upd ((upd ((upd (μ 0) (24 + (9 * (frN σ))) (nI (1)))) ((24 + (9 * (frN σ))) + 1) (nI (a)))) ((24 + (9 * (frN σ))) + 2) (((rw2 μ 0 (upd ((upd (μ 0) (24 + (9 * (frN σ))) (nI (1)))) ((24 + (9 * (frN σ))) + 1) (nI (a)))) 0 (6 + 3 * a + 1))))) ((24 + (9 * (frN σ))) + 3) (nI (z)))) ((24 + (9 * (frN σ))) + 4) ((-1)))) (((24 + (9 * (frN σ))) + 4) + 1) ((-1)))) ((24 + (9 * (frN σ))) + 6) (nI (0)))) ((24 + (9 * (frN σ))) + 7) (nI (0)))) ((24 + (9 * (frN σ))) + 8) (nI (0)))) ((6 + (3 * a)) + 1) ((((upd ((upd ((upd ((upd ((upd ((upd ((upd ((upd ((upd (μ 0) (24 + (9 * (frN σ))) (nI (1)))) ((24 + (9 * (frN σ))) + 1) (nI (a)))) ((24 + (9 * (frN σ))) + 2) (((rw2 μ 0 (upd ((upd (μ 0) (24 + (9 * (frN σ))) (nI (1)))) ((24 + (9 * (frN σ))) + 1) (nI (a)))) 0 (6 + 3 * a + 1))))) ((24 + (9 * (frN σ))) + 3) (nI (z)))) ((24 + (9 * (frN σ))) + 4) ((-1)))) (((24 + (9 * (frN σ))) + 4) + 1) ((-1)))) ((24 + (9 * (frN σ))) + 6) (nI (0)))) ((24 + (9 * (frN σ))) + 7) (nI (0)))) ((24 + (9 * (frN σ))) + 8) (nI (0))) ((6 + (3 * a)) + 1)) + nI (z))))) 2 ((((upd ((upd ((upd ((upd ((upd ((upd ((upd ((upd ((upd ((upd (μ 0) (24 + (9 * (frN σ))) (nI (1)))) ((24 + (9 * (frN σ))) + 1) (nI (a)))) ((24 + (9 * (frN σ))) + 2) (((rw2 μ 0 (upd ((upd (μ 0) (24 + (9 * (frN σ))) (nI (1)))) ((24 + (9 * (frN σ))) + 1) (nI (a)))) 0 (6 + 3 * a + 1))))) ((24 + (9 * (frN σ))) + 3) (nI (z)))) ((24 + (9 * (frN σ))) + 4) ((-1)))) (((24 + (9 * (frN σ))) + 4) + 1) ((-1)))) ((24 + (9 * (frN σ))) + 6) (nI (0)))) ((24 + (9 * (frN σ))) + 7) (nI (0)))) ((24 + (9 * (frN σ))) + 8) (nI (0)))) ((6 + (3 * a)) + 1) ((((upd ((upd ((upd ((upd ((upd ((upd ((upd ((upd ((upd (μ 0) (24 + (9 * (frN σ))) (nI (1)))) ((24 + (9 * (frN σ))) + 1) (nI (a)))) ((24 + (9 * (frN σ))) + 2) (((rw2 μ 0 (upd ((upd (μ 0) (24 + (9 * (frN σ))) (nI (1)))) ((24 + (9 * (frN σ))) + 1) (nI (a)))) 0 (6 + 3 * a + 1))))) ((24 + (9 * (frN σ))) + 3) (nI (z)))) ((24 + (9 * (frN σ))) + 4) ((-1)))) (((24 + (9 * (frN σ))) + 4) + 1) ((-1)))) ((24 + (9 * (frN σ))) + 6) (nI (0)))) ((24 + (9 * (frN σ))) + 7) (nI (0)))) ((24 + (9 * (frN σ))) + 8) (nI (0))) ((6 + (3 * a)) + 1)) + nI (z)))) 2) + nI (1))))) from rfl) dX6_makes_137 ?_
  refine w_iload_n X 1 rfl dX6_makes_138 ?_
  exact w_iret_me X ⟨rw2 μ 0 (upd ((upd ((upd ((upd ((upd ((upd ((upd ((upd ((upd ((upd ((upd (μ 0) (24 + (9 * (frN σ))) (nI (1)))) ((24 + (9 * (frN σ))) + 1) (nI (a)))) ((24 + (9 * (frN σ))) + 2) (((rw2 μ 0 (upd ((upd (μ 0) (24 + (9 * (frN σ))) (nI (1)))) ((24 + (9 * (frN σ))) + 1) (nI (a)))) 0 (6 + 3 * a + 1))))) ((24 + (9 * (frN σ))) + 3) (nI (z)))) ((24 + (9 * (frN σ))) + 4) ((-1)))) (((24 + (9 * (frN σ))) + 4) + 1) ((-1)))) ((24 + (9 * (frN σ))) + 6) (nI (0)))) ((24 + (9 * (frN σ))) + 7) (nI (0)))) ((24 + (9 * (frN σ))) + 8) (nI (0)))) ((6 + (3 * a)) + 1) ((((upd ((upd ((upd ((upd ((upd ((upd ((upd ((upd ((upd (μ 0) (24 + (9 * (frN σ))) (nI (1)))) ((24 + (9 * (frN σ))) + 1) (nI (a)))) ((24 + (9 * (frN σ))) + 2) (((rw2 μ 0 (upd ((upd (μ 0) (24 + (9 * (frN σ))) (nI (1)))) ((24 + (9 * (frN σ))) + 1) (nI (a)))) 0 (6 + 3 * a + 1))))) ((24 + (9 * (frN σ))) + 3) (nI (z)))) ((24 + (9 * (frN σ))) + 4) ((-1)))) (((24 + (9 * (frN σ))) + 4) + 1) ((-1)))) ((24 + (9 * (frN σ))) + 6) (nI (0)))) ((24 + (9 * (frN σ))) + 7) (nI (0)))) ((24 + (9 * (frN σ))) + 8) (nI (0))) ((6 + (3 * a)) + 1)) + nI (z))))) 2 ((((upd ((upd ((upd ((upd ((upd ((upd ((upd ((upd ((upd ((upd (μ 0) (24 + (9 * (frN σ))) (nI (1)))) ((24 + (9 * (frN σ))) + 1) (nI (a)))) ((24 + (9 * (frN σ))) + 2) (((rw2 μ 0 (upd ((upd (μ 0) (24 + (9 * (frN σ))) (nI (1)))) ((24 + (9 * (frN σ))) + 1) (nI (a)))) 0 (6 + 3 * a + 1))))) ((24 + (9 * (frN σ))) + 3) (nI (z)))) ((24 + (9 * (frN σ))) + 4) ((-1)))) (((24 + (9 * (frN σ))) + 4) + 1) ((-1)))) ((24 + (9 * (frN σ))) + 6) (nI (0)))) ((24 + (9 * (frN σ))) + 7) (nI (0)))) ((24 + (9 * (frN σ))) + 8) (nI (0)))) ((6 + (3 * a)) + 1) ((((upd ((upd ((upd ((upd ((upd ((upd ((upd ((upd ((upd (μ 0) (24 + (9 * (frN σ))) (nI (1)))) ((24 + (9 * (frN σ))) + 1) (nI (a)))) ((24 + (9 * (frN σ))) + 2) (((rw2 μ 0 (upd ((upd (μ 0) (24 + (9 * (frN σ))) (nI (1)))) ((24 + (9 * (frN σ))) + 1) (nI (a)))) 0 (6 + 3 * a + 1))))) ((24 + (9 * (frN σ))) + 3) (nI (z)))) ((24 + (9 * (frN σ))) + 4) ((-1)))) (((24 + (9 * (frN σ))) + 4) + 1) ((-1)))) ((24 + (9 * (frN σ))) + 6) (nI (0)))) ((24 + (9 * (frN σ))) + 7) (nI (0)))) ((24 + (9 * (frN σ))) + 8) (nI (0))) ((6 + (3 * a)) + 1)) + nI (z)))) 2) + nI (1)))), fun j hj => rw2_n _ _ hj, ri_add hR (by omega) ha hz1 hz h0 h8 hrm (by rw [rw2_s, upd_e, if_neg (by omega), upd_e, if_neg (by omega), upd_e, if_neg (by omega), upd_e, if_neg (by omega), upd_e, if_neg (by omega), upd_e, if_neg (by omega), upd_e, if_neg (by omega), upd_e, if_neg (by omega), upd_e, if_neg (by omega), upd_e, if_neg (by omega), upd_e, if_pos (by omega)]) (by rw [rw2_s, upd_e, if_neg (by omega), upd_e, if_neg (by omega), upd_e, if_neg (by omega), upd_e, if_neg (by omega), upd_e, if_neg (by omega), upd_e, if_neg (by omega), upd_e, if_neg (by omega), upd_e, if_neg (by omega), upd_e, if_neg (by omega), upd_e, if_pos rfl]) (by rw [rw2_s, upd_e, if_neg (by omega), upd_e, if_neg (by omega), upd_e, if_neg (by omega), upd_e, if_neg (by omega), upd_e, if_neg (by omega), upd_e, if_neg (by omega), upd_e, if_neg (by omega), upd_e, if_neg (by omega), upd_e, if_pos rfl]; rw [rw2_s, upd_e, if_neg (by omega), upd_e, if_neg (by omega)]) (by rw [rw2_s, upd_e, if_neg (by omega), upd_e, if_neg (by omega), upd_e, if_neg (by omega), upd_e, if_neg (by omega), upd_e, if_neg (by omega), upd_e, if_neg (by omega), upd_e, if_neg (by omega), upd_e, if_pos rfl]) (by rw [rw2_s, upd_e, if_neg (by omega), upd_e, if_neg (by omega), upd_e, if_neg (by omega), upd_e, if_neg (by omega), upd_e, if_neg (by omega), upd_e, if_neg (by omega), upd_e, if_pos (by omega)]) (by rw [rw2_s, upd_e, if_neg (by omega), upd_e, if_neg (by omega), upd_e, if_neg (by omega), upd_e, if_neg (by omega), upd_e, if_neg (by omega), upd_e, if_pos (by omega)]) (by rw [rw2_s, upd_e, if_neg (by omega), upd_e, if_neg (by omega), upd_e, if_neg (by omega), upd_e, if_neg (by omega), upd_e, if_pos rfl]) (by rw [rw2_s, upd_e, if_neg (by omega), upd_e, if_neg (by omega), upd_e, if_neg (by omega), upd_e, if_pos rfl]) (by rw [rw2_s, upd_e, if_neg (by omega), upd_e, if_neg (by omega), upd_e, if_pos rfl]) (by rw [rw2_s, upd_e, if_neg (by omega), upd_e, if_pos rfl]; rw [upd_e, if_neg (by omega), upd_e, if_neg (by omega), upd_e, if_neg (by omega), upd_e, if_neg (by omega), upd_e, if_neg (by omega), upd_e, if_neg (by omega), upd_e, if_neg (by omega), upd_e, if_neg (by omega), upd_e, if_neg (by omega)]) (by rw [rw2_s, upd_e, if_pos rfl]; rw [upd_e, if_neg (by omega), upd_e, if_neg (by omega), upd_e, if_neg (by omega), upd_e, if_neg (by omega), upd_e, if_neg (by omega), upd_e, if_neg (by omega), upd_e, if_neg (by omega), upd_e, if_neg (by omega), upd_e, if_neg (by omega), upd_e, if_neg (by omega)]) (fun i hi i2 im ir => by rw [rw2_s, upd_e, if_neg (by omega), upd_e, if_neg (by omega), upd_e, if_neg (by omega), upd_e, if_neg (by omega), upd_e, if_neg (by omega), upd_e, if_neg (by omega), upd_e, if_neg (by omega), upd_e, if_neg (by omega), upd_e, if_neg (by omega), upd_e, if_neg (by omega), upd_e, if_neg (by omega)])⟩ (by first | rfl | (subst he_i; rfl) | simp (decide := true) [bI]) rfl (Nat.le_of_ble_eq_true rfl) (Nat.le_of_ble_eq_true rfl) dX6_makes_139
set_option maxRecDepth 100000 in
set_option maxHeartbeats 4000000 in
theorem m_X6_open (l : Launch) (g : GG) (ad : Nat → Nat) (μ : Nat → Nat → Int32) (σ : Nat → Nat → Int32) (v : Nat) (hR : RI σ (μ 0)) (hv : μ 2 0 = nI v) (hv6 : v ≤ 6) : MME (U := {μ' : Nat → Nat → Int32 // MC (handS σ (lfA σ).toNatClampNeg) (opnO σ) [iSE] v μ μ'}) l g yX6_open cX6_open 2 (some .int) 4 0 0 [.ref (ad 0)] [moC g ad μ] (some (.int (vO (opnO σ)))) (fun u => [moC g ad u.1]) := by
  refine mk_me (by decide +kernel) (Nat.le_of_ble_eq_true rfl) (fun p e s m below meth c A hA X => ?_)
  refine w_aload_n X 0 rfl dX6_open_0 ?_
  refine w_iconst X (nI 0) dX6_open_1 (by decide +kernel) ?_
  refine w_put X 0 0 rfl rfl rfl in_X6 tyX6 tyX6_ok nmX6 5 (by decide) fk_X6_35 rfl rfl rfl rfl (Nat.le_of_ble_eq_true rfl) (show _ = moC g ad (rw2 μ 5 (fun _ => nI (0))) from rfl) dX6_open_2 ?_
  refine w_iconst X (nI 0) dX6_open_5 (by decide +kernel) ?_
  refine w_istore_n X dX6_open_6 (by decide) ?_
  refine w_all [1, 0] (rfl) (rfl) rfl (w_loop (st := []) (pc := 7) X (V := Nat) (fun (a : Nat) => 6 - a) (fun (a : Nat) => (a ≤ 6) ∧ (∀ j, j < a → (!nz (σ 8 j)) = false)) (fun (a : Nat) => [(0, .ref (ad 0)), (1, .int (nI a))]) (fun (a : Nat) => [moC g ad (rw2 μ 5 (fun _ => nI (0)))]) (fun a hv7 ih7 => ?_) 0 ⟨by omega, fun j h => by omega⟩)
  obtain ⟨ha, hn⟩ := hv7
  try dsimp only at ih7 ⊢
  refine w_iload_n X 1 rfl dX6_open_7 ?_
  refine w_bipush X (nI 6) dX6_open_8 (by decide +kernel) ?_
  refine w_nc_ge X (by omega) (by omega) 27 dX6_open_10 (by decide) (fun c10 => ?_) (fun c10 => ?_)
  · refine w_iload_n X 1 rfl dX6_open_27 ?_
    refine w_bipush X (nI 6) dX6_open_28 (by decide +kernel) ?_
    refine w_nc_ne X (by omega) (by omega) 39 dX6_open_30 (by decide) (fun c30 => by exfalso; omega) (fun c30 => ?_)
    refine w_aload_n X 0 rfl dX6_open_33 ?_
    refine w_iconst X (nI 1) dX6_open_34 (by decide +kernel) ?_
    refine w_muV X hA (gr := []) (gs1 := [moC g ad (rw2 (rw2 μ 5 (fun _ => nI (0))) 5 (fun _ => nI 1))]) [0] [] 0 0 (m_X6_fails l g ad (rw2 μ 5 (fun _ => nI (0))) 1) cv_X6_fails mk_X6_50 rfl rfl rfl (ng := 1) rfl (by decide) rfl rfl rfl rfl rfl rfl ⟨Nat.le_of_ble_eq_true rfl, Nat.le_of_ble_eq_true rfl⟩ (Nat.le_of_ble_eq_true rfl) ⟨Nat.le_of_ble_eq_true rfl, Nat.le_of_ble_eq_true rfl⟩ dX6_open_35 rfl ?_
    exact w_iret_me X ⟨rw2 (rw2 μ 5 (fun _ => nI (0))) 5 (fun _ => nI 1), by rw [opnO, show lfA σ = -1 from lowI_none (fun j hj => hn j (by omega)), if_pos rfl]; exact mc_r (lk_1 _ _ _)⟩ (by rw [opnO, show lfA σ = -1 from lowI_none (fun j hj => hn j (by omega)), if_pos rfl]; rfl) rfl (Nat.le_of_ble_eq_true rfl) (Nat.le_of_ble_eq_true rfl) dX6_open_38
  · refine w_aload_n X 0 rfl dX6_open_13 ?_
    refine w_iload_n X 1 rfl dX6_open_14 ?_
    refine w_roV X [0] 0 0 (m_X6_isOpen l g ad (rw2 μ 5 (fun _ => nI (0))) σ a (by omega) (hR)) cv_X6_isOpen mk_X6_88 rfl rfl rfl rfl rfl ⟨Nat.le_of_ble_eq_true rfl, Nat.le_of_ble_eq_true rfl⟩ (Nat.le_of_ble_eq_true rfl) ⟨Nat.le_of_ble_eq_true rfl, Nat.le_of_ble_eq_true rfl⟩ dX6_open_15 rfl ?_
    refine w_bf_eq X 27 dX6_open_18 (by decide) (fun c18 => ?_) (fun c18 => ?_)
    · refine w_iload_n X 1 rfl dX6_open_27 ?_
      refine w_bipush X (nI 6) dX6_open_28 (by decide +kernel) ?_
      refine w_nc_ne X (by omega) (by omega) 39 dX6_open_30 (by decide) (fun c30 => ?_) (fun c30 => by exfalso; omega)
      refine w_aload_n X 0 rfl dX6_open_39 ?_
      refine w_meV X hA (U := {μ' : Nat → Nat → Int32 // SQ (rw2 μ 5 (fun _ => nI (0))) μ' v}) (gr := []) (gs1 := fun u => [moC g ad u.1]) [0] [] 0 0 (m_X6_saves l g ad (rw2 μ 5 (fun _ => nI (0))) v (hv) (hv6)) cv_X6_saves mk_X6_97 rfl rfl rfl (ng := 1) rfl (by decide) (fun _ => rfl) (fun _ => rfl) (fun _ => rfl) rfl rfl rfl ⟨Nat.le_of_ble_eq_true rfl, Nat.le_of_ble_eq_true rfl⟩ (Nat.le_of_ble_eq_true rfl) ⟨Nat.le_of_ble_eq_true rfl, Nat.le_of_ble_eq_true rfl⟩ dX6_open_40 rfl (fun u => ?_)
      obtain ⟨μ1, hμ1⟩ := u
      try dsimp only
      have hR1 : RI σ (μ1 0) := sq_R hμ1 hR
      refine w_aload_n X 0 rfl dX6_open_43 ?_
      refine w_get X 0 0 rfl rfl rfl in_X6 0 (by decide) fk_X6_7 rfl dX6_open_44 ?_
      refine w_bipush X (nI 6) dX6_open_47 (by decide +kernel) ?_
      refine w_iconst X (nI 3) dX6_open_49 (by decide +kernel) ?_
      refine w_iload_n X 1 rfl dX6_open_50 ?_
      refine w_imul_n X dX6_open_51 ?_
      refine w_iadd_n X dX6_open_52 ?_
      refine w_iconst X (nI 1) dX6_open_53 (by decide +kernel) ?_
      refine w_iast_n X 0 1 0 rfl rfl rfl (by omega) (by decide) (show _ = moC g ad (rw2 μ1 0 (upd (μ1 0) (6 + (3 * a)) (nI (1)))) from rfl) dX6_open_54 ?_
      refine w_aload_n X 0 rfl dX6_open_55 ?_
      refine w_get X 0 0 rfl rfl rfl in_X6 0 (by decide) fk_X6_7 rfl dX6_open_56 ?_
      refine w_bipush X (nI 6) dX6_open_59 (by decide +kernel) ?_
      refine w_iconst X (nI 3) dX6_open_61 (by decide +kernel) ?_
      refine w_iload_n X 1 rfl dX6_open_62 ?_
      refine w_imul_n X dX6_open_63 ?_
      refine w_iadd_n X dX6_open_64 ?_
      refine w_iconst X (nI 2) dX6_open_65 (by decide +kernel) ?_
      refine w_iadd_n X dX6_open_66 ?_
      refine w_dup2 X dX6_open_67 rfl rfl ?_
      refine w_iald_n X 0 1 0 rfl rfl rfl (by omega) (by decide) dX6_open_68 ?_
      refine w_st (st2 := [.int ((upd (μ1 0) (6 + (3 * a)) (nI (1))) ((6 + (3 * a)) + 2)), .int (nI ((6 + (3 * a)) + 2)), .ref (ad 1)]) rfl ?_
      refine w_iconst X (nI 1) dX6_open_69 (by decide +kernel) ?_
      refine w_iadd X dX6_open_70 ?_
      refine w_iast_n X 0 1 0 rfl rfl rfl (by omega) (by decide) (show _ = moC g ad (rw2 μ1 0 (upd ((upd (μ1 0) (6 + (3 * a)) (nI (1)))) ((6 + (3 * a)) + 2) ((((upd (μ1 0) (6 + (3 * a)) (nI (1))) ((6 + (3 * a)) + 2)) + nI (1))))) from rfl) dX6_open_71 ?_
      refine w_iload_n X 1 rfl dX6_open_72 ?_
      exact w_iret_me X ⟨rw2 μ1 0 (upd ((upd (μ1 0) (6 + (3 * a)) (nI (1)))) ((6 + (3 * a)) + 2) ((((upd (μ1 0) (6 + (3 * a)) (nI (1))) ((6 + (3 * a)) + 2)) + nI (1)))), by rw [opnO, show lfA σ = nI a from lowI_found (k := a) hn (by omega) (not_t ((isOp_nz σ (by omega)).symm.trans c18)), if_neg (nI_ne (by omega)), nI_clamp (by omega)]; exact mc_l hμ1 (fun j hj => rw2_n _ _ hj) (ri_hand hR1 (by omega) (by rw [rw2_s, upd_e, if_neg (by omega), upd_e, if_pos rfl]) (by rw [rw2_s, upd_e, if_neg (by omega), upd_e, if_neg (by omega)]) (by rw [rw2_s, upd_e, if_pos rfl, upd_e, if_neg (by omega)]) (fun i hi h => by rw [rw2_s, upd_e, if_neg (by omega), upd_e, if_neg (by omega)]))⟩ (by rw [opnO, show lfA σ = nI a from lowI_found (k := a) hn (by omega) (not_t ((isOp_nz σ (by omega)).symm.trans c18)), if_neg (nI_ne (by omega))]; rfl) rfl (Nat.le_of_ble_eq_true rfl) (Nat.le_of_ble_eq_true rfl) dX6_open_73
    · refine w_iinc X (nI (a + 1)) 1 rfl (nI_1 _) dX6_open_21 (by decide) ?_
      refine w_goto X 7 dX6_open_24 (by decide) ?_
      exact w_all [1, 0] (rfl) (rfl) rfl (ih7 (a + 1) (by omega) ⟨by omega, lt_ext hn (not_f ((isOp_nz σ (by omega)).symm.trans c18))⟩)
set_option maxRecDepth 100000 in
set_option maxHeartbeats 4000000 in
theorem m_X6_make (l : Launch) (g : GG) (ad : Nat → Nat) (μ : Nat → Nat → Int32) (σ : Nat → Nat → Int32) (v : Nat) (x : Int32) (z : Int32) (hR : RI σ (μ 0)) (hv : μ 2 0 = nI v) (hv6 : v ≤ 6) : MME (U := {μ' : Nat → Nat → Int32 // MC (addS σ (frN σ) x.toNatClampNeg z) (makO σ x z) [iOE, iAE, iSE] v μ μ'}) l g yX6_make cX6_make 3 (some .int) 5 0 0 [.ref (ad 0), .int (x), .int (z)] [moC g ad μ] (some (.int (vO (makO σ x z)))) (fun u => [moC g ad u.1]) := by
  refine mk_me (by decide +kernel) (Nat.le_of_ble_eq_true rfl) (fun p e s m below meth c A hA X => ?_)
  refine w_aload_n X 0 rfl dX6_make_0 ?_
  refine w_iconst X (nI 0) dX6_make_1 (by decide +kernel) ?_
  refine w_put X 0 0 rfl rfl rfl in_X6 tyX6 tyX6_ok nmX6 5 (by decide) fk_X6_35 rfl rfl rfl rfl (Nat.le_of_ble_eq_true rfl) (show _ = moC g ad (rw2 μ 5 (fun _ => nI (0))) from rfl) dX6_make_2 ?_
  refine w_iload_n X 1 rfl dX6_make_5 ?_
  refine w_roS X [] (m_X6_isArena l g (x)) cs_X6_isArena mk_X6_103 rfl rfl ⟨Nat.le_of_ble_eq_true rfl, Nat.le_of_ble_eq_true rfl⟩ (Nat.le_of_ble_eq_true rfl) ⟨Nat.le_of_ble_eq_true rfl, Nat.le_of_ble_eq_true rfl⟩ dX6_make_6 rfl ?_
  refine w_bf_ne X 18 dX6_make_9 (by decide) (fun c9 => ?_) (fun c9 => ?_)
  · obtain ⟨a, ha, rfl⟩ := isArB_ex c9
    refine w_iload_n X 2 rfl dX6_make_18 ?_
    refine w_iconst X (nI 1) dX6_make_19 (by decide +kernel) ?_
    refine w_bipush X (nI 16) dX6_make_20 (by decide +kernel) ?_
    refine w_roS X [] (m_X6_in l g (z) (nI (1)) (nI (16))) cs_X6_in mk_X6_39 rfl rfl ⟨Nat.le_of_ble_eq_true rfl, Nat.le_of_ble_eq_true rfl⟩ (Nat.le_of_ble_eq_true rfl) ⟨Nat.le_of_ble_eq_true rfl, Nat.le_of_ble_eq_true rfl⟩ dX6_make_22 rfl ?_
    refine w_bf_ne X 34 dX6_make_25 (by decide) (fun c25 => ?_) (fun c25 => ?_)
    · obtain ⟨z1, hz1, hz, rfl⟩ := dig_1 c25
      refine w_aload_n X 0 rfl dX6_make_34 ?_
      refine w_iload_n X 1 rfl dX6_make_35 ?_
      refine w_iload_n X 2 rfl dX6_make_36 ?_
      refine w_roV X [0] 0 0 (m_X6_mayMake l g ad (rw2 μ 5 (fun _ => nI (0))) σ a z1 (by omega) (by omega) (hR)) cv_X6_mayMake mk_X6_106 rfl rfl rfl rfl rfl ⟨Nat.le_of_ble_eq_true rfl, Nat.le_of_ble_eq_true rfl⟩ (Nat.le_of_ble_eq_true rfl) ⟨Nat.le_of_ble_eq_true rfl, Nat.le_of_ble_eq_true rfl⟩ dX6_make_37 rfl ?_
      refine w_bf_ne X 49 dX6_make_40 (by decide) (fun c40 => ?_) (fun c40 => ?_)
      · have hm := mm_t hR ha c40
        refine w_aload_n X 0 rfl dX6_make_49 ?_
        refine w_meV X hA (U := {μ' : Nat → Nat → Int32 // SQ (rw2 μ 5 (fun _ => nI (0))) μ' v}) (gr := []) (gs1 := fun u => [moC g ad u.1]) [0] [] 0 0 (m_X6_saves l g ad (rw2 μ 5 (fun _ => nI (0))) v (hv) (hv6)) cv_X6_saves mk_X6_97 rfl rfl rfl (ng := 1) rfl (by decide) (fun _ => rfl) (fun _ => rfl) (fun _ => rfl) rfl rfl rfl ⟨Nat.le_of_ble_eq_true rfl, Nat.le_of_ble_eq_true rfl⟩ (Nat.le_of_ble_eq_true rfl) ⟨Nat.le_of_ble_eq_true rfl, Nat.le_of_ble_eq_true rfl⟩ dX6_make_50 rfl (fun u => ?_)
        obtain ⟨μ1, hμ1⟩ := u
        try dsimp only
        have hR1 : RI σ (μ1 0) := sq_R hμ1 hR
        refine w_aload_n X 0 rfl dX6_make_53 ?_
        refine w_iload_n X 1 rfl dX6_make_54 ?_
        refine w_iload_n X 2 rfl dX6_make_55 ?_
        refine w_meV X hA (U := {μ' : Nat → Nat → Int32 // (∀ j, j ≠ 0 → μ' j = μ1 j) ∧ RI (addS σ (frN σ) a (nI z1)) (μ' 0)}) (gr := []) (gs1 := fun u => [moC g ad u.1]) [0] [] 0 0 (m_X6_makes l g ad μ1 σ a z1 (hR1) (ha) (hz1) (hz) (hm.2.2.1) (hm.2.2.2) (hm.1) (hm.2.1)) cv_X6_makes mk_X6_109 rfl rfl rfl (ng := 1) rfl (by decide) (fun _ => rfl) (fun _ => rfl) (fun _ => rfl) rfl rfl rfl ⟨Nat.le_of_ble_eq_true rfl, Nat.le_of_ble_eq_true rfl⟩ (Nat.le_of_ble_eq_true rfl) ⟨Nat.le_of_ble_eq_true rfl, Nat.le_of_ble_eq_true rfl⟩ dX6_make_56 rfl (fun u => ?_)
        obtain ⟨μ2, hμ2⟩ := u
        try dsimp only
        exact w_iret_me X ⟨μ2, by rw [makO, if_neg (by rw [c9]; decide), if_neg (by rw [c25]; decide), nI_clamp (by omega), if_neg (by rw [c40]; decide)]; exact mc_l hμ1 hμ2.1 hμ2.2⟩ (by rw [makO, if_neg (by rw [c9]; decide), if_neg (by rw [c25]; decide), nI_clamp (by omega), if_neg (by rw [c40]; decide)]; rfl) rfl (Nat.le_of_ble_eq_true rfl) (Nat.le_of_ble_eq_true rfl) dX6_make_59
      · refine w_aload_n X 0 rfl dX6_make_43 ?_
        refine w_iconst X (nI 3) dX6_make_44 (by decide +kernel) ?_
        refine w_muV X hA (gr := []) (gs1 := [moC g ad (rw2 (rw2 μ 5 (fun _ => nI (0))) 5 (fun _ => nI 3))]) [0] [] 0 0 (m_X6_fails l g ad (rw2 μ 5 (fun _ => nI (0))) 3) cv_X6_fails mk_X6_50 rfl rfl rfl (ng := 1) rfl (by decide) rfl rfl rfl rfl rfl rfl ⟨Nat.le_of_ble_eq_true rfl, Nat.le_of_ble_eq_true rfl⟩ (Nat.le_of_ble_eq_true rfl) ⟨Nat.le_of_ble_eq_true rfl, Nat.le_of_ble_eq_true rfl⟩ dX6_make_45 rfl ?_
        exact w_iret_me X ⟨rw2 (rw2 μ 5 (fun _ => nI (0))) 5 (fun _ => nI 3), by rw [makO, if_neg (by rw [c9]; decide), if_neg (by rw [c25]; decide), nI_clamp (by omega), if_pos c40]; exact mc_r (lk_1 _ _ _)⟩ (by rw [makO, if_neg (by rw [c9]; decide), if_neg (by rw [c25]; decide), nI_clamp (by omega), if_pos c40]; rfl) rfl (Nat.le_of_ble_eq_true rfl) (Nat.le_of_ble_eq_true rfl) dX6_make_48
    · refine w_aload_n X 0 rfl dX6_make_28 ?_
      refine w_iconst X (nI 2) dX6_make_29 (by decide +kernel) ?_
      refine w_muV X hA (gr := []) (gs1 := [moC g ad (rw2 (rw2 μ 5 (fun _ => nI (0))) 5 (fun _ => nI 2))]) [0] [] 0 0 (m_X6_fails l g ad (rw2 μ 5 (fun _ => nI (0))) 2) cv_X6_fails mk_X6_50 rfl rfl rfl (ng := 1) rfl (by decide) rfl rfl rfl rfl rfl rfl ⟨Nat.le_of_ble_eq_true rfl, Nat.le_of_ble_eq_true rfl⟩ (Nat.le_of_ble_eq_true rfl) ⟨Nat.le_of_ble_eq_true rfl, Nat.le_of_ble_eq_true rfl⟩ dX6_make_30 rfl ?_
      exact w_iret_me X ⟨rw2 (rw2 μ 5 (fun _ => nI (0))) 5 (fun _ => nI 2), by rw [makO, if_neg (by rw [c9]; decide), if_pos c25]; exact mc_r (lk_1 _ _ _)⟩ (by rw [makO, if_neg (by rw [c9]; decide), if_pos c25]; rfl) rfl (Nat.le_of_ble_eq_true rfl) (Nat.le_of_ble_eq_true rfl) dX6_make_33
  · refine w_aload_n X 0 rfl dX6_make_12 ?_
    refine w_iconst X (nI 1) dX6_make_13 (by decide +kernel) ?_
    refine w_muV X hA (gr := []) (gs1 := [moC g ad (rw2 (rw2 μ 5 (fun _ => nI (0))) 5 (fun _ => nI 1))]) [0] [] 0 0 (m_X6_fails l g ad (rw2 μ 5 (fun _ => nI (0))) 1) cv_X6_fails mk_X6_50 rfl rfl rfl (ng := 1) rfl (by decide) rfl rfl rfl rfl rfl rfl ⟨Nat.le_of_ble_eq_true rfl, Nat.le_of_ble_eq_true rfl⟩ (Nat.le_of_ble_eq_true rfl) ⟨Nat.le_of_ble_eq_true rfl, Nat.le_of_ble_eq_true rfl⟩ dX6_make_14 rfl ?_
    exact w_iret_me X ⟨rw2 (rw2 μ 5 (fun _ => nI (0))) 5 (fun _ => nI 1), by rw [makO, if_pos c9]; exact mc_r (lk_1 _ _ _)⟩ (by rw [makO, if_pos c9]; rfl) rfl (Nat.le_of_ble_eq_true rfl) (Nat.le_of_ble_eq_true rfl) dX6_make_17
set_option maxRecDepth 100000 in
set_option maxHeartbeats 4000000 in
theorem m_X6_link (l : Launch) (g : GG) (ad : Nat → Nat) (μ : Nat → Nat → Int32) (σ : Nat → Nat → Int32) (v : Nat) (x : Int32) (f : Int32) (t : Int32) (hR : RI σ (μ 0)) (hv : μ 2 0 = nI v) (hv6 : v ≤ 6) : MME (U := {μ' : Nat → Nat → Int32 // MC (rfS σ x.toNatClampNeg f.toNatClampNeg t) (linO σ x f t) [iOE] v μ μ'}) l g yX6_link cX6_link 4 (some .int) 4 0 0 [.ref (ad 0), .int (x), .int (f), .int (t)] [moC g ad μ] (some (.int (vO (linO σ x f t)))) (fun u => [moC g ad u.1]) := by
  refine mk_me (by decide +kernel) (Nat.le_of_ble_eq_true rfl) (fun p e s m below meth c A hA X => ?_)
  refine w_aload_n X 0 rfl dX6_link_0 ?_
  refine w_iconst X (nI 0) dX6_link_1 (by decide +kernel) ?_
  refine w_put X 0 0 rfl rfl rfl in_X6 tyX6 tyX6_ok nmX6 5 (by decide) fk_X6_35 rfl rfl rfl rfl (Nat.le_of_ble_eq_true rfl) (show _ = moC g ad (rw2 μ 5 (fun _ => nI (0))) from rfl) dX6_link_2 ?_
  refine w_aload_n X 0 rfl dX6_link_5 ?_
  refine w_iload_n X 1 rfl dX6_link_6 ?_
  refine w_roV X [0] 0 0 (m_X6_isObject l g ad (rw2 μ 5 (fun _ => nI (0))) σ (x) (hR)) cv_X6_isObject mk_X6_112 rfl rfl rfl rfl rfl ⟨Nat.le_of_ble_eq_true rfl, Nat.le_of_ble_eq_true rfl⟩ (Nat.le_of_ble_eq_true rfl) ⟨Nat.le_of_ble_eq_true rfl, Nat.le_of_ble_eq_true rfl⟩ dX6_link_7 rfl ?_
  refine w_bf_eq X 35 dX6_link_10 (by decide) (fun c10 => ?_) (fun c10 => ?_)
  · refine w_aload_n X 0 rfl dX6_link_35 ?_
    refine w_iconst X (nI 1) dX6_link_36 (by decide +kernel) ?_
    refine w_muV X hA (gr := []) (gs1 := [moC g ad (rw2 (rw2 μ 5 (fun _ => nI (0))) 5 (fun _ => nI 1))]) [0] [] 0 0 (m_X6_fails l g ad (rw2 μ 5 (fun _ => nI (0))) 1) cv_X6_fails mk_X6_50 rfl rfl rfl (ng := 1) rfl (by decide) rfl rfl rfl rfl rfl rfl ⟨Nat.le_of_ble_eq_true rfl, Nat.le_of_ble_eq_true rfl⟩ (Nat.le_of_ble_eq_true rfl) ⟨Nat.le_of_ble_eq_true rfl, Nat.le_of_ble_eq_true rfl⟩ dX6_link_37 rfl ?_
    exact w_iret_me X ⟨rw2 (rw2 μ 5 (fun _ => nI (0))) 5 (fun _ => nI 1), by rw [linO, if_pos c10]; exact mc_r (lk_1 _ _ _)⟩ (by rw [linO, if_pos c10]; rfl) rfl (Nat.le_of_ble_eq_true rfl) (Nat.le_of_ble_eq_true rfl) dX6_link_40
  · obtain ⟨o, ho, rfl⟩ := vp_in_of (hasB_in c10) (by decide)
    refine w_iload_n X 2 rfl dX6_link_13 ?_
    refine w_iconst X (nI 0) dX6_link_14 (by decide +kernel) ?_
    refine w_iconst X (nI 1) dX6_link_15 (by decide +kernel) ?_
    refine w_roS X [] (m_X6_in l g (f) (nI (0)) (nI (1))) cs_X6_in mk_X6_39 rfl rfl ⟨Nat.le_of_ble_eq_true rfl, Nat.le_of_ble_eq_true rfl⟩ (Nat.le_of_ble_eq_true rfl) ⟨Nat.le_of_ble_eq_true rfl, Nat.le_of_ble_eq_true rfl⟩ dX6_link_16 rfl ?_
    refine w_bf_eq X 35 dX6_link_19 (by decide) (fun c19 => ?_) (fun c19 => ?_)
    · refine w_aload_n X 0 rfl dX6_link_35 ?_
      refine w_iconst X (nI 1) dX6_link_36 (by decide +kernel) ?_
      refine w_muV X hA (gr := []) (gs1 := [moC g ad (rw2 (rw2 μ 5 (fun _ => nI (0))) 5 (fun _ => nI 1))]) [0] [] 0 0 (m_X6_fails l g ad (rw2 μ 5 (fun _ => nI (0))) 1) cv_X6_fails mk_X6_50 rfl rfl rfl (ng := 1) rfl (by decide) rfl rfl rfl rfl rfl rfl ⟨Nat.le_of_ble_eq_true rfl, Nat.le_of_ble_eq_true rfl⟩ (Nat.le_of_ble_eq_true rfl) ⟨Nat.le_of_ble_eq_true rfl, Nat.le_of_ble_eq_true rfl⟩ dX6_link_37 rfl ?_
      exact w_iret_me X ⟨rw2 (rw2 μ 5 (fun _ => nI (0))) 5 (fun _ => nI 1), by rw [linO, if_neg (by rw [c10]; decide), if_pos c19]; exact mc_r (lk_1 _ _ _)⟩ (by rw [linO, if_neg (by rw [c10]; decide), if_pos c19]; rfl) rfl (Nat.le_of_ble_eq_true rfl) (Nat.le_of_ble_eq_true rfl) dX6_link_40
    · obtain ⟨f1, hf1, rfl⟩ := dig_ex (by decide) c19
      refine w_iload_n X 3 rfl dX6_link_22 ?_
      refine w_iconst X (-1) dX6_link_23 (by decide +kernel) ?_
      refine w_ic_eq X 41 dX6_link_24 (by decide) (fun c24 => ?_) (fun c24 => ?_)
      · refine w_aload_n X 0 rfl dX6_link_41 ?_
        refine w_meV X hA (U := {μ' : Nat → Nat → Int32 // SQ (rw2 μ 5 (fun _ => nI (0))) μ' v}) (gr := []) (gs1 := fun u => [moC g ad u.1]) [0] [] 0 0 (m_X6_saves l g ad (rw2 μ 5 (fun _ => nI (0))) v (hv) (hv6)) cv_X6_saves mk_X6_97 rfl rfl rfl (ng := 1) rfl (by decide) (fun _ => rfl) (fun _ => rfl) (fun _ => rfl) rfl rfl rfl ⟨Nat.le_of_ble_eq_true rfl, Nat.le_of_ble_eq_true rfl⟩ (Nat.le_of_ble_eq_true rfl) ⟨Nat.le_of_ble_eq_true rfl, Nat.le_of_ble_eq_true rfl⟩ dX6_link_42 rfl (fun u => ?_)
        obtain ⟨μ1, hμ1⟩ := u
        try dsimp only
        have hR1 : RI σ (μ1 0) := sq_R hμ1 hR
        refine w_aload_n X 0 rfl dX6_link_45 ?_
        refine w_iload_n X 1 rfl dX6_link_46 ?_
        refine w_iconst X (nI 4) dX6_link_47 (by decide +kernel) ?_
        refine w_iload_n X 2 rfl dX6_link_48 ?_
        refine w_iadd_n X dX6_link_49 ?_
        refine w_iload_n X 3 rfl dX6_link_50 ?_
        refine w_muV X hA (gr := []) (gs1 := [moC g ad (rw2 μ1 0 (upd (μ1 0) (24 + 9 * o + (4 + f1)) (t)))]) [0] [] 0 0 (m_X6_changes l g ad μ1 o (4 + f1) (t) (by omega) (by omega)) cv_X6_changes mk_X6_115 rfl rfl rfl (ng := 1) rfl (by decide) rfl rfl rfl rfl rfl rfl ⟨Nat.le_of_ble_eq_true rfl, Nat.le_of_ble_eq_true rfl⟩ (Nat.le_of_ble_eq_true rfl) ⟨Nat.le_of_ble_eq_true rfl, Nat.le_of_ble_eq_true rfl⟩ dX6_link_51 rfl ?_
        exact w_iret_me X ⟨rw2 μ1 0 (upd (μ1 0) (24 + 9 * o + (4 + f1)) (t)), by rw [linO, if_neg (by rw [c10]; decide), if_neg (by rw [c19]; decide), if_pos c24, nI_clamp (by omega), nI_clamp (by omega)]; exact mc_l hμ1 (fun j hj => rw2_n _ _ hj) (ri_link hR1 ho hf1 (has_used hR ho c10) (Or.inl c24))⟩ (by rw [linO, if_neg (by rw [c10]; decide), if_neg (by rw [c19]; decide), if_pos c24, ref_nI σ ho hf1, ← hR1.fld ho hf1 (has_used hR ho c10)]; rfl) rfl (Nat.le_of_ble_eq_true rfl) (Nat.le_of_ble_eq_true rfl) dX6_link_54
      · refine w_aload_n X 0 rfl dX6_link_27 ?_
        refine w_iload_n X 3 rfl dX6_link_28 ?_
        refine w_roV X [0] 0 0 (m_X6_isObject l g ad (rw2 μ 5 (fun _ => nI (0))) σ (t) (hR)) cv_X6_isObject mk_X6_112 rfl rfl rfl rfl rfl ⟨Nat.le_of_ble_eq_true rfl, Nat.le_of_ble_eq_true rfl⟩ (Nat.le_of_ble_eq_true rfl) ⟨Nat.le_of_ble_eq_true rfl, Nat.le_of_ble_eq_true rfl⟩ dX6_link_29 rfl ?_
        refine w_bf_ne X 41 dX6_link_32 (by decide) (fun c32 => ?_) (fun c32 => ?_)
        · refine w_aload_n X 0 rfl dX6_link_41 ?_
          refine w_meV X hA (U := {μ' : Nat → Nat → Int32 // SQ (rw2 μ 5 (fun _ => nI (0))) μ' v}) (gr := []) (gs1 := fun u => [moC g ad u.1]) [0] [] 0 0 (m_X6_saves l g ad (rw2 μ 5 (fun _ => nI (0))) v (hv) (hv6)) cv_X6_saves mk_X6_97 rfl rfl rfl (ng := 1) rfl (by decide) (fun _ => rfl) (fun _ => rfl) (fun _ => rfl) rfl rfl rfl ⟨Nat.le_of_ble_eq_true rfl, Nat.le_of_ble_eq_true rfl⟩ (Nat.le_of_ble_eq_true rfl) ⟨Nat.le_of_ble_eq_true rfl, Nat.le_of_ble_eq_true rfl⟩ dX6_link_42 rfl (fun u => ?_)
          obtain ⟨μ2, hμ2⟩ := u
          try dsimp only
          have hR1 : RI σ (μ2 0) := sq_R hμ2 hR
          refine w_aload_n X 0 rfl dX6_link_45 ?_
          refine w_iload_n X 1 rfl dX6_link_46 ?_
          refine w_iconst X (nI 4) dX6_link_47 (by decide +kernel) ?_
          refine w_iload_n X 2 rfl dX6_link_48 ?_
          refine w_iadd_n X dX6_link_49 ?_
          refine w_iload_n X 3 rfl dX6_link_50 ?_
          refine w_muV X hA (gr := []) (gs1 := [moC g ad (rw2 μ2 0 (upd (μ2 0) (24 + 9 * o + (4 + f1)) (t)))]) [0] [] 0 0 (m_X6_changes l g ad μ2 o (4 + f1) (t) (by omega) (by omega)) cv_X6_changes mk_X6_115 rfl rfl rfl (ng := 1) rfl (by decide) rfl rfl rfl rfl rfl rfl ⟨Nat.le_of_ble_eq_true rfl, Nat.le_of_ble_eq_true rfl⟩ (Nat.le_of_ble_eq_true rfl) ⟨Nat.le_of_ble_eq_true rfl, Nat.le_of_ble_eq_true rfl⟩ dX6_link_51 rfl ?_
          exact w_iret_me X ⟨rw2 μ2 0 (upd (μ2 0) (24 + 9 * o + (4 + f1)) (t)), by rw [linO, if_neg (by rw [c10]; decide), if_neg (by rw [c19]; decide), if_neg c24, if_neg (by rw [c32]; decide), nI_clamp (by omega), nI_clamp (by omega)]; exact mc_l hμ2 (fun j hj => rw2_n _ _ hj) (ri_link hR1 ho hf1 (has_used hR ho c10) (Or.inr (by obtain ⟨q, h1, h2⟩ := vp_in_of (hasB_in c32) (by decide); exact ⟨q, h1, h2, has_used hR h1 (by rw [← h2]; exact c32)⟩)))⟩ (by rw [linO, if_neg (by rw [c10]; decide), if_neg (by rw [c19]; decide), if_neg c24, if_neg (by rw [c32]; decide), ref_nI σ ho hf1, ← hR1.fld ho hf1 (has_used hR ho c10)]; rfl) rfl (Nat.le_of_ble_eq_true rfl) (Nat.le_of_ble_eq_true rfl) dX6_link_54
        · refine w_aload_n X 0 rfl dX6_link_35 ?_
          refine w_iconst X (nI 1) dX6_link_36 (by decide +kernel) ?_
          refine w_muV X hA (gr := []) (gs1 := [moC g ad (rw2 (rw2 μ 5 (fun _ => nI (0))) 5 (fun _ => nI 1))]) [0] [] 0 0 (m_X6_fails l g ad (rw2 μ 5 (fun _ => nI (0))) 1) cv_X6_fails mk_X6_50 rfl rfl rfl (ng := 1) rfl (by decide) rfl rfl rfl rfl rfl rfl ⟨Nat.le_of_ble_eq_true rfl, Nat.le_of_ble_eq_true rfl⟩ (Nat.le_of_ble_eq_true rfl) ⟨Nat.le_of_ble_eq_true rfl, Nat.le_of_ble_eq_true rfl⟩ dX6_link_37 rfl ?_
          exact w_iret_me X ⟨rw2 (rw2 μ 5 (fun _ => nI (0))) 5 (fun _ => nI 1), by rw [linO, if_neg (by rw [c10]; decide), if_neg (by rw [c19]; decide), if_neg c24, if_pos c32]; exact mc_r (lk_1 _ _ _)⟩ (by rw [linO, if_neg (by rw [c10]; decide), if_neg (by rw [c19]; decide), if_neg c24, if_pos c32]; rfl) rfl (Nat.le_of_ble_eq_true rfl) (Nat.le_of_ble_eq_true rfl) dX6_link_40
set_option maxRecDepth 100000 in
set_option maxHeartbeats 4000000 in
theorem m_X6_root (l : Launch) (g : GG) (ad : Nat → Nat) (μ : Nat → Nat → Int32) (σ : Nat → Nat → Int32) (v : Nat) (x : Int32) (b : Bool) (hR : RI σ (μ 0)) (hv : μ 2 0 = nI v) (hv6 : v ≤ 6) : MME (U := {μ' : Nat → Nat → Int32 // MC (rtS σ x.toNatClampNeg (bI b)) (rooO σ x) [iOE] v μ μ'}) l g yX6_root cX6_root 3 (some .int) 4 0 0 [.ref (ad 0), .int (x), .int (bI (b))] [moC g ad μ] (some (.int (vO (rooO σ x)))) (fun u => [moC g ad u.1]) := by
  refine mk_me (by decide +kernel) (Nat.le_of_ble_eq_true rfl) (fun p e s m below meth c A hA X => ?_)
  refine w_aload_n X 0 rfl dX6_root_0 ?_
  refine w_iconst X (nI 0) dX6_root_1 (by decide +kernel) ?_
  refine w_put X 0 0 rfl rfl rfl in_X6 tyX6 tyX6_ok nmX6 5 (by decide) fk_X6_35 rfl rfl rfl rfl (Nat.le_of_ble_eq_true rfl) (show _ = moC g ad (rw2 μ 5 (fun _ => nI (0))) from rfl) dX6_root_2 ?_
  refine w_aload_n X 0 rfl dX6_root_5 ?_
  refine w_iload_n X 1 rfl dX6_root_6 ?_
  refine w_roV X [0] 0 0 (m_X6_isObject l g ad (rw2 μ 5 (fun _ => nI (0))) σ (x) (hR)) cv_X6_isObject mk_X6_112 rfl rfl rfl rfl rfl ⟨Nat.le_of_ble_eq_true rfl, Nat.le_of_ble_eq_true rfl⟩ (Nat.le_of_ble_eq_true rfl) ⟨Nat.le_of_ble_eq_true rfl, Nat.le_of_ble_eq_true rfl⟩ dX6_root_7 rfl ?_
  refine w_bf_ne X 19 dX6_root_10 (by decide) (fun c10 => ?_) (fun c10 => ?_)
  · obtain ⟨o, ho, rfl⟩ := vp_in_of (hasB_in c10) (by decide)
    refine w_aload_n X 0 rfl dX6_root_19 ?_
    refine w_meV X hA (U := {μ' : Nat → Nat → Int32 // SQ (rw2 μ 5 (fun _ => nI (0))) μ' v}) (gr := []) (gs1 := fun u => [moC g ad u.1]) [0] [] 0 0 (m_X6_saves l g ad (rw2 μ 5 (fun _ => nI (0))) v (hv) (hv6)) cv_X6_saves mk_X6_97 rfl rfl rfl (ng := 1) rfl (by decide) (fun _ => rfl) (fun _ => rfl) (fun _ => rfl) rfl rfl rfl ⟨Nat.le_of_ble_eq_true rfl, Nat.le_of_ble_eq_true rfl⟩ (Nat.le_of_ble_eq_true rfl) ⟨Nat.le_of_ble_eq_true rfl, Nat.le_of_ble_eq_true rfl⟩ dX6_root_20 rfl (fun u => ?_)
    obtain ⟨μ1, hμ1⟩ := u
    try dsimp only
    have hR1 : RI σ (μ1 0) := sq_R hμ1 hR
    refine w_aload_n X 0 rfl dX6_root_23 ?_
    refine w_iload_n X 1 rfl dX6_root_24 ?_
    refine w_bipush X (nI 6) dX6_root_25 (by decide +kernel) ?_
    refine w_iload_n X 2 rfl dX6_root_27 ?_
    refine w_bf_eq X 35 dX6_root_28 (by decide) (fun c28 => ?_) (fun c28 => ?_)
    · refine w_iconst X (nI 0) dX6_root_35 (by decide +kernel) ?_
      refine w_muV X hA (gr := []) (gs1 := [moC g ad (rw2 μ1 0 (upd (μ1 0) (24 + 9 * o + 6) (nI (0))))]) [0] [] 0 0 (m_X6_changes l g ad μ1 o 6 (nI (0)) (by omega) (by omega)) cv_X6_changes mk_X6_115 rfl rfl rfl (ng := 1) rfl (by decide) rfl rfl rfl rfl rfl rfl ⟨Nat.le_of_ble_eq_true rfl, Nat.le_of_ble_eq_true rfl⟩ (Nat.le_of_ble_eq_true rfl) ⟨Nat.le_of_ble_eq_true rfl, Nat.le_of_ble_eq_true rfl⟩ dX6_root_36 rfl ?_
      exact w_iret_me X ⟨rw2 μ1 0 (upd (μ1 0) (24 + 9 * o + 6) (nI (0))), by rw [rooO, if_neg (by rw [c10]; decide), nI_clamp (by omega)]; exact mc_l hμ1 (fun j hj => rw2_n _ _ hj) (by have := ri_root hR1 ho (has_used hR ho c10) b; rw [c28] at this; rw [c28]; exact this)⟩ (by rw [rooO, if_neg (by rw [c10]; decide), nI_clamp (by omega)]; exact (hR1.at ho (has_used hR ho c10)).2.2.2.2.2.1.trans (bI_nz (hR.1.1 o ho).2.1)) rfl (Nat.le_of_ble_eq_true rfl) (Nat.le_of_ble_eq_true rfl) dX6_root_39
    · refine w_iconst X (nI 1) dX6_root_31 (by decide +kernel) ?_
      refine w_goto X 36 dX6_root_32 (by decide) ?_
      refine w_muV X hA (gr := []) (gs1 := [moC g ad (rw2 μ1 0 (upd (μ1 0) (24 + 9 * o + 6) (nI (1))))]) [0] [] 0 0 (m_X6_changes l g ad μ1 o 6 (nI (1)) (by omega) (by omega)) cv_X6_changes mk_X6_115 rfl rfl rfl (ng := 1) rfl (by decide) rfl rfl rfl rfl rfl rfl ⟨Nat.le_of_ble_eq_true rfl, Nat.le_of_ble_eq_true rfl⟩ (Nat.le_of_ble_eq_true rfl) ⟨Nat.le_of_ble_eq_true rfl, Nat.le_of_ble_eq_true rfl⟩ dX6_root_36 rfl ?_
      exact w_iret_me X ⟨rw2 μ1 0 (upd (μ1 0) (24 + 9 * o + 6) (nI (1))), by rw [rooO, if_neg (by rw [c10]; decide), nI_clamp (by omega)]; exact mc_l hμ1 (fun j hj => rw2_n _ _ hj) (by have := ri_root hR1 ho (has_used hR ho c10) b; rw [c28] at this; rw [c28]; exact this)⟩ (by rw [rooO, if_neg (by rw [c10]; decide), nI_clamp (by omega)]; exact (hR1.at ho (has_used hR ho c10)).2.2.2.2.2.1.trans (bI_nz (hR.1.1 o ho).2.1)) rfl (Nat.le_of_ble_eq_true rfl) (Nat.le_of_ble_eq_true rfl) dX6_root_39
  · refine w_aload_n X 0 rfl dX6_root_13 ?_
    refine w_iconst X (nI 1) dX6_root_14 (by decide +kernel) ?_
    refine w_muV X hA (gr := []) (gs1 := [moC g ad (rw2 (rw2 μ 5 (fun _ => nI (0))) 5 (fun _ => nI 1))]) [0] [] 0 0 (m_X6_fails l g ad (rw2 μ 5 (fun _ => nI (0))) 1) cv_X6_fails mk_X6_50 rfl rfl rfl (ng := 1) rfl (by decide) rfl rfl rfl rfl rfl rfl ⟨Nat.le_of_ble_eq_true rfl, Nat.le_of_ble_eq_true rfl⟩ (Nat.le_of_ble_eq_true rfl) ⟨Nat.le_of_ble_eq_true rfl, Nat.le_of_ble_eq_true rfl⟩ dX6_root_15 rfl ?_
    exact w_iret_me X ⟨rw2 (rw2 μ 5 (fun _ => nI (0))) 5 (fun _ => nI 1), by rw [rooO, if_pos c10]; exact mc_r (lk_1 _ _ _)⟩ (by rw [rooO, if_pos c10]; rfl) rfl (Nat.le_of_ble_eq_true rfl) (Nat.le_of_ble_eq_true rfl) dX6_root_18
set_option maxRecDepth 100000 in
set_option maxHeartbeats 4000000 in
theorem m_X6_pin (l : Launch) (g : GG) (ad : Nat → Nat) (μ : Nat → Nat → Int32) (σ : Nat → Nat → Int32) (v : Nat) (x : Int32) (b : Bool) (hR : RI σ (μ 0)) (hv : μ 2 0 = nI v) (hv6 : v ≤ 6) : MME (U := {μ' : Nat → Nat → Int32 // MC (pnS σ x.toNatClampNeg (bI b)) (pinO σ x b) [iOE] v μ μ'}) l g yX6_pin cX6_pin 3 (some .int) 4 0 0 [.ref (ad 0), .int (x), .int (bI (b))] [moC g ad μ] (some (.int (vO (pinO σ x b)))) (fun u => [moC g ad u.1]) := by
  refine mk_me (by decide +kernel) (Nat.le_of_ble_eq_true rfl) (fun p e s m below meth c A hA X => ?_)
  refine w_aload_n X 0 rfl dX6_pin_0 ?_
  refine w_iconst X (nI 0) dX6_pin_1 (by decide +kernel) ?_
  refine w_put X 0 0 rfl rfl rfl in_X6 tyX6 tyX6_ok nmX6 5 (by decide) fk_X6_35 rfl rfl rfl rfl (Nat.le_of_ble_eq_true rfl) (show _ = moC g ad (rw2 μ 5 (fun _ => nI (0))) from rfl) dX6_pin_2 ?_
  refine w_aload_n X 0 rfl dX6_pin_5 ?_
  refine w_iload_n X 1 rfl dX6_pin_6 ?_
  refine w_roV X [0] 0 0 (m_X6_isObject l g ad (rw2 μ 5 (fun _ => nI (0))) σ (x) (hR)) cv_X6_isObject mk_X6_112 rfl rfl rfl rfl rfl ⟨Nat.le_of_ble_eq_true rfl, Nat.le_of_ble_eq_true rfl⟩ (Nat.le_of_ble_eq_true rfl) ⟨Nat.le_of_ble_eq_true rfl, Nat.le_of_ble_eq_true rfl⟩ dX6_pin_7 rfl ?_
  refine w_bf_ne X 19 dX6_pin_10 (by decide) (fun c10 => ?_) (fun c10 => ?_)
  · obtain ⟨o, ho, rfl⟩ := vp_in_of (hasB_in c10) (by decide)
    refine w_aload_n X 0 rfl dX6_pin_19 ?_
    refine w_meV X hA (U := {μ' : Nat → Nat → Int32 // SQ (rw2 μ 5 (fun _ => nI (0))) μ' v}) (gr := []) (gs1 := fun u => [moC g ad u.1]) [0] [] 0 0 (m_X6_saves l g ad (rw2 μ 5 (fun _ => nI (0))) v (hv) (hv6)) cv_X6_saves mk_X6_97 rfl rfl rfl (ng := 1) rfl (by decide) (fun _ => rfl) (fun _ => rfl) (fun _ => rfl) rfl rfl rfl ⟨Nat.le_of_ble_eq_true rfl, Nat.le_of_ble_eq_true rfl⟩ (Nat.le_of_ble_eq_true rfl) ⟨Nat.le_of_ble_eq_true rfl, Nat.le_of_ble_eq_true rfl⟩ dX6_pin_20 rfl (fun u => ?_)
    obtain ⟨μ1, hμ1⟩ := u
    try dsimp only
    have hR1 : RI σ (μ1 0) := sq_R hμ1 hR
    refine w_aload_n X 0 rfl dX6_pin_23 ?_
    refine w_iload_n X 1 rfl dX6_pin_24 ?_
    refine w_bipush X (nI 7) dX6_pin_25 (by decide +kernel) ?_
    refine w_iload_n X 2 rfl dX6_pin_27 ?_
    refine w_bf_eq X 35 dX6_pin_28 (by decide) (fun c28 => ?_) (fun c28 => ?_)
    · refine w_iconst X (nI 0) dX6_pin_35 (by decide +kernel) ?_
      refine w_muV X hA (gr := []) (gs1 := [moC g ad (rw2 μ1 0 (upd (μ1 0) (24 + 9 * o + 7) (nI (0))))]) [0] [] 0 0 (m_X6_changes l g ad μ1 o 7 (nI (0)) (by omega) (by omega)) cv_X6_changes mk_X6_115 rfl rfl rfl (ng := 1) rfl (by decide) rfl rfl rfl rfl rfl rfl ⟨Nat.le_of_ble_eq_true rfl, Nat.le_of_ble_eq_true rfl⟩ (Nat.le_of_ble_eq_true rfl) ⟨Nat.le_of_ble_eq_true rfl, Nat.le_of_ble_eq_true rfl⟩ dX6_pin_36 rfl ?_
      have hR2 : RI (pnS σ o (bI b)) ((rw2 μ1 0 (upd (μ1 0) (24 + 9 * o + 7) (nI (0)))) 0) := by have := ri_pin hR1 ho (has_used hR ho c10) b; rw [c28] at this ⊢; exact this
      refine w_pop X dX6_pin_39 rfl ?_
      refine w_aload_n X 0 rfl dX6_pin_40 ?_
      refine w_aload_n X 0 rfl dX6_pin_41 ?_
      refine w_iload_n X 1 rfl dX6_pin_42 ?_
      refine w_iconst X (nI 1) dX6_pin_43 (by decide +kernel) ?_
      refine w_roV X [0] 0 0 (m_X6_of l g ad (rw2 μ1 0 (upd (μ1 0) (24 + 9 * o + 7) (nI (0)))) o 1 (by omega) (by omega)) cv_X6_of mk_X6_43 rfl rfl rfl rfl rfl ⟨Nat.le_of_ble_eq_true rfl, Nat.le_of_ble_eq_true rfl⟩ (Nat.le_of_ble_eq_true rfl) ⟨Nat.le_of_ble_eq_true rfl, Nat.le_of_ble_eq_true rfl⟩ dX6_pin_44 rfl ?_
      refine w_roV X [0] 0 0 (m_X6_pinned l g ad (rw2 μ1 0 (upd (μ1 0) (24 + 9 * o + 7) (nI (0)))) (pnS σ o (bI b)) ((rw2 μ1 0 (upd (μ1 0) (24 + 9 * o + 7) (nI (0)))) 0 (24 + 9 * o + 1)) (hR2)) cv_X6_pinned mk_X6_119 rfl rfl rfl rfl rfl ⟨Nat.le_of_ble_eq_true rfl, Nat.le_of_ble_eq_true rfl⟩ (Nat.le_of_ble_eq_true rfl) ⟨Nat.le_of_ble_eq_true rfl, Nat.le_of_ble_eq_true rfl⟩ dX6_pin_47 rfl ?_
      exact w_iret_me X ⟨rw2 μ1 0 (upd (μ1 0) (24 + 9 * o + 7) (nI (0))), by rw [pinO, if_neg (by rw [c10]; decide)]; exact mc_l hμ1 (fun j hj => rw2_n _ _ hj) (by rw [nI_clamp (by omega)]; exact hR2)⟩ (by rw [pinO, if_neg (by rw [c10]; decide), nI_clamp (by omega), (hR2.at ho (has_used hR ho c10)).1]; rfl) rfl (Nat.le_of_ble_eq_true rfl) (Nat.le_of_ble_eq_true rfl) dX6_pin_50
    · refine w_iconst X (nI 1) dX6_pin_31 (by decide +kernel) ?_
      refine w_goto X 36 dX6_pin_32 (by decide) ?_
      refine w_muV X hA (gr := []) (gs1 := [moC g ad (rw2 μ1 0 (upd (μ1 0) (24 + 9 * o + 7) (nI (1))))]) [0] [] 0 0 (m_X6_changes l g ad μ1 o 7 (nI (1)) (by omega) (by omega)) cv_X6_changes mk_X6_115 rfl rfl rfl (ng := 1) rfl (by decide) rfl rfl rfl rfl rfl rfl ⟨Nat.le_of_ble_eq_true rfl, Nat.le_of_ble_eq_true rfl⟩ (Nat.le_of_ble_eq_true rfl) ⟨Nat.le_of_ble_eq_true rfl, Nat.le_of_ble_eq_true rfl⟩ dX6_pin_36 rfl ?_
      have hR2 : RI (pnS σ o (bI b)) ((rw2 μ1 0 (upd (μ1 0) (24 + 9 * o + 7) (nI (1)))) 0) := by have := ri_pin hR1 ho (has_used hR ho c10) b; rw [c28] at this ⊢; exact this
      refine w_pop X dX6_pin_39 rfl ?_
      refine w_aload_n X 0 rfl dX6_pin_40 ?_
      refine w_aload_n X 0 rfl dX6_pin_41 ?_
      refine w_iload_n X 1 rfl dX6_pin_42 ?_
      refine w_iconst X (nI 1) dX6_pin_43 (by decide +kernel) ?_
      refine w_roV X [0] 0 0 (m_X6_of l g ad (rw2 μ1 0 (upd (μ1 0) (24 + 9 * o + 7) (nI (1)))) o 1 (by omega) (by omega)) cv_X6_of mk_X6_43 rfl rfl rfl rfl rfl ⟨Nat.le_of_ble_eq_true rfl, Nat.le_of_ble_eq_true rfl⟩ (Nat.le_of_ble_eq_true rfl) ⟨Nat.le_of_ble_eq_true rfl, Nat.le_of_ble_eq_true rfl⟩ dX6_pin_44 rfl ?_
      refine w_roV X [0] 0 0 (m_X6_pinned l g ad (rw2 μ1 0 (upd (μ1 0) (24 + 9 * o + 7) (nI (1)))) (pnS σ o (bI b)) ((rw2 μ1 0 (upd (μ1 0) (24 + 9 * o + 7) (nI (1)))) 0 (24 + 9 * o + 1)) (hR2)) cv_X6_pinned mk_X6_119 rfl rfl rfl rfl rfl ⟨Nat.le_of_ble_eq_true rfl, Nat.le_of_ble_eq_true rfl⟩ (Nat.le_of_ble_eq_true rfl) ⟨Nat.le_of_ble_eq_true rfl, Nat.le_of_ble_eq_true rfl⟩ dX6_pin_47 rfl ?_
      exact w_iret_me X ⟨rw2 μ1 0 (upd (μ1 0) (24 + 9 * o + 7) (nI (1))), by rw [pinO, if_neg (by rw [c10]; decide)]; exact mc_l hμ1 (fun j hj => rw2_n _ _ hj) (by rw [nI_clamp (by omega)]; exact hR2)⟩ (by rw [pinO, if_neg (by rw [c10]; decide), nI_clamp (by omega), (hR2.at ho (has_used hR ho c10)).1]; rfl) rfl (Nat.le_of_ble_eq_true rfl) (Nat.le_of_ble_eq_true rfl) dX6_pin_50
  · refine w_aload_n X 0 rfl dX6_pin_13 ?_
    refine w_iconst X (nI 1) dX6_pin_14 (by decide +kernel) ?_
    refine w_muV X hA (gr := []) (gs1 := [moC g ad (rw2 (rw2 μ 5 (fun _ => nI (0))) 5 (fun _ => nI 1))]) [0] [] 0 0 (m_X6_fails l g ad (rw2 μ 5 (fun _ => nI (0))) 1) cv_X6_fails mk_X6_50 rfl rfl rfl (ng := 1) rfl (by decide) rfl rfl rfl rfl rfl rfl ⟨Nat.le_of_ble_eq_true rfl, Nat.le_of_ble_eq_true rfl⟩ (Nat.le_of_ble_eq_true rfl) ⟨Nat.le_of_ble_eq_true rfl, Nat.le_of_ble_eq_true rfl⟩ dX6_pin_15 rfl ?_
    exact w_iret_me X ⟨rw2 (rw2 μ 5 (fun _ => nI (0))) 5 (fun _ => nI 1), by rw [pinO, if_pos c10]; exact mc_r (lk_1 _ _ _)⟩ (by rw [pinO, if_pos c10]; rfl) rfl (Nat.le_of_ble_eq_true rfl) (Nat.le_of_ble_eq_true rfl) dX6_pin_18
