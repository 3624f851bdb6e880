/-! The model: who is met -/
def cn (P : Nat → Bool) : Nat → Nat
  | 0 => 0
  | n + 1 => cn P n + if P n = true then 1 else 0
theorem cn_le (P : Nat → Bool) : ∀ n, cn P n ≤ n
  | 0 => Nat.le_refl _
  | n + 1 => by
    have := cn_le P n
    rw [cn]
    split <;> omega
theorem cn_lt {P : Nat → Bool} {j : Nat} (h : P j = false) : ∀ n, j < n → cn P n < n
  | 0, hn => by omega
  | n + 1, hn => by
    rw [cn]
    by_cases e : j = n
    · subst e
      rw [h, if_neg (by decide)]
      have := cn_le P j
      omega
    · have := cn_lt h n (by omega)
      split <;> omega
theorem cn_eq {P Q : Nat → Bool} : ∀ n, (∀ i, i < n → P i = Q i) → cn P n = cn Q n
  | 0, _ => rfl
  | n + 1, h => by rw [cn, cn, cn_eq n (fun i hi => h i (by omega)), h n (by omega)]
theorem cn_up {P Q : Nat → Bool} {j : Nat} (hp : P j = false) (hq : Q j = true) (h : ∀ i, i ≠ j → P i = Q i) : ∀ n, j < n → cn Q n = cn P n + 1
  | 0, hn => by omega
  | n + 1, hn => by
    rw [cn, cn]
    by_cases e : j = n
    · subst e
      rw [hp, hq, cn_eq (P := P) (Q := Q) j (fun i hi => h i (by omega))]
      rfl
    · rw [cn_up hp hq h n (by omega), h n (by omega)]
      omega
def mtM (μ : Nat → Nat → Int32) (q o d : Nat) : Nat → Nat → Int32 := rw2 (rw2 (rw2 μ 11 (upd (μ 11) o (nI d))) 12 (upd (μ 12) q (nI o))) 13 (fun _ => nI (q + 1))
def scr (μ μ' : Nat → Nat → Int32) : Prop := ∀ k, k < 11 → μ' k = μ k
theorem scr.rf (μ : Nat → Nat → Int32) : scr μ μ := fun _ _ => rfl
theorem scr.tr {μ μ' μ'' : Nat → Nat → Int32} (h : scr μ μ') (h' : scr μ' μ'') : scr μ μ'' := fun k hk => (h' k hk).trans (h k hk)
theorem scr.mt (μ : Nat → Nat → Int32) (q o d : Nat) : scr μ (mtM μ q o d) := fun k hk => by
  rw [mtM, rw2_n _ _ (by omega), rw2_n _ _ (by omega), rw2_n _ _ (by omega)]
theorem scr.RI {σ μ μ' : Nat → Nat → Int32} (h : scr μ μ') (hR : RI σ (μ 0)) : RI σ (μ' 0) := by rw [h 0 (by decide)]; exact hR
def plB (ρ : Nat → Nat → Int32) (j : Nat) : Bool := if ρ 1 j = -1 then false else true
/-- the model's far, met, meets are the class's steps, order, met -/
def FM (σ μ ρ : Nat → Nat → Int32) (q : Nat) : Prop := q ≤ 24 ∧ ρ 3 0 = nI q ∧ μ 13 0 = nI q ∧ (∀ i, i < q → ∃ j d, j < 24 ∧ d ≤ i ∧ ρ 0 i = nI j ∧ μ 12 i = nI j ∧ ρ 1 j = nI i ∧ ρ 2 j = nI d ∧ μ 11 j = nI d ∧ σ 0 j = nI 1) ∧ (∀ j, j < 24 → (ρ 1 j = -1 ∧ ρ 2 j = -1 ∧ μ 11 j = -1) ∨ ∃ i, i < q ∧ ρ 1 j = nI i ∧ ρ 0 i = nI j) ∧ cn (plB ρ) 24 = q
section FMS
variable {σ μ ρ : Nat → Nat → Int32} {q : Nat}
theorem FM.un (h : FM σ μ ρ q) {j : Nat} (hj : j < 24) : (μ 11 j = -1 ↔ ρ 1 j = -1) := by
  rcases h.2.2.2.2.1 j hj with e | ⟨i, hi, e1, e2⟩
  · exact ⟨fun _ => e.1, fun _ => e.2.2⟩
  · obtain ⟨k, d, hk, hd, f1, f2, f3, f4, f5, f6⟩ := h.2.2.2.1 i hi
    have hq := h.1
    have e3 : j = k := (nI_eq (by omega) (by omega)).mp (e2.symm.trans f1)
    subst e3
    rw [e1, f5]
    exact ⟨fun e => absurd e (nI_ne (by omega)), fun e => absurd e (nI_ne (by omega))⟩
theorem FM.lt (h : FM σ μ ρ q) {j : Nat} (hj : j < 24) (hu : ρ 1 j = -1) : q < 24 := by
  rw [← h.2.2.2.2.2]
  exact cn_lt (P := plB ρ) (if_pos hu) 24 hj
theorem meet_on {o : Nat} (ho : o < 24) (s : Int32) (hq : q < 24) (hm : ρ 3 0 = nI q) : meetR ρ (nI o) s = if ρ 1 o = -1 then meetW ρ (nI o) s else ρ := by
  rw [meetR, if_neg (nI_nlt0 (by omega)), if_neg (nI_nge ho (by decide)), hm, if_neg (nI_nlt0 (by omega)), if_pos ((nI_ltI (by omega) (by decide)).mpr hq), nI_clamp (by omega)]
theorem meet_off {o : Nat} (s : Int32) (h : ¬ ρ 1 o = -1) (ho : o < 24) : meetR ρ (nI o) s = ρ := by
  rw [meetR, nI_clamp (by omega), if_neg h]
  split <;> first | rfl | (split <;> first | rfl | (split <;> first | rfl | (split <;> rfl)))
theorem FM.meet (h : FM σ μ ρ q) {o d : Nat} (ho : o < 24) (hd : d ≤ q) (hu : ρ 1 o = -1) (hs : σ 0 o = nI 1) : FM σ (mtM μ q o d) (meetR ρ (nI o) (nI d)) (q + 1) := by
  have hq := h.lt ho hu
  obtain ⟨-, h3, h13, hm, hc, hn⟩ := h
  have w : meetR ρ (nI o) (nI d) = meetW ρ (nI o) (nI d) := by rw [meet_on ho _ hq h3, if_pos hu]
  have cq : (nI q).toNatClampNeg = q := nI_clamp (by omega)
  have co : (nI o).toNatClampNeg = o := nI_clamp (by omega)
  have r3 : meetR ρ (nI o) (nI d) 3 0 = nI (q + 1) := by rw [w, meetW, rw2_s, h3, nI_add]
  have r0 : ∀ i, meetR ρ (nI o) (nI d) 0 i = if i = q then nI o else ρ 0 i := fun i => by
    rw [w, meetW, rw2_n _ _ (by decide), rw2_n _ _ (by decide), rw2_n _ _ (by decide), rw2_s, h3, cq, upd_e]
  have r1 : ∀ j, meetR ρ (nI o) (nI d) 1 j = if j = o then nI q else ρ 1 j := fun j => by
    rw [w, meetW, rw2_n _ _ (by decide), rw2_n _ _ (by decide), rw2_s, h3, co, upd_e]
  have r2 : ∀ j, meetR ρ (nI o) (nI d) 2 j = if j = o then nI d else ρ 2 j := fun j => by
    rw [w, meetW, rw2_n _ _ (by decide), rw2_s, co, upd_e]
  have m11 : ∀ j, mtM μ q o d 11 j = if j = o then nI d else μ 11 j := fun j => by
    rw [mtM, rw2_n _ _ (by decide), rw2_n _ _ (by decide), rw2_s, upd_e]
  have m12 : ∀ i, mtM μ q o d 12 i = if i = q then nI o else μ 12 i := fun i => by
    rw [mtM, rw2_n _ _ (by decide), rw2_s, upd_e]
  have m13 : mtM μ q o d 13 0 = nI (q + 1) := by rw [mtM, rw2_s]
  refine ⟨by omega, r3, m13, fun i hi => ?_, fun j hj => ?_, ?_⟩
  · by_cases e : i = q
    · subst e
      exact ⟨o, d, ho, hd, by rw [r0, if_pos rfl], by rw [m12, if_pos rfl], by rw [r1, if_pos rfl], by rw [r2, if_pos rfl], by rw [m11, if_pos rfl], hs⟩
    · obtain ⟨j, d2, hj, hd2, e1, e2, e3, e4, e5, e6⟩ := hm i (by omega)
      have hjo : ¬ j = o := fun e => by
        rw [e, hu] at e3
        exact nI_ne (by omega) e3.symm
      exact ⟨j, d2, hj, hd2, by rw [r0, if_neg e, e1], by rw [m12, if_neg e, e2], by rw [r1, if_neg hjo, e3], by rw [r2, if_neg hjo, e4], by rw [m11, if_neg hjo, e5], e6⟩
  · by_cases e : j = o
    · subst e
      exact Or.inr ⟨q, by omega, by rw [r1, if_pos rfl], by rw [r0, if_pos rfl]⟩
    · rcases hc j hj with ⟨e1, e2, e3⟩ | ⟨i, hi, e1, e2⟩
      · exact Or.inl ⟨by rw [r1, if_neg e, e1], by rw [r2, if_neg e, e2], by rw [m11, if_neg e, e3]⟩
      · exact Or.inr ⟨i, by omega, by rw [r1, if_neg e, e1], by rw [r0, if_neg (by omega), e2]⟩
  · rw [cn_up (P := plB ρ) (Q := plB (meetR ρ (nI o) (nI d))) (j := o) (if_pos hu) (by rw [plB, r1, if_pos rfl, if_neg (nI_ne (by omega))]) (fun i hi => by rw [plB, plB, r1, if_neg hi]) 24 ho, hn]
end FMS
set_option maxRecDepth 100000 in
set_option maxHeartbeats 4000000 in
theorem m_X6_meets (l : Launch) (g : GG) (ad : Nat → Nat) (μ : Nat → Nat → Int32) (q : Nat) (o : Nat) (d : Nat) (ho : o < 24) (hq : q < 24) (hm : μ 13 0 = nI q) : MMU l g yX6_meets cX6_meets 3 none 0 0 0 [.ref (ad 0), .int (nI o), .int (nI d)] [moC g ad μ] (none) [moC g ad (mtM μ q o d)] := by
  refine mk_mu (by decide +kernel) (Nat.le_of_ble_eq_true rfl) (fun p e s m below meth c A hA X => ?_)
  refine w_aload_n X 0 rfl dX6_meets_0 ?_
  refine w_get X 0 0 rfl rfl rfl in_X6 11 (by decide) fk_X6_22 rfl dX6_meets_1 ?_
  refine w_iload_n X 1 rfl dX6_meets_4 ?_
  refine w_iload_n X 2 rfl dX6_meets_5 ?_
  refine w_iast_n X 0 5 0 rfl rfl rfl (by omega) (by decide) (show _ = moC g ad (rw2 μ 11 (upd (μ 11) o (nI (d)))) from rfl) dX6_meets_6 ?_
  refine w_aload_n X 0 rfl dX6_meets_7 ?_
  refine w_get X 0 0 rfl rfl rfl in_X6 12 (by decide) fk_X6_25 rfl dX6_meets_8 ?_
  refine w_aload_n X 0 rfl dX6_meets_11 ?_
  refine w_get X 0 0 rfl rfl rfl in_X6 13 (by decide) fk_X6_54 rfl dX6_meets_12 ?_
  refine w_st (st2 := [.int (μ 13 0), .ref (ad 6)]) rfl ?_
  refine w_st (st2 := [.int (nI q), .ref (ad 6)]) (by rw [hm]) ?_
  refine w_iload_n X 1 rfl dX6_meets_15 ?_
  refine w_iast_n X 0 6 0 rfl rfl rfl (by omega) (by decide) (show _ = moC g ad (rw2 (rw2 μ 11 (upd (μ 11) o (nI (d)))) 12 (upd (μ 12) q (nI (o)))) from rfl) dX6_meets_16 ?_
  refine w_aload_n X 0 rfl dX6_meets_17 ?_
  refine w_dup X dX6_meets_18 rfl ?_
  refine w_get X 0 0 rfl rfl rfl in_X6 13 (by decide) fk_X6_54 rfl dX6_meets_19 ?_
  refine w_st (st2 := [.int (μ 13 0), .ref (ad 0)]) rfl ?_
  refine w_st (st2 := [.int (nI q), .ref (ad 0)]) (by rw [hm]) ?_
  refine w_iconst X (nI 1) dX6_meets_22 (by decide +kernel) ?_
  refine w_iadd_n X dX6_meets_23 ?_
  refine w_put X 0 0 rfl rfl rfl in_X6 tyX6 tyX6_ok nmX6 13 (by decide) fk_X6_54 rfl rfl rfl rfl (Nat.le_of_ble_eq_true rfl) (show _ = moC g ad (rw2 (rw2 (rw2 μ 11 (upd (μ 11) o (nI (d)))) 12 (upd (μ 12) q (nI (o)))) 13 (fun _ => nI (q + 1))) from rfl) dX6_meets_24 ?_
  exact w_vret_mu X (rfl) (Nat.le_of_ble_eq_true rfl) (Nat.le_of_ble_eq_true rfl) dX6_meets_27
theorem meet_1 {ρ : Nat → Nat → Int32} {o j : Nat} (ho : o < 24) (s : Int32) (h : ¬ j = o) : meetR ρ (nI o) s 1 j = ρ 1 j := by
  have w : meetW ρ (nI o) s 1 j = ρ 1 j := by rw [meetW, rw2_n _ _ (by decide), rw2_n _ _ (by decide), rw2_s, nI_clamp (by omega), upd_e, if_neg h]
  rw [meetR]
  split
  · rfl
  · split
    · rfl
    · split
      · rfl
      · split
        · split
          · exact w
          · rfl
        · rfl
theorem mt12 (μ : Nat → Nat → Int32) (q o d : Nat) {k : Nat} (h : ¬ k = q) : mtM μ q o d 12 k = μ 12 k := by rw [mtM, rw2_n _ _ (by decide), rw2_s, upd_e, if_neg h]
theorem mt11 (μ : Nat → Nat → Int32) (q o d : Nat) {k : Nat} (h : ¬ k = o) : mtM μ q o d 11 k = μ 11 k := by rw [mtM, rw2_n _ _ (by decide), rw2_n _ _ (by decide), rw2_s, upd_e, if_neg h]
theorem folL_end {σ μ ρ : Nat → Nat → Int32} {a w : Int32} {q k n : Nat} (h : FM σ μ ρ q) (hc : μ 13 0 ≤ nI k) : folL σ a w n k ρ = ρ := by
  cases n with
  | zero => rfl
  | succ n => rw [folL, if_pos (by rw [h.2.1, ← h.2.2.1]; exact hc)]
theorem sar_un (σ ρ : Nat → Nat → Int32) (w : Int32) : ∀ n j : Nat, n ≤ j → j < 24 → sarL σ ρ w n 1 j = -1
  | 0, j, _, hj => ((forget_at ρ 24).2 j hj).1
  | n + 1, j, h, hj => by
    rw [sarL]
    split
    · exact sar_un σ ρ w n j (by omega) hj
    · split
      · exact sar_un σ ρ w n j (by omega) hj
      · split
        · exact sar_un σ ρ w n j (by omega) hj
        · rw [meet_1 (by omega) _ (by omega)]
          exact sar_un σ ρ w n j (by omega) hj
theorem fm_0 {σ μ : Nat → Nat → Int32} (h0 : μ 13 0 = nI 0) (h1 : ∀ j, j < 24 → μ 11 j = -1) : FM σ μ (forgetL ρ0 24) 0 :=
  ⟨by decide, (forget_at ρ0 24).1, h0, fun i hi => by omega, fun j hj => Or.inl ⟨((forget_at ρ0 24).2 j hj).1, ((forget_at ρ0 24).2 j hj).2, h1 j hj⟩, by
    have e : ∀ n, n ≤ 24 → cn (plB (forgetL ρ0 24)) n = 0 := by
      intro n
      induction n with
      | zero => intro _; rfl
      | succ n ih => intro h; rw [cn, ih (by omega), plB, if_pos ((forget_at ρ0 24).2 n (by omega)).1]; rfl
    exact e 24 (by decide)⟩
section SAR
variable {σ ρ : Nat → Nat → Int32} {N : Nat → Int32} {w : Int32} {o : Nat}
theorem sar_1 (hR : RI σ N) (ho : o < 24) (h : ¬ N (24 + 9 * o + 0) = nI 1) : sarL σ ρ w (o + 1) = sarL σ ρ w o := by
  rw [sarL, hR.has ho, if_neg h, if_pos rfl]
  split <;> rfl
theorem sar_2 (hR : RI σ N) (ho : o < 24) (h0 : N (24 + 9 * o + 0) = nI 1) (h : ¬ N (24 + 9 * o + 6) = nI 1) : sarL σ ρ w (o + 1) = sarL σ ρ w o := by
  have e : σ 5 o = 0 := by
    have e1 := (hR.at ho ((hR.used ho).symm.trans h0)).2.2.2.2.2.1
    rcases (hR.1.1 o ho).2.1 with e | e
    · exact e
    · exact absurd (e1.trans e) h
  rw [sarL, if_pos e]
  split <;> first | rfl | (split <;> rfl)
theorem sar_3 (h : nI o = w) : sarL σ ρ w (o + 1) = sarL σ ρ w o := by rw [sarL, if_pos h]
theorem sar_4 (hR : RI σ N) (ho : o < 24) (h0 : N (24 + 9 * o + 0) = nI 1) (h1 : N (24 + 9 * o + 6) = nI 1) (h : ¬ nI o = w) : sarL σ ρ w (o + 1) = meetR (sarL σ ρ w o) (nI o) (nI 0) := by
  have e1 := (hR.at ho ((hR.used ho).symm.trans h0)).2.2.2.2.2.1
  rw [sarL, if_neg h, hR.has ho, if_pos h0, if_neg (by decide), if_neg (by rw [← e1, h1]; decide)]
end SAR
section FOL
variable {σ ρ : Nat → Nat → Int32} {w s : Int32} {j f t : Nat}
theorem fol_eq (hj : j < 24) (hf : f < 2) : fol1 σ (-1) w ρ (nI j) s f = if σ 4 (j * 2 + f) = w then ρ else meetR ρ (σ 4 (j * 2 + f)) s := by
  rw [fol1, ref_nI σ hj hf, if_pos (rfl : (-1 : Int32) = -1)]
theorem fol_s1 (hj : j < 24) (hf : f < 2) (h : σ 4 (j * 2 + f) = -1) : fol1 σ (-1) w ρ (nI j) s f = ρ := by
  rw [fol_eq hj hf, h]
  split
  · rfl
  · rw [meetR, if_pos (by decide)]
theorem fol_s2 (hj : j < 24) (hf : f < 2) (ht : t < 24) (h : σ 4 (j * 2 + f) = nI t) (hp : ¬ ρ 1 t = -1) : fol1 σ (-1) w ρ (nI j) s f = ρ := by
  rw [fol_eq hj hf, h]
  split
  · rfl
  · exact meet_off s hp ht
theorem fol_s3 (hj : j < 24) (hf : f < 2) (h : σ 4 (j * 2 + f) = nI t) (hw : nI t = w) : fol1 σ (-1) w ρ (nI j) s f = ρ := by
  rw [fol_eq hj hf, h, if_pos hw]
theorem fol_go (hj : j < 24) (hf : f < 2) (h : σ 4 (j * 2 + f) = nI t) (hw : ¬ nI t = w) : fol1 σ (-1) w ρ (nI j) s f = meetR ρ (nI t) s := by
  rw [fol_eq hj hf, h, if_neg hw]
end FOL
def folJ (σ : Nat → Nat → Int32) (w : Int32) (ρ : Nat → Nat → Int32) (j d : Nat) : Nat → Nat → Nat → Int32
  | 0 => ρ
  | f + 1 => fol1 σ (-1) w (folJ σ w ρ j d f) (nI j) (nI (d + 1)) f
theorem folJ_2 {σ ρ : Nat → Nat → Int32} {w : Int32} {k j d : Nat} (hj : j < 24) (h0 : ρ 0 k = nI j) (h2 : ρ 2 j = nI d) : folS σ (-1) w ρ k = folJ σ w ρ j d 2 := by
  rw [folS, h0, stepI, if_neg (nI_nlt0 (by omega)), if_neg (nI_nge hj (by decide)), nI_clamp (by omega), h2, nI_add]
  rfl
theorem RI.fls {σ : Nat → Nat → Int32} {N : Nat → Int32} (hR : RI σ N) {j f t : Nat} (hj : j < 24) (hf : f < 2) (hu : σ 0 j = nI 1) (ht : N (24 + 9 * j + (4 + f)) = nI t) (ht2 : t < 24) : σ 4 (j * 2 + f) = nI t ∧ σ 0 t = nI 1 := by
  rw [hR.fld hj hf hu] at ht
  refine ⟨ht, ?_⟩
  rcases hR.1.2.2.2.2.2.1 j f hj hf with e | ⟨k, hk, e, u⟩
  · exact absurd (ht.symm.trans e) (nI_ne (by omega))
  · rw [(nI_eq (by omega) (by omega)).mp (ht.symm.trans e)]
    exact u
set_option maxRecDepth 100000 in
set_option maxHeartbeats 4000000 in
theorem m_X6_meetsAll (l : Launch) (g : GG) (ad : Nat → Nat) (μ : Nat → Nat → Int32) (σ : Nat → Nat → Int32) (x : Int32) (hR : RI σ (μ 0)) : MME (U := {μ' : Nat → Nat → Int32 // scr μ μ' ∧ ∃ q, FM σ μ' (trC σ x) q}) l g yX6_meetsAll cX6_meetsAll 5 none 2 0 0 [.ref (ad 0), .int (x)] [moC g ad μ] (none) (fun u => [moC g ad u.1]) := by
  refine mk_me (by decide +kernel) (Nat.le_of_ble_eq_true rfl) (fun p e s m below meth c A hA X => ?_)
  refine w_aload_n X 0 rfl dX6_meetsAll_0 ?_
  refine w_iconst X (nI 0) dX6_meetsAll_1 (by decide +kernel) ?_
  refine w_put X 0 0 rfl rfl rfl in_X6 tyX6 tyX6_ok nmX6 13 (by decide) fk_X6_54 rfl rfl rfl rfl (Nat.le_of_ble_eq_true rfl) (show _ = moC g ad (rw2 μ 13 (fun _ => nI (0))) from rfl) dX6_meetsAll_2 ?_
  refine w_iconst X (nI 0) dX6_meetsAll_5 (by decide +kernel) ?_
  refine w_istore_n X dX6_meetsAll_6 (by decide) ?_
  refine w_all [1, 2, 0] (rfl) (rfl) rfl (w_loop (st := []) (pc := 7) X (V := Nat × (Nat → Nat → Int32)) (fun (v7 : Nat × (Nat → Nat → Int32)) => 24 - v7.1) (fun (v7 : Nat × (Nat → Nat → Int32)) => (v7.1 ≤ 24) ∧ (scr μ v7.2) ∧ (v7.2 13 0 = nI 0) ∧ (∀ j, j < v7.1 → v7.2 11 j = -1)) (fun (v7 : Nat × (Nat → Nat → Int32)) => [(0, .ref (ad 0)), (1, .int (x)), (2, .int (nI v7.1))]) (fun (v7 : Nat × (Nat → Nat → Int32)) => [moC g ad v7.2]) (fun v7 hv7 ih7 => ?_) (0, rw2 μ 13 (fun _ => nI 0)) ⟨by omega, fun k hk => rw2_n _ _ (by omega), rfl, fun j h => by omega⟩)
  obtain ⟨i, μ1⟩ := v7
  obtain ⟨hi, hs1, h13, h11⟩ := hv7
  try dsimp only at hi hs1 h13 h11 ih7 ⊢
  refine w_iload_n X 2 rfl dX6_meetsAll_7 ?_
  refine w_bipush X (nI 24) dX6_meetsAll_8 (by decide +kernel) ?_
  refine w_nc_ge X (by omega) (by omega) 26 dX6_meetsAll_10 (by decide) (fun c10 => ?_) (fun c10 => ?_)
  · have he_i : i = 24 := by omega
    refine w_iconst X (nI 0) dX6_meetsAll_26 (by decide +kernel) ?_
    refine w_istore_n X dX6_meetsAll_27 (by decide) ?_
    refine w_all [1, 2, 0] (rfl) (rfl) rfl (w_loop (st := []) (pc := 28) X (V := Nat × (Nat → Nat → Int32) × Nat) (fun (v28 : Nat × (Nat → Nat → Int32) × Nat) => 24 - v28.1) (fun (v28 : Nat × (Nat → Nat → Int32) × Nat) => (v28.1 ≤ 24) ∧ (scr μ v28.2.1) ∧ (FM σ v28.2.1 (sarL σ ρ0 x v28.1) v28.2.2)) (fun (v28 : Nat × (Nat → Nat → Int32) × Nat) => [(0, .ref (ad 0)), (1, .int (x)), (2, .int (nI v28.1))]) (fun (v28 : Nat × (Nat → Nat → Int32) × Nat) => [moC g ad v28.2.1]) (fun v28 hv28 ih28 => ?_) (0, μ1, 0) ⟨by omega, hs1, fm_0 h13 (fun j h => h11 j (by omega))⟩)
    obtain ⟨o, μ2, q2⟩ := v28
    obtain ⟨ho, hs2, hF2⟩ := hv28
    try dsimp only at ho hs2 hF2 ih28 ⊢
    have hR2 : RI σ (μ2 0) := hs2.RI hR
    refine w_iload_n X 2 rfl dX6_meetsAll_28 ?_
    refine w_bipush X (nI 24) dX6_meetsAll_29 (by decide +kernel) ?_
    refine w_nc_ge X (by omega) (by omega) 72 dX6_meetsAll_31 (by decide) (fun c31 => ?_) (fun c31 => ?_)
    · have he_o : o = 24 := by omega
      refine w_iconst X (nI 0) dX6_meetsAll_72 (by decide +kernel) ?_
      refine w_istore_n X dX6_meetsAll_73 (by decide) ?_
      refine w_all [1, 2, 0] (rfl) (rfl) rfl (w_loop (st := []) (pc := 74) X (V := Nat × (Nat → Nat → Int32) × (Nat → Nat → Int32) × Nat) (fun (v74 : Nat × (Nat → Nat → Int32) × (Nat → Nat → Int32) × Nat) => 24 - v74.1) (fun (v74 : Nat × (Nat → Nat → Int32) × (Nat → Nat → Int32) × Nat) => (v74.1 ≤ 24) ∧ (scr μ v74.2.1) ∧ (FM σ v74.2.1 v74.2.2.1 v74.2.2.2) ∧ (folL σ (-1) x (24 - v74.1) v74.1 v74.2.2.1 = trC σ x)) (fun (v74 : Nat × (Nat → Nat → Int32) × (Nat → Nat → Int32) × Nat) => [(0, .ref (ad 0)), (1, .int (x)), (2, .int (nI v74.1))]) (fun (v74 : Nat × (Nat → Nat → Int32) × (Nat → Nat → Int32) × Nat) => [moC g ad v74.2.1]) (fun v74 hv74 ih74 => ?_) (0, μ2, sarL σ ρ0 x o, q2) ⟨by omega, hs2, hF2, by rw [he_o]; rfl⟩)
      obtain ⟨k, μ3, ρ, q3⟩ := v74
      obtain ⟨hk, hs3, hF3, hz⟩ := hv74
      try dsimp only at hk hs3 hF3 hz ih74 ⊢
      refine w_iload_n X 2 rfl dX6_meetsAll_74 ?_
      refine w_aload_n X 0 rfl dX6_meetsAll_75 ?_
      refine w_get X 0 0 rfl rfl rfl in_X6 13 (by decide) fk_X6_54 rfl dX6_meetsAll_76 ?_
      refine w_ic_ge X 158 dX6_meetsAll_79 (by decide) (fun c79 => ?_) (fun c79 => ?_)
      · exact w_vret_me X ⟨μ3, hs3, q3, by rw [← hz, folL_end hF3 c79]; exact hF3⟩ rfl (Nat.le_of_ble_eq_true rfl) (Nat.le_of_ble_eq_true rfl) dX6_meetsAll_158
      · obtain ⟨j, d, hj, hd, p0, pm, p1, p2, pf, pu⟩ := hF3.2.2.2.1 k ((nI_ltI (by omega) (by have := hF3.1; omega)).mp (nlt_le.mp (by rw [← hF3.2.2.1]; exact c79)))
        have hkq : k < q3 := (nI_ltI (by omega) (by have := hF3.1; omega)).mp (nlt_le.mp (by rw [← hF3.2.2.1]; exact c79))
        have hk24 : k < 24 := by have := hF3.1; omega
        have hR3 : RI σ (μ3 0) := hs3.RI hR
        refine w_iconst X (nI 0) dX6_meetsAll_82 (by decide +kernel) ?_
        refine w_istore_n X dX6_meetsAll_83 (by decide) ?_
        refine w_all [1, 2, 3, 0] (rfl) (rfl) rfl (w_loop (st := []) (pc := 84) X (V := Nat × (Nat → Nat → Int32) × Nat) (fun (v84 : Nat × (Nat → Nat → Int32) × Nat) => 2 - v84.1) (fun (v84 : Nat × (Nat → Nat → Int32) × Nat) => (v84.1 ≤ 2) ∧ (scr μ v84.2.1) ∧ (FM σ v84.2.1 (folJ σ x ρ j d v84.1) v84.2.2) ∧ (q3 ≤ v84.2.2) ∧ (v84.2.1 12 k = nI j) ∧ (v84.2.1 11 j = nI d)) (fun (v84 : Nat × (Nat → Nat → Int32) × Nat) => [(0, .ref (ad 0)), (1, .int (x)), (2, .int (nI k)), (3, .int (nI v84.1))]) (fun (v84 : Nat × (Nat → Nat → Int32) × Nat) => [moC g ad v84.2.1]) (fun v84 hv84 ih84 => ?_) (0, μ3, q3) ⟨by omega, hs3, hF3, Nat.le_refl _, pm, pf⟩)
        obtain ⟨f, μ4, q4⟩ := v84
        obtain ⟨hf, hs4, hF4, hq4, hm4, hf4⟩ := hv84
        try dsimp only at hf hs4 hF4 hq4 hm4 hf4 ih84 ⊢
        refine w_iload_n X 3 rfl dX6_meetsAll_84 ?_
        refine w_iconst X (nI 2) dX6_meetsAll_85 (by decide +kernel) ?_
        refine w_nc_ge X (by omega) (by omega) 152 dX6_meetsAll_86 (by decide) (fun c86 => ?_) (fun c86 => ?_)
        · have he_f : f = 2 := by omega
          refine w_iinc X (nI (k + 1)) 2 rfl (nI_1 _) dX6_meetsAll_152 (by decide) ?_
          refine w_goto X 74 dX6_meetsAll_155 (by decide) ?_
          exact w_all [1, 2, 0] (rfl) (rfl) rfl (ih74 (k + 1, μ4, folJ σ x ρ j d f, q4) (by omega) (by try dsimp only; exact ⟨by omega, hs4, hF4, by rw [← hz, show 24 - k = (24 - (k + 1)) + 1 by omega, folL, if_neg (by rw [hF3.2.1, ← hF3.2.2.1]; exact c79), folJ_2 hj p0 p2, he_f]⟩))
        · have hR4 : RI σ (μ4 0) := hs4.RI hR
          refine w_aload_n X 0 rfl dX6_meetsAll_89 ?_
          refine w_aload_n X 0 rfl dX6_meetsAll_90 ?_
          refine w_get X 0 0 rfl rfl rfl in_X6 12 (by decide) fk_X6_25 rfl dX6_meetsAll_91 ?_
          refine w_iload_n X 2 rfl dX6_meetsAll_94 ?_
          refine w_iald_n X 0 6 0 rfl rfl rfl (by omega) (by decide) dX6_meetsAll_95 ?_
          refine w_st (st2 := [.int (nI j), .ref (ad 0)]) (by rw [hm4] <;> rfl) ?_
          refine w_iconst X (nI 4) dX6_meetsAll_96 (by decide +kernel) ?_
          refine w_iload_n X 3 rfl dX6_meetsAll_97 ?_
          refine w_iadd_n X dX6_meetsAll_98 ?_
          refine w_roV X [0] 0 0 (m_X6_of l g ad μ4 j (4 + f) (by omega) (by omega)) cv_X6_of mk_X6_43 rfl rfl rfl rfl rfl ⟨Nat.le_of_ble_eq_true rfl, Nat.le_of_ble_eq_true rfl⟩ (Nat.le_of_ble_eq_true rfl) ⟨Nat.le_of_ble_eq_true rfl, Nat.le_of_ble_eq_true rfl⟩ dX6_meetsAll_99 rfl ?_
          refine w_istore X dX6_meetsAll_102 (by decide) ?_
          refine w_iload X 0 rfl dX6_meetsAll_104 ?_
          refine w_iconst X (-1) dX6_meetsAll_106 (by decide +kernel) ?_
          refine w_ic_eq X 146 dX6_meetsAll_107 (by decide) (fun c107 => ?_) (fun c107 => ?_)
          · refine w_iinc X (nI (f + 1)) 4 rfl (nI_1 _) dX6_meetsAll_146 (by decide) ?_
            refine w_goto X 84 dX6_meetsAll_149 (by decide) ?_
            exact w_all [2, 3, 4, 0] (rfl) (rfl) rfl (ih84 (f + 1, μ4, q4) (by omega) (by try dsimp only; exact ⟨by omega, hs4, by rw [folJ, fol_s1 hj (by omega) (by rw [← hR4.fld hj (by omega) pu]; exact c107)]; exact hF4, hq4, hm4, hf4⟩))
          · obtain ⟨t, ht, ht0⟩ : ∃ t, t < 24 ∧ μ4 0 (24 + 9 * j + (4 + f)) = nI t := (hR4.2.2.2.2.2 j f hj (by omega)).elim (fun h => absurd h c107) id
            rw [ht0]
            refine w_aload_n X 1 rfl dX6_meetsAll_110 ?_
            refine w_get X 0 0 rfl rfl rfl in_X6 11 (by decide) fk_X6_22 rfl dX6_meetsAll_111 ?_
            refine w_iload X 0 rfl dX6_meetsAll_114 ?_
            refine w_iald_n X 0 5 0 rfl rfl rfl (by omega) (by decide) dX6_meetsAll_116 ?_
            refine w_iconst X (-1) dX6_meetsAll_117 (by decide +kernel) ?_
            refine w_ic_ne X 146 dX6_meetsAll_118 (by decide) (fun c118 => ?_) (fun c118 => ?_)
            · refine w_iinc X (nI (f + 1)) 4 rfl (nI_1 _) dX6_meetsAll_146 (by decide) ?_
              refine w_goto X 84 dX6_meetsAll_149 (by decide) ?_
              exact w_all [2, 3, 4, 0] (rfl) (rfl) rfl (ih84 (f + 1, μ4, q4) (by omega) (by try dsimp only; exact ⟨by omega, hs4, by rw [folJ, fol_s2 hj (by omega) ht (hR4.fls hj (by omega) pu ht0 ht).1 (fun e => c118 ((hF4.un ht).mpr e))]; exact hF4, hq4, hm4, hf4⟩))
            · refine w_iload X 0 rfl dX6_meetsAll_121 ?_
              refine w_iload_n X 2 rfl dX6_meetsAll_123 ?_
              refine w_ic_eq X 146 dX6_meetsAll_124 (by decide) (fun c124 => ?_) (fun c124 => ?_)
              · refine w_iinc X (nI (f + 1)) 4 rfl (nI_1 _) dX6_meetsAll_146 (by decide) ?_
                refine w_goto X 84 dX6_meetsAll_149 (by decide) ?_
                exact w_all [2, 3, 4, 0] (rfl) (rfl) rfl (ih84 (f + 1, μ4, q4) (by omega) (by try dsimp only; exact ⟨by omega, hs4, by rw [folJ, fol_s3 hj (by omega) (hR4.fls hj (by omega) pu ht0 ht).1 c124]; exact hF4, hq4, hm4, hf4⟩))
              · refine w_aload_n X 1 rfl dX6_meetsAll_127 ?_
                refine w_iload X 0 rfl dX6_meetsAll_128 ?_
                refine w_aload_n X 1 rfl dX6_meetsAll_130 ?_
                refine w_get X 0 0 rfl rfl rfl in_X6 11 (by decide) fk_X6_22 rfl dX6_meetsAll_131 ?_
                refine w_aload_n X 1 rfl dX6_meetsAll_134 ?_
                refine w_get X 0 0 rfl rfl rfl in_X6 12 (by decide) fk_X6_25 rfl dX6_meetsAll_135 ?_
                refine w_iload_n X 3 rfl dX6_meetsAll_138 ?_
                refine w_iald_n X 0 6 0 rfl rfl rfl (by omega) (by decide) dX6_meetsAll_139 ?_
                refine w_st (st2 := [.int (nI j), .ref (ad 5), .int (nI t), .ref (ad 0)]) (by rw [hm4] <;> rfl) ?_
                refine w_iald_n X 0 5 0 rfl rfl rfl (by omega) (by decide) dX6_meetsAll_140 ?_
                refine w_st (st2 := [.int (nI d), .int (nI t), .ref (ad 0)]) (by rw [hf4] <;> rfl) ?_
                refine w_iconst X (nI 1) dX6_meetsAll_141 (by decide +kernel) ?_
                refine w_iadd_n X dX6_meetsAll_142 ?_
                refine w_muV X hA (gr := []) (gs1 := [moC g ad (mtM μ4 q4 t (d + 1))]) [0] [] 0 0 (m_X6_meets l g ad μ4 q4 t (d + 1) (ht) (hF4.lt ht ((hF4.un ht).mp c118)) (hF4.2.2.1)) cv_X6_meets mk_X6_57 rfl rfl rfl (ng := 1) rfl (by decide) rfl rfl rfl rfl rfl rfl ⟨Nat.le_of_ble_eq_true rfl, Nat.le_of_ble_eq_true rfl⟩ (Nat.le_of_ble_eq_true rfl) ⟨Nat.le_of_ble_eq_true rfl, Nat.le_of_ble_eq_true rfl⟩ dX6_meetsAll_143 rfl ?_
                generalize hn1 : mtM μ4 q4 t (d + 1) = μv1
                refine w_iinc X (nI (f + 1)) 4 rfl (nI_1 _) dX6_meetsAll_146 (by decide) ?_
                refine w_goto X 84 dX6_meetsAll_149 (by decide) ?_
                exact w_all [2, 3, 4, 0] (rfl) (rfl) rfl (ih84 (f + 1, μv1, q4 + 1) (by omega) (by try dsimp only; exact ⟨by omega, hs4.tr (by subst hn1; exact scr.mt _ _ _ _), by subst hn1; rw [folJ, fol_go hj (by omega) (hR4.fls hj (by omega) pu ht0 ht).1 c124]; exact hF4.meet ht (by omega) ((hF4.un ht).mp c118) (hR4.fls hj (by omega) pu ht0 ht).2, by omega, by subst hn1; exact (mt12 _ _ _ _ (by omega)).trans hm4, by subst hn1; exact (mt11 _ _ _ _ (fun e => by rw [← e, hf4] at c118; exact nI_ne (by omega) c118)).trans hf4⟩))
    · refine w_aload_n X 0 rfl dX6_meetsAll_34 ?_
      refine w_iload_n X 2 rfl dX6_meetsAll_35 ?_
      refine w_iconst X (nI 0) dX6_meetsAll_36 (by decide +kernel) ?_
      refine w_roV X [0] 0 0 (m_X6_of l g ad μ2 o 0 (by omega) (by omega)) cv_X6_of mk_X6_43 rfl rfl rfl rfl rfl ⟨Nat.le_of_ble_eq_true rfl, Nat.le_of_ble_eq_true rfl⟩ (Nat.le_of_ble_eq_true rfl) ⟨Nat.le_of_ble_eq_true rfl, Nat.le_of_ble_eq_true rfl⟩ dX6_meetsAll_37 rfl ?_
      refine w_iconst X (nI 1) dX6_meetsAll_40 (by decide +kernel) ?_
      refine w_ic_ne X 66 dX6_meetsAll_41 (by decide) (fun c41 => ?_) (fun c41 => ?_)
      · refine w_iinc X (nI (o + 1)) 2 rfl (nI_1 _) dX6_meetsAll_66 (by decide) ?_
        refine w_goto X 28 dX6_meetsAll_69 (by decide) ?_
        exact w_all [1, 2, 0] (rfl) (rfl) rfl (ih28 (o + 1, μ2, q2) (by omega) (by try dsimp only; exact ⟨by omega, hs2, by rw [sar_1 hR2 (by omega) c41]; exact hF2⟩))
      · refine w_aload_n X 0 rfl dX6_meetsAll_44 ?_
        refine w_iload_n X 2 rfl dX6_meetsAll_45 ?_
        refine w_bipush X (nI 6) dX6_meetsAll_46 (by decide +kernel) ?_
        refine w_roV X [0] 0 0 (m_X6_of l g ad μ2 o 6 (by omega) (by omega)) cv_X6_of mk_X6_43 rfl rfl rfl rfl rfl ⟨Nat.le_of_ble_eq_true rfl, Nat.le_of_ble_eq_true rfl⟩ (Nat.le_of_ble_eq_true rfl) ⟨Nat.le_of_ble_eq_true rfl, Nat.le_of_ble_eq_true rfl⟩ dX6_meetsAll_48 rfl ?_
        refine w_iconst X (nI 1) dX6_meetsAll_51 (by decide +kernel) ?_
        refine w_ic_ne X 66 dX6_meetsAll_52 (by decide) (fun c52 => ?_) (fun c52 => ?_)
        · refine w_iinc X (nI (o + 1)) 2 rfl (nI_1 _) dX6_meetsAll_66 (by decide) ?_
          refine w_goto X 28 dX6_meetsAll_69 (by decide) ?_
          exact w_all [1, 2, 0] (rfl) (rfl) rfl (ih28 (o + 1, μ2, q2) (by omega) (by try dsimp only; exact ⟨by omega, hs2, by rw [sar_2 hR2 (by omega) c41 c52]; exact hF2⟩))
        · refine w_iload_n X 2 rfl dX6_meetsAll_55 ?_
          refine w_iload_n X 1 rfl dX6_meetsAll_56 ?_
          refine w_ic_eq X 66 dX6_meetsAll_57 (by decide) (fun c57 => ?_) (fun c57 => ?_)
          · refine w_iinc X (nI (o + 1)) 2 rfl (nI_1 _) dX6_meetsAll_66 (by decide) ?_
            refine w_goto X 28 dX6_meetsAll_69 (by decide) ?_
            exact w_all [1, 2, 0] (rfl) (rfl) rfl (ih28 (o + 1, μ2, q2) (by omega) (by try dsimp only; exact ⟨by omega, hs2, by rw [sar_3 c57]; exact hF2⟩))
          · refine w_aload_n X 0 rfl dX6_meetsAll_60 ?_
            refine w_iload_n X 2 rfl dX6_meetsAll_61 ?_
            refine w_iconst X (nI 0) dX6_meetsAll_62 (by decide +kernel) ?_
            refine w_muV X hA (gr := []) (gs1 := [moC g ad (mtM μ2 q2 o 0)]) [0] [] 0 0 (m_X6_meets l g ad μ2 q2 o 0 (by omega) (hF2.lt (by omega) (sar_un σ ρ0 x o o (by omega) (by omega))) (hF2.2.2.1)) cv_X6_meets mk_X6_57 rfl rfl rfl (ng := 1) rfl (by decide) rfl rfl rfl rfl rfl rfl ⟨Nat.le_of_ble_eq_true rfl, Nat.le_of_ble_eq_true rfl⟩ (Nat.le_of_ble_eq_true rfl) ⟨Nat.le_of_ble_eq_true rfl, Nat.le_of_ble_eq_true rfl⟩ dX6_meetsAll_63 rfl ?_
            generalize hn2 : mtM μ2 q2 o 0 = μv2
            refine w_iinc X (nI (o + 1)) 2 rfl (nI_1 _) dX6_meetsAll_66 (by decide) ?_
            refine w_goto X 28 dX6_meetsAll_69 (by decide) ?_
            exact w_all [1, 2, 0] (rfl) (rfl) rfl (ih28 (o + 1, μv2, q2 + 1) (by omega) (by try dsimp only; exact ⟨by omega, hs2.tr (by subst hn2; exact scr.mt _ _ _ _), by subst hn2; rw [sar_4 hR2 (by omega) c41 c52 c57]; exact hF2.meet (by omega) (by omega) (sar_un σ ρ0 x o o (by omega) (by omega)) ((hR2.used (by omega)).symm.trans c41)⟩))
  · refine w_aload_n X 0 rfl dX6_meetsAll_13 ?_
    refine w_get X 0 0 rfl rfl rfl in_X6 11 (by decide) fk_X6_22 rfl dX6_meetsAll_14 ?_
    refine w_iload_n X 2 rfl dX6_meetsAll_17 ?_
    refine w_iconst X (-1) dX6_meetsAll_18 (by decide +kernel) ?_
    refine w_iast_n X 0 5 0 rfl rfl rfl (by omega) (by decide) (show _ = moC g ad (rw2 μ1 11 (upd (μ1 11) i ((-1)))) from rfl) dX6_meetsAll_19 ?_
    refine w_iinc X (nI (i + 1)) 2 rfl (nI_1 _) dX6_meetsAll_20 (by decide) ?_
    refine w_goto X 7 dX6_meetsAll_23 (by decide) ?_
    exact w_all [1, 2, 0] (rfl) (rfl) rfl (ih7 (i + 1, rw2 μ1 11 (upd (μ1 11) i ((-1)))) (by omega) (by try dsimp only; exact ⟨by omega, fun k hk => (rw2_n _ _ (by omega)).trans (hs1 k hk), h13, fun j h => by rw [rw2_s, upd_e]; exact (Decidable.em (j = i)).elim (fun e => if_pos e) (fun e => (if_neg e).trans (h11 j (by omega)))⟩))
