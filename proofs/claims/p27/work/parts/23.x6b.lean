/-! The model: who is met -/
def cn (P : Nat → Bool) : Nat → Nat
  | 0 => 0
  | n + 1 => cn P n + if P n = true then 1 else 0
theorem cn_le (P : Nat → Bool) : ∀ n, cn P n ≤ n
  | 0 => Nat.le_refl _
  | n + 1 => by
    have := cn_le P n
    rw [cn]
    split <;> omega
theorem cn_lt {P : Nat → Bool} {j : Nat} (h : P j = false) : ∀ n, j < n → cn P n < n
  | 0, hn => by omega
  | n + 1, hn => by
    rw [cn]
    by_cases e : j = n
    · subst e
      rw [h, if_neg (by decide)]
      have := cn_le P j
      omega
    · have := cn_lt h n (by omega)
      split <;> omega
theorem cn_eq {P Q : Nat → Bool} : ∀ n, (∀ i, i < n → P i = Q i) → cn P n = cn Q n
  | 0, _ => rfl
  | n + 1, h => by rw [cn, cn, cn_eq n (fun i hi => h i (by omega)), h n (by omega)]
theorem cn_up {P Q : Nat → Bool} {j : Nat} (hp : P j = false) (hq : Q j = true) (h : ∀ i, i ≠ j → P i = Q i) : ∀ n, j < n → cn Q n = cn P n + 1
  | 0, hn => by omega
  | n + 1, hn => by
    rw [cn, cn]
    by_cases e : j = n
    · subst e
      rw [hp, hq, cn_eq (P := P) (Q := Q) j (fun i hi => h i (by omega))]
      rfl
    · rw [cn_up hp hq h n (by omega), h n (by omega)]
      omega
def mtM (μ : Nat → Nat → Int32) (q o d : Nat) : Nat → Nat → Int32 := rw2 (rw2 (rw2 μ 11 (upd (μ 11) o (nI d))) 12 (upd (μ 12) q (nI o))) 13 (fun _ => nI (q + 1))
def scr (μ μ' : Nat → Nat → Int32) : Prop := ∀ k, k < 11 → μ' k = μ k
theorem scr.rf (μ : Nat → Nat → Int32) : scr μ μ := fun _ _ => rfl
theorem scr.tr {μ μ' μ'' : Nat → Nat → Int32} (h : scr μ μ') (h' : scr μ' μ'') : scr μ μ'' := fun k hk => (h' k hk).trans (h k hk)
theorem scr.mt (μ : Nat → Nat → Int32) (q o d : Nat) : scr μ (mtM μ q o d) := fun k hk => by
  rw [mtM, rw2_n _ _ (by omega), rw2_n _ _ (by omega), rw2_n _ _ (by omega)]
theorem scr.RI {σ μ μ' : Nat → Nat → Int32} (h : scr μ μ') (hR : RI σ (μ 0)) : RI σ (μ' 0) := by rw [h 0 (by decide)]; exact hR
def plB (ρ : Nat → Nat → Int32) (j : Nat) : Bool := if ρ 1 j = -1 then false else true
/-- the model's far, met, meets are the class's steps, order, met -/
def FM (σ μ ρ : Nat → Nat → Int32) (q : Nat) : Prop := q ≤ 24 ∧ ρ 3 0 = nI q ∧ μ 13 0 = nI q ∧ (∀ i, i < q → ∃ j d, j < 24 ∧ d ≤ i ∧ ρ 0 i = nI j ∧ μ 12 i = nI j ∧ ρ 1 j = nI i ∧ ρ 2 j = nI d ∧ μ 11 j = nI d ∧ σ 0 j = nI 1) ∧ (∀ j, j < 24 → (ρ 1 j = -1 ∧ ρ 2 j = -1 ∧ μ 11 j = -1) ∨ ∃ i, i < q ∧ ρ 1 j = nI i ∧ ρ 0 i = nI j) ∧ cn (plB ρ) 24 = q
section FMS
variable {σ μ ρ : Nat → Nat → Int32} {q : Nat}
theorem FM.un (h : FM σ μ ρ q) {j : Nat} (hj : j < 24) : (μ 11 j = -1 ↔ ρ 1 j = -1) := by
  rcases h.2.2.2.2.1 j hj with e | ⟨i, hi, e1, e2⟩
  · exact ⟨fun _ => e.1, fun _ => e.2.2⟩
  · obtain ⟨k, d, hk, hd, f1, f2, f3, f4, f5, f6⟩ := h.2.2.2.1 i hi
    have hq := h.1
    have e3 : j = k := (nI_eq (by omega) (by omega)).mp (e2.symm.trans f1)
    subst e3
    rw [e1, f5]
    exact ⟨fun e => absurd e (nI_ne (by omega)), fun e => absurd e (nI_ne (by omega))⟩
theorem FM.lt (h : FM σ μ ρ q) {j : Nat} (hj : j < 24) (hu : ρ 1 j = -1) : q < 24 := by
  rw [← h.2.2.2.2.2]
  exact cn_lt (P := plB ρ) (if_pos hu) 24 hj
theorem meet_on {o : Nat} (ho : o < 24) (s : Int32) (hq : q < 24) (hm : ρ 3 0 = nI q) : meetR ρ (nI o) s = if ρ 1 o = -1 then meetW ρ (nI o) s else ρ := by
  rw [meetR, if_neg (nI_nlt0 (by omega)), if_neg (nI_nge ho (by decide)), hm, if_neg (nI_nlt0 (by omega)), if_pos ((nI_ltI (by omega) (by decide)).mpr hq), nI_clamp (by omega)]
theorem meet_off {o : Nat} (s : Int32) (h : ¬ ρ 1 o = -1) (ho : o < 24) : meetR ρ (nI o) s = ρ := by
  rw [meetR, nI_clamp (by omega), if_neg h]
  split <;> first | rfl | (split <;> first | rfl | (split <;> first | rfl | (split <;> rfl)))
theorem FM.meet (h : FM σ μ ρ q) {o d : Nat} (ho : o < 24) (hd : d ≤ q) (hu : ρ 1 o = -1) (hs : σ 0 o = nI 1) : FM σ (mtM μ q o d) (meetR ρ (nI o) (nI d)) (q + 1) := by
  have hq := h.lt ho hu
  obtain ⟨-, h3, h13, hm, hc, hn⟩ := h
  have w : meetR ρ (nI o) (nI d) = meetW ρ (nI o) (nI d) := by rw [meet_on ho _ hq h3, if_pos hu]
  have cq : (nI q).toNatClampNeg = q := nI_clamp (by omega)
  have co : (nI o).toNatClampNeg = o := nI_clamp (by omega)
  have r3 : meetR ρ (nI o) (nI d) 3 0 = nI (q + 1) := by rw [w, meetW, rw2_s, h3, nI_add]
  have r0 : ∀ i, meetR ρ (nI o) (nI d) 0 i = if i = q then nI o else ρ 0 i := fun i => by
    rw [w, meetW, rw2_n _ _ (by decide), rw2_n _ _ (by decide), rw2_n _ _ (by decide), rw2_s, h3, cq, upd_e]
  have r1 : ∀ j, meetR ρ (nI o) (nI d) 1 j = if j = o then nI q else ρ 1 j := fun j => by
    rw [w, meetW, rw2_n _ _ (by decide), rw2_n _ _ (by decide), rw2_s, h3, co, upd_e]
  have r2 : ∀ j, meetR ρ (nI o) (nI d) 2 j = if j = o then nI d else ρ 2 j := fun j => by
    rw [w, meetW, rw2_n _ _ (by decide), rw2_s, co, upd_e]
  have m11 : ∀ j, mtM μ q o d 11 j = if j = o then nI d else μ 11 j := fun j => by
    rw [mtM, rw2_n _ _ (by decide), rw2_n _ _ (by decide), rw2_s, upd_e]
  have m12 : ∀ i, mtM μ q o d 12 i = if i = q then nI o else μ 12 i := fun i => by
    rw [mtM, rw2_n _ _ (by decide), rw2_s, upd_e]
  have m13 : mtM μ q o d 13 0 = nI (q + 1) := by rw [mtM, rw2_s]
  refine ⟨by omega, r3, m13, fun i hi => ?_, fun j hj => ?_, ?_⟩
  · by_cases e : i = q
    · subst e
      exact ⟨o, d, ho, hd, by rw [r0, if_pos rfl], by rw [m12, if_pos rfl], by rw [r1, if_pos rfl], by rw [r2, if_pos rfl], by rw [m11, if_pos rfl], hs⟩
    · obtain ⟨j, d2, hj, hd2, e1, e2, e3, e4, e5, e6⟩ := hm i (by omega)
      have hjo : ¬ j = o := fun e => by
        rw [e, hu] at e3
        exact nI_ne (by omega) e3.symm
      exact ⟨j, d2, hj, hd2, by rw [r0, if_neg e, e1], by rw [m12, if_neg e, e2], by rw [r1, if_neg hjo, e3], by rw [r2, if_neg hjo, e4], by rw [m11, if_neg hjo, e5], e6⟩
  · by_cases e : j = o
    · subst e
      exact Or.inr ⟨q, by omega, by rw [r1, if_pos rfl], by rw [r0, if_pos rfl]⟩
    · rcases hc j hj with ⟨e1, e2, e3⟩ | ⟨i, hi, e1, e2⟩
      · exact Or.inl ⟨by rw [r1, if_neg e, e1], by rw [r2, if_neg e, e2], by rw [m11, if_neg e, e3]⟩
      · exact Or.inr ⟨i, by omega, by rw [r1, if_neg e, e1], by rw [r0, if_neg (by omega), e2]⟩
  · rw [cn_up (P := plB ρ) (Q := plB (meetR ρ (nI o) (nI d))) (j := o) (if_pos hu) (by rw [plB, r1, if_pos rfl, if_neg (nI_ne (by omega))]) (fun i hi => by rw [plB, plB, r1, if_neg hi]) 24 ho, hn]
end FMS
theorem meet_1 {ρ : Nat → Nat → Int32} {o j : Nat} (ho : o < 24) (s : Int32) (h : ¬ j = o) : meetR ρ (nI o) s 1 j = ρ 1 j := by
  have w : meetW ρ (nI o) s 1 j = ρ 1 j := by rw [meetW, rw2_n _ _ (by decide), rw2_n _ _ (by decide), rw2_s, nI_clamp (by omega), upd_e, if_neg h]
  rw [meetR]
  split
  · rfl
  · split
    · rfl
    · split
      · rfl
      · split
        · split
          · exact w
          · rfl
        · rfl
theorem mt12 (μ : Nat → Nat → Int32) (q o d : Nat) {k : Nat} (h : ¬ k = q) : mtM μ q o d 12 k = μ 12 k := by rw [mtM, rw2_n _ _ (by decide), rw2_s, upd_e, if_neg h]
theorem mt11 (μ : Nat → Nat → Int32) (q o d : Nat) {k : Nat} (h : ¬ k = o) : mtM μ q o d 11 k = μ 11 k := by rw [mtM, rw2_n _ _ (by decide), rw2_n _ _ (by decide), rw2_s, upd_e, if_neg h]
theorem folL_end {σ μ ρ : Nat → Nat → Int32} {a w : Int32} {q k n : Nat} (h : FM σ μ ρ q) (hc : μ 13 0 ≤ nI k) : folL σ a w n k ρ = ρ := by
  cases n with
  | zero => rfl
  | succ n => rw [folL, if_pos (by rw [h.2.1, ← h.2.2.1]; exact hc)]
theorem sar_un (σ ρ : Nat → Nat → Int32) (w : Int32) : ∀ n j : Nat, n ≤ j → j < 24 → sarL σ ρ w n 1 j = -1
  | 0, j, _, hj => ((forget_at ρ 24).2 j hj).1
  | n + 1, j, h, hj => by
    rw [sarL]
    split
    · exact sar_un σ ρ w n j (by omega) hj
    · split
      · exact sar_un σ ρ w n j (by omega) hj
      · split
        · exact sar_un σ ρ w n j (by omega) hj
        · rw [meet_1 (by omega) _ (by omega)]
          exact sar_un σ ρ w n j (by omega) hj
theorem fm_0 {σ μ : Nat → Nat → Int32} (h0 : μ 13 0 = nI 0) (h1 : ∀ j, j < 24 → μ 11 j = -1) : FM σ μ (forgetL ρ0 24) 0 :=
  ⟨by decide, (forget_at ρ0 24).1, h0, fun i hi => by omega, fun j hj => Or.inl ⟨((forget_at ρ0 24).2 j hj).1, ((forget_at ρ0 24).2 j hj).2, h1 j hj⟩, by
    have e : ∀ n, n ≤ 24 → cn (plB (forgetL ρ0 24)) n = 0 := by
      intro n
      induction n with
      | zero => intro _; rfl
      | succ n ih => intro h; rw [cn, ih (by omega), plB, if_pos ((forget_at ρ0 24).2 n (by omega)).1]; rfl
    exact e 24 (by decide)⟩
section SAR
variable {σ ρ : Nat → Nat → Int32} {N : Nat → Int32} {w : Int32} {o : Nat}
theorem sar_1 (hR : RI σ N) (ho : o < 24) (h : ¬ N (24 + 9 * o + 0) = nI 1) : sarL σ ρ w (o + 1) = sarL σ ρ w o := by
  rw [sarL, hR.has ho, if_neg h, if_pos rfl]
  split <;> rfl
theorem sar_2 (hR : RI σ N) (ho : o < 24) (h0 : N (24 + 9 * o + 0) = nI 1) (h : ¬ N (24 + 9 * o + 6) = nI 1) : sarL σ ρ w (o + 1) = sarL σ ρ w o := by
  have e : σ 5 o = 0 := by
    have e1 := (hR.at ho ((hR.used ho).symm.trans h0)).2.2.2.2.2.1
    rcases (hR.1.1 o ho).2.1 with e | e
    · exact e
    · exact absurd (e1.trans e) h
  rw [sarL, if_pos e]
  split <;> first | rfl | (split <;> rfl)
theorem sar_3 (h : nI o = w) : sarL σ ρ w (o + 1) = sarL σ ρ w o := by rw [sarL, if_pos h]
theorem sar_4 (hR : RI σ N) (ho : o < 24) (h0 : N (24 + 9 * o + 0) = nI 1) (h1 : N (24 + 9 * o + 6) = nI 1) (h : ¬ nI o = w) : sarL σ ρ w (o + 1) = meetR (sarL σ ρ w o) (nI o) (nI 0) := by
  have e1 := (hR.at ho ((hR.used ho).symm.trans h0)).2.2.2.2.2.1
  rw [sarL, if_neg h, hR.has ho, if_pos h0, if_neg (by decide), if_neg (by rw [← e1, h1]; decide)]
end SAR
section FOL
variable {σ ρ : Nat → Nat → Int32} {w s : Int32} {j f t : Nat}
theorem fol_eq (hj : j < 24) (hf : f < 2) : fol1 σ (-1) w ρ (nI j) s f = if σ 4 (j * 2 + f) = w then ρ else meetR ρ (σ 4 (j * 2 + f)) s := by
  rw [fol1, ref_nI σ hj hf, if_pos (rfl : (-1 : Int32) = -1)]
theorem fol_s1 (hj : j < 24) (hf : f < 2) (h : σ 4 (j * 2 + f) = -1) : fol1 σ (-1) w ρ (nI j) s f = ρ := by
  rw [fol_eq hj hf, h]
  split
  · rfl
  · rw [meetR, if_pos (by decide)]
theorem fol_s2 (hj : j < 24) (hf : f < 2) (ht : t < 24) (h : σ 4 (j * 2 + f) = nI t) (hp : ¬ ρ 1 t = -1) : fol1 σ (-1) w ρ (nI j) s f = ρ := by
  rw [fol_eq hj hf, h]
  split
  · rfl
  · exact meet_off s hp ht
theorem fol_s3 (hj : j < 24) (hf : f < 2) (h : σ 4 (j * 2 + f) = nI t) (hw : nI t = w) : fol1 σ (-1) w ρ (nI j) s f = ρ := by
  rw [fol_eq hj hf, h, if_pos hw]
theorem fol_go (hj : j < 24) (hf : f < 2) (h : σ 4 (j * 2 + f) = nI t) (hw : ¬ nI t = w) : fol1 σ (-1) w ρ (nI j) s f = meetR ρ (nI t) s := by
  rw [fol_eq hj hf, h, if_neg hw]
end FOL
def folJ (σ : Nat → Nat → Int32) (w : Int32) (ρ : Nat → Nat → Int32) (j d : Nat) : Nat → Nat → Nat → Int32
  | 0 => ρ
  | f + 1 => fol1 σ (-1) w (folJ σ w ρ j d f) (nI j) (nI (d + 1)) f
theorem folJ_2 {σ ρ : Nat → Nat → Int32} {w : Int32} {k j d : Nat} (hj : j < 24) (h0 : ρ 0 k = nI j) (h2 : ρ 2 j = nI d) : folS σ (-1) w ρ k = folJ σ w ρ j d 2 := by
  rw [folS, h0, stepI, if_neg (nI_nlt0 (by omega)), if_neg (nI_nge hj (by decide)), nI_clamp (by omega), h2, nI_add]
  rfl
theorem RI.fls {σ : Nat → Nat → Int32} {N : Nat → Int32} (hR : RI σ N) {j f t : Nat} (hj : j < 24) (hf : f < 2) (hu : σ 0 j = nI 1) (ht : N (24 + 9 * j + (4 + f)) = nI t) (ht2 : t < 24) : σ 4 (j * 2 + f) = nI t ∧ σ 0 t = nI 1 := by
  rw [hR.fld hj hf hu] at ht
  refine ⟨ht, ?_⟩
  rcases hR.1.2.2.2.2.2.1 j f hj hf with e | ⟨k, hk, e, u⟩
  · exact absurd (ht.symm.trans e) (nI_ne (by omega))
  · rw [(nI_eq (by omega) (by omega)).mp (ht.symm.trans e)]
    exact u
