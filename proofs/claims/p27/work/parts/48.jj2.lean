/-! changes keep it: a new object, a dropped one, an arena freed, survivors laid, a return -/
def adN (N : Nat → Int32) (j k z i : Nat) : Int32 :=
  if 24 + 9 * j ≤ i ∧ i ≤ 24 + 9 * j + 8 then (if i - (24 + 9 * j) = 0 then nI 1 else if i - (24 + 9 * j) = 1 then nI k else if i - (24 + 9 * j) = 2 then N (6 + 3 * k + 1) else if i - (24 + 9 * j) = 3 then nI z else if i - (24 + 9 * j) = 4 then -1 else if i - (24 + 9 * j) = 5 then -1 else nI 0)
  else if i = 6 + 3 * k + 1 then N (6 + 3 * k + 1) + nI z else if i = 2 then N 2 + nI 1 else N i
theorem adN_o (N : Nat → Int32) (j k z c : Nat) (hc : c < 9) : adN N j k z (24 + 9 * j + c) = if c = 0 then nI 1 else if c = 1 then nI k else if c = 2 then N (6 + 3 * k + 1) else if c = 3 then nI z else if c = 4 then -1 else if c = 5 then -1 else nI 0 := by
  rw [adN, if_pos (by omega), show 24 + 9 * j + c - (24 + 9 * j) = c by omega]
theorem jj_add {B : Nat} {σ : Nat → Nat → Int32} (h : JJ B σ) {j k z : Nat} (hj : j < 24) (hk : k < 6) (hz1 : 1 ≤ z) (hz : z ≤ 16) (h0 : σ 0 j = nI 0) (ho8 : σ 8 k = nI 1) (hrm : roomB σ (nI k) (nI z) = true) : JJ (B + 1) (addS σ j k (nI z)) := by
  have hI : Inv (addS σ j k (nI z)) := (ri_add (N' := adN (nOf σ) j k z) (ri_ex h.1) hj hk hz1 hz h0 ho8 hrm (adN_o _ j k z 0 (by decide)) (adN_o _ j k z 1 (by decide)) (adN_o _ j k z 2 (by decide)) (adN_o _ j k z 3 (by decide)) (adN_o _ j k z 4 (by decide)) (adN_o _ j k z 5 (by decide)) (adN_o _ j k z 6 (by decide)) (adN_o _ j k z 7 (by decide)) (adN_o _ j k z 8 (by decide))
    (by rw [adN, if_neg (by omega), if_pos rfl]) (by rw [adN, if_neg (by omega), if_neg (by omega), if_pos rfl]) (fun i _ h2 h3 h4 => by rw [adN, if_neg (by omega), if_neg h3, if_neg h2])).1
  obtain ⟨⟨hF, hA, hS, hU, hO, hQ, hD⟩, j1, j2, ⟨L, l1, l2, l3⟩, ⟨M, G, m1, m2, m3, m4⟩, j5⟩ := h
  have rn : ∀ r, r ≠ 0 → r ≠ 1 → r ≠ 2 → r ≠ 3 → r ≠ 9 → r ≠ 12 → addS σ j k (nI z) r = σ r := fun r a b c d e f => by rw [addS, rw2_n _ _ f, rw2_n _ _ e, rw2_n _ _ d, rw2_n _ _ c, rw2_n _ _ b, rw2_n _ _ a]
  have r0 : ∀ i, (addS σ j k (nI z)) 0 i = if i = j then nI 1 else σ 0 i := fun i => by rw [addS, rw2_n _ _ (by decide), rw2_n _ _ (by decide), rw2_n _ _ (by decide), rw2_n _ _ (by decide), rw2_n _ _ (by decide), rw2_s, upd_e]
  have r1 : ∀ i, (addS σ j k (nI z)) 1 i = if i = j then nI k else σ 1 i := fun i => by rw [addS, rw2_n _ _ (by decide), rw2_n _ _ (by decide), rw2_n _ _ (by decide), rw2_n _ _ (by decide), rw2_s, upd_e]
  have r2 : ∀ i, (addS σ j k (nI z)) 2 i = if i = j then σ 9 k else σ 2 i := fun i => by rw [addS, rw2_n _ _ (by decide), rw2_n _ _ (by decide), rw2_n _ _ (by decide), rw2_s, upd_e]
  have r3 : ∀ i, (addS σ j k (nI z)) 3 i = if i = j then nI z else σ 3 i := fun i => by rw [addS, rw2_n _ _ (by decide), rw2_n _ _ (by decide), rw2_s, upd_e]
  have r9 : ∀ i, (addS σ j k (nI z)) 9 i = if i = k then σ 9 k + nI z else σ 9 i := fun i => by rw [addS, rw2_n _ _ (by decide), rw2_s, upd_e]
  have r12 : ∀ i, (addS σ j k (nI z)) 12 i = if i = 0 then σ 12 0 + nI 1 else σ 12 i := fun i => by rw [addS, rw2_s, upd_e]
  have old : ∀ i, i < 24 → σ 0 i = nI 1 → σ 1 i = nI k → (σ 2 i).toNatClampNeg + (σ 3 i).toNatClampNeg ≤ (σ 9 k).toNatClampNeg := fun i hi hu he => by
    obtain ⟨c, y, d, q, g1, g2, g3, g4, g5, e1, e2, e3, e4, e5⟩ := hO i hi hu
    have hc : c = k := (nI_eq (by omega) (by omega)).mp (e1.symm.trans he)
    subst hc
    rw [e2, e3, e4, nI_clamp (by omega), nI_clamp (by omega), nI_clamp (by omega)]
    exact g4
  refine ⟨hI, fun c hc hx => ?_, fun o i ho hi hne uo ui ea => ?_, ⟨L, by omega, by rw [r12, if_neg (by decide)]; exact l2, by rw [rn 7 (by decide) (by decide) (by decide) (by decide) (by decide) (by decide)]; exact l3⟩, ⟨M + 1, G, by omega, by rw [r12, if_pos rfl, m2, nI_add], by rw [r12, if_neg (by decide)]; exact m3, ?_⟩, fun a ha => ?_⟩
  · rw [szS_new hk hz h0 r0 r1 r3 c hc, r9]
    by_cases e : c = k
    · rw [if_pos e, if_pos ⟨hj, e⟩, j1 k hk (by omega), nI_add, e]
    · rw [if_neg e, if_neg (by omega)]; exact j1 c hc hx
  · rw [r0] at uo ui
    rw [r1, r1] at ea
    rw [r2, r2, r3, r3]
    by_cases c1 : o = j
    · by_cases c2 : i = j
      · exact absurd (c1.trans c2.symm) hne
      · rw [if_neg c2] at ui
        rw [if_pos c1, if_neg c2] at ea
        rw [if_pos c1, if_neg c2, if_pos c1, if_neg c2]
        exact Or.inr (old i hi ui ea.symm)
    · rw [if_neg c1] at uo
      by_cases c2 : i = j
      · rw [if_neg c1, if_pos c2] at ea
        rw [if_neg c1, if_pos c2, if_neg c1, if_pos c2]
        exact Or.inl (old o ho uo ea)
      · rw [if_neg c2] at ui
        rw [if_neg c1, if_neg c2] at ea
        rw [if_neg c1, if_neg c2, if_neg c1, if_neg c2]
        exact j2 o i ho hi hne uo ui ea
  · have := cn_up (P := fun o => nz (σ 0 o)) (Q := fun o => nz (addS σ j k (nI z) 0 o)) (j := j) (nz_f h0) (by show nz (addS σ j k (nI z) 0 j) = true; rw [r0, if_pos rfl]; rfl) (fun i hi => by show nz (σ 0 i) = nz (addS σ j k (nI z) 0 i); rw [r0, if_neg hi]) 24 hj
    rw [cuN, this, m4, cuN]
    omega
  · rw [rn 8 (by decide) (by decide) (by decide) (by decide) (by decide) (by decide), rn 10 (by decide) (by decide) (by decide) (by decide) (by decide) (by decide)]
    obtain ⟨P, p1, p2⟩ := j5 a ha
    exact ⟨P, by omega, p2⟩
def drN (N : Nat → Int32) (j i : Nat) : Int32 := if i = 4 then N 4 + nI 1 else if i = 24 + 9 * j then nI 0 else if 24 ≤ i ∧ ((i - 24) % 9 = 4 ∨ (i - 24) % 9 = 5) ∧ N i = nI j then -1 else N i
theorem inv_drop {s : Nat → Nat → Int32} (h : Inv s) {j : Nat} (hj : j < 24) (hu : s 0 j = nI 1) : Inv (dropL s j 24) := by
  have hG : GO (fun _ => nOf s) (rw2 (fun _ => nOf s) 0 (drN (nOf s) j)) j 48 := by
    refine ⟨fun i hi => rw2_n _ _ hi, ?_, ?_, fun i hi h4 h0 hf => ?_, fun y f hy hf => ?_⟩
    · rw [rw2_s, drN, if_neg (by omega), if_pos (by omega)]
    · rw [rw2_s, drN, if_pos rfl]
    · rw [rw2_s, drN, if_neg h4, if_neg h0, if_neg (fun z => ?_)]
      have := hf ((i - 24) / 9) ((i - 24) % 9 - 4) (by omega) (by omega)
      omega
    · rw [rw2_s, drN, if_neg (by omega), if_neg (by omega)]
      by_cases c : nOf s (24 + 9 * y + (4 + f)) = nI j
      · rw [if_pos ⟨by omega, by omega, c⟩, if_pos ⟨by omega, c⟩]
      · rw [if_neg (fun z => c z.2.2), if_neg (fun z => c z.2)]
  have hR : RI (goS s (nI 0)) ((fun _ => nOf s : Nat → Nat → Int32) 0) := by rw [goS_0]; exact ri_ex h
  exact (ri_drop hR hj hu hG).1
theorem szS_dropE {s : Nat → Nat → Int32} {j a c : Nat} (ha : a < 6) (hc : c < 6) (hca : c ≠ a) (h1 : s 1 j = nI a) : ∀ n, szS (dropL s j 24) c n = szS s c n
  | 0 => rfl
  | n + 1 => by
    rw [szS, szS, szS_dropE ha hc hca h1 n, dr_fl _ _ 0 (Or.inl rfl), dr_n _ _ 1 (by decide) (by decide) (by decide) (by decide) (by decide), dr_n _ _ 3 (by decide) (by decide) (by decide) (by decide) (by decide)]
    by_cases e : n = j
    · subst e
      rw [if_neg (show ¬ (_ ∧ s 1 n = nI c) from fun z => hca ((nI_eq (by omega) (by omega)).mp (z.2.symm.trans h1))), if_neg (show ¬ (_ ∧ s 1 n = nI c) from fun z => hca ((nI_eq (by omega) (by omega)).mp (z.2.symm.trans h1)))]
    · rw [if_neg e]
def JF (B g a : Nat) (σ : Nat → Nat → Int32) : Prop := Inv σ ∧ J1x a σ ∧ J2 σ ∧ J3 B σ ∧ J4 B g σ ∧ J5 B σ
theorem jf_drop {B g a : Nat} {s : Nat → Nat → Int32} (h : JF B g a s) (ha : a < 6) {j : Nat} (hj : j < 24) (hu : s 0 j = nI 1) (h1 : s 1 j = nI a) : JF B (g + 1) a (dropL s j 24) := by
  obtain ⟨hI, j1, j2, ⟨L, l1, l2, l3⟩, ⟨M, G, m1, m2, m3, m4⟩, j5⟩ := h
  have dn : ∀ r, r ≠ 0 → r ≠ 4 → r ≠ 5 → r ≠ 6 → r ≠ 7 → dropL s j 24 r = s r := fun r => dr_n s j r
  have d0 : ∀ i, dropL s j 24 0 i = if i = j then nI 0 else s 0 i := dr_fl s j 0 (Or.inl rfl)
  have us : ∀ i, dropL s j 24 0 i = nI 1 → s 0 i = nI 1 := fun i e => by
    rw [d0] at e
    split at e
    · exact absurd e n01
    · exact e
  refine ⟨inv_drop hI hj hu, fun c hc hx => ?_, fun o i ho hi hne uo ui ea => ?_, ⟨L, l1, by rw [dn 12 (by decide) (by decide) (by decide) (by decide) (by decide)]; exact l2, fun o ho => ?_⟩, ⟨M, G, m1, by rw [dn 12 (by decide) (by decide) (by decide) (by decide) (by decide)]; exact m2, by rw [dn 12 (by decide) (by decide) (by decide) (by decide) (by decide)]; exact m3, ?_⟩, ?_⟩
  · rw [dn 9 (by decide) (by decide) (by decide) (by decide) (by decide), szS_dropE ha hc hx h1]
    exact j1 c hc hx
  · rw [dn 1 (by decide) (by decide) (by decide) (by decide) (by decide)] at ea
    rw [dn 2 (by decide) (by decide) (by decide) (by decide) (by decide), dn 3 (by decide) (by decide) (by decide) (by decide) (by decide)]
    exact j2 o i ho hi hne (us o uo) (us i ui) ea
  · rw [dr_fl s j 7 (Or.inr (Or.inr (Or.inr rfl)))]
    split
    · exact ⟨0, by omega, rfl⟩
    · exact l3 o ho
  · have := cn_ub (P := fun o => nz (dropL s j 24 0 o)) (Q := fun o => nz (s 0 o)) (j := j) (by show nz (dropL s j 24 0 j) = false; rw [d0, if_pos rfl]; rfl) (by show nz (s 0 j) = true; rw [hu]; rfl) 24 hj (fun i _ hi => by show nz (dropL s j 24 0 i) = nz (s 0 i); rw [d0, if_neg hi])
    rw [m4, cuN, this, cuN]
    omega
  · exact j5_eq j5 (dn 8 (by decide) (by decide) (by decide) (by decide) (by decide)) (dn 10 (by decide) (by decide) (by decide) (by decide) (by decide))
theorem jf_free {B a : Nat} {σ : Nat → Nat → Int32} (h : JF B 0 a σ) (ha : a < 6) : ∀ n, n ≤ 24 → ∃ g, g ≤ n ∧ (freeL σ (nI a) n).2 = nI g ∧ JF B g a (freeL σ (nI a) n).1
  | 0, _ => ⟨0, Nat.le_refl _, rfl, h⟩
  | n + 1, hn => by
    obtain ⟨g, hg, e, hJ⟩ := jf_free h ha n (by omega)
    rw [freeL]
    rcases c : isInB (freeL σ (nI a) n).1 (nI n) (nI a) with _ | _
    · rw [if_neg (by decide)]
      exact ⟨g, by omega, e, hJ⟩
    · rw [if_pos rfl]
      have u := in_used (ri_ex hJ.1) (show n < 24 by omega) c
      exact ⟨g + 1, by omega, by show (freeL σ (nI a) n).2 + 1 = _; rw [e, show (1 : Int32) = nI 1 from rfl, nI_add], jf_drop hJ ha (by omega) u.1 u.2⟩
theorem jj_free {B a : Nat} {σ : Nat → Nat → Int32} (h : JF B 0 a σ) (ha : a < 6) : JJ B (freeS σ a) := by
  obtain ⟨g, hg, e, hI, j1, j2, ⟨L, l1, l2, l3⟩, ⟨M, G, m1, m2, m3, m4⟩, j5⟩ := jf_free h ha 24 (Nat.le_refl _)
  have hno := fr_none (σ := σ) (a := nI a) 24 (Nat.le_refl _)
  rw [freeS]
  generalize hr : freeL σ (nI a) 24 = r at *
  have hI2 : Inv (goS r.1 r.2) := hI
  have hInv : Inv (freeF r a) := (ri_fin (N' := fun i => if i = 5 then nOf (goS r.1 r.2) 5 + nI 1 else if i = 6 + 3 * a then nI 0 else if i = 6 + 3 * a + 1 then nI 0 else nOf (goS r.1 r.2) i) (ri_ex hI2) ha hno (by rw [if_neg (by omega), if_pos rfl]) (by rw [if_neg (by omega), if_neg (by omega), if_pos rfl]) (if_pos rfl) (fun i _ h5 h6 h7 => by rw [if_neg h5, if_neg h6, if_neg h7])).1
  have k : ∀ q, q ≠ 8 → q ≠ 9 → q ≠ 12 → freeF r a q = r.1 q := fun q a b c => by rw [freeF, rw2_n _ _ c, rw2_n _ _ c, rw2_n _ _ b, rw2_n _ _ a]
  have r0 := k 0 (by decide) (by decide) (by decide)
  have r1 := k 1 (by decide) (by decide) (by decide)
  have r2 := k 2 (by decide) (by decide) (by decide)
  have r3 := k 3 (by decide) (by decide) (by decide)
  have r8 : ∀ i, freeF r a 8 i = if i = a then nI 0 else r.1 8 i := fun i => by rw [freeF, rw2_n _ _ (by decide), rw2_n _ _ (by decide), rw2_n _ _ (by decide), rw2_s, upd_e]
  have r9 : ∀ i, freeF r a 9 i = if i = a then nI 0 else r.1 9 i := fun i => by rw [freeF, rw2_n _ _ (by decide), rw2_n _ _ (by decide), rw2_s, upd_e]
  have r12 : ∀ i, freeF r a 12 i = if i = 3 then r.1 12 3 + nI 1 else if i = 2 then r.1 12 2 + r.2 else r.1 12 i := fun i => by
    rw [freeF, rw2_s, upd_e, upd_e]
  have no : ∀ j, j < 24 → ¬ (r.1 0 j = nI 1 ∧ r.1 1 j = nI a) := fun j hj z => by
    have := hno j hj
    rw [isIn_nI _ hj, z.1, if_neg n10, if_pos z.2] at this
    cases this
  refine ⟨hInv, fun c hc _ => ?_, j2_eq j2 r0 r1 r2 r3, ⟨L, l1, by rw [r12, if_neg (by decide), if_neg (by decide)]; exact l2, by rw [k 7 (by decide) (by decide) (by decide)]; exact l3⟩, ⟨M, G + g, m1, by rw [r12, if_neg (by decide), if_neg (by decide)]; exact m2, by rw [r12, if_neg (by decide), if_pos rfl, m3, e, nI_add], by rw [cuN, r0]; rw [cuN] at m4; omega⟩, fun b hb => ?_⟩
  · rw [r9, szS_eq r0 r1 r3]
    by_cases e : c = a
    · rw [if_pos e, e, szS_none 24 no]
    · rw [if_neg e]; exact j1 c hc e
  · rw [r8, k 10 (by decide) (by decide) (by decide)]
    obtain ⟨P, p1, p2, p3⟩ := j5 b hb
    refine ⟨P, p1, p2, fun z => ?_⟩
    split at z
    · exact absurd z n01
    · exact p3 z
