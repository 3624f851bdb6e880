/-! survivors are laid: the relation is kept -/
theorem sum1_cn (P : Nat → Bool) : ∀ n, sumI P (fun _ => nI 1) n = nI (cn P n)
  | 0 => rfl
  | n + 1 => by
    rw [sumI, cn, sum1_cn P n]
    split
    · rw [nI_add]
    · rfl
theorem szS_lay {σ σ' : Nat → Nat → Int32} {P : Nat → Bool} {b : Nat} (hb : b < 6) (r0 : σ' 0 = σ 0) (r1 : ∀ i, i < 24 → σ' 1 i = if P i = true then nI b else σ 1 i) (r3 : σ' 3 = σ 3) (c : Nat) (hc : c < 6) : ∀ n, n ≤ 24 → szS σ' c n ≤ szS σ c n + if c = b then SNn P (σ 3) n else 0
  | 0, _ => by rw [szS]; omega
  | n + 1, h => by
    have ih := szS_lay hb r0 r1 r3 c hc n (by omega)
    rw [szS, szS, r0, r1 n (by omega), r3, SNn]
    rcases hp : P n with _ | _
    · rw [if_neg Bool.false_ne_true, if_neg Bool.false_ne_true]
      by_cases e : c = b
      · rw [if_pos e] at ih ⊢; omega
      · rw [if_neg e] at ih ⊢; omega
    · rw [if_pos rfl, if_pos rfl]
      by_cases e : c = b
      · rw [if_pos e] at ih ⊢
        by_cases g : σ 0 n = nI 1 ∧ nI b = nI c
        · rw [if_pos g]; omega
        · rw [if_neg g]; omega
      · rw [if_neg e] at ih ⊢
        rw [if_neg (show ¬ (σ 0 n = nI 1 ∧ nI b = nI c) from fun z => e ((nI_eq (by omega) (by omega)).mp z.2).symm)]
        omega
theorem ri_lay {σ μf : Nat → Nat → Int32} {N N' : Nat → Int32} {q a b : Nat} (hR : RI σ N) (hFM : FM σ μf (trC σ (-1)) q) (ha : a < 6) (hb : b < 6) (hab : ¬ a = b) (h0 : rsC σ (nI a) (nI b) = 0)
    (hP : ∀ o, o < 24 → plB (suC σ (nI a)) o = true → N' (24 + 9 * o + 1) = nI b ∧ N' (24 + 9 * o + 2) = landL σ (trC σ (-1)) (suC σ (nI a)) (rankI σ (trC σ (-1)) (nI o)) (σ 9 b) 24 ∧ N' (24 + 9 * o + 8) = N (24 + 9 * o + 8) + nI 1)
    (hN : ∀ i, i < 240 → i ≠ 3 → i ≠ 6 + 3 * b + 1 → (∀ o, o < 24 → plB (suC σ (nI a)) o = true → i ≠ 24 + 9 * o + 1 ∧ i ≠ 24 + 9 * o + 2 ∧ i ≠ 24 + 9 * o + 8) → N' i = N i)
    (h3 : N' 3 = N 3 + nI (cn (plB (suC σ (nI a))) 24)) (hm : N' (6 + 3 * b + 1) = N (6 + 3 * b + 1) + sumI (plB (suC σ (nI a))) (σ 3) 24) : RI (cyC σ (nI a) b 24) N' := by
  have hna : (nI a : Int32) ≠ -1 := nI_nm1 (by omega)
  have use : ∀ o, o < 24 → plB (suC σ (nI a)) o = true → σ 0 o = nI 1 ∧ σ 1 o = nI a := fun o ho hp => su_use hR hna ho hp
  have size : ∀ o, o < 24 → plB (suC σ (nI a)) o = true → ∃ z, 1 ≤ z ∧ z ≤ 16 ∧ σ 3 o = nI z := fun o ho hp => by
    obtain ⟨k, z, d, t, g1, g2, g3, g4, g5, e1, e2, e3, e4, e5⟩ := hR.1.2.2.2.2.1 o ho (use o ho hp).1
    exact ⟨z, g2, g3, e3⟩
  have T : sumI (plB (suC σ (nI a))) (σ 3) 24 = nI (SNn (plB (suC σ (nI a))) (σ 3) 24) := sumI_SN 24 (fun j hj hp => by obtain ⟨z, _, h, e⟩ := size j hj hp; exact ⟨z, by omega, e⟩)
  have SNb : ∀ n, n ≤ 24 → SNn (plB (suC σ (nI a))) (σ 3) n ≤ 16 * n := by
    intro n
    induction n with
    | zero => intro _; exact Nat.le_refl _
    | succ n ih =>
      intro hn
      have := ih (by omega)
      rw [SNn]
      rcases hp : plB (suC σ (nI a)) n with _ | _
      · rw [if_neg (by decide)]; omega
      · obtain ⟨z, g1, g2, e⟩ := size n (by omega) hp
        rw [if_pos rfl, e, nI_clamp (by omega)]; omega
  have hT := SNb 24 (Nat.le_refl _)
  obtain ⟨-, m, hm64, e9, hsz⟩ := hR.1.2.1 b hb
  have opab : isOpB σ (nI a) = true ∧ isOpB σ (nI b) = true ∧ roomB σ (nI b) (cellsL σ (suC σ (nI a)) 24) = true := by
    rw [rs_eq, if_neg (fun e => hab ((nI_eq (by omega) (by omega)).mp e))] at h0
    rcases c1 : isOpB σ (nI a) with _ | _
    · rw [c1, if_pos rfl] at h0; exact absurd h0 (by decide)
    · rw [c1, if_neg (by decide)] at h0
      rcases c2 : isOpB σ (nI b) with _ | _
      · rw [c2, if_pos rfl] at h0; exact absurd h0 (by decide)
      · rw [c2, if_neg (by decide)] at h0
        refine ⟨rfl, rfl, ?_⟩
        split at h0
        · exact absurd h0 (by decide)
        · rcases c3 : roomB σ (nI b) (cellsL σ (suC σ (nI a)) 24) with _ | _
          · rw [c3, if_pos rfl] at h0; exact absurd h0 (by decide)
          · rfl
  have hfit : m + SNn (plB (suC σ (nI a))) (σ 3) 24 ≤ 64 := by
    have hr := opab.2.2
    rw [cells_sum σ _ 24 (Nat.le_refl _), T, hR.cell hb (by omega), (hR.2.2.1 b hb).2.1, e9, nI_add] at hr
    rcases Nat.lt_or_ge 64 (m + SNn (plB (suC σ (nI a))) (σ 3) 24) with c | c
    · rw [if_pos ((nI_ltI (by omega) (by omega)).mpr c)] at hr; cases hr
    · exact c
  have op8 : σ 8 b = nI 1 := by
    have h := opab.2.1
    rw [isOp_nI σ hb] at h
    rcases (hR.1.2.1 b hb).1 with e | e
    · rw [e, if_pos rfl] at h; cases h
    · exact e
  -- addresses
  have blP : ∀ x j, blB σ (suC σ (nI a)) x j = true → plB (suC σ (nI a)) j = true ∧ rkN σ j < x := fun x j h => by
    rw [blB] at h
    split at h
    · exact ⟨by assumption, of_decide_eq_true h⟩
    · cases h
  have blS : ∀ x, sumI (blB σ (suC σ (nI a)) x) (σ 3) 24 = nI (SNn (blB σ (suC σ (nI a)) x) (σ 3) 24) := fun x => sumI_SN 24 (fun j hj hp => by obtain ⟨z, _, h, e⟩ := size j hj (blP x j hp).1; exact ⟨z, by omega, e⟩)
  have land : ∀ o, o < 24 → plB (suC σ (nI a)) o = true → landL σ (trC σ (-1)) (suC σ (nI a)) (rankI σ (trC σ (-1)) (nI o)) (σ 9 b) 24 = nI (m + SNn (blB σ (suC σ (nI a)) (rkN σ o)) (σ 3) 24) := fun o ho hp => by
    have hr := rk_nI hR hFM ho (use o ho hp).1
    rw [hr.1, land_sum hR hna hFM (by omega) _ 24 (Nat.le_refl _), blS, e9, nI_add]
  have selfF : ∀ o, plB (suC σ (nI a)) o = true → blB σ (suC σ (nI a)) (rkN σ o) o = false := fun o hp => by
    rw [blB, hp, if_pos rfl]; exact decide_eq_false (by omega)
  have fits : ∀ o, o < 24 → plB (suC σ (nI a)) o = true → SNn (blB σ (suC σ (nI a)) (rkN σ o)) (σ 3) 24 + (σ 3 o).toNatClampNeg ≤ SNn (plB (suC σ (nI a))) (σ 3) 24 := fun o ho hp => SN_lt (selfF o hp) hp 24 ho (fun j _ h => (blP _ j h).1)
  have apart : ∀ o j, o < 24 → j < 24 → plB (suC σ (nI a)) o = true → plB (suC σ (nI a)) j = true → rkN σ o < rkN σ j → SNn (blB σ (suC σ (nI a)) (rkN σ o)) (σ 3) 24 + (σ 3 o).toNatClampNeg ≤ SNn (blB σ (suC σ (nI a)) (rkN σ j)) (σ 3) 24 := fun o j ho hj hp hq hr => SN_lt (selfF o hp) (by rw [blB, hp, if_pos rfl]; exact decide_eq_true hr) 24 ho (fun i _ h => by
    have := blP _ i h
    rw [blB, this.1, if_pos rfl]
    exact decide_eq_true (by omega))
  -- rows
  obtain ⟨k0, k1, k2, k7, k9, k12⟩ := cy_rows σ (nI a) b 24 (Nat.le_refl _)
  have r0 := k0 0 (by decide) (by decide) (by decide) (by decide) (by decide)
  have r3 := k0 3 (by decide) (by decide) (by decide) (by decide) (by decide)
  have r4 := k0 4 (by decide) (by decide) (by decide) (by decide) (by decide)
  have r5 := k0 5 (by decide) (by decide) (by decide) (by decide) (by decide)
  have r6 := k0 6 (by decide) (by decide) (by decide) (by decide) (by decide)
  have r8 := k0 8 (by decide) (by decide) (by decide) (by decide) (by decide)
  have r10 := k0 10 (by decide) (by decide) (by decide) (by decide) (by decide)
  have r11 := k0 11 (by decide) (by decide) (by decide) (by decide) (by decide)
  have on : ∀ i, i < 24 → plB (suC σ (nI a)) i = true → cyC σ (nI a) b 24 1 i = nI b ∧ cyC σ (nI a) b 24 2 i = nI (m + SNn (blB σ (suC σ (nI a)) (rkN σ i)) (σ 3) 24) ∧ cyC σ (nI a) b 24 7 i = σ 7 i + nI 1 := fun i hi hp => by
    rw [k1, k2, k7, if_pos ⟨hi, hp⟩, if_pos ⟨hi, hp⟩, if_pos ⟨hi, hp⟩, landI, base_nI σ hb, land i hi hp]
    exact ⟨rfl, rfl, rfl⟩
  have off : ∀ i, plB (suC σ (nI a)) i = false → cyC σ (nI a) b 24 1 i = σ 1 i ∧ cyC σ (nI a) b 24 2 i = σ 2 i ∧ cyC σ (nI a) b 24 7 i = σ 7 i := fun i hp => by
    rw [k1, k2, k7, if_neg (fun z => by rw [hp] at z; cases z.2), if_neg (fun z => by rw [hp] at z; cases z.2), if_neg (fun z => by rw [hp] at z; cases z.2)]
    exact ⟨rfl, rfl, rfl⟩
  have m9 : cyC σ (nI a) b 24 9 b = nI (m + SNn (plB (suC σ (nI a))) (σ 3) 24) := by rw [k9, if_pos rfl, T, e9, nI_add]
  have n9 : ∀ i, ¬ i = b → cyC σ (nI a) b 24 9 i = σ 9 i := fun i hi => by rw [k9, if_neg hi]
  obtain ⟨⟨hF, hA, hS, hU, hO, hQ, hD⟩, hC, hB, hE, hW⟩ := hR
  have nP : ∀ o, o < 24 → σ 0 o = nI 0 → plB (suC σ (nI a)) o = false := fun o ho h => by
    rcases hp : plB (suC σ (nI a)) o with _ | _
    · rfl
    · have := (use o ho hp).1
      rw [h] at this
      exact absurd this n01
  have old : ∀ j, j < 24 → σ 0 j = nI 1 → σ 1 j = nI b → ∀ t, m + t ≤ 64 → σ 2 j ≠ nI (m + t) := fun j hj hu he t ht hd => by
    obtain ⟨c, z, d, y, g1, g2, g3, g4, g5, e1, e2, e3, e4, e5⟩ := hO j hj hu
    have hc : c = b := (nI_eq (by omega) (by omega)).mp (e1.symm.trans he)
    subst hc
    have hy : y = m := (nI_eq (by omega) (by omega)).mp (e4.symm.trans e9)
    have : nI (m + t) = nI d := hd.symm.trans e2
    have := (nI_eq (by omega) (by omega)).mp this
    omega
  have nn : ∀ i, i < 240 → i ≠ 3 → i ≠ 6 + 3 * b + 1 → (i < 24 ∨ ∃ o c, i = 24 + 9 * o + c ∧ c < 9 ∧ ((c ≠ 1 ∧ c ≠ 2 ∧ c ≠ 8) ∨ plB (suC σ (nI a)) o = false)) → N' i = N i := fun i h1 h2 h4 h5 => hN i h1 h2 h4 (fun y hy hp => by
    rcases h5 with h5 | ⟨o, c, e, hc, hh⟩
    · omega
    · rcases hh with hh | hh
      · omega
      · refine ⟨fun z => ?_, fun z => ?_, fun z => ?_⟩
        · have : o = y := by omega
          rw [this, hp] at hh; cases hh
        · have : o = y := by omega
          rw [this, hp] at hh; cases hh
        · have : o = y := by omega
          rw [this, hp] at hh; cases hh)
  refine ⟨⟨inv_F hF r0 r5 r6, fun c hc => ?_, inv_S hS r11, fun o ho hu => ?_, fun o ho hu => ?_, inv_R hQ r0 r4, fun o j ho hj uo uj ea ed => ?_⟩, ?_, fun c hc => ?_, fun o ho => ?_, fun o ho => ?_, fun o f ho hf => ?_⟩
  · have hs := szS_lay (σ' := cyC σ (nI a) b 24) hb r0 (P := plB (suC σ (nI a))) (fun i hi => by
      rcases hp : plB (suC σ (nI a)) i with _ | _
      · rw [if_neg (by decide)]; exact (off i hp).1
      · rw [if_pos rfl]; exact (on i hi hp).1) r3 c hc 24 (Nat.le_refl _)
    rw [r8]
    obtain ⟨f1, y, f2, f3, f4⟩ := hA c hc
    refine ⟨f1, ?_⟩
    by_cases e : c = b
    · rw [if_pos e] at hs
      subst e
      have : y = m := (nI_eq (by omega) (by omega)).mp (f3.symm.trans e9)
      exact ⟨_, hfit, m9, by omega⟩
    · rw [if_neg e] at hs
      exact ⟨y, f2, by rw [n9 c e, f3], by omega⟩
  · rw [r0] at hu
    rw [r4, r5, r6, (off o (nP o ho hu)).2.2]
    exact hU o ho hu
  · rw [r0] at hu
    obtain ⟨c, z, d, y, g1, g2, g3, g4, g5, e1, e2, e3, e4, e5⟩ := hO o ho hu
    rcases hp : plB (suC σ (nI a)) o with _ | _
    · obtain ⟨f1, f2, f3⟩ := off o hp
      by_cases e : c = b
      · subst e
        have hy : y = m := (nI_eq (by omega) (by omega)).mp (e4.symm.trans e9)
        exact ⟨c, z, d, m + SNn (plB (suC σ (nI a))) (σ 3) 24, g1, g2, g3, by omega, hfit, f1.trans e1, f2.trans e2, by rw [r3]; exact e3, m9, by rw [r8]; exact e5⟩
      · exact ⟨c, z, d, y, g1, g2, g3, g4, g5, f1.trans e1, f2.trans e2, by rw [r3]; exact e3, (n9 c e).trans e4, by rw [r8]; exact e5⟩
    · obtain ⟨f1, f2, f3⟩ := on o ho hp
      have ft := fits o ho hp
      rw [e3, nI_clamp (by omega)] at ft
      exact ⟨b, z, _, m + SNn (plB (suC σ (nI a))) (σ 3) 24, hb, g2, g3, by omega, hfit, f1, f2, by rw [r3]; exact e3, m9, by rw [r8]; exact op8⟩
  · rw [r0] at uo uj
    rcases hp : plB (suC σ (nI a)) o with _ | _ <;> rcases hq : plB (suC σ (nI a)) j with _ | _
    · rw [(off o hp).1, (off j hq).1] at ea
      rw [(off o hp).2.1, (off j hq).2.1] at ed
      exact hD o j ho hj uo uj ea ed
    · rw [(off o hp).1, (on j hj hq).1] at ea
      rw [(off o hp).2.1, (on j hj hq).2.1] at ed
      exact absurd ed (old o ho uo ea _ (by have := fits j hj hq; omega))
    · rw [(on o ho hp).1, (off j hq).1] at ea
      rw [(on o ho hp).2.1, (off j hq).2.1] at ed
      exact absurd ed.symm (old j hj uj ea.symm _ (by have := fits o ho hp; omega))
    · rw [(on o ho hp).2.1, (on j hj hq).2.1] at ed
      have fo := fits o ho hp
      have fj := fits j hj hq
      have e := (nI_eq (by omega) (by omega)).mp ed
      obtain ⟨z1, z2, z3, z4⟩ := size o ho hp
      obtain ⟨y1, y2, y3, y4⟩ := size j hj hq
      rcases Nat.lt_trichotomy (rkN σ o) (rkN σ j) with h | h | h
      · have := apart o j ho hj hp hq h
        rw [z4, nI_clamp (by omega)] at this
        omega
      · exact rN_inj ⟨⟨hF, hA, hS, hU, hO, hQ, hD⟩, hC, hB, hE, hW⟩ hFM ho hj (use o ho hp).1 (use j hj hq).1 ((use o ho hp).2.trans (use j hj hq).2.symm) h
      · have := apart j o hj ho hq hp h
        rw [y4, nI_clamp (by omega)] at this
        omega
  · obtain ⟨c0, c1, c2, c3, c4, c5⟩ := hC
    rw [RelC, r11, k12, k12, k12, k12, if_neg (by decide), if_pos rfl, if_neg (by decide), if_neg (by decide), sum1_cn, h3, nn 0 (by omega) (by decide) (by omega) (Or.inl (by omega)), nn 1 (by omega) (by decide) (by omega) (Or.inl (by omega)), nn 2 (by omega) (by decide) (by omega) (Or.inl (by omega)), nn 4 (by omega) (by decide) (by omega) (Or.inl (by omega)), nn 5 (by omega) (by decide) (by omega) (Or.inl (by omega)), c3]
    exact ⟨c0, c1, c2, rfl, c4, c5⟩
  · obtain ⟨f1, f2, f3⟩ := hB c hc
    rw [r8, r10, nn (6 + 3 * c) (by omega) (by omega) (by omega) (Or.inl (by omega)), nn (6 + 3 * c + 2) (by omega) (by omega) (by omega) (Or.inl (by omega))]
    by_cases e : c = b
    · subst e
      rw [hm, k9, if_pos rfl, f2]
      exact ⟨f1, rfl, f3⟩
    · rw [n9 c e, nn (6 + 3 * c + 1) (by omega) (by omega) (by omega) (Or.inl (by omega))]
      exact ⟨f1, f2, f3⟩
  · obtain ⟨e0, ee⟩ := hE o ho
    have ob : ∀ c, c < 9 → c ≠ 1 → c ≠ 2 → c ≠ 8 → N' (24 + 9 * o + c) = N (24 + 9 * o + c) := fun c h1 h2 h4 h5 => nn _ (by omega) (by omega) (by omega) (Or.inr ⟨o, c, rfl, h1, Or.inl ⟨h2, h4, h5⟩⟩)
    rw [r0, r3, r4, r5, r6, ob 0 (by decide) (by decide) (by decide) (by decide), ob 3 (by decide) (by decide) (by decide) (by decide), ob 4 (by decide) (by decide) (by decide) (by decide), ob 5 (by decide) (by decide) (by decide) (by decide), ob 6 (by decide) (by decide) (by decide) (by decide), ob 7 (by decide) (by decide) (by decide) (by decide)]
    refine ⟨e0, fun h1 => ?_⟩
    obtain ⟨e1, e2, e3, e4, e5, e6, e7, e8⟩ := ee h1
    rcases hp : plB (suC σ (nI a)) o with _ | _
    · obtain ⟨f1, f2, f3⟩ := off o hp
      have oc : ∀ c, c < 9 → N' (24 + 9 * o + c) = N (24 + 9 * o + c) := fun c h1 => nn _ (by omega) (by omega) (by omega) (Or.inr ⟨o, c, rfl, h1, Or.inr hp⟩)
      rw [f1, f2, f3, oc 1 (by decide), oc 2 (by decide), oc 8 (by decide)]
      exact ⟨e1, e2, e3, e4, e5, e6, e7, e8⟩
    · obtain ⟨f1, f2, f3⟩ := on o ho hp
      obtain ⟨p1, p2, p3⟩ := hP o ho hp
      rw [f1, f2, f3, p1, p2, p3, land o ho hp, e8]
      exact ⟨rfl, rfl, e3, e4, e5, e6, e7, rfl⟩
  · rcases hp : plB (suC σ (nI a)) o with _ | _
    · rw [nn _ (by omega) (by omega) (by omega) (Or.inr ⟨o, 1, rfl, by decide, Or.inr hp⟩)]
      exact hW.1 o ho
    · exact ⟨b, hb, (hP o ho hp).1⟩
  · rw [nn _ (by omega) (by omega) (by omega) (Or.inr ⟨o, 4 + f, rfl, by omega, Or.inl ⟨by omega, by omega, by omega⟩⟩)]
    exact hW.2 o f ho hf
