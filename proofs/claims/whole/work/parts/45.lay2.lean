/-! survivors are laid: the relation is kept -/
theorem sum1_cn (P : Nat → Bool) : ∀ n, sumI P (fun _ => nI 1) n = nI (cn P n)
  | 0 => rfl
  | n + 1 => by
    rw [sumI, cn, sum1_cn P n]
    split
    · rw [nI_add]
    · rfl
theorem szS_lay {σ σ' : Nat → Nat → Int32} {P : Nat → Bool} {b : Nat} (hb : b < 6) (r0 : σ' 0 = σ 0) (r1 : ∀ i, i < 24 → σ' 1 i = if P i = true then nI b else σ 1 i) (r3 : σ' 3 = σ 3) (c : Nat) (hc : c < 6) : ∀ n, n ≤ 24 → szS σ' c n ≤ szS σ c n + if c = b then SNn P (σ 3) n else 0
  | 0, _ => by rw [szS]; omega
  | n + 1, h => by
    have ih := szS_lay hb r0 r1 r3 c hc n (by omega)
    rw [szS, szS, r0, r1 n (by omega), r3, SNn]
    rcases hp : P n with _ | _
    · rw [if_neg Bool.false_ne_true, if_neg Bool.false_ne_true]
      by_cases e : c = b
      · rw [if_pos e] at ih ⊢; omega
      · rw [if_neg e] at ih ⊢; omega
    · rw [if_pos rfl, if_pos rfl]
      by_cases e : c = b
      · rw [if_pos e] at ih ⊢
        by_cases g : σ 0 n = nI 1 ∧ nI b = nI c
        · rw [if_pos g]; omega
        · rw [if_neg g]; omega
      · rw [if_neg e] at ih ⊢
        rw [if_neg (show ¬ (σ 0 n = nI 1 ∧ nI b = nI c) from fun z => e ((nI_eq (by omega) (by omega)).mp z.2).symm)]
        omega
theorem ri_lay {σ μf : Nat → Nat → Int32} {N N' : Nat → Int32} {q a b : Nat} (hR : RI σ N) (hFM : FM σ μf (trC σ (-1)) q) (ha : a < 6) (hb : b < 6) (hab : ¬ a = b) (h0 : rsC σ (nI a) (nI b) = 0)
    (hP : ∀ o, o < 24 → plB (suC σ (nI a)) o = true → N' (24 + 9 * o + 1) = nI b ∧ N' (24 + 9 * o + 2) = landL σ (trC σ (-1)) (suC σ (nI a)) (rankI σ (trC σ (-1)) (nI o)) (σ 9 b) 24 ∧ N' (24 + 9 * o + 8) = N (24 + 9 * o + 8) + nI 1)
    (hN : ∀ i, i < 240 → i ≠ 3 → i ≠ 6 + 3 * b + 1 → (∀ o, o < 24 → plB (suC σ (nI a)) o = true → i ≠ 24 + 9 * o + 1 ∧ i ≠ 24 + 9 * o + 2 ∧ i ≠ 24 + 9 * o + 8) → N' i = N i)
    (h3 : N' 3 = N 3 + nI (cn (plB (suC σ (nI a))) 24)) (hm : N' (6 + 3 * b + 1) = N (6 + 3 * b + 1) + sumI (plB (suC σ (nI a))) (σ 3) 24) : RI (cyC σ (nI a) b 24) N' := by
  have hna : (nI a : Int32) ≠ -1 := nI_nm1 (by omega)
  have use : ∀ o, o < 24 → plB (suC σ (nI a)) o = true → σ 0 o = nI 1 ∧ σ 1 o = nI a := fun o ho hp => su_use hR hna ho hp
  have size : ∀ o, o < 24 → plB (suC σ (nI a)) o = true → ∃ z, 1 ≤ z ∧ z ≤ 16 ∧ σ 3 o = nI z := fun o ho hp => by
    obtain ⟨k, z, d, t, g1, g2, g3, g4, g5, e1, e2, e3, e4, e5⟩ := hR.1.2.2.2.2.1 o ho (use o ho hp).1
    exact ⟨z, g2, g3, e3⟩
  have T : sumI (plB (suC σ (nI a))) (σ 3) 24 = nI (SNn (plB (suC σ (nI a))) (σ 3) 24) := sumI_SN 24 (fun j hj hp => by obtain ⟨z, _, h, e⟩ := size j hj hp; exact ⟨z, by omega, e⟩)
  have SNb : ∀ n, n ≤ 24 → SNn (plB (suC σ (nI a))) (σ 3) n ≤ 16 * n := by
    intro n
    induction n with
    | zero => intro _; exact Nat.le_refl _
    | succ n ih =>
      intro hn
      have := ih (by omega)
      rw [SNn]
      rcases hp : plB (suC σ (nI a)) n with _ | _
      · rw [if_neg (by decide)]; omega
      · obtain ⟨z, g1, g2, e⟩ := size n (by omega) hp
        rw [if_pos rfl, e, nI_clamp (by omega)]; omega
  have hT := SNb 24 (Nat.le_refl _)
  obtain ⟨-, m, hm64, e9, hsz⟩ := hR.1.2.1 b hb
  have opab : isOpB σ (nI a) = true ∧ isOpB σ (nI b) = true ∧ roomB σ (nI b) (cellsL σ (suC σ (nI a)) 24) = true := by
    rw [rs_eq, if_neg (fun e => hab ((nI_eq (by omega) (by omega)).mp e))] at h0
    rcases c1 : isOpB σ (nI a) with _ | _
    · rw [c1, if_pos rfl] at h0; exact absurd h0 (by decide)
    · rw [c1, if_neg (by decide)] at h0
      rcases c2 : isOpB σ (nI b) with _ | _
      · rw [c2, if_pos rfl] at h0; exact absurd h0 (by decide)
      · rw [c2, if_neg (by decide)] at h0
        refine ⟨rfl, rfl, ?_⟩
        split at h0
        · exact absurd h0 (by decide)
        · rcases c3 : roomB σ (nI b) (cellsL σ (suC σ (nI a)) 24) with _ | _
          · rw [c3, if_pos rfl] at h0; exact absurd h0 (by decide)
          · rfl
  have hfit : m + SNn (plB (suC σ (nI a))) (σ 3) 24 ≤ 64 := by
    have hr := opab.2.2
    rw [cells_sum σ _ 24 (Nat.le_refl _), T, hR.cell hb (by omega), (hR.2.2.1 b hb).2.1, e9, nI_add] at hr
    rcases Nat.lt_or_ge 64 (m + SNn (plB (suC σ (nI a))) (σ 3) 24) with c | c
    · rw [if_pos ((nI_ltI (by omega) (by omega)).mpr c)] at hr; cases hr
    · exact c
  have op8 : σ 8 b = nI 1 := by
    have h := opab.2.1
    rw [isOp_nI σ hb] at h
    rcases (hR.1.2.1 b hb).1 with e | e
    · rw [e, if_pos rfl] at h; cases h
    · exact e
  -- addresses
  have blP : ∀ x j, blB σ (suC σ (nI a)) x j = true → plB (suC σ (nI a)) j = true ∧ rkN σ j < x := fun x j h => by
    rw [blB] at h
    split at h
    · exact ⟨by assumption, of_decide_eq_true h⟩
    · cases h
  have blS : ∀ x, sumI (blB σ (suC σ (nI a)) x) (σ 3) 24 = nI (SNn (blB σ (suC σ (nI a)) x) (σ 3) 24) := fun x => sumI_SN 24 (fun j hj hp => by obtain ⟨z, _, h, e⟩ := size j hj (blP x j hp).1; exact ⟨z, by omega, e⟩)
  have land : ∀ o, o < 24 → plB (suC σ (nI a)) o = true → landL σ (trC σ (-1)) (suC σ (nI a)) (rankI σ (trC σ (-1)) (nI o)) (σ 9 b) 24 = nI (m + SNn (blB σ (suC σ (nI a)) (rkN σ o)) (σ 3) 24) := fun o ho hp => by
    have hr := rk_nI hR hFM ho (use o ho hp).1
    rw [hr.1, land_sum hR hna hFM (by omega) _ 24 (Nat.le_refl _), blS, e9, nI_add]
  have selfF : ∀ o, plB (suC σ (nI a)) o = true → blB σ (suC σ (nI a)) (rkN σ o) o = false := fun o hp => by
    rw [blB, hp, if_pos rfl]; exact decide_eq_false (by omega)
  have fits : ∀ o, o < 24 → plB (suC σ (nI a)) o = true → SNn (blB σ (suC σ (nI a)) (rkN σ o)) (σ 3) 24 + (σ 3 o).toNatClampNeg ≤ SNn (plB (suC σ (nI a))) (σ 3) 24 := fun o ho hp => SN_lt (selfF o hp) hp 24 ho (fun j _ h => (blP _ j h).1)
  have apart : ∀ o j, o < 24 → j < 24 → plB (suC σ (nI a)) o = true → plB (suC σ (nI a)) j = true → rkN σ o < rkN σ j → SNn (blB σ (suC σ (nI a)) (rkN σ o)) (σ 3) 24 + (σ 3 o).toNatClampNeg ≤ SNn (blB σ (suC σ (nI a)) (rkN σ j)) (σ 3) 24 := fun o j ho hj hp hq hr => SN_lt (selfF o hp) (by rw [blB, hp, if_pos rfl]; exact decide_eq_true hr) 24 ho (fun i _ h => by
    have := blP _ i h
    rw [blB, this.1, if_pos rfl]
    exact decide_eq_true (by omega))
  -- rows
  obtain ⟨k0, k1, k2, k7, k9, k12⟩ := cy_rows σ (nI a) b 24 (Nat.le_refl _)
  have r0 := k0 0 (by decide) (by decide) (by decide) (by decide) (by decide)
  have r3 := k0 3 (by decide) (by decide) (by decide) (by decide) (by decide)
  have r4 := k0 4 (by decide) (by decide) (by decide) (by decide) (by decide)
  have r5 := k0 5 (by decide) (by decide) (by decide) (by decide) (by decide)
  have r6 := k0 6 (by decide) (by decide) (by decide) (by decide) (by decide)
  have r8 := k0 8 (by decide) (by decide) (by decide) (by decide) (by decide)
  have r10 := k0 10 (by decide) (by decide) (by decide) (by decide) (by decide)
  have r11 := k0 11 (by decide) (by decide) (by decide) (by decide) (by decide)
  have on : ∀ i, i < 24 → plB (suC σ (nI a)) i = true → cyC σ (nI a) b 24 1 i = nI b ∧ cyC σ (nI a) b 24 2 i = nI (m + SNn (blB σ (suC σ (nI a)) (rkN σ i)) (σ 3) 24) ∧ cyC σ (nI a) b 24 7 i = σ 7 i + nI 1 := fun i hi hp => by
    rw [k1, k2, k7, if_pos ⟨hi, hp⟩, if_pos ⟨hi, hp⟩, if_pos ⟨hi, hp⟩, landI, base_nI σ hb, land i hi hp]
    exact ⟨rfl, rfl, rfl⟩
  have off : ∀ i, plB (suC σ (nI a)) i = false → cyC σ (nI a) b 24 1 i = σ 1 i ∧ cyC σ (nI a) b 24 2 i = σ 2 i ∧ cyC σ (nI a) b 24 7 i = σ 7 i := fun i hp => by
    rw [k1, k2, k7, if_neg (fun z => by rw [hp] at z; cases z.2), if_neg (fun z => by rw [hp] at z; cases z.2), if_neg (fun z => by rw [hp] at z; cases z.2)]
    exact ⟨rfl, rfl, rfl⟩
  have m9 : cyC σ (nI a) b 24 9 b = nI (m + SNn (plB (suC σ (nI a))) (σ 3) 24) := by rw [k9, if_pos rfl, T, e9, nI_add]
  have n9 : ∀ i, ¬ i = b → cyC σ (nI a) b 24 9 i = σ 9 i := fun i hi => by rw [k9, if_neg hi]
  obtain ⟨⟨hF, hA, hS, hU, hO, hQ, hD⟩, hC, hB, hE, hW⟩ := hR
  have nP : ∀ o, o < 24 → σ 0 o = nI 0 → plB (suC σ (nI a)) o = false := fun o ho h => by
    rcases hp : plB (suC σ (nI a)) o with _ | _
    · rfl
    · have := (use o ho hp).1
      rw [h] at this
      exact absurd this n01
  have old : ∀ j, j < 24 → σ 0 j = nI 1 → σ 1 j = nI b → ∀ t, σ 2 j ≠ nI (m + t) := fun j hj hu he t hd => by
    obtain ⟨c, z, d, y, g1, g2, g3, g4, g5, e1, e2, e3, e4, e5⟩ := hO j hj hu
    have hc : c = b := (nI_eq (by omega) (by omega)).mp (e1.symm.trans he)
    subst hc
    have hy : y = m := (nI_eq (by omega) (by omega)).mp (e4.symm.trans e9)
    have : (nI (m + t)) = nI d := hd.symm.trans e2
    by_cases ht : m + t < 2 ^ 31
    · have := (nI_eq ht (by omega)).mp this
      omega
    · sorry
  sorry
