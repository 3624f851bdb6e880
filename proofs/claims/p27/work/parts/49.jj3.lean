/-! survivors are laid -/
def lyN (σ : Nat → Nat → Int32) (N : Nat → Int32) (a b i : Nat) : Int32 :=
  if i = 3 then N 3 + nI (cn (plB (suC σ (nI a))) 24) else if i = 6 + 3 * b + 1 then N (6 + 3 * b + 1) + sumI (plB (suC σ (nI a))) (σ 3) 24 else if i < 24 then N i else if plB (suC σ (nI a)) ((i - 24) / 9) = false then N i
  else if (i - 24) % 9 = 1 then nI b else if (i - 24) % 9 = 2 then landL σ (trC σ (-1)) (suC σ (nI a)) (rankI σ (trC σ (-1)) (nI ((i - 24) / 9))) (σ 9 b) 24 else if (i - 24) % 9 = 8 then N i + nI 1 else N i
theorem lyN_o (σ : Nat → Nat → Int32) (N : Nat → Int32) {a b o c : Nat} (hb : b < 6) (hp : plB (suC σ (nI a)) o = true) (hc : c < 9) : lyN σ N a b (24 + 9 * o + c) = if c = 1 then nI b else if c = 2 then landL σ (trC σ (-1)) (suC σ (nI a)) (rankI σ (trC σ (-1)) (nI o)) (σ 9 b) 24 else if c = 8 then N (24 + 9 * o + c) + nI 1 else N (24 + 9 * o + c) := by
  have e1 : (24 + 9 * o + c - 24) % 9 = c := by omega
  have e2 : (24 + 9 * o + c - 24) / 9 = o := by omega
  rw [lyN, if_neg (by omega), if_neg (by omega), if_neg (by omega), e1, e2, hp, if_neg (by decide)]
theorem szS_layE {σ σ' : Nat → Nat → Int32} {P : Nat → Bool} {a b : Nat} (ha : a < 6) (hb : b < 6) (r0 : σ' 0 = σ 0) (r1 : ∀ i, i < 24 → σ' 1 i = if P i = true then nI b else σ 1 i) (r3 : σ' 3 = σ 3) (hP : ∀ i, i < 24 → P i = true → σ 0 i = nI 1 ∧ σ 1 i = nI a) (c : Nat) (hc : c < 6) (hca : c ≠ a) : ∀ n, n ≤ 24 → szS σ' c n = szS σ c n + if c = b then SNn P (σ 3) n else 0
  | 0, _ => by split <;> rfl
  | n + 1, hn => by
    rw [szS, szS, szS_layE ha hb r0 r1 r3 hP c hc hca n (by omega), r0, r1 n (by omega), r3, SNn]
    rcases hp : P n with _ | _
    · rw [if_neg (show ¬ false = true by decide), if_neg (show ¬ false = true by decide)]
      by_cases e : c = b
      · rw [if_pos e, if_pos e]; omega
      · rw [if_neg e, if_neg e]; omega
    · obtain ⟨u1, u2⟩ := hP n (by omega) hp
      rw [if_pos rfl, if_pos rfl, u1, u2, if_neg (show ¬ (nI 1 = nI 1 ∧ nI a = nI c) from fun z => hca ((nI_eq (by omega) (by omega)).mp z.2).symm)]
      by_cases e : c = b
      · rw [if_pos e, if_pos e, if_pos (show nI 1 = nI 1 ∧ nI b = nI c from ⟨rfl, by rw [e]⟩)]; omega
      · rw [if_neg e, if_neg e, if_neg (show ¬ (nI 1 = nI 1 ∧ nI b = nI c) from fun z => e ((nI_eq (by omega) (by omega)).mp z.2).symm)]
theorem cn_pos {P : Nat → Bool} {o : Nat} (hp : P o = true) : ∀ n, o < n → 1 ≤ cn P n
  | 0, h => by omega
  | n + 1, h => by
    rw [cn]
    by_cases e : o = n
    · rw [← e, hp, if_pos rfl]; omega
    · have := cn_pos hp n (by omega)
      omega
theorem jf_lay {B : Nat} {σ : Nat → Nat → Int32} {a b : Nat} (h : JJ B σ) (ha : a < 6) (hb : b < 6) (hab : ¬ a = b) (h0 : rsC σ (nI a) (nI b) = 0) : JF (B + 24) 0 a (cyC σ (nI a) b 24) := by
  have h0' := h0
  obtain ⟨hInv, j1, j2, ⟨L, l1, l2, l3⟩, ⟨M, G, m1, m2, m3, m4⟩, j5⟩ := h
  obtain ⟨μf, q0, hFM⟩ := tr_FM hInv (-1)
  have hR := ri_ex hInv
  have hna : (nI a : Int32) ≠ -1 := nI_nm1 (by omega)
  have use : ∀ o, o < 24 → plB (suC σ (nI a)) o = true → σ 0 o = nI 1 ∧ σ 1 o = nI a := fun o ho hp => su_use hR hna ho hp
  have size : ∀ o, o < 24 → plB (suC σ (nI a)) o = true → ∃ z, 1 ≤ z ∧ z ≤ 16 ∧ σ 3 o = nI z := fun o ho hp => by
    obtain ⟨k, z, d, t, g1, g2, g3, g4, g5, e1, e2, e3, e4, e5⟩ := hR.1.2.2.2.2.1 o ho (use o ho hp).1
    exact ⟨z, g2, g3, e3⟩
  have T : sumI (plB (suC σ (nI a))) (σ 3) 24 = nI (SNn (plB (suC σ (nI a))) (σ 3) 24) := sumI_SN 24 (fun j hj hp => by obtain ⟨z, _, h, e⟩ := size j hj hp; exact ⟨z, by omega, e⟩)
  have SNb : ∀ n, n ≤ 24 → SNn (plB (suC σ (nI a))) (σ 3) n ≤ 16 * n := by
    intro n
    induction n with
    | zero => intro _; exact Nat.le_refl _
    | succ n ih =>
      intro hn
      have := ih (by omega)
      rw [SNn]
      rcases hp : plB (suC σ (nI a)) n with _ | _
      · rw [if_neg (by decide)]; omega
      · obtain ⟨z, g1, g2, e⟩ := size n (by omega) hp
        rw [if_pos rfl, e, nI_clamp (by omega)]; omega
  have hT := SNb 24 (Nat.le_refl _)
  obtain ⟨-, m, hm64, e9, hsz⟩ := hR.1.2.1 b hb
  have opab : isOpB σ (nI a) = true ∧ isOpB σ (nI b) = true ∧ roomB σ (nI b) (cellsL σ (suC σ (nI a)) 24) = true := by
    rw [rs_eq, if_neg (fun e => hab ((nI_eq (by omega) (by omega)).mp e))] at h0
    rcases c1 : isOpB σ (nI a) with _ | _
    · rw [c1, if_pos rfl] at h0; exact absurd h0 (by decide)
    · rw [c1, if_neg (by decide)] at h0
      rcases c2 : isOpB σ (nI b) with _ | _
      · rw [c2, if_pos rfl] at h0; exact absurd h0 (by decide)
      · rw [c2, if_neg (by decide)] at h0
        refine ⟨rfl, rfl, ?_⟩
        split at h0
        · exact absurd h0 (by decide)
        · rcases c3 : roomB σ (nI b) (cellsL σ (suC σ (nI a)) 24) with _ | _
          · rw [c3, if_pos rfl] at h0; exact absurd h0 (by decide)
          · rfl
  have hfit : m + SNn (plB (suC σ (nI a))) (σ 3) 24 ≤ 64 := by
    have hr := opab.2.2
    rw [cells_sum σ _ 24 (Nat.le_refl _), T, hR.cell hb (by omega), (hR.2.2.1 b hb).2.1, e9, nI_add] at hr
    rcases Nat.lt_or_ge 64 (m + SNn (plB (suC σ (nI a))) (σ 3) 24) with c | c
    · rw [if_pos ((nI_ltI (by omega) (by omega)).mpr c)] at hr; cases hr
    · exact c
  have op8 : σ 8 b = nI 1 := by
    have h := opab.2.1
    rw [isOp_nI σ hb] at h
    rcases (hR.1.2.1 b hb).1 with e | e
    · rw [e, if_pos rfl] at h; cases h
    · exact e
  -- addresses
  have blP : ∀ x j, blB σ (suC σ (nI a)) x j = true → plB (suC σ (nI a)) j = true ∧ rkN σ j < x := fun x j h => by
    rw [blB] at h
    split at h
    · exact ⟨by assumption, of_decide_eq_true h⟩
    · cases h
  have blS : ∀ x, sumI (blB σ (suC σ (nI a)) x) (σ 3) 24 = nI (SNn (blB σ (suC σ (nI a)) x) (σ 3) 24) := fun x => sumI_SN 24 (fun j hj hp => by obtain ⟨z, _, h, e⟩ := size j hj (blP x j hp).1; exact ⟨z, by omega, e⟩)
  have land : ∀ o, o < 24 → plB (suC σ (nI a)) o = true → landL σ (trC σ (-1)) (suC σ (nI a)) (rankI σ (trC σ (-1)) (nI o)) (σ 9 b) 24 = nI (m + SNn (blB σ (suC σ (nI a)) (rkN σ o)) (σ 3) 24) := fun o ho hp => by
    have hr := rk_nI hR hFM ho (use o ho hp).1
    rw [hr.1, land_sum hR hna hFM (by omega) _ 24 (Nat.le_refl _), blS, e9, nI_add]
  have selfF : ∀ o, plB (suC σ (nI a)) o = true → blB σ (suC σ (nI a)) (rkN σ o) o = false := fun o hp => by
    rw [blB, hp, if_pos rfl]; exact decide_eq_false (by omega)
  have fits : ∀ o, o < 24 → plB (suC σ (nI a)) o = true → SNn (blB σ (suC σ (nI a)) (rkN σ o)) (σ 3) 24 + (σ 3 o).toNatClampNeg ≤ SNn (plB (suC σ (nI a))) (σ 3) 24 := fun o ho hp => SN_lt (selfF o hp) hp 24 ho (fun j _ h => (blP _ j h).1)
  have apart : ∀ o j, o < 24 → j < 24 → plB (suC σ (nI a)) o = true → plB (suC σ (nI a)) j = true → rkN σ o < rkN σ j → SNn (blB σ (suC σ (nI a)) (rkN σ o)) (σ 3) 24 + (σ 3 o).toNatClampNeg ≤ SNn (blB σ (suC σ (nI a)) (rkN σ j)) (σ 3) 24 := fun o j ho hj hp hq hr => SN_lt (selfF o hp) (by rw [blB, hp, if_pos rfl]; exact decide_eq_true hr) 24 ho (fun i _ h => by
    have := blP _ i h
    rw [blB, this.1, if_pos rfl]
    exact decide_eq_true (by omega))
  -- rows
  obtain ⟨k0, k1, k2, k7, k9, k12⟩ := cy_rows σ (nI a) b 24 (Nat.le_refl _)
  have r0 := k0 0 (by decide) (by decide) (by decide) (by decide) (by decide)
  have r3 := k0 3 (by decide) (by decide) (by decide) (by decide) (by decide)
  have r4 := k0 4 (by decide) (by decide) (by decide) (by decide) (by decide)
  have r5 := k0 5 (by decide) (by decide) (by decide) (by decide) (by decide)
  have r6 := k0 6 (by decide) (by decide) (by decide) (by decide) (by decide)
  have r8 := k0 8 (by decide) (by decide) (by decide) (by decide) (by decide)
  have r10 := k0 10 (by decide) (by decide) (by decide) (by decide) (by decide)
  have r11 := k0 11 (by decide) (by decide) (by decide) (by decide) (by decide)
  have on : ∀ i, i < 24 → plB (suC σ (nI a)) i = true → cyC σ (nI a) b 24 1 i = nI b ∧ cyC σ (nI a) b 24 2 i = nI (m + SNn (blB σ (suC σ (nI a)) (rkN σ i)) (σ 3) 24) ∧ cyC σ (nI a) b 24 7 i = σ 7 i + nI 1 := fun i hi hp => by
    rw [k1, k2, k7, if_pos ⟨hi, hp⟩, if_pos ⟨hi, hp⟩, if_pos ⟨hi, hp⟩, landI, base_nI σ hb, land i hi hp]
    exact ⟨rfl, rfl, rfl⟩
  have off : ∀ i, plB (suC σ (nI a)) i = false → cyC σ (nI a) b 24 1 i = σ 1 i ∧ cyC σ (nI a) b 24 2 i = σ 2 i ∧ cyC σ (nI a) b 24 7 i = σ 7 i := fun i hp => by
    rw [k1, k2, k7, if_neg (fun z => by rw [hp] at z; cases z.2), if_neg (fun z => by rw [hp] at z; cases z.2), if_neg (fun z => by rw [hp] at z; cases z.2)]
    exact ⟨rfl, rfl, rfl⟩
  have m9 : cyC σ (nI a) b 24 9 b = nI (m + SNn (plB (suC σ (nI a))) (σ 3) 24) := by rw [k9, if_pos rfl, T, e9, nI_add]
  have n9 : ∀ i, ¬ i = b → cyC σ (nI a) b 24 9 i = σ 9 i := fun i hi => by rw [k9, if_neg hi]
  have hI2 : Inv (cyC σ (nI a) b 24) := (ri_lay (N' := lyN σ (nOf σ) a b) hR hFM ha hb hab h0' (fun o ho hp => ⟨by rw [lyN_o σ _ hb hp (by decide), if_pos rfl], by rw [lyN_o σ _ hb hp (by decide), if_neg (by decide), if_pos rfl], by rw [lyN_o σ _ hb hp (by decide), if_neg (by decide), if_neg (by decide), if_pos rfl]⟩) (fun i hi h3 h7 hq => by
      rw [lyN, if_neg h3, if_neg h7]
      split
      · rfl
      · split
        · rfl
        · rename_i c1 c2
          have hp : plB (suC σ (nI a)) ((i - 24) / 9) = true := by cases hb : plB (suC σ (nI a)) ((i - 24) / 9) <;> simp_all
          have := hq ((i - 24) / 9) (by omega) hp
          rw [if_neg (by omega), if_neg (by omega), if_neg (by omega)]) (by rw [lyN, if_pos rfl]) (by rw [lyN, if_neg (by omega), if_pos rfl])).1
  have hO := hInv.2.2.2.2.1
  have inb : ∀ i, i < 24 → σ 0 i = nI 1 → σ 1 i = nI b → (σ 2 i).toNatClampNeg + (σ 3 i).toNatClampNeg ≤ m := fun i hi hu he => by
    obtain ⟨c, y, d, q, g1, g2, g3, g4, g5, e1, e2, e3, e4, e5⟩ := hO i hi hu
    have hc : c = b := (nI_eq (by omega) (by omega)).mp (e1.symm.trans he)
    subst hc
    have hy : q = m := (nI_eq (by omega) (by omega)).mp (e4.symm.trans e9)
    rw [e2, e3, nI_clamp (by omega), nI_clamp (by omega)]
    omega
  have adr : ∀ o, o < 24 → plB (suC σ (nI a)) o = true → (cyC σ (nI a) b 24 2 o).toNatClampNeg = m + SNn (blB σ (suC σ (nI a)) (rkN σ o)) (σ 3) 24 := fun o ho hp => by
    rw [(on o ho hp).2.1, nI_clamp (by have := fits o ho hp; omega)]
  refine ⟨hI2, fun c hc hx => ?_, fun o j ho hj hne uo uj ea => ?_, ⟨L + cn (plB (suC σ (nI a))) 24, by have := cn_le (plB (suC σ (nI a))) 24; omega, by rw [k12, if_pos rfl, sum1_cn, l2, nI_add], fun o ho => ?_⟩, ⟨M, G, by omega, by rw [k12, if_neg (by decide)]; exact m2, by rw [k12, if_neg (by decide)]; exact m3, by rw [cuN, r0]; exact m4⟩, ?_⟩
  · rw [szS_layE ha hb r0 (fun i hi => by
      rcases hp : plB (suC σ (nI a)) i with _ | _
      · rw [if_neg (by decide)]; exact (off i hp).1
      · rw [if_pos rfl]; exact (on i hi hp).1) r3 use c hc hx 24 (Nat.le_refl _)]
    by_cases e : c = b
    · rw [if_pos e, e, m9]
      have : szS σ b 24 = m := (nI_eq (by have := szS_le hO b 24 (Nat.le_refl _); omega) (by omega)).mp ((j1 b hb (by omega)).symm.trans e9)
      rw [this]
    · rw [if_neg e, n9 c e]
      exact j1 c hc (by omega)
  · rw [r0] at uo uj
    rw [r3]
    rcases hp : plB (suC σ (nI a)) o with _ | _ <;> rcases hq : plB (suC σ (nI a)) j with _ | _
    · rw [(off o hp).1, (off j hq).1] at ea
      rw [(off o hp).2.1, (off j hq).2.1]
      exact j2 o j ho hj hne uo uj ea
    · rw [(off o hp).1, (on j hj hq).1] at ea
      rw [(off o hp).2.1, adr j hj hq]
      exact Or.inl (by have := inb o ho uo ea; omega)
    · rw [(on o ho hp).1, (off j hq).1] at ea
      rw [(off j hq).2.1, adr o ho hp]
      exact Or.inr (by have := inb j hj uj ea.symm; omega)
    · rw [adr o ho hp, adr j hj hq]
      rcases Nat.lt_trichotomy (rkN σ o) (rkN σ j) with h | h | h
      · have := apart o j ho hj hp hq h
        exact Or.inl (by omega)
      · exact absurd (rN_inj hR hFM ho hj (use o ho hp).1 (use j hj hq).1 ((use o ho hp).2.trans (use j hj hq).2.symm) h) hne
      · have := apart j o hj ho hq hp h
        exact Or.inr (by omega)
  · obtain ⟨n, hn, e⟩ := l3 o ho
    rcases hp : plB (suC σ (nI a)) o with _ | _
    · rw [(off o hp).2.2]
      exact ⟨n, by omega, e⟩
    · rw [(on o ho hp).2.2, e, nI_add]
      have := cn_pos hp 24 ho
      exact ⟨n + 1, by omega, rfl⟩
  · intro x hx
    obtain ⟨P, p1, p2⟩ := j5 x hx
    rw [r8, r10]
    exact ⟨P, by omega, p2⟩
theorem jj_gb {B : Nat} {σ : Nat → Nat → Int32} {a b : Nat} (h : JJ B σ) (ha : a < 6) (hb : b < 6) (hab : ¬ a = b) (h0 : rsC σ (nI a) (nI b) = 0) : JJ (B + 24) (gbS σ a b) := jj_free (jf_lay h ha hb hab h0) ha
