/-! what looks show of such a state: the living share -/
theorem share_d1 {a b : Nat} (ha : 0 < a) (hab : a ≤ b) (hb : b < 1048576) : ∃ v k : Nat, v < 4503599627370496 ∧ k ≤ 60 ∧ (1 ≤ k ∨ v = 0) ∧ FP.ddiv (FP.i2d (nI a)) (FP.i2d (nI b)) = dB v k := by
  obtain ⟨La, wa, a1, a2, a3, a4⟩ := norm_of (v := a) ha (by omega)
  obtain ⟨Lb, wb, b1, b2, b3, b4⟩ := norm_of (v := b) (by omega) (by omega)
  have hLL : La ≤ Lb := by
    rcases Nat.lt_or_ge Lb La with h | h
    · have h1 : b < 2 ^ (Lb + 1) := by rw [← b1]; exact Nat.lt_log2_self
      have h2 : 2 ^ La ≤ a := by rw [← a1]; exact Nat.log2_self_le (by omega)
      have h3 : 2 ^ (Lb + 1) ≤ 2 ^ La := Nat.pow_le_pow_right (by decide) h
      omega
    · exact h
  have key : FP.Core.div FP.Core.b64 (FP.i2d (nI a)).toNat (FP.i2d (nI b)).toNat = FP.Core.encode FP.Core.b64 (FP.Core.roundRatio FP.Core.b64 false (4503599627370496 + wa) (4503599627370496 + wb) ((La : Int) - 52 - ((Lb : Int) - 52))) := by
    unfold FP.Core.div
    rw [i2d_dec ha (by omega) a1 a2 a3 a4, i2d_dec (by omega) hb b1 b2 b3 b4]
    show FP.Core.encode FP.Core.b64 (if 4503599627370496 + wb = 0 then _ else FP.Core.roundRatio FP.Core.b64 false (4503599627370496 + wa) (4503599627370496 + wb) ((La : Int) - 52 - ((Lb : Int) - 52))) = _
    rw [if_neg (by omega)]
  have key2 : FP.ddiv (FP.i2d (nI a)) (FP.i2d (nI b)) = UInt64.ofNat (FP.Core.encode FP.Core.b64 (FP.Core.roundRatio FP.Core.b64 false (4503599627370496 + wa) (4503599627370496 + wb) ((La : Int) - 52 - ((Lb : Int) - 52)))) := by
    show UInt64.ofNat (FP.Core.div FP.Core.b64 (FP.i2d (nI a)).toNat (FP.i2d (nI b)).toNat) = _
    rw [key]
  rw [key2]
  have la : (4503599627370496 + wa).log2 = 52 := lg2 (show 4503599627370496 ≤ _ by omega) (show _ < 9007199254740992 by omega)
  have lb : (4503599627370496 + wb).log2 = 52 := lg2 (show 4503599627370496 ≤ _ by omega) (show _ < 9007199254740992 by omega)
  by_cases hc : 4503599627370496 + wb ≤ 4503599627370496 + wa
  · have hlead : FP.Core.leading (4503599627370496 + wa) (4503599627370496 + wb) = 0 := by
      unfold FP.Core.leading
      rw [la, lb]
      dsimp only
      rw [show ((52 : Nat) : Int) - ((52 : Nat) : Int) = 0 by omega, if_pos]
      show (4503599627370496 + wb) * 1 ≤ (4503599627370496 + wa) * 1
      omega
    have hq : FP.Core.quantum FP.Core.b64 (4503599627370496 + wa) (4503599627370496 + wb) ((La : Int) - 52 - ((Lb : Int) - 52)) = (La : Int) - (Lb : Int) - 52 := by
      unfold FP.Core.quantum
      rw [hlead, b64_qm, show ((FP.Core.b64.p : Int) - 1) = 52 from rfl]
      omega
    have hN1 : 4503599627370496 ≤ FP.Core.nearest ((4503599627370496 + wa) * 4503599627370496) (4503599627370496 + wb) := near_ge (by omega) (by omega)
    have hN2 : FP.Core.nearest ((4503599627370496 + wa) * 4503599627370496) (4503599627370496 + wb) ≤ 9007199254740992 := near_le (by omega) (by omega)
    have hN3 : La = Lb → FP.Core.nearest ((4503599627370496 + wa) * 4503599627370496) (4503599627370496 + wb) = 4503599627370496 := by
      intro h
      have h1 : a * 2 ^ (52 - La) ≤ b * 2 ^ (52 - La) := Nat.mul_le_mul_right _ hab
      rw [a3, h, b3] at h1
      have h2 : wa = wb := by omega
      rw [h2, Nat.mul_comm]
      exact near_ex (by omega)
    have hr : FP.Core.roundRatio FP.Core.b64 false (4503599627370496 + wa) (4503599627370496 + wb) ((La : Int) - 52 - ((Lb : Int) - 52)) = FP.Core.settle FP.Core.b64 false (FP.Core.nearest ((4503599627370496 + wa) * 4503599627370496) (4503599627370496 + wb)) ((La : Int) - (Lb : Int) - 52) := by
      unfold FP.Core.roundRatio
      rw [if_neg (by omega), hq]
      unfold FP.Core.roundAt FP.Core.unitsNum FP.Core.unitsDen
      rw [show ((La : Int) - 52 - ((Lb : Int) - 52) - ((La : Int) - (Lb : Int) - 52)).toNat = 52 by omega, show ((La : Int) - (Lb : Int) - 52 - ((La : Int) - 52 - ((Lb : Int) - 52))).toNat = 0 by omega, Nat.pow_zero, Nat.mul_one]
    rw [hr]
    generalize FP.Core.nearest ((4503599627370496 + wa) * 4503599627370496) (4503599627370496 + wb) = N at hN1 hN2 hN3 ⊢
    unfold FP.Core.settle FP.Core.bound
    by_cases hN : N < 9007199254740992
    · rw [if_pos (show N < 2 ^ FP.Core.b64.p from hN), if_pos (by rw [b64_qx]; omega)]
      refine ⟨N - 4503599627370496, Lb - La, by omega, by omega, ?_, ?_⟩
      · rcases Nat.eq_zero_or_pos (Lb - La) with h | h
        · exact Or.inr (by have := hN3 (by omega); omega)
        · exact Or.inl h
      have := enc_dB (v := N - 4503599627370496) (q := (La : Int) - (Lb : Int) - 52) (Lb - La) (by omega) (by omega)
      rwa [show 4503599627370496 + (N - 4503599627370496) = N by omega] at this
    · rw [if_neg (show ¬ N < 2 ^ FP.Core.b64.p from hN), if_pos (by rw [b64_qx]; omega), b64_t]
      have hne : La ≠ Lb := fun h => by have := hN3 h; omega
      exact ⟨0, Lb - La - 1, by omega, by omega, Or.inr rfl, enc_dB (v := 0) (Lb - La - 1) (by omega) (by omega)⟩
  · have hlead : FP.Core.leading (4503599627370496 + wa) (4503599627370496 + wb) = -1 := by
      unfold FP.Core.leading
      rw [la, lb]
      dsimp only
      rw [show ((52 : Nat) : Int) - ((52 : Nat) : Int) = 0 by omega, if_neg]
      · rfl
      · show ¬ (4503599627370496 + wb) * 1 ≤ (4503599627370496 + wa) * 1
        omega
    have hq : FP.Core.quantum FP.Core.b64 (4503599627370496 + wa) (4503599627370496 + wb) ((La : Int) - 52 - ((Lb : Int) - 52)) = (La : Int) - (Lb : Int) - 53 := by
      unfold FP.Core.quantum
      rw [hlead, b64_qm, show ((FP.Core.b64.p : Int) - 1) = 52 from rfl]
      omega
    have hN1 : 4503599627370496 ≤ FP.Core.nearest ((4503599627370496 + wa) * 9007199254740992) (4503599627370496 + wb) := near_ge (by omega) (by omega)
    have hN2 : FP.Core.nearest ((4503599627370496 + wa) * 9007199254740992) (4503599627370496 + wb) ≤ 9007199254740992 := near_le (by omega) (by omega)
    have hr : FP.Core.roundRatio FP.Core.b64 false (4503599627370496 + wa) (4503599627370496 + wb) ((La : Int) - 52 - ((Lb : Int) - 52)) = FP.Core.settle FP.Core.b64 false (FP.Core.nearest ((4503599627370496 + wa) * 9007199254740992) (4503599627370496 + wb)) ((La : Int) - (Lb : Int) - 53) := by
      unfold FP.Core.roundRatio
      rw [if_neg (by omega), hq]
      unfold FP.Core.roundAt FP.Core.unitsNum FP.Core.unitsDen
      rw [show ((La : Int) - 52 - ((Lb : Int) - 52) - ((La : Int) - (Lb : Int) - 53)).toNat = 53 by omega, show ((La : Int) - (Lb : Int) - 53 - ((La : Int) - 52 - ((Lb : Int) - 52))).toNat = 0 by omega, Nat.pow_zero, Nat.mul_one]
    rw [hr]
    generalize FP.Core.nearest ((4503599627370496 + wa) * 9007199254740992) (4503599627370496 + wb) = N at hN1 hN2 ⊢
    unfold FP.Core.settle FP.Core.bound
    by_cases hN : N < 9007199254740992
    · rw [if_pos (show N < 2 ^ FP.Core.b64.p from hN), if_pos (by rw [b64_qx]; omega)]
      refine ⟨N - 4503599627370496, Lb - La + 1, by omega, by omega, Or.inl (by omega), ?_⟩
      have := enc_dB (v := N - 4503599627370496) (q := (La : Int) - (Lb : Int) - 53) (Lb - La + 1) (by omega) (by omega)
      rwa [show 4503599627370496 + (N - 4503599627370496) = N by omega] at this
    · rw [if_neg (show ¬ N < 2 ^ FP.Core.b64.p from hN), if_pos (by rw [b64_qx]; omega), b64_t]
      exact ⟨0, Lb - La, by omega, by omega, Or.inr rfl, enc_dB (v := 0) (Lb - La) (by omega) (by omega)⟩
def sB (d : UInt64) : Prop := d = 0 ∨ ∃ v k : Nat, v < 4503599627370496 ∧ k ≤ 60 ∧ (1 ≤ k ∨ v = 0) ∧ d = dB v k
theorem cmp_m (x y : UInt64) {o : Ordering} (h : FP.dcmp x y = some o) (p q : _) : Op.cmpValue (FP.dcmp x y) p = Op.cmpValue (FP.dcmp x y) q := by rw [h]; cases p <;> cases q <;> cases o <;> rfl
theorem sB_le {d : UInt64} (h : sB d) : ¬ 0 < Op.cmpValue (FP.dcmp d FP.dconst1) .g := by
  rcases h with rfl | ⟨v, k, hv, hk, h1, rfl⟩
  · decide +kernel
  · rcases Nat.eq_zero_or_pos k with e | e
    · subst e
      rcases h1 with h1 | h1
      · omega
      · subst h1
        decide +kernel
    · rw [dB_lt1 hv (by omega) e]
      decide
theorem sB_ge {d : UInt64} (h : sB d) : ¬ Op.cmpValue (FP.dcmp d FP.dconst0) .l < 0 := by
  rcases h with rfl | ⟨v, k, hv, hk, h1, rfl⟩
  · decide +kernel
  · have hp := dB_pos hv (show k ≤ 1000 by omega)
    have e : ∃ o, FP.dcmp (dB v k) FP.dconst0 = some o := by
      show ∃ o, FP.Core.order (FP.Core.decode FP.Core.b64 (dB v k).toNat) (FP.Core.decode FP.Core.b64 FP.dconst0.toNat) = some o
      rw [dB_dec hv (by omega), zero_dec]
      exact ⟨_, rfl⟩
    obtain ⟨o, e⟩ := e
    rw [cmp_m _ _ e .l .g, Int32.lt_iff_toInt_lt]
    rw [Int32.lt_iff_toInt_lt] at hp
    omega
def totS (σ : Nat → Nat → Int32) : Nat → Nat
  | 0 => 0
  | n + 1 => totS σ n + if σ 0 n = nI 1 then (σ 3 n).toNatClampNeg else 0
section SHR
variable {σ : Nat → Nat → Int32} {N : Nat → Int32}
theorem has_usd (hR : RI σ N) {o : Nat} (ho : o < 24) (h : hasB σ (nI o) = true) : σ 0 o = nI 1 := (has_us hR.1.1 ho).mp h
theorem cells_tot (hR : RI σ N) (w : Int32) : ∀ n, n ≤ 24 → ∃ z, z ≤ totS σ n ∧ cellsL σ (trC σ w) n = nI z
  | 0, _ => ⟨0, Nat.le_refl _, rfl⟩
  | n + 1, hn => by
    obtain ⟨z, hz, e⟩ := cells_tot hR w n (by omega)
    rcases hp : plB (trC σ w) n with _ | _
    · exact ⟨z, by rw [totS]; omega, by rw [← cell_f (by omega) hp, e, add_0]⟩
    · have hu := has_usd hR (by omega) (tr_used hR.1.2.2.2.2.2.1 w n (by omega) hp)
      obtain ⟨k, y, d, q, h1, h2, h3, h4, h5, e1, e2, e3, e4, e5⟩ := hR.1.2.2.2.2.1 n (by omega) hu
      refine ⟨z + y, ?_, by rw [← cell_t (by omega) hp, e, e3, nI_add]⟩
      rw [totS, if_pos hu, e3, nI_clamp (by omega)]
      omega
theorem tot_sz (hR : RI σ N) : ∀ n, n ≤ 24 → totS σ n = szS σ 0 n + szS σ 1 n + szS σ 2 n + szS σ 3 n + szS σ 4 n + szS σ 5 n
  | 0, _ => rfl
  | n + 1, hn => by
    have ih := tot_sz hR n (by omega)
    rcases hR.flag (o := n) (by omega) with e | e
    · have ne : ¬ σ 0 n = nI 1 := by rw [e]; decide
      simp only [totS, szS, ne, if_false, false_and]
      omega
    · obtain ⟨k, y, d, q, h1, h2, h3, h4, h5, e1, e2, e3, e4, e5⟩ := hR.1.2.2.2.2.1 n (by omega) e
      have hk : ∀ j, j < 6 → ((σ 0 n = nI 1 ∧ σ 1 n = nI j) ↔ j = k) := fun j hj => by
        rw [e1]
        constructor
        · rintro ⟨-, h⟩
          exact ((nI_eq (by omega) (by omega)).mp h).symm
        · rintro rfl
          exact ⟨e, rfl⟩
      simp only [totS, szS, if_pos e, hk 0 (by omega), hk 1 (by omega), hk 2 (by omega), hk 3 (by omega), hk 4 (by omega), hk 5 (by omega)]
      rcases (show k = 0 ∨ k = 1 ∨ k = 2 ∨ k = 3 ∨ k = 4 ∨ k = 5 by omega) with rfl | rfl | rfl | rfl | rfl | rfl <;> simp <;> omega
theorem mk_tot (hR : RI σ N) : ∃ M, totS σ 24 ≤ M ∧ M ≤ 384 ∧ mkL σ 6 = nI M := by
  have ht := tot_sz hR 24 (Nat.le_refl _)
  obtain ⟨-, q0, a0, b0, c0⟩ := hR.1.2.1 0 (by omega)
  obtain ⟨-, q1, a1, b1, c1⟩ := hR.1.2.1 1 (by omega)
  obtain ⟨-, q2, a2, b2, c2⟩ := hR.1.2.1 2 (by omega)
  obtain ⟨-, q3, a3, b3, c3⟩ := hR.1.2.1 3 (by omega)
  obtain ⟨-, q4, a4, b4, c4⟩ := hR.1.2.1 4 (by omega)
  obtain ⟨-, q5, a5, b5, c5⟩ := hR.1.2.1 5 (by omega)
  refine ⟨0 + q0 + q1 + q2 + q3 + q4 + q5, by omega, by omega, ?_⟩
  simp only [mkL]
  rw [b0, b1, b2, b3, b4, b5, nI_add, nI_add, nI_add, nI_add, nI_add, nI_add]
theorem share_sB (hR : RI σ N) : sB (shC σ) := by
  obtain ⟨z, hz, e⟩ := cells_tot hR (-1) 24 (Nat.le_refl _)
  obtain ⟨M, h1, h2, e2⟩ := mk_tot hR
  rw [shC]
  split
  · rename_i c
    have hM : 0 < M := by
      rcases Nat.eq_zero_or_pos M with q | q
      · rw [e2, q] at c
        exact absurd c (by decide)
      · exact q
    rw [e, e2]
    rcases Nat.eq_zero_or_pos z with q | q
    · rw [q]
      exact Or.inl (share_0 hM (by omega))
    · exact Or.inr (share_d1 q (by omega) (by omega))
  · exact Or.inr ⟨0, 0, by decide, by decide, Or.inr rfl, one_dB⟩
theorem share_nn (hR : RI σ N) : 0 < mkL σ 6 → vf_n64 (FP.ddiv (FP.i2d (cellsL σ (trC σ (-1)) 24)) (FP.i2d (mkL σ 6))) := fun c => by
  have h := share_sB hR
  rw [shC, if_pos c] at h
  rcases h with h | ⟨v, k, hv, hk, _, h⟩
  · rw [h]; unfold vf_n64; decide
  · rw [h]; exact dB_nan hv
end SHR
