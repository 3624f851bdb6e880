/-! the law: what stands at its start; a call of act -/
section STA
variable {args : Array Value} {s : State}
theorem k_arr {ty : FieldType} (h : (Cond.arrayClass ty).before args s = true) : ∃ cA, ArrOfT s cA ty ∧ s.vm.findClass ("[" ++ ty.toString) = some cA := by
  obtain ⟨c, k, comp, h1, h2, h3⟩ := Cond.arrayClass_spec h
  exact ⟨c, fun n z => ⟨fun k h => (by cases h), k, h2, comp, h3⟩, h1⟩
theorem k_nest (hts : ∀ w ∈ lw_tbl, w.before args s = true) : ∀ q ∈ nestL, va_Nw (.methodLinkNest q.1 q.2.1 q.2.2.1 q.2.2.2) s := by
  intro q hq
  simp only [nestL, List.mem_cons, List.not_mem_nil, or_false] at hq
  rcases hq with rfl | rfl | rfl | rfl | rfl | rfl | rfl | rfl | rfl
  · exact va_Nw.of rfl (hts _ (List.mem_of_getElem? (i := 112) (by decide +kernel)))
  · exact va_Nw.of rfl (hts _ (List.mem_of_getElem? (i := 118) (by decide +kernel)))
  · exact va_Nw.of rfl (hts _ (List.mem_of_getElem? (i := 149) (by decide +kernel)))
  · exact va_Nw.of rfl (hts _ (List.mem_of_getElem? (i := 152) (by decide +kernel)))
  · exact va_Nw.of rfl (hts _ (List.mem_of_getElem? (i := 295) (by decide +kernel)))
  · exact va_Nw.of rfl (hts _ (List.mem_of_getElem? (i := 326) (by decide +kernel)))
  · exact va_Nw.of rfl (hts _ (List.mem_of_getElem? (i := 480) (by decide +kernel)))
  · exact va_Nw.of rfl (hts _ (List.mem_of_getElem? (i := 570) (by decide +kernel)))
  · exact va_Nw.of rfl (hts _ (List.mem_of_getElem? (i := 615) (by decide +kernel)))
theorem k_str (hts : ∀ w ∈ lw_tbl, w.before args s = true) {c5 : ClassId} (hc : s.vm.findClass RX5 = some c5) {k : Nat} {tx : String} (h : Cond.stringRef RX5 k tx ∈ lw_tbl) : ∃ a, vk_R RX5 k tx a s := by
  have h1 := hts _ h
  obtain ⟨-, -, -, a, -, -, -, -, -, hev⟩ := Cond.stringRef_spec hc h1
  exact ⟨a, vk_R.of h1 hev⟩
theorem k_strs (hts : ∀ w ∈ lw_tbl, w.before args s = true) {c5 : ClassId} (hc : s.vm.findClass RX5 = some c5) : ∀ q ∈ strL, ∃ a, vk_R RX5 q.1 q.2 a s := by
  intro q hq
  simp only [strL, List.mem_cons, List.not_mem_nil, or_false] at hq
  rcases hq with rfl | rfl | rfl | rfl | rfl | rfl | rfl | rfl | rfl | rfl | rfl | rfl | rfl | rfl
  · exact k_str hts hc (List.mem_of_getElem? (i := 253) (by decide +kernel))
  · exact k_str hts hc (List.mem_of_getElem? (i := 311) (by decide +kernel))
  · exact k_str hts hc (List.mem_of_getElem? (i := 407) (by decide +kernel))
  · exact k_str hts hc (List.mem_of_getElem? (i := 414) (by decide +kernel))
  · exact k_str hts hc (List.mem_of_getElem? (i := 453) (by decide +kernel))
  · exact k_str hts hc (List.mem_of_getElem? (i := 493) (by decide +kernel))
  · exact k_str hts hc (List.mem_of_getElem? (i := 505) (by decide +kernel))
  · exact k_str hts hc (List.mem_of_getElem? (i := 559) (by decide +kernel))
  · exact k_str hts hc (List.mem_of_getElem? (i := 565) (by decide +kernel))
  · exact k_str hts hc (List.mem_of_getElem? (i := 580) (by decide +kernel))
  · exact k_str hts hc (List.mem_of_getElem? (i := 601) (by decide +kernel))
  · exact k_str hts hc (List.mem_of_getElem? (i := 602) (by decide +kernel))
  · exact k_str hts hc (List.mem_of_getElem? (i := 637) (by decide +kernel))
  · exact k_str hts hc (List.mem_of_getElem? (i := 645) (by decide +kernel))
def cl7 (c0 c1 c2 c3 c4 c5 c6 : ClassId) : Nat → ClassId
  | 0 => c0
  | 1 => c1
  | 2 => c2
  | 3 => c3
  | 4 => c4
  | 5 => c5
  | _ => c6
def is7 (i0 i1 i2 i3 i4 i5 i6 : Nat → Nat) : Nat → Nat → Nat
  | 0 => i0
  | 1 => i1
  | 2 => i2
  | 3 => i3
  | 4 => i4
  | 5 => i5
  | _ => i6
theorem k_EV (hts : ∀ w ∈ lw_tbl, w.before args s = true) : ∃ g : GG, EV g s := by
  have hT : ∀ w ∈ TW, w.before args s = true := fun w hw => hts w (List.mem_filter.mp hw).1
  obtain ⟨c0, i0, k0⟩ := u_known (C := RX0) (T := TX0) (N := 3) (n := 3) hT in_X0 (hT _ ni_X0)
  obtain ⟨c1, i1, k1⟩ := u_known (C := RX1) (T := TX1) (N := 4) (n := 4) hT in_X1 (hT _ ni_X1)
  obtain ⟨c2, i2, k2⟩ := u_known (C := RX2) (T := TX2) (N := 3) (n := 3) hT in_X2 (hT _ ni_X2)
  obtain ⟨c3, i3, k3⟩ := u_known (C := RX3) (T := TX3) (N := 16) (n := 16) hT in_X3 (hT _ ni_X3)
  obtain ⟨c4, i4, k4⟩ := u_known (C := RX4) (T := TX4) (N := 5) (n := 5) hT in_X4 (hT _ ni_X4)
  obtain ⟨c5, i5, k5⟩ := u_known (C := RX5) (T := TX5) (N := 5) (n := 5) hT in_X5 (hT _ ni_X5)
  obtain ⟨dI, aI, fI⟩ := k_arr (hT _ ac_I)
  obtain ⟨dZ, aZ, fZ⟩ := k_arr (hT _ ac_Z)
  obtain ⟨comp, dS, kS, f1, f2, f3, f4, f5⟩ := Cond.arrayOver_spec (hts (.arrayOver (.object RX3)) (List.mem_of_getElem? (i := 175) (by decide +kernel)))
  refine ⟨((cl7 c0 c1 c2 c3 c4 c5 c5, is7 i0 i1 i2 i3 i4 i5 i5), dI, dZ, dS, dI), ⟨?_, ?_⟩, k_nest hts, k_strs hts k5.2.1⟩
  · intro k q hq
    match k, hq with
    | 0, hq => cases hq; exact k0
    | 1, hq => cases hq; exact k1
    | 2, hq => cases hq; exact k2
    | 3, hq => cases hq; exact k3
    | 4, hq => cases hq; exact k4
    | 5, hq => cases hq; exact k5
    | k + 6, hq => simp [vwCl] at hq
  · intro k q hq
    match k, hq with
    | 0, hq => cases hq; exact ⟨aI, fI⟩
    | 1, hq => cases hq; exact ⟨aZ, fZ⟩
    | 2, hq => cases hq; exact ⟨fun n z => ⟨fun k h => (by cases h), kS, f3, comp, f4⟩, kS, comp, f3, f4, f1, f5⟩
    | k + 3, hq => simp [tyL] at hq
theorem k_AO (hts : ∀ w ∈ lw_tbl, w.before args s = true) : va_AO RX3 s := va_AO.of (hts (.arrayOver (.object RX3)) (List.mem_of_getElem? (i := 175) (by decide +kernel)))
abbrev hpA (s : State) : Nat → Prop := fun q => s.heap.size ≤ q
theorem k_ZQ (hts : ∀ w ∈ lw_tbl, w.before args s = true) (hgv : (Jvm.Cond.and given_1 narrow_1).before args s = true) : ZQ (hpA s) s s.heap :=
  ⟨vx_Zqof (hts _ (List.mem_of_getElem? (i := 239) (by decide +kernel))) (hts _ (List.mem_of_getElem? (i := 18) (by decide +kernel))) (flat_of_before _ hgv _ (by decide +kernel)) (fun a h q => absurd h (Nat.not_lt.mpr q)), vx_Zqof (hts _ (List.mem_of_getElem? (i := 241) (by decide +kernel))) (hts _ (List.mem_of_getElem? (i := 18) (by decide +kernel))) (flat_of_before _ hgv _ (by decide +kernel)) (fun a h q => absurd h (Nat.not_lt.mpr q))⟩
theorem k_EX (hts : ∀ w ∈ lw_tbl, w.before args s = true) (hgv : (Jvm.Cond.and given_1 narrow_1).before args s = true) : EX s := by
  refine ⟨fun x hx => ?_, fun q hq => ?_, fun q hq => ?_⟩
  · simp only [List.mem_cons, List.not_mem_nil, or_false] at hx
    rcases hx with rfl | rfl | rfl
    · exact va_Nw.of rfl (hts _ (List.mem_of_getElem? (i := 216) (by decide +kernel)))
    · exact va_Nw.of rfl (hts _ (List.mem_of_getElem? (i := 218) (by decide +kernel)))
    · exact va_Nw.of rfl (hts _ (List.mem_of_getElem? (i := 220) (by decide +kernel)))
  · simp only [List.mem_cons, List.not_mem_nil, or_false] at hq
    rcases hq with rfl | rfl | rfl
    · exact va_Nw.of rfl (hts _ (List.mem_of_getElem? (i := 214) (by decide +kernel)))
    · exact va_Nw.of rfl (hts _ (List.mem_of_getElem? (i := 304) (by decide +kernel)))
    · exact va_Nw.of rfl (hts _ (List.mem_of_getElem? (i := 400) (by decide +kernel)))
  · simp only [List.mem_cons, List.not_mem_nil, or_false] at hq
    rcases hq with rfl | rfl | rfl
    · exact va_Nc.of (flat_of_before _ hgv _ (by decide +kernel))
    · exact va_Nc.of (flat_of_before _ hgv _ (by decide +kernel))
    · exact va_Nc.of (flat_of_before _ hgv _ (by decide +kernel))
end STA
theorem s0_r4 {k i : Nat} (h : i < k) : s0 k 4 i = -1 := by simp [s0, h]
theorem s0_o {k j i : Nat} (h : j ≠ 4) : s0 k j i = nI 0 := by
  unfold s0
  split <;> first | rfl | (exfalso; omega)
theorem inv_0 : Inv (s0 48) := by
  refine ⟨fun o ho => ⟨Or.inl (s0_o (by decide)), Or.inl (s0_o (by decide)), Or.inl (s0_o (by decide))⟩, fun a ha => ⟨Or.inl (s0_o (by decide)), 0, by decide, s0_o (by decide), ?_⟩, ⟨Or.inl (s0_o (by decide)), Or.inl (s0_o (by decide))⟩, fun o ho _ => ⟨s0_r4 (by omega), s0_r4 (by omega), s0_o (by decide), s0_o (by decide), s0_o (by decide)⟩, fun o ho h => ?_, fun o f ho hf => Or.inl (s0_r4 (by omega)), fun o j ho hj h => ?_⟩
  · have : ∀ n, szS (s0 48) a n = 0 := by
      intro n
      induction n with
      | zero => rfl
      | succ n ih =>
        rw [szS, ih, if_neg]
        rintro ⟨h, -⟩
        rw [s0_o (by decide)] at h
        exact absurd h (by decide)
    rw [this]
    exact Nat.le_refl _
  · rw [s0_o (by decide)] at h
    exact absurd h (by decide)
  · rw [s0_o (by decide)] at h
    exact absurd h (by decide)
set_option maxRecDepth 100000 in
set_option maxHeartbeats 4000000 in
theorem q_X5_open (l : Launch) (g : GG) (am : Nat → Nat) (ast : Nat → Nat) (art : Nat → Nat) (alas : Nat → Nat) (atx : Nat → Nat) (ahi : Nat → Nat) (had : Nat → Nat → Nat) (σ : Nat → Nat → Int32) (η : Nat → Nat → Int32) (hσ : Nat → Nat → Nat → Int32) (nx : Nat) (sv : Nat) (n : Nat) (hnx : nx < 6) (hnx1 : η 1 0 = nI nx) (hsv1 : η 2 0 = nI sv) (hsv : sv ≤ 6) (b0 : fit01 (σ 0) 24) (b5 : fit01 (σ 5) 24) (b6 : fit01 (σ 6) 24) (b8 : fit01 (σ 8) 6) (hn : n < 6) (hn0 : lfA σ = nI n) : MMU l g yX5_open cX5_open 2 (some .int) 4 0 0 [.ref (am 0)] [maC g am (ast 0) (art 0) (alas 0) (atx 0) (ahi 0), stC g ast σ, hiC g ahi (fun i => had i 0) η, stC g (had 0) (hσ 0), stC g (had 1) (hσ 1), stC g (had 2) (hσ 2), stC g (had 3) (hσ 3), stC g (had 4) (hσ 4), stC g (had 5) (hσ 5)] (some (.int (nI n))) [maC g am (ast 0) (art 0) (alas 0) (atx 0) (ahi 0), stC g ast (handS σ n), hiC g ahi (fun i => had i 0) (hiS η (nxN nx) (svN sv)), stC g (had 0) (rw2 hσ nx σ 0), stC g (had 1) (rw2 hσ nx σ 1), stC g (had 2) (rw2 hσ nx σ 2), stC g (had 3) (rw2 hσ nx σ 3), stC g (had 4) (rw2 hσ nx σ 4), stC g (had 5) (rw2 hσ nx σ 5)] := by
  refine mk_mu (by decide +kernel) (Nat.le_of_ble_eq_true rfl) (fun p e s m below meth c A hA X => ?_)
  refine w_aload_n X 0 rfl dX5_open_0 ?_
  refine w_get X 0 0 rfl rfl rfl in_X5 0 (by decide) fk_X5_10 rfl dX5_open_1 ?_
  refine w_roV X [1] 1 0 (m_X3_lowestFreeArena l g ast σ) cv_X3_lowestFreeArena mk_X5_44 rfl rfl rfl rfl rfl ⟨Nat.le_of_ble_eq_true rfl, Nat.le_of_ble_eq_true rfl⟩ (Nat.le_of_ble_eq_true rfl) ⟨Nat.le_of_ble_eq_true rfl, Nat.le_of_ble_eq_true rfl⟩ dX5_open_4 rfl ?_
  rw [show lowI (fun o => !nz (σ 8 o)) 6 = nI n from hn0]
  refine w_istore_n X dX5_open_7 (by decide) ?_
  refine w_iload_n X 0 rfl dX5_open_8 ?_
  refine w_iconst X (-1) dX5_open_9 (by decide +kernel) ?_
  refine w_ic_ne X 23 dX5_open_10 (by decide) (fun c10 => ?_) (fun c10 => by exfalso; exact nI_ne (by omega) c10)
  refine w_aload_n X 1 rfl dX5_open_23 ?_
  refine w_get X 0 0 rfl rfl rfl in_X5 4 (by decide) fk_X5_40 rfl dX5_open_24 ?_
  refine w_aload_n X 1 rfl dX5_open_27 ?_
  refine w_get X 0 0 rfl rfl rfl in_X5 0 (by decide) fk_X5_10 rfl dX5_open_28 ?_
  refine w_muV X hA (gr := [maC g am (ast 0) (art 0) (alas 0) (atx 0) (ahi 0)]) (gs1 := [maC g am (ast 0) (art 0) (alas 0) (atx 0) (ahi 0), stC g ast σ, hiC g ahi (fun i => had i 0) (hiS η (nxN nx) (svN sv)), stC g (had 0) (rw2 hσ nx σ 0), stC g (had 1) (rw2 hσ nx σ 1), stC g (had 2) (rw2 hσ nx σ 2), stC g (had 3) (rw2 hσ nx σ 3), stC g (had 4) (rw2 hσ nx σ 4), stC g (had 5) (rw2 hσ nx σ 5)]) [2, 3, 4, 5, 6, 7, 8, 1] [0] 2 0 (m_X0_save l g ahi η had hσ ast σ nx sv (hnx) (hnx1) (hsv1) (hsv) (b0) (b5) (b6) (b8)) cv_X0_save mk_X5_55 rfl rfl rfl (ng := 9) rfl (by decide) rfl rfl rfl rfl rfl rfl ⟨Nat.le_of_ble_eq_true rfl, Nat.le_of_ble_eq_true rfl⟩ (Nat.le_of_ble_eq_true rfl) ⟨Nat.le_of_ble_eq_true rfl, Nat.le_of_ble_eq_true rfl⟩ dX5_open_31 rfl ?_
  refine w_aload_n X 1 rfl dX5_open_34 ?_
  refine w_get X 0 0 rfl rfl rfl in_X5 0 (by decide) fk_X5_10 rfl dX5_open_35 ?_
  refine w_iload_n X 0 rfl dX5_open_38 ?_
  refine w_muV X hA (gr := [maC g am (ast 0) (art 0) (alas 0) (atx 0) (ahi 0), hiC g ahi (fun i => had i 0) (hiS η (nxN nx) (svN sv)), stC g (had 0) (rw2 hσ nx σ 0), stC g (had 1) (rw2 hσ nx σ 1), stC g (had 2) (rw2 hσ nx σ 2), stC g (had 3) (rw2 hσ nx σ 3), stC g (had 4) (rw2 hσ nx σ 4), stC g (had 5) (rw2 hσ nx σ 5)]) (gs1 := [maC g am (ast 0) (art 0) (alas 0) (atx 0) (ahi 0), stC g ast (handS σ n), hiC g ahi (fun i => had i 0) (hiS η (nxN nx) (svN sv)), stC g (had 0) (rw2 hσ nx σ 0), stC g (had 1) (rw2 hσ nx σ 1), stC g (had 2) (rw2 hσ nx σ 2), stC g (had 3) (rw2 hσ nx σ 3), stC g (had 4) (rw2 hσ nx σ 4), stC g (had 5) (rw2 hσ nx σ 5)]) [1] [0, 2, 3, 4, 5, 6, 7, 8] 1 0 (m_X3_handOut l g ast σ n (by omega)) cv_X3_handOut mk_X5_59 rfl rfl rfl (ng := 9) rfl (by decide) rfl rfl rfl rfl rfl rfl ⟨Nat.le_of_ble_eq_true rfl, Nat.le_of_ble_eq_true rfl⟩ (Nat.le_of_ble_eq_true rfl) ⟨Nat.le_of_ble_eq_true rfl, Nat.le_of_ble_eq_true rfl⟩ dX5_open_39 rfl ?_
  generalize hn1 : handS σ n = σv1
  refine w_iload_n X 0 rfl dX5_open_42 ?_
  exact w_iret_mu X (by first | rfl | (subst he_i; rfl) | simp (decide := true) [c10, bI]) (rfl) (Nat.le_of_ble_eq_true rfl) (Nat.le_of_ble_eq_true rfl) dX5_open_43
theorem jj_0 : JJ 0 (s0 48) := by
  have hz : ∀ a n, szS (s0 48) a n = 0 := fun a n => by
    induction n with
    | zero => rfl
    | succ n ih =>
      rw [szS, ih, if_neg]
      rintro ⟨h, -⟩
      rw [s0_o (by decide)] at h
      exact absurd h (by decide)
  have hc : ∀ n, cn (fun o => nz (s0 48 0 o)) n = 0 := fun n => cn_0 n (fun j _ => by show nz (s0 48 0 j) = false; rw [s0_o (by decide)]; rfl)
  refine ⟨inv_0, fun c _ _ => by rw [hz]; exact s0_o (by decide), fun o j _ _ _ h => ?_, ⟨0, Nat.le_refl _, s0_o (by decide), fun o _ => ⟨0, Nat.le_refl _, s0_o (by decide)⟩⟩, ⟨0, 0, Nat.le_refl _, s0_o (by decide), s0_o (by decide), by rw [cuN, hc]⟩, fun a _ => ⟨0, Nat.le_refl _, s0_o (by decide), fun h => ?_⟩⟩
  · rw [s0_o (by decide)] at h
    exact absurd h (by decide)
  · rw [s0_o (by decide)] at h
    exact absurd h (by decide)
theorem r27_0 : R27 0 (s0 48) z0 (fun _ => s0 48) 0 0 := ⟨jj_0, fun _ _ => jj_0, by decide, by decide, rfl, rfl⟩
theorem lf_0 : lfA (s0 48) = nI 0 := lowI_found (fun j hj => absurd hj (Nat.not_lt_zero j)) (by decide) (by show (!nz (s0 48 8 0)) = true; rw [s0_o (by decide)]; rfl)
theorem div3 {a : Nat} (h : a < 2 ^ 31) : nI a / nI 3 = nI (a / 3) := by
  have ti : ∀ n, n < 2 ^ 31 → (nI n).toInt = (n : Int) := fun n hn => by
    have := nI_clamp hn
    have h2 := nI_pos' hn
    rw [Int32.le_iff_toInt_le] at h2
    have h3 : (nI n).toInt.toNat = n := this
    have h4 : (0 : Int32).toInt = 0 := rfl
    omega
  refine Int32.toInt_inj.mp ?_
  rw [Int32.toInt_div_of_ne_right (nI a) (nI 3) (by decide), ti a h, ti 3 (by decide), ti (a / 3) (by omega), Int.tdiv_eq_ediv_of_nonneg (by omega)]
  omega
def XL (p : Program) (l : Launch) (s : State) (m : MethodId) (meth : Method) (c : Code) (g : GG) (b L : Nat) (xs : Nat → Int32) : Prop := WV p l s m #[.ref b] meth c cL_law RL 10 (some .boolean) g (hpA s) ∧ va_X b L xs s s.heap ∧ b < s.heap.size ∧ L ≤ 260
abbrev LW (p : Program) (l : Launch) (e : Env) (s : State) (m : MethodId) (below : List Frame) (meth : Method) (c : Code) (g : GG) (b : Nat) (Q : State → Prop) (kc ks : Nat) (lv : List (Nat × Value)) (st : List Value) (gs : List va_W) (pc : Nat) : Prop := WW p l e room_1 s m #[.ref b] below meth c g (va_D (hpA s)) (va_S (hpA s) s.heap) 10 Q kc ks lv st gs pc
section LWM
variable {p : Program} {l : Launch} {e : Env} {s : State} {m : MethodId} {below : List Frame} {meth : Method} {c : Code} {g : GG} {b L : Nat} {xs : Nat → Int32} {Q : State → Prop} {kc ks pc : Nat} {lv : List (Nat × Value)} {st : List Value} {gs : List va_W}
/-- a call of one of the law's own methods that reads the script, too -/
theorem w_msS (Z : XL p l s m meth c g b L xs) {U : Type} {idx : Nat} {As rest st1 : List Value} {gc : List va_W} {g1 : U → List va_W} (gr : List va_W) (gs1 : U → List va_W) {rv : Option Value} {y : MethodName} {cy : ByteArray} {ny kh mc ms : Nat} {ry : Option FieldType} (is ir : List Nat) (hM : MMS (U := U) l g y cy ny ry kh mc ms As gc b L xs rv g1) (hy : CSt y cy ny ry As.length) (hlink : Cond.methodLink RL idx y ∈ TW) (hst : st = As.reverse ++ rest) (hi : is.map (fun i => gs[i]?) = gc.map some) (hr0 : ir.map (fun i => gs[i]?) = gr.map some) {ng : Nat} (hn0 : gs.length = ng) (hp : (is ++ ir).Perm (List.range ng)) (hi1 : ∀ u, is.map (fun i => (gs1 u)[i]?) = (g1 u).map some) (hr1 : ∀ u, ir.map (fun i => (gs1 u)[i]?) = gr.map some) (hlen : ∀ u, (gs1 u).length = ng) (hR : kh + 1 ≤ room_1.frames ∧ 8 + (ny + 11) + 32 * kh ≤ room_1.locals) (hw : (rest.map fun v => v.category).sum ≤ 8) (hf : kc + mc ≤ room_1.cells ∧ ks + ms ≤ room_1.slots) (d : decode cL_law pc = .ok (.invokestatic idx, 3)) (hS1 : rv.toList ++ rest = st1)
    (k : ∀ u, LW p l e s m below meth c g b Q (kc + mc) (ks + ms) lv st1 (gs1 u) (pc + 3)) : LW p l e s m below meth c g b Q kc ks lv st gs pc := by
  have X := Z.1
  refine w_csF X.2.2.2.2 hS1 hi hr0 hn0 hp hi1 hr1 hlen (fun H locs ls hP hD hF hS hl => va_runS (As := As) (rest := rest) X.1.1 (hM H.size) (va_cwS As.length X.1.1.2.2.2.2 (gS hlink hy) rfl rfl rfl hy.1 hR) ?_ rfl rfl hl.1 hst (lv_room hw) d ⟨hf.1, hf.2⟩) k
  have hb2 : ¬ va_A gc.flatten H.size b := fun z => absurd (hF b z) (Nat.not_le.mpr Z.2.2.1)
  have q0 := px_pre (As := As) X hP hD hF hS hi
  refine ⟨fun a U j mk q => ⟨(q0.1 a U j mk ⟨q.1, q.2.1⟩).1, (q0.1 a U j mk ⟨q.1, q.2.1⟩).2, q.2.2⟩, fun U hU hW => ⟨(q0.2 U hU hW).1, (q0.2 U hU hW).2, ?_, Nat.lt_of_lt_of_le Z.2.2.1 hS.1, hb2⟩⟩
  rw [hU]
  exact (Z.2.1.kept (hS.2.1 b Z.2.2.1 (Nat.not_le.mpr Z.2.2.1))).moved hW.alike
end LWM
theorem ma_all (l : Launch) (g : GG) (hfl : l.stackTraces = false) (am : Nat → Nat) (ast : Nat → Nat) (art : Nat → Nat) (aliv : Nat → Nat) (asur : Nat → Nat) (alas : Nat → Nat) (atx : Nat → Nat) (ahi : Nat → Nat) (had : Nat → Nat → Nat) (σ : Nat → Nat → Int32) (ζ : Nat → Nat → Nat → Int32) (η : Nat → Nat → Int32) (hσ : Nat → Nat → Nat → Int32) (nx sv B i b L : Nat) (xs : Nat → Int32) (h : R27 B σ η hσ nx sv) (hB : B < 900000) (hL : L < 2 ^ 31) (hi : i < 1000000) : ∃ (v : Int32) (σ' η' : Nat → Nat → Int32) (hσ' : Nat → Nat → Nat → Int32) (nx' sv' : Nat), R27 (B + 25) σ' η' hσ' nx' sv' ∧ (v < 0 → σ' = σ ∧ η' = η) ∧ MMS (U := Nat → Nat → Nat → Int32) l g yL_act cL_act 6 (some .int) 12 3 18 [.ref (am 0), .ref b, .int (nI i)] [maC g am (ast 0) (art 0) (alas 0) (atx 0) (ahi 0), stC g ast σ, rtC g art (aliv 0) (asur 0) (ζ 3), rcC g aliv (ζ 0), rcC g asur (ζ 1), rcC g alas (ζ 2), hiC g ahi (fun i => had i 0) η, stC g (had 0) (hσ 0), stC g (had 1) (hσ 1), stC g (had 2) (hσ 2), stC g (had 3) (hσ 3), stC g (had 4) (hσ 4), stC g (had 5) (hσ 5)] b L xs (some (.int v)) (fun ζ' => [maC g am (ast 0) (art 0) (alas 0) (atx 0) (ahi 0), stC g ast σ', rtC g art (aliv 0) (asur 0) (ζ' 3), rcC g aliv (ζ' 0), rcC g asur (ζ' 1), rcC g alas (ζ' 2), hiC g ahi (fun i => had i 0) η', stC g (had 0) (hσ' 0), stC g (had 1) (hσ' 1), stC g (had 2) (hσ' 2), stC g (had 3) (hσ' 3), stC g (had 4) (hσ' 4), stC g (had 5) (hσ' 5)]) := by
  obtain ⟨w, hw, ew⟩ := lw_ex (cellI xs L i) (n := 18) (by decide) (by decide)
  rcases (show w = 0 ∨ w = 1 ∨ w = 2 ∨ w = 3 ∨ w = 4 ∨ w = 5 ∨ w = 6 ∨ w = 7 ∨ w = 8 ∨ w = 9 ∨ w = 10 ∨ w = 11 ∨ w = 12 ∨ w = 13 ∨ w = 14 ∨ w = 15 ∨ w = 16 ∨ w = 17 by omega) with rfl | rfl | rfl | rfl | rfl | rfl | rfl | rfl | rfl | rfl | rfl | rfl | rfl | rfl | rfl | rfl | rfl | rfl
  · exact ma_0 l g hfl am ast art aliv asur alas atx ahi had σ ζ η hσ nx sv B i b L xs h hB hL hi ew
  · exact ma_1 l g hfl am ast art aliv asur alas atx ahi had σ ζ η hσ nx sv B i b L xs h hB hL hi ew
  · exact ma_2 l g hfl am ast art aliv asur alas atx ahi had σ ζ η hσ nx sv B i b L xs h hB hL hi ew
  · exact ma_3 l g hfl am ast art aliv asur alas atx ahi had σ ζ η hσ nx sv B i b L xs h hB hL hi ew
  · exact ma_4 l g hfl am ast art aliv asur alas atx ahi had σ ζ η hσ nx sv B i b L xs h hB hL hi ew
  · exact ma_5 l g hfl am ast art aliv asur alas atx ahi had σ ζ η hσ nx sv B i b L xs h hB hL hi ew
  · exact ma_6 l g hfl am ast art aliv asur alas atx ahi had σ ζ η hσ nx sv B i b L xs h hB hL hi ew
  · exact ma_7 l g hfl am ast art aliv asur alas atx ahi had σ ζ η hσ nx sv B i b L xs h hB hL hi ew
  · exact ma_8 l g hfl am ast art aliv asur alas atx ahi had σ ζ η hσ nx sv B i b L xs h hB hL hi ew
  · exact ma_9 l g hfl am ast art aliv asur alas atx ahi had σ ζ η hσ nx sv B i b L xs h hB hL hi ew
  · exact ma_10 l g hfl am ast art aliv asur alas atx ahi had σ ζ η hσ nx sv B i b L xs h hB hL hi ew
  · exact ma_11 l g hfl am ast art aliv asur alas atx ahi had σ ζ η hσ nx sv B i b L xs h hB hL hi ew
  · exact ma_12 l g hfl am ast art aliv asur alas atx ahi had σ ζ η hσ nx sv B i b L xs h hB hL hi ew
  · exact ma_13 l g hfl am ast art aliv asur alas atx ahi had σ ζ η hσ nx sv B i b L xs h hB hL hi ew
  · exact ma_14 l g hfl am ast art aliv asur alas atx ahi had σ ζ η hσ nx sv B i b L xs h hB hL hi ew
  · exact ma_15 l g hfl am ast art aliv asur alas atx ahi had σ ζ η hσ nx sv B i b L xs h hB hL hi ew
  · exact ma_16 l g hfl am ast art aliv asur alas atx ahi had σ ζ η hσ nx sv B i b L xs h hB hL hi ew
  · exact ma_17 l g hfl am ast art aliv asur alas atx ahi had σ ζ η hσ nx sv B i b L xs h hB hL hi ew
