/-! the law: its start -/
section STA
variable {args : Array Value} {s : State}
theorem k_arr {ty : FieldType} (h : (Cond.arrayClass ty).before args s = true) : ∃ cA, ArrOfT s cA ty ∧ s.vm.findClass ("[" ++ ty.toString) = some cA := by
  obtain ⟨c, k, comp, h1, h2, h3⟩ := Cond.arrayClass_spec h
  exact ⟨c, fun n z => ⟨fun k h => (by cases h), k, h2, comp, h3⟩, h1⟩
theorem k_nest (hts : ∀ w ∈ lw_tbl, w.before args s = true) : ∀ q ∈ nestL, va_Nw (.methodLinkNest q.1 q.2.1 q.2.2.1 q.2.2.2) s := by
  intro q hq
  simp only [nestL, List.mem_cons, List.not_mem_nil, or_false] at hq
  rcases hq with rfl | rfl | rfl | rfl | rfl | rfl | rfl | rfl | rfl
  · exact va_Nw.of rfl (hts _ (List.mem_of_getElem? (i := 165) (by decide +kernel)))
  · exact va_Nw.of rfl (hts _ (List.mem_of_getElem? (i := 171) (by decide +kernel)))
  · exact va_Nw.of rfl (hts _ (List.mem_of_getElem? (i := 202) (by decide +kernel)))
  · exact va_Nw.of rfl (hts _ (List.mem_of_getElem? (i := 205) (by decide +kernel)))
  · exact va_Nw.of rfl (hts _ (List.mem_of_getElem? (i := 308) (by decide +kernel)))
  · exact va_Nw.of rfl (hts _ (List.mem_of_getElem? (i := 376) (by decide +kernel)))
  · exact va_Nw.of rfl (hts _ (List.mem_of_getElem? (i := 402) (by decide +kernel)))
  · exact va_Nw.of rfl (hts _ (List.mem_of_getElem? (i := 451) (by decide +kernel)))
  · exact va_Nw.of rfl (hts _ (List.mem_of_getElem? (i := 648) (by decide +kernel)))
theorem k_str (hts : ∀ w ∈ lw_tbl, w.before args s = true) {c5 : ClassId} (hc : s.vm.findClass RX5 = some c5) {k : Nat} {tx : String} (h : Cond.stringRef RX5 k tx ∈ lw_tbl) : ∃ a, vk_R RX5 k tx a s := by
  have h1 := hts _ h
  obtain ⟨-, -, -, a, -, -, -, -, -, hev⟩ := Cond.stringRef_spec hc h1
  exact ⟨a, vk_R.of h1 hev⟩
theorem k_strs (hts : ∀ w ∈ lw_tbl, w.before args s = true) {c5 : ClassId} (hc : s.vm.findClass RX5 = some c5) : ∀ q ∈ strL, ∃ a, vk_R RX5 q.1 q.2 a s := by
  intro q hq
  simp only [strL, List.mem_cons, List.not_mem_nil, or_false] at hq
  rcases hq with rfl | rfl | rfl | rfl | rfl | rfl | rfl | rfl | rfl | rfl | rfl | rfl | rfl | rfl | rfl | rfl | rfl | rfl | rfl
  · exact k_str hts hc (List.mem_of_getElem? (i := 551) (by decide +kernel))
  · exact k_str hts hc (List.mem_of_getElem? (i := 615) (by decide +kernel))
  · exact k_str hts hc (List.mem_of_getElem? (i := 631) (by decide +kernel))
  · exact k_str hts hc (List.mem_of_getElem? (i := 643) (by decide +kernel))
  · exact k_str hts hc (List.mem_of_getElem? (i := 660) (by decide +kernel))
  · exact k_str hts hc (List.mem_of_getElem? (i := 661) (by decide +kernel))
  · exact k_str hts hc (List.mem_of_getElem? (i := 687) (by decide +kernel))
  · exact k_str hts hc (List.mem_of_getElem? (i := 688) (by decide +kernel))
  · exact k_str hts hc (List.mem_of_getElem? (i := 713) (by decide +kernel))
  · exact k_str hts hc (List.mem_of_getElem? (i := 724) (by decide +kernel))
  · exact k_str hts hc (List.mem_of_getElem? (i := 725) (by decide +kernel))
  · exact k_str hts hc (List.mem_of_getElem? (i := 733) (by decide +kernel))
  · exact k_str hts hc (List.mem_of_getElem? (i := 738) (by decide +kernel))
  · exact k_str hts hc (List.mem_of_getElem? (i := 754) (by decide +kernel))
  · exact k_str hts hc (List.mem_of_getElem? (i := 755) (by decide +kernel))
  · exact k_str hts hc (List.mem_of_getElem? (i := 775) (by decide +kernel))
  · exact k_str hts hc (List.mem_of_getElem? (i := 787) (by decide +kernel))
  · exact k_str hts hc (List.mem_of_getElem? (i := 802) (by decide +kernel))
  · exact k_str hts hc (List.mem_of_getElem? (i := 814) (by decide +kernel))
def cl7 (c0 c1 c2 c3 c4 c5 c6 : ClassId) : Nat → ClassId
  | 0 => c0
  | 1 => c1
  | 2 => c2
  | 3 => c3
  | 4 => c4
  | 5 => c5
  | _ => c6
def is7 (i0 i1 i2 i3 i4 i5 i6 : Nat → Nat) : Nat → Nat → Nat
  | 0 => i0
  | 1 => i1
  | 2 => i2
  | 3 => i3
  | 4 => i4
  | 5 => i5
  | _ => i6
theorem k_EV (hts : ∀ w ∈ lw_tbl, w.before args s = true) : ∃ g : GG, EV g s := by
  have hT : ∀ w ∈ TW, w.before args s = true := fun w hw => hts w (List.mem_filter.mp hw).1
  obtain ⟨c0, i0, k0⟩ := u_known (C := RX0) (T := TX0) (N := 3) (n := 3) hT in_X0 (hT _ ni_X0)
  obtain ⟨c1, i1, k1⟩ := u_known (C := RX1) (T := TX1) (N := 4) (n := 4) hT in_X1 (hT _ ni_X1)
  obtain ⟨c2, i2, k2⟩ := u_known (C := RX2) (T := TX2) (N := 3) (n := 3) hT in_X2 (hT _ ni_X2)
  obtain ⟨c3, i3, k3⟩ := u_known (C := RX3) (T := TX3) (N := 16) (n := 16) hT in_X3 (hT _ ni_X3)
  obtain ⟨c4, i4, k4⟩ := u_known (C := RX4) (T := TX4) (N := 5) (n := 5) hT in_X4 (hT _ ni_X4)
  obtain ⟨c5, i5, k5⟩ := u_known (C := RX5) (T := TX5) (N := 5) (n := 5) hT in_X5 (hT _ ni_X5)
  obtain ⟨c6, i6, k6⟩ := u_known (C := RX6) (T := TX6) (N := 17) (n := 17) hT in_X6 (hT _ ni_X6)
  obtain ⟨dI, aI, fI⟩ := k_arr (hT _ ac_I)
  obtain ⟨dZ, aZ, fZ⟩ := k_arr (hT _ ac_Z)
  obtain ⟨dJ, aJ, fJ⟩ := k_arr (hT _ ac_J)
  obtain ⟨comp, dS, kS, f1, f2, f3, f4, f5⟩ := Cond.arrayOver_spec (hts (.arrayOver (.object RX3)) (List.mem_of_getElem? (i := 236) (by decide +kernel)))
  refine ⟨((cl7 c0 c1 c2 c3 c4 c5 c6, is7 i0 i1 i2 i3 i4 i5 i6), dI, dZ, dS, dJ), ⟨?_, ?_⟩, k_nest hts, k_strs hts k5.2.1⟩
  · intro k q hq
    match k, hq with
    | 0, hq => cases hq; exact k0
    | 1, hq => cases hq; exact k1
    | 2, hq => cases hq; exact k2
    | 3, hq => cases hq; exact k3
    | 4, hq => cases hq; exact k4
    | 5, hq => cases hq; exact k5
    | 6, hq => cases hq; exact k6
    | k + 7, hq => simp [vwCl] at hq
  · intro k q hq
    match k, hq with
    | 0, hq => cases hq; exact ⟨aI, fI⟩
    | 1, hq => cases hq; exact ⟨aZ, fZ⟩
    | 2, hq => cases hq; exact ⟨fun n z => ⟨fun k h => (by cases h), kS, f3, comp, f4⟩, kS, comp, f3, f4, f1, f5⟩
    | 3, hq => cases hq; exact ⟨aJ, fJ⟩
    | k + 4, hq => simp [tyL] at hq
theorem k_AO (hts : ∀ w ∈ lw_tbl, w.before args s = true) : va_AO RX3 s := va_AO.of (hts (.arrayOver (.object RX3)) (List.mem_of_getElem? (i := 236) (by decide +kernel)))
theorem k_ZQ (hts : ∀ w ∈ lw_tbl, w.before args s = true) (hgv : (Jvm.Cond.and given_1 narrow_1).before args s = true) : ZQ (hpA s) s s.heap :=
  ⟨vx_Zqof (hts _ (List.mem_of_getElem? (i := 537) (by decide +kernel))) (hts _ (List.mem_of_getElem? (i := 69) (by decide +kernel))) (flat_of_before _ hgv _ (by decide +kernel)) (fun a h q => absurd h (Nat.not_lt.mpr q)), vx_Zqof (hts _ (List.mem_of_getElem? (i := 539) (by decide +kernel))) (hts _ (List.mem_of_getElem? (i := 69) (by decide +kernel))) (flat_of_before _ hgv _ (by decide +kernel)) (fun a h q => absurd h (Nat.not_lt.mpr q))⟩
theorem k_EX (hts : ∀ w ∈ lw_tbl, w.before args s = true) (hgv : (Jvm.Cond.and given_1 narrow_1).before args s = true) : EX s := by
  refine ⟨fun x hx => ?_, fun q hq => ?_, fun q hq => ?_⟩
  · simp only [List.mem_cons, List.not_mem_nil, or_false] at hx
    rcases hx with rfl | rfl | rfl
    · exact va_Nw.of rfl (hts _ (List.mem_of_getElem? (i := 514) (by decide +kernel)))
    · exact va_Nw.of rfl (hts _ (List.mem_of_getElem? (i := 516) (by decide +kernel)))
    · exact va_Nw.of rfl (hts _ (List.mem_of_getElem? (i := 518) (by decide +kernel)))
  · simp only [List.mem_cons, List.not_mem_nil, or_false] at hq
    rcases hq with rfl | rfl | rfl
    · exact va_Nw.of rfl (hts _ (List.mem_of_getElem? (i := 512) (by decide +kernel)))
    · exact va_Nw.of rfl (hts _ (List.mem_of_getElem? (i := 624) (by decide +kernel)))
    · exact va_Nw.of rfl (hts _ (List.mem_of_getElem? (i := 608) (by decide +kernel)))
  · simp only [List.mem_cons, List.not_mem_nil, or_false] at hq
    rcases hq with rfl | rfl | rfl
    · exact va_Nc.of (flat_of_before _ hgv _ (by decide +kernel))
    · exact va_Nc.of (flat_of_before _ hgv _ (by decide +kernel))
    · exact va_Nc.of (flat_of_before _ hgv _ (by decide +kernel))
end STA
theorem s0_r4 {k i : Nat} (h : i < k) : s0 k 4 i = -1 := by simp [s0, h]
theorem s0_o {k j i : Nat} (h : j ≠ 4) : s0 k j i = nI 0 := by
  unfold s0
  split <;> first | rfl | (exfalso; omega)
theorem inv_0 : Inv (s0 48) := by
  refine ⟨fun o ho => ⟨Or.inl (s0_o (by decide)), Or.inl (s0_o (by decide)), Or.inl (s0_o (by decide))⟩, fun a ha => ⟨Or.inl (s0_o (by decide)), 0, by decide, s0_o (by decide), ?_⟩, ⟨Or.inl (s0_o (by decide)), Or.inl (s0_o (by decide))⟩, fun o ho _ => ⟨s0_r4 (by omega), s0_r4 (by omega), s0_o (by decide), s0_o (by decide), s0_o (by decide)⟩, fun o ho h => ?_, fun o f ho hf => Or.inl (s0_r4 (by omega)), fun o j ho hj h => ?_⟩
  · have : ∀ n, szS (s0 48) a n = 0 := by
      intro n
      induction n with
      | zero => rfl
      | succ n ih =>
        rw [szS, ih, if_neg]
        rintro ⟨h, -⟩
        rw [s0_o (by decide)] at h
        exact absurd h (by decide)
    rw [this]
    exact Nat.le_refl _
  · rw [s0_o (by decide)] at h
    exact absurd h (by decide)
  · rw [s0_o (by decide)] at h
    exact absurd h (by decide)
theorem ri_0 : RI (s0 48) (z0 0) := by
  refine ⟨inv_0, ⟨(s0_o (by decide)).symm, (s0_o (by decide)).symm, (s0_o (by decide)).symm, (s0_o (by decide)).symm, (s0_o (by decide)).symm, (s0_o (by decide)).symm⟩, fun a ha => ⟨(s0_o (by decide)).symm, (s0_o (by decide)).symm, (s0_o (by decide)).symm⟩, fun o ho => ⟨(s0_o (by decide)).symm, fun h => ?_⟩, fun o ho => ⟨0, by decide, rfl⟩, fun o f ho hf => Or.inr ⟨0, by decide, rfl⟩⟩
  rw [s0_o (by decide)] at h
  exact absurd h (by decide)
theorem rel_0 : REL (s0 48) z0 z0 (fun _ => s0 48) z0 0 0 (fun _ => 0) 0 :=
  ⟨ri_0, ⟨by decide, by decide, rfl, rfl, rfl, fun k hk => absurd hk (Nat.not_lt_zero _)⟩, ⟨rfl, by decide, fun i hi => absurd hi (Nat.not_lt_zero _)⟩, ⟨rfl, by decide, fun i hi => absurd hi (Nat.not_lt_zero _)⟩, fun i _ => ⟨ri_0.f0, ri_0.f5, ri_0.f6, ri_0.f8⟩⟩
section WNJ
variable {p : Program} {l : Launch} {e : Env} {R : Room} {s : State} {m : MethodId} {args : Array Value} {below : List Frame} {meth : Method} {c : Code} {g : GG} {nL : Nat} {Q : State → Prop} {kc ks : Nat} {lv : List (Nat × Value)} {st : List Value} {gs : List va_W} {pc : Nat} {cc : ByteArray} {own : String} {rt : Option FieldType} {A : Nat → Prop}
theorem w_newJ (X : WX p s m args meth c cc own nL rt g) (hA : ∀ q, s.heap.size ≤ q → A q) {n : Nat} (hn : n < 2 ^ 20) (hf : kc + 1 ≤ R.cells ∧ ks + n ≤ R.slots) (d : decode cc pc = .ok (.newarray .long, 2))
    (k : ∀ q, WW p l e R s m args below meth c g (va_D A) (va_S A s.heap) nL Q (kc + 1) (ks + n) lv (.ref q :: st) (gs ++ [[(q, .inl (cJ g, n, .inr (.inl (fun _ => 0))))]]) (pc + 2)) : WW p l e R s m args below meth c g (va_D A) (va_S A s.heap) nL Q kc ks lv (.int (nI n) :: st) gs pc := by
  intro H locs ls hP hD hS hl
  refine va_newa (atype := .long) (ty := .long) (a0 := (n, .inr (.inl (fun _ => 0)))) X.1.1 X.1.2.1 (X.1.2.2.2.2 _ ac_J) rfl X.2.1.1 hP hD hS hA (fun cA => by rw [vp_cell_l]; rfl) (nI_pos (by omega)) (nI_clamp (by omega)) (by show n * 8 ≤ _; omega) hf.1 hf.2 d (fun q cA H1 hK hP1 hD1 hS1 => ?_)
  have e1 : cA = cJ g := Option.some.inj (((hK.2 4 (cA, .long) rfl).2).symm.trans (X.2.1.1.2 3 (cJ g, .long) rfl).2)
  subst e1
  rw [fl_app] at hP1 hD1
  exact k q H1 locs ls hP1 hD1 hS1 hl
end WNJ
theorem pm_16 (gx : List va_W) (a b : va_W) : (gx ++ [a] ++ [b]).flatten.Perm (b :: a :: gx).flatten := ((List.perm_append_singleton b (gx ++ [a])).trans (List.Perm.cons b (List.perm_append_singleton a gx))).flatten
section WST
variable {p : Program} {l : Launch} {e : Env} {s : State} {m : MethodId} {below : List Frame} {meth : Method} {c : Code} {g : GG} {b L : Nat} {xs : Nat → Int32} {Q : State → Prop}
set_option maxRecDepth 100000 in
set_option maxHeartbeats 4000000 in
/-- the law from its entry: both objects and out are made; then its loop -/
theorem l_start (X : XL p l s m meth c g b L xs) (hO : va_AO RX3 s) (KX : ∀ (u : Nat → Nat → Nat) (ad : Nat → Nat) (ao i : Nat) (gs : List va_W), i ≤ 2048 → LW p l e s m below meth c g b Q (200 + i) (5000 + 5 * i) (lvB b u ad ao i) [] gs 1464) : LW p l e s m below meth c g b Q 0 0 [(0, .ref b)] [] [] 0 := by
  refine w_new X.1.1 X.1.2.2.2.2 5 (fs := [.null, .null, .null, .null, .null]) rfl in_X5 tyX5 tyX5_ok ck_L_8 ni_X5 ii_X5 (fun j hj => by rcases (show j = 0 ∨ j = 1 ∨ j = 2 ∨ j = 3 ∨ j = 4 by omega) with rfl | rfl | rfl | rfl | rfl <;> rfl) ⟨Nat.le_of_ble_eq_true rfl, Nat.le_of_ble_eq_true rfl⟩ dL_law_0 (fun q0 => ?_)
  refine w_dup X.1.1 dL_law_3 rfl ?_
  refine w_miI X.1.1 X.1.2.2.2.2 hO (rest := [.ref q0]) (gr := []) (gs1 := fun (u : {u : Nat → Nat → Nat // u 0 0 = q0}) => [(xG g u.1).flatten]) [0] [] (m_X5_init l g q0) ci_X5_init mk_L_77 rfl rfl (ng := 1) rfl (by decide) (fun _ => rfl) (fun _ => rfl) (fun _ => rfl) ⟨Nat.le_of_ble_eq_true rfl, Nat.le_of_ble_eq_true rfl⟩ (Nat.le_of_ble_eq_true rfl) ⟨Nat.le_of_ble_eq_true rfl, Nat.le_of_ble_eq_true rfl⟩ dL_law_4 (fun u => ?_)
  obtain ⟨u, hu⟩ := u
  subst hu
  refine w_rg (xG g u) (by rw [List.flatten_cons, List.flatten_nil, List.append_nil]) ?_
  refine w_astore_n X.1.1 dL_law_7 (by decide) ?_
  refine w_new X.1.1 X.1.2.2.2.2 6 (fs := [.null, .null, .int 0, .null, .int 0, .int 0, .int 0, .int 0, .int 0, .null, .int 0, .null, .null, .int 0, .null, .null, .int 0]) rfl in_X6 tyX6 tyX6_ok ck_L_78 ni_X6 ii_X6 (fun j hj => by rcases (show j = 0 ∨ j = 1 ∨ j = 2 ∨ j = 3 ∨ j = 4 ∨ j = 5 ∨ j = 6 ∨ j = 7 ∨ j = 8 ∨ j = 9 ∨ j = 10 ∨ j = 11 ∨ j = 12 ∨ j = 13 ∨ j = 14 ∨ j = 15 ∨ j = 16 by omega) with rfl | rfl | rfl | rfl | rfl | rfl | rfl | rfl | rfl | rfl | rfl | rfl | rfl | rfl | rfl | rfl | rfl <;> rfl) ⟨Nat.le_of_ble_eq_true rfl, Nat.le_of_ble_eq_true rfl⟩ dL_law_8 (fun q1 => ?_)
  refine w_dup X.1.1 dL_law_11 rfl ?_
  refine w_miI X.1.1 X.1.2.2.2.2 hO (rest := [.ref q1]) (gr := xG g u) (gs1 := fun (v : {ad : Nat → Nat // ad 0 = q1}) => xG g u ++ [moC g v.1 z0]) [14] [0, 1, 2, 3, 4, 5, 6, 7, 8, 9, 10, 11, 12, 13] (m_X6_init l g q1) ci_X6_init mk_L_80 rfl rfl (ng := 15) rfl (by decide) (fun _ => rfl) (fun _ => rfl) (fun _ => rfl) ⟨Nat.le_of_ble_eq_true rfl, Nat.le_of_ble_eq_true rfl⟩ (Nat.le_of_ble_eq_true rfl) ⟨Nat.le_of_ble_eq_true rfl, Nat.le_of_ble_eq_true rfl⟩ dL_law_12 (fun v => ?_)
  obtain ⟨ad, had⟩ := v
  subst had
  refine w_astore_n X.1.1 dL_law_15 (by decide) ?_
  refine w_iconst X.1.1 (nI 1) dL_law_16 (by decide) ?_
  refine w_newJ X.1.1 X.1.2.2.2.2 (by decide) ⟨Nat.le_of_ble_eq_true rfl, Nat.le_of_ble_eq_true rfl⟩ dL_law_17 (fun ao => ?_)
  refine w_astore_n X.1.1 dL_law_19 (by decide) ?_
  refine w_iconst X.1.1 (nI 0) dL_law_20 (by decide) ?_
  refine w_istore X.1.1 dL_law_21 (by decide) ?_
  refine w_rgp (oC g ao (fun _ => 0) :: moC g ad z0 :: xG g u) (pm_16 (xG g u) (moC g ad z0) (oC g ao (fun _ => 0))) ?_
  refine w_widen (k := 200 + 0) (n := 5000 + 5 * 0) (Nat.le_of_ble_eq_true rfl) (Nat.le_of_ble_eq_true rfl) ?_
  exact w_all [4, 3, 2, 1, 0] rfl rfl rfl (l_loop X (KX u ad ao) (L + 1) 0 (Nat.zero_le _) (by omega) (fun _ => 0) z0 (s0 48) z0 z0 (fun _ => z0) (fun _ => s0 48) 0 0 (fun _ => 0) 0 rel_0)
end WST
