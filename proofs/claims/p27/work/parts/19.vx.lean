/-! methods that throw -/
def nmL : List String := ["java/lang/RuntimeException", "java/lang/Exception"]
abbrev iSE : String := "java/lang/IllegalStateException"
abbrev iAE : String := "java/lang/IllegalArgumentException"
abbrev iOE : String := "java/lang/IndexOutOfBoundsException"
theorem at_of {ws : List Cond} (ps : List Nat) (hp : ws = ps.filterMap (fun i => lw_tbl[i]?)) (h : ws.all goodWord = true) : ∀ w ∈ ws, w ∈ TW := fun w hw => List.mem_filter.mpr ⟨(goodIn_r ws ps hp h w hw).1, List.all_eq_true.mp h w hw⟩
/-- a class that is thrown, by its places in the class's table of constants -/
def TH (cls : String) (ik ic : Nat) : Prop := Bundle.fit cls = true ∧ Cond.classLink RX5 ik cls ∈ TW ∧ Cond.initialized cls ∈ TW ∧ (∀ w ∈ (vx_atS RX5 ic cls nmL).filter goodWord, w ∈ TW) ∧ (∀ w ∈ Cond.classLink RX5 ik cls :: Cond.initialized cls :: vx_atS RX5 ic cls nmL, vx_ot w = true) ∧ (vx_atS RX5 ic cls nmL).filter (fun w => !goodWord w) = [.declares (Bundle.initS "java/lang/RuntimeException"), .declares (Bundle.initS "java/lang/Exception"), .declares (Bundle.initS Bundle.tN), .castable cls cls] ∧ (cls, cls) ∈ [(iSE, iSE), (iAE, iAE), (iOE, iOE)]
theorem th_iSE : TH iSE 48 52 := ⟨by decide +kernel, ck_X5_48, tw 21 (by decide +kernel) (by decide +kernel), at_of [18, 234, 243, 247, 250, 252, 235, 236, 31, 32, 237, 242, 248, 268, 224, 269, 226, 270, 228, 238, 240, 230, 264, 265, 267, 230, 255, 256, 257, 258, 258, 259, 260, 261, 261, 262, 263, 264, 254, 213, 221, 222, 223, 225, 227, 229, 233, 232, 231] (by decide +kernel) (by decide +kernel), by decide +kernel, by decide +kernel, by decide +kernel⟩
theorem th_iAE : TH iAE 66 70 := ⟨by decide +kernel, ck_X5_66, tw 23 (by decide +kernel) (by decide +kernel), at_of [18, 234, 243, 247, 250, 252, 235, 236, 31, 32, 237, 242, 248, 268, 224, 269, 226, 270, 228, 238, 240, 230, 264, 265, 267, 230, 313, 314, 315, 258, 258, 259, 260, 261, 261, 262, 263, 264, 312, 303, 305, 245, 306, 307, 308, 309, 233, 232, 310] (by decide +kernel) (by decide +kernel), by decide +kernel, by decide +kernel, by decide +kernel⟩
theorem th_iOE : TH iOE 91 95 := ⟨by decide +kernel, ck_X5_91, tw 24 (by decide +kernel) (by decide +kernel), at_of [18, 234, 243, 247, 250, 252, 235, 236, 31, 32, 237, 242, 248, 268, 224, 269, 226, 270, 228, 238, 240, 230, 264, 265, 267, 230, 409, 410, 411, 258, 258, 259, 260, 261, 261, 262, 263, 264, 408, 399, 401, 246, 402, 403, 404, 405, 233, 232, 406] (by decide +kernel) (by decide +kernel), by decide +kernel, by decide +kernel, by decide +kernel⟩
theorem fit_nm : ∀ n ∈ nmL, Bundle.fit n = true := by decide +kernel
def ZQ (A : Nat → Prop) (U : State) (H : Heap) : Prop := vx_Zq Bundle.tN "UNASSIGNED_STACK" Bundle.steD A U H ∧ vx_Zq Bundle.tN "SUPPRESSED_SENTINEL" Bundle.listD A U H
def EX (U : State) : Prop := (∀ x ∈ ["java/lang/RuntimeException", "java/lang/Exception", Bundle.tN], va_Nw (.declares (Bundle.initS x)) U) ∧ (∀ q ∈ [(iSE, iSE), (iAE, iAE), (iOE, iOE)], va_Nw (.castable q.1 q.2) U) ∧ ∀ q ∈ [(iAE, iOE), (iSE, iOE), (iSE, iAE)], va_Nc q.1 q.2 U
theorem EX.warm {s U : State} (hW : s.WarmedH U.vm) (h : EX s) : EX U := ⟨fun x hx => va_Nw.warmD hW (h.1 x hx), fun q hq => va_Nw.warmC hW (h.2.1 q hq), fun q hq => va_Nc.moved hW.alike (h.2.2 q hq)⟩
theorem ZQ.warm {A : Nat → Prop} {s U : State} {H : Heap} (hW : s.WarmedH U.vm) (h : ZQ A s H) : ZQ A U H := ⟨vx_Zq.moved hW.alike h.1, vx_Zq.moved hW.alike h.2⟩
theorem ZQ.sub {A B : Nat → Prop} {U : State} {H : Heap} (h : ZQ A U H) (hAB : ∀ q, B q → A q) : ZQ B U H := ⟨h.1.narrow hAB, h.2.narrow hAB⟩
theorem ZQ.kept {A : Nat → Prop} {U : State} {H H1 : Heap} (h : ZQ A U H) (hq : ∀ a : Nat, a < H.size → ¬ A a → H1[a]? = H[a]?) : ZQ A U H1 := ⟨h.1.kept hq, h.2.kept hq⟩
/-- an outcome: what is returned, or which class is thrown -/
abbrev OC : Type := Sum (Option Value) String
abbrev rI (x : Int32) : OC := .inl (some (.int x))
abbrev rN : OC := .inl none
def QT {U : Type} (g : GG) (o : OC) (g1 : U → List va_W) (A : Nat → Prop) : Array Value → State → Outcome → State → Prop := fun _ st oc t => ∃ (rv : Option Value) (u : U), o = .inl rv ∧ oc = .returned rv ∧ va_P g.1 vwCl (g1 u).flatten t.heap ∧ va_D A (g1 u).flatten ∧ va_F A st t
def XT {U : Type} (g : GG) (o : OC) (g1 : U → List va_W) (A : Nat → Prop) : String → State → State → Prop := fun E st t => ∃ u : U, o = .inr E ∧ va_P g.1 vwCl (g1 u).flatten t.heap ∧ va_D A (g1 u).flatten ∧ va_F A st t
def PX (g : GG) (gc : List va_W) (sz : Nat) (U : State) : Prop := U.heap.size = sz ∧ va_P g.1 vwCl gc.flatten U.heap ∧ va_D (fun _ => True) gc.flatten ∧ EV g U ∧ ZQ (va_A gc.flatten sz) U U.heap ∧ EX U
abbrev MVX {U : Type} (l : Launch) (g : GG) (y : MethodName) (cc : ByteArray) (n : Nat) (r : Option FieldType) (k mc ms : Nat) (As : List Value) (gc : List va_W) (o : OC) (g1 : U → List va_W) : Prop :=
  ∀ sz : Nat, vx_Met l y (WSy y cc n r) (RM k mc ms) (va_Pc As (PX g gc sz)) (QT g o g1 (va_A gc.flatten sz)) (XT g o g1 (va_A gc.flatten sz)) mc ms (va_A gc.flatten sz)
/-- the frame of a method that may throw -/
def WV (p : Program) (l : Launch) (s : State) (m : MethodId) (args : Array Value) (meth : Method) (c : Code) (cc : ByteArray) (own : String) (nL : Nat) (rt : Option FieldType) (g : GG) (A : Nat → Prop) : Prop :=
  WX p s m args meth c cc own nL rt g ∧ l.stackTraces = false ∧ ZQ A s s.heap ∧ EX s ∧ ∀ q, s.heap.size ≤ q → A q
section WVS
variable {p : Program} {l : Launch} {e : Env} {R : Room} {s : State} {m : MethodId} {args : Array Value} {below : List Frame} {meth : Method} {c : Code} {g : GG} {nL : Nat} {Q : State → Prop} {kc ks : Nat} {lv : List (Nat × Value)} {st : List Value} {gs : List va_W} {pc : Nat} {cc : ByteArray} {own : String} {rt : Option FieldType} {A : Nat → Prop} {U : Type} {g1 : U → List va_W} {o : OC} {mc ms : Nat}
theorem th_at (hT : ∀ w ∈ TW, w.before args s = true) (hE : EX s) {cls : String} {ik ic : Nat} (h : TH cls ik ic) : ∀ w ∈ vx_atS RX5 ic cls nmL, w.before args s = true :=
  vx_hat (fun w hw => hT w (h.2.2.2.1 w hw)) (fun w hw => by rw [h.2.2.2.2.2.1] at hw; exact hw) (vx_c (va_Nw.use rfl (hE.1 _ (by decide +kernel))) (vx_c (va_Nw.use rfl (hE.1 _ (by decide +kernel))) (vx_c (va_Nw.use rfl (hE.1 _ (by decide +kernel))) (vx_c (va_Nw.use rfl (hE.2.1 _ h.2.2.2.2.2.2)) vx_n))))
theorem xt_of {cls : String} {H : Heap} {locs : List Loc} (u : U) (ho : o = .inr cls) (hP : va_P g.1 vwCl (g1 u).flatten H) (hD : va_D A (g1 u).flatten) (hS : va_S A s.heap H locs) : ∀ t : State, s.vm.Alike t.vm → H.size ≤ t.heap.size → (∀ q : Nat, q < H.size → t.heap[q]? = H[q]?) → XT g o g1 A cls s t :=
  fun t _ h1 h2 => ⟨u, ho, hP.kept (fun k q hk => h2 q.1 (hP k q hk).lt), hD, Nat.le_trans hS.1 h1, fun q a b => by rw [h2 q (Nat.lt_of_lt_of_le a hS.1)]; exact hS.2.1 q a b⟩
theorem w_thrS (X : WV p l s m args meth c cc RX5 nL rt g A) (hT : ∀ x ∈ c.exceptionTable.toList, False) {cls text : String} {ik ic is : Nat} (h : TH cls ik ic) (hs : (is, text) ∈ strL) (u : U) (ho : o = .inr cls) (hg : gs = g1 u) (hR : 6 ≤ R.frames ∧ 100 ≤ R.locals) (hw : (st.map fun v => v.category).sum ≤ 8) (hf : kc + 1 ≤ R.cells ∧ ks + 6 ≤ R.slots) (hm : kc + 1 ≤ mc ∧ ks + 6 ≤ ms)
    (d0 : decode cc pc = .ok (.new ik, 3)) (d3 : decode cc (pc + 3) = .ok (.dup, 1)) (d4 : decode cc (pc + 4) = .ok (.ldc is, 2)) (d6 : decode cc (pc + 6) = .ok (.invokespecial ic, 3)) (d9 : decode cc (pc + 9) = .ok (.athrow, 1)) :
    WW p l e R s m args below meth c g (va_D A) (va_S A s.heap) nL (vx_MQ below (QT g o g1 A) (XT g o g1 A) args s mc ms A) kc ks lv st gs pc := by
  subst hg
  intro H locs ls hP hD hS hl
  obtain ⟨X, hl0, ⟨hU, hN⟩, hE, hA⟩ := X
  obtain ⟨sa, hsa⟩ := X.2.1.2.2 _ hs
  exact vx_throwS X.1.1 X.1.2.1 hl0 (names := nmL) X.1.2.2.2.1 h.1 fit_nm (X.1.2.2.2.2 _ h.2.1) (X.1.2.2.2.2 _ h.2.2.1) hsa (th_at X.1.2.2.2.2 hE h) h.2.2.2.2.1 hU hN hS (hl.1.trans X.1.2.2.1.symm) d0 d3 d4 d6 d9 (fun x hx => (hT x hx).elim) (show 5 < R.frames by omega) (show _ + 82 ≤ R.locals by omega) hf.1 hf.2 X.2.2.2 (xt_of u ho hP hD hS) hS.2.2 hm.1 hm.2
theorem w_thrW (X : WV p l s m args meth c cc RX5 nL rt g A) (hT : ∀ x ∈ c.exceptionTable.toList, False) {cls text : String} {ik ic is : Nat} (h : TH cls ik ic) (hs : (is, text) ∈ strL) (u : U) (ho : o = .inr cls) (hg : gs = g1 u) (hR : 6 ≤ R.frames ∧ 100 ≤ R.locals) (hw : (st.map fun v => v.category).sum ≤ 8) (hf : kc + 1 ≤ R.cells ∧ ks + 6 ≤ R.slots) (hm : kc + 1 ≤ mc ∧ ks + 6 ≤ ms)
    (d0 : decode cc pc = .ok (.new ik, 3)) (d3 : decode cc (pc + 3) = .ok (.dup, 1)) (d4 : decode cc (pc + 4) = .ok (.ldc_w is, 3)) (d7 : decode cc (pc + 7) = .ok (.invokespecial ic, 3)) (d10 : decode cc (pc + 10) = .ok (.athrow, 1)) :
    WW p l e R s m args below meth c g (va_D A) (va_S A s.heap) nL (vx_MQ below (QT g o g1 A) (XT g o g1 A) args s mc ms A) kc ks lv st gs pc := by
  subst hg
  intro H locs ls hP hD hS hl
  obtain ⟨X, hl0, ⟨hU, hN⟩, hE, hA⟩ := X
  obtain ⟨sa, hsa⟩ := X.2.1.2.2 _ hs
  exact vx_throwSW X.1.1 X.1.2.1 hl0 (names := nmL) X.1.2.2.2.1 h.1 fit_nm (X.1.2.2.2.2 _ h.2.1) (X.1.2.2.2.2 _ h.2.2.1) hsa (th_at X.1.2.2.2.2 hE h) h.2.2.2.2.1 hU hN hS (hl.1.trans X.1.2.2.1.symm) d0 d3 d4 d7 d10 (fun x hx => (hT x hx).elim) (show 5 < R.frames by omega) (show _ + 82 ≤ R.locals by omega) hf.1 hf.2 X.2.2.2 (xt_of u ho hP hD hS) hS.2.2 hm.1 hm.2
theorem w_csT {U2 : Type} {a : Array Value} {rest : List Value} {o2 : OC} {gc gr : List va_W} {g2 gs1 : U2 → List va_W} {is ir : List Nat} {mc2 ms2 : Nat} (hA : ∀ q, s.heap.size ≤ q → A q) (hi : is.map (fun i => gs[i]?) = gc.map some) (hr0 : ir.map (fun i => gs[i]?) = gr.map some) {ng : Nat} (hn0 : gs.length = ng) (hp : (is ++ ir).Perm (List.range ng)) (hi1 : ∀ u, is.map (fun i => (gs1 u)[i]?) = (g2 u).map some) (hr1 : ∀ u, ir.map (fun i => (gs1 u)[i]?) = gr.map some) (hlen : ∀ u, (gs1 u).length = ng)
    (hr : ∀ (H : Heap) (locs : List Loc) (ls : Array Slot), va_P g.1 vwCl gs.flatten H → va_D (fun _ => True) gc.flatten → (∀ q, va_A gc.flatten H.size q → A q) → va_S A s.heap H locs → lv_has ls nL lv → vx_Run p l e R s m args below meth c H locs kc ks mc2 ms2 (F0 m pc ls st) rest (QT g o2 g2 (va_A gc.flatten H.size) a) (XT g o2 g2 (va_A gc.flatten H.size)) (va_A gc.flatten H.size))
    (kk : ∀ (rv : Option Value) (u : U2), o2 = .inl rv → WW p l e R s m args below meth c g (va_D A) (va_S A s.heap) nL Q (kc + mc2) (ks + ms2) lv (rv.toList ++ rest) (gs1 u) (pc + 3))
    (kx : ∀ (E : String) (u : U2), o2 = .inr E → ∀ (H : Heap) (locs : List Loc) (ls : Array Slot) (q : Addr) (ce : Cell), va_P g.1 vwCl (gs1 u).flatten H → va_D A (gs1 u).flatten → va_S A s.heap H locs → lv_has ls nL lv → H[q]? = some ce → ce.vm = .none → s.vm.findClass E = some ce.cls → vx_W p l e R s m args below meth c H locs (kc + mc2) (ks + ms2) Q (F0 m pc ls rest) q) :
    WW p l e R s m args below meth c g (va_D A) (va_S A s.heap) nL Q kc ks lv st gs pc := by
  intro H locs ls hP hD hS hl T hT X
  have hpm := gs_perm hi hr0 (by rw [hn0]; exact hp)
  have hF := gs_free hD hS hA hpm
  have go : ∀ (u : U2) (t T' : State) (L : List Loc) (st₀ : State), st₀.heap = H → T'.heap = t.heap → (∀ q ∈ L, va_A gc.flatten H.size q.base) → va_P g.1 vwCl (g2 u).flatten t.heap → va_D (va_A gc.flatten H.size) (g2 u).flatten → va_F (va_A gc.flatten H.size) st₀ t → va_P g.1 vwCl (gs1 u).flatten T'.heap ∧ va_D A (gs1 u).flatten ∧ va_S A s.heap T'.heap (locs ++ L) := by
    intro u t T' L st₀ h0 e1 hL hP1 hD1 hFr
    obtain ⟨hz, hk⟩ := hFr
    rw [h0] at hz hk
    have hpm1 := gs_perm (hi1 u) (hr1 u) (by rw [hlen u]; exact hp)
    have hj := gs_join (ws := gs.flatten) (ws1 := (gs1 u).flatten) (H1 := T'.heap) hP hD hpm hpm1 (fun q h1 h2 => by rw [e1]; exact hk q h1 h2) hF (by rw [e1]; exact hP1) hD1
    exact ⟨hj.1, hj.2, ⟨Nat.le_trans hS.1 (by rw [e1]; exact hz), fun q h1 h2 => by rw [e1, hk q (Nat.lt_of_lt_of_le h1 hS.1) (fun z => h2 (hF q z))]; exact hS.2.1 q h1 h2, fun q hq => (List.mem_append.mp hq).elim (hS.2.2 q) (fun h => hF _ (hL q h))⟩⟩
  rcases hr H locs ls hP (gs_part hD hpm) hF hS hl T hT X with ⟨v, st₀, t, T', L, h0, X', hL, e1, e2, ⟨rv, u, ho, hv, hP1, hD1, hFr⟩, sg⟩ | ⟨q, st₀, t, T', L, E, ce, h0, X', hL, e1, e2, ⟨u, ho, hP1, hD1, hFr⟩, hce, hcv, hcl, sg⟩
  · cases hv
    obtain ⟨j1, j2, j3⟩ := go u t T' L st₀ h0 e1 hL hP1 hD1 hFr
    obtain ⟨t2, a1, b1⟩ := kk v u ho T'.heap (locs ++ L) ls j1 j2 j3 hl T' rfl X'
    exact ⟨t2, sg t2 a1, b1⟩
  · obtain ⟨j1, j2, j3⟩ := go u t T' L st₀ h0 e1 hL hP1 hD1 hFr
    obtain ⟨t2, a1, b1⟩ := kx E u ho T'.heap (locs ++ L) ls q ce j1 j2 j3 hl (by rw [e1]; exact hce) hcv hcl T' rfl X'
    exact ⟨t2, sg.trans a1, b1⟩
theorem px_pre (X : WV p l s m args meth c cc own nL rt g A) {gc : List va_W} {is : List Nat} {H : Heap} {locs : List Loc} {As : List Value} (hP : va_P g.1 vwCl gs.flatten H) (hD : va_D (fun _ => True) gc.flatten) (hF : ∀ q, va_A gc.flatten H.size q → A q) (hS : va_S A s.heap H locs) (hi : is.map (fun i => gs[i]?) = gc.map some) : PreS s H (va_Pc As (PX g gc H.size)) As :=
  ⟨fun a U j mk q => ⟨q.1, q.2.1, q.2.2.1, q.2.2.2.1, q.2.2.2.2.1.blind j mk a, ZQ.warm (State.WarmedH.refl U) q.2.2.2.2.2.1, EX.warm (State.WarmedH.refl U) q.2.2.2.2.2.2⟩, fun U hU hW => ⟨rfl, by rw [hU], by rw [hU]; exact va_P_mem.mpr (fun q hq => va_P_mem.mp hP q (gs_mem hi q hq)), hD, X.1.2.1.warm hW, by rw [hU]; exact ((X.2.2.1.kept hS.2.1).sub hF).warm hW, X.2.2.2.1.warm hW⟩⟩
/-- not caught here -/
theorem kx_out (X : WV p l s m args meth c cc own nL rt g A) (hT : ∀ x ∈ c.exceptionTable.toList, False) {E : String} {H : Heap} {locs : List Loc} {ls : Array Slot} {rest : List Value} {q : Addr} {ce : Cell} (u : U) (ho : o = .inr E) (hP : va_P g.1 vwCl (g1 u).flatten H) (hD : va_D A (g1 u).flatten) (hS : va_S A s.heap H locs) (h1 : H[q]? = some ce) (h2 : ce.vm = .none) (h3 : s.vm.findClass E = some ce.cls) (hc : kc ≤ mc) (hk : ks ≤ ms) : vx_W p l e R s m args below meth c H locs kc ks (vx_MQ below (QT g o g1 A) (XT g o g1 A) args s mc ms A) (F0 m pc ls rest) q :=
  vx_out (fun x hx => (hT x hx).elim) X.1.2.2.2 h1 h2 h3 (fun t ht hv => ⟨u, ho, by rw [ht]; exact hP, hD, hS.F ht⟩) hS.2.2 hc hk
theorem w_iret_vx (X : WV p l s m args meth c cc own nL (some .int) g A) {v : Int32} (u : U) (ho : o = .inl (some (.int v))) (hg : gs = g1 u) (hkc : kc ≤ mc) (hks : ks ≤ ms) (d : decode cc pc = .ok (.ireturn, 1)) : WW p l e R s m args below meth c g (va_D A) (va_S A s.heap) nL (vx_MQ below (QT g o g1 A) (XT g o g1 A) args s mc ms A) kc ks lv [.int v] gs pc := by
  subst hg
  intro H locs ls hP hD hS hl
  refine vx_ret (W.widen hkc hks ?_)
  exact W.iret X.1.1.1 X.1.1.2.1 X.1.2.2.1 (fun t ht hW => ⟨_, u, ho, rfl, by rw [ht]; exact hP, hD, hS.F ht⟩) hS.2.2 d X.1.2.2.2
theorem w_vret_vx (X : WV p l s m args meth c cc own nL none g A) (u : U) (ho : o = .inl none) (hg : gs = g1 u) (hkc : kc ≤ mc) (hks : ks ≤ ms) (d : decode cc pc = .ok (.return_, 1)) : WW p l e R s m args below meth c g (va_D A) (va_S A s.heap) nL (vx_MQ below (QT g o g1 A) (XT g o g1 A) args s mc ms A) kc ks lv [] gs pc := by
  subst hg
  intro H locs ls hP hD hS hl
  refine vx_ret (W.widen hkc hks ?_)
  exact W.vret X.1.1.1 X.1.1.2.1 X.1.2.2.1 (fun t ht hW => ⟨_, u, ho, rfl, by rw [ht]; exact hP, hD, hS.F ht⟩) hS.2.2 d X.1.2.2.2
end WVS
theorem gs_all (gs : List va_W) : (List.range gs.length).map (fun i => gs[i]?) = gs.map some := by
  refine List.ext_getElem? fun i => ?_
  rw [List.getElem?_map, List.getElem?_map]
  by_cases h : i < gs.length
  · rw [List.getElem?_range h, List.getElem?_eq_getElem h]
    simp [List.getElem?_eq_getElem h]
  · rw [List.getElem?_eq_none (by rw [List.length_range]; omega), List.getElem?_eq_none (by omega)]
    rfl
section WVT
variable {p : Program} {l : Launch} {e : Env} {R : Room} {s : State} {m : MethodId} {args : Array Value} {below : List Frame} {meth : Method} {c : Code} {g : GG} {nL : Nat} {Q : State → Prop} {kc ks : Nat} {lv : List (Nat × Value)} {st : List Value} {gs : List va_W} {pc : Nat} {cc : ByteArray} {own : String} {rt : Option FieldType} {A : Nat → Prop} {U : Type} {g1 : U → List va_W} {o : OC} {mc ms : Nat}
/-- a void check that changes nothing: it returns, or what it throws leaves this method too -/
theorem w_chkS (X : WV p l s m args meth c cc own nL rt g A) (hT : ∀ x ∈ c.exceptionTable.toList, False) {U2 : Type} {idx : Nat} {As rest : List Value} {o2 : OC} {y : MethodName} {cy : ByteArray} {ny kh mc2 ms2 : Nat} {ry : Option FieldType} (hM : MVX (U := U2) l g y cy ny ry kh mc2 ms2 As [] o2 (fun _ => [])) (hy : CSt y cy ny ry As.length) (hlink : Cond.methodLink own idx y ∈ TW) (hst : st = As.reverse ++ rest) (hR : kh + 1 ≤ R.frames ∧ 8 + (ny + 11) + 32 * kh ≤ R.locals) (hw : (rest.map fun v => v.category).sum ≤ 8) (hf : kc + mc2 ≤ R.cells ∧ ks + ms2 ≤ R.slots) (hm : kc + mc2 ≤ mc ∧ ks + ms2 ≤ ms) (d : decode cc pc = .ok (.invokestatic idx, 3)) (u0 : U) (hx : ∀ E, o2 = .inr E → o = .inr E ∧ gs = g1 u0) (hn : ∀ rv, o2 = .inl rv → rv = none)
    (k : o2 = .inl none → WW p l e R s m args below meth c g (va_D A) (va_S A s.heap) nL (vx_MQ below (QT g o g1 A) (XT g o g1 A) args s mc ms A) (kc + mc2) (ks + ms2) lv rest gs (pc + 3)) : WW p l e R s m args below meth c g (va_D A) (va_S A s.heap) nL (vx_MQ below (QT g o g1 A) (XT g o g1 A) args s mc ms A) kc ks lv st gs pc := by
  refine w_csT (gc := []) (gr := gs) (g2 := fun (_ : U2) => []) (gs1 := fun _ => gs) (is := []) (ir := List.range gs.length) (ng := gs.length) X.2.2.2.2 rfl (gs_all _) rfl (by rw [List.nil_append]) (fun _ => rfl) (fun _ => gs_all _) (fun _ => rfl) (fun H locs ls hP hD hF hS hl => vx_runS (As := As) (rest := rest) X.1.1 (hM H.size) (va_cwS As.length X.1.1.2.2.2.2 (gS hlink hy) rfl rfl rfl hy.1 hR) (px_pre X hP hD hF hS (is := []) rfl) rfl rfl hl.1 hst (lv_room hw) d ⟨hf.1, hf.2⟩) (fun rv u ho => ?_) (fun E u ho H locs ls q ce hP hD hS hl h1 h2 h3 => ?_)
  · cases hn rv ho
    exact k ho
  · obtain ⟨ho2, hg⟩ := hx E ho
    rw [hg] at hP hD
    exact kx_out X hT u0 ho2 hP hD hS h1 h2 h3 hm.1 hm.2
theorem w_chkV (X : WV p l s m args meth c cc own nL rt g A) (hT : ∀ x ∈ c.exceptionTable.toList, False) {U2 : Type} {b idx : Nat} {As rest : List Value} {gc : List va_W} (gr : List va_W) {o2 : OC} {y : MethodName} {cy : ByteArray} {ny kh mc2 ms2 : Nat} {ry : Option FieldType} (is ir : List Nat) (gi gj : Nat) (hM : MVX (U := U2) l g y cy ny ry kh mc2 ms2 (.ref b :: As) gc o2 (fun _ => gc)) {C : String} {T : u_T} {G : va_W} {ci N : Nat} {fs : List Value} (hy : CV C y cy ny ry As.length) (hlink : Cond.methodLink own idx y ∈ TW) (hst : st = As.reverse ++ .ref b :: rest) (hi : is.map (fun i => gs[i]?) = gc.map some) (hr0 : ir.map (fun i => gs[i]?) = gr.map some) {ng : Nat} (hn0 : gs.length = ng) (hp : (is ++ ir).Perm (List.range ng)) (hG : gs[gi]? = some G) (hj : G[gj]? = some (b, .inr (ci, fs))) (hc : vwCl[ci]? = some (C, T, N)) (hR : kh + 1 ≤ R.frames ∧ 8 + (ny + 11) + 32 * kh ≤ R.locals) (hw : (rest.map fun v => v.category).sum ≤ 8) (hf : kc + mc2 ≤ R.cells ∧ ks + ms2 ≤ R.slots) (hm : kc + mc2 ≤ mc ∧ ks + ms2 ≤ ms) (d : decode cc pc = .ok (.invokevirtual idx, 3)) (u0 : U) (hx : ∀ E, o2 = .inr E → o = .inr E ∧ gs = g1 u0) (hn : ∀ rv, o2 = .inl rv → rv = none)
    (k : o2 = .inl none → WW p l e R s m args below meth c g (va_D A) (va_S A s.heap) nL (vx_MQ below (QT g o g1 A) (XT g o g1 A) args s mc ms A) (kc + mc2) (ks + ms2) lv rest gs (pc + 3)) : WW p l e R s m args below meth c g (va_D A) (va_S A s.heap) nL (vx_MQ below (QT g o g1 A) (XT g o g1 A) args s mc ms A) kc ks lv st gs pc := by
  refine w_csT (gc := gc) (gr := gr) (g2 := fun (_ : U2) => gc) (gs1 := fun _ => gs) (is := is) (ir := ir) (ng := ng) X.2.2.2.2 hi hr0 hn0 hp (fun _ => hi) (fun _ => hr0) (fun _ => hn0) (fun H locs ls hP hD hF hS hl => vx_runV (As := As) (rest := rest) X.1.1 (hM H.size) (cwV As.length X.1.1.2.2.2.2 (gV hlink hy) rfl rfl rfl hy.1 hR) ⟨(px_pre (As := .ref b :: As) X hP hD hF hS hi).1, va_recv X.1.2.1.1 hP hc (fl_lt gs gi G hG gj _ hj), (px_pre (As := .ref b :: As) X hP hD hF hS hi).2⟩ rfl rfl hl.1 hst (lv_room hw) d ⟨hf.1, hf.2⟩) (fun rv u ho => ?_) (fun E u ho H locs ls q ce hP hD hS hl h1 h2 h3 => ?_)
  · cases hn rv ho
    exact k ho
  · obtain ⟨ho2, hg⟩ := hx E ho
    rw [hg] at hP hD
    exact kx_out X hT u0 ho2 hP hD hS h1 h2 h3 hm.1 hm.2
end WVT
theorem mk_vx {U : Type} {l : Launch} {g : GG} {y : MethodName} {cc : ByteArray} {n : Nat} {r : Option FieldType} {k mc ms : Nat} {As : List Value} {gc : List va_W} {o : OC} {g1 : U → List va_W} (hf : l.stackTraces = false) (hy : plainName y.cls = true) (hn : (lg_sl As).length ≤ n)
    (body : ∀ (p : Program) (e : Env) (s : State) (m : MethodId) (below : List Frame) (meth : Method) (c : Code) (A : Nat → Prop), (∀ x ∈ c.exceptionTable.toList, False) → WV p l s m As.toArray meth c cc y.cls n r g A → WW p l e (RM k mc ms) s m As.toArray below meth c g (va_D A) (va_S A s.heap) n (vx_MQ below (QT g o g1 A) (XT g o g1 A) As.toArray s mc ms A) 0 0 (lv_args 0 As) [] gc 0) : MVX l g y cc n r k mc ms As gc o g1 := by
  intro sz
  refine vx_ofW (cc := cc) (maxL := n) (ret := r) hy rfl ?_
  intro p e s m args below meth c s₁ B hml hT hv
  obtain ⟨rfl, hsz, hP, hD0, hE, hZ, hX⟩ := hv
  subst hsz
  have hts := atoms_spec (ws := WSy y cc n r) B.pre
  have b := body p e s m below meth c (va_A gc.flatten s.heap.size) hT ⟨⟨⟨B.exec, B.bytes, hml, findClass_of_methodNamed B.named, fun w hw => hts w (List.mem_cons_of_mem _ hw)⟩, hE, B.returns, B.notSynchronized⟩, hf, hZ, hX, fun q h => Or.inr h⟩
  have hl := lv_entry As (n := n) hn
  rw [lg_entry_eq]
  exact b s.heap [] _ hP hD0.self va_S.rf hl
def chkO (b : Bool) (E : String) : OC := if b = true then rN else .inr E
theorem chkO_l {b : Bool} {E : String} {rv : Option Value} (h : chkO b E = .inl rv) : b = true ∧ rv = none := by
  cases b
  · cases h
  · cases h
    exact ⟨rfl, rfl⟩
theorem chkO_r {b : Bool} {E F : String} (h : chkO b E = .inr F) : b = false ∧ E = F := by
  cases b
  · cases h
    exact ⟨rfl, rfl⟩
  · cases h
