/-! the law's own static methods: a call of the class, its exceptions caught -/
abbrev WSh (y : MethodName) (cc : ByteArray) (n : Nat) (r : Option FieldType) (hh : List (Nat × Nat × Nat × Nat)) : List Cond := Cond.codeWith y cc n r hh :: TW
theorem wsh_in {y : MethodName} {cc : ByteArray} {n : Nat} {r : Option FieldType} {hh : List (Nat × Nat × Nat × Nat)} (h : Cond.codeWith y cc n r hh ∈ TW) : ∀ w ∈ WSh y cc n r hh, w ∈ TW := fun w hw => (List.mem_cons.mp hw).elim (fun e => by rw [e]; exact h) id
def CSh (y : MethodName) (cc : ByteArray) (n : Nat) (r : Option FieldType) (hh : List (Nat × Nat × Nat × Nat)) (k : Nat) : Prop :=
  (y.cls ≠ "java/lang/invoke/MethodHandle" ∧ y.cls ≠ "java/lang/invoke/VarHandle" ∧ (parseMethodDescriptor y.desc).map (fun d => d.parameters.length) = some k) ∧ Cond.static y ∈ TW ∧ Cond.initialized y.cls ∈ TW ∧ Cond.codeWith y cc n r hh ∈ TW
theorem gSh {own : String} {idx n : Nat} {y : MethodName} {cc : ByteArray} {r : Option FieldType} {hh : List (Nat × Nat × Nat × Nat)} {k : Nat} (hl : Cond.methodLink own idx y ∈ TW) (h : CSh y cc n r hh k) : GoodIn TW (va_wsS own idx y (WSh y cc n r hh)) :=
  tw_in fun w hw => (List.mem_append.mp hw).elim (fun h1 => (List.forall_mem_cons.mpr ⟨hl, List.forall_mem_cons.mpr ⟨h.2.1, List.forall_mem_cons.mpr ⟨h.2.2.1, fun _ h => absurd h List.not_mem_nil⟩⟩⟩ : ∀ w ∈ ([.methodLink own idx y, .static y, .initialized y.cls] : List Cond), w ∈ TW) w h1) (wsh_in h.2.2.2 w)
theorem met_ofWH {l : Launch} {y : MethodName} {ws ws' : List Cond} {rm : Room} {Pc : Array Value → State → Prop} {Qc : Array Value → State → Outcome → State → Prop} {mc ms : Nat} {free : Addr → Prop} {cc : ByteArray} {maxL : Nat} {ret : Option FieldType} {hh : List (Nat × Nat × Nat × Nat)}
    (hy : plainName y.cls = true) (hw : ws = Cond.codeWith y cc maxL ret hh :: ws')
    (body : ∀ p e s m args below meth c s₁, BodyLoose p l y (headSpec ws rm) cc maxL ret e s m args below meth c s₁ → c.maxLocals = maxL → Pc args s →
      W p l e (headSpec ws rm).room s m args below meth c s.heap [] 0 0 (MQ below Qc args s mc ms free) (entryFrame m args maxL)) : Met l y ws rm Pc Qc mc ms free := by
  refine MetFree.of_bodyS (code := cc) (maxLocals := maxL) (ret := ret) hy ?_ ?_
  · intro args s m h hn
    obtain ⟨m9, meth, c, hn9, h1, h2, h3, h4, -, h5, h6, -⟩ := Cond.codeWith_spec (atoms_spec (ws := ws) h _ (by rw [hw]; exact List.mem_cons_self))
    cases hn.symm.trans hn9
    exact ⟨meth, c, h1, h2, h3, h4, h5, h6⟩
  · intro p e s m args below meth c s₁ B hml hP _
    have hh0 : s₁.heap = s.heap := by rw [B.state]; rfl
    obtain ⟨t, a1, o, b1, b2, b3⟩ := body p e s m args below meth c s₁ B hml hP s₁ hh0 (Stand.of_body B)
    exact ⟨t, o, a1, b1, b2, ⟨b3.1, b3.2⟩⟩
abbrev MMH {U : Type} (l : Launch) (g : GG) (y : MethodName) (cc : ByteArray) (n : Nat) (r : Option FieldType) (hh : List (Nat × Nat × Nat × Nat)) (k mc ms : Nat) (As : List Value) (gc : List va_W) (rv : Option Value) (g1 : U → List va_W) : Prop :=
  ∀ sz : Nat, Met l y (WSh y cc n r hh) (RM k mc ms) (va_Pc As (PX g gc sz)) (QE g rv g1 (va_A gc.flatten sz)) mc ms (va_A gc.flatten sz)
theorem mk_mh {U : Type} {l : Launch} {g : GG} {y : MethodName} {cc : ByteArray} {n : Nat} {r : Option FieldType} {hh : List (Nat × Nat × Nat × Nat)} {k mc ms : Nat} {As : List Value} {gc : List va_W} {rv : Option Value} {g1 : U → List va_W} (hf : l.stackTraces = false) (hy : plainName y.cls = true) (hn : (lg_sl As).length ≤ n)
    (body : ∀ (p : Program) (e : Env) (s : State) (m : MethodId) (below : List Frame) (meth : Method) (c : Code) (A : Nat → Prop), c.exceptionTable.toList = tableOf hh → WV p l s m As.toArray meth c cc y.cls n r g A → WW p l e (RM k mc ms) s m As.toArray below meth c g (va_D A) (va_S A s.heap) n (MQ below (QE g rv g1 A) As.toArray s mc ms A) 0 0 (lv_args 0 As) [] gc 0) : MMH l g y cc n r hh k mc ms As gc rv g1 := by
  intro sz
  refine met_ofWH (cc := cc) (maxL := n) (ret := r) (hh := hh) hy rfl ?_
  intro p e s m args below meth c s₁ B hml hv
  obtain ⟨rfl, hsz, hP, hD0, hE, hZ, hX⟩ := hv
  subst hsz
  have hts := atoms_spec (ws := WSh y cc n r hh) B.pre
  have hT := vx_table (x := y) B (hts _ List.mem_cons_self)
  have b := body p e s m below meth c (va_A gc.flatten s.heap.size) hT ⟨⟨⟨B.exec, B.bytes, hml, findClass_of_methodNamed B.named, fun w hw => hts w (List.mem_cons_of_mem _ hw)⟩, hE, B.returns, B.notSynchronized⟩, hf, hZ, hX, fun q h => Or.inr h⟩
  have hl := lv_entry As (n := n) hn
  rw [lg_entry_eq]
  exact b s.heap [] _ hP hD0.self va_S.rf hl
/-- what a method of the law that catches tells -/
def exV (f : String → Int32) : OC → Int32
  | .inl (some (.int v)) => v
  | .inl _ => 0
  | .inr E => f E
section WHH
variable {p : Program} {l : Launch} {e : Env} {R : Room} {s : State} {m : MethodId} {args : Array Value} {below : List Frame} {meth : Method} {c : Code} {g : GG} {nL : Nat} {Q : State → Prop} {kc ks : Nat} {lv : List (Nat × Value)} {st : List Value} {gs : List va_W} {pc : Nat} {cc : ByteArray} {own : String} {rt : Option FieldType} {A : Nat → Prop} {DD : va_W → Prop} {SS : Heap → List Loc → Prop}
/-- caught by a row of this method's table -/
theorem w_catch (X : WV p l s m args meth c cc RL nL rt g A) {hh : List (Nat × Nat × Nat × Nat)} (hT : c.exceptionTable.toList = tableOf hh) {E : String} (pre : List ExceptionTableEntry) (x : ExceptionTableEntry) (suf : List ExceptionTableEntry) (hs : tableOf hh = pre ++ x :: suf) (hpass : ∀ z ∈ pre, z.catchType ≠ 0 ∧ ∃ nm : String, Cond.classLink RL z.catchType nm ∈ TW ∧ (E, nm) ∈ [(iAE, iOE), (iSE, iOE), (iSE, iAE)]) (hx : covers x pc = true) (h0 : x.catchType ≠ 0) (hl : Cond.classLink RL x.catchType E ∈ TW) (hc : (E, E) ∈ [(iSE, iSE), (iAE, iAE), (iOE, iOE)]) {rest : List Value}
    (k : ∀ q : Nat, WW p l e R s m args below meth c g (va_D A) (va_S A s.heap) nL Q kc ks lv [.ref q] gs x.handlerPc) : ∀ (H : Heap) (locs : List Loc) (ls : Array Slot) (q : Addr) (ce : Cell), va_P g.1 vwCl gs.flatten H → va_D A gs.flatten → va_S A s.heap H locs → lv_has ls nL lv → H[q]? = some ce → ce.vm = .none → s.vm.findClass E = some ce.cls → vx_W p l e R s m args below meth c H locs kc ks Q (F0 m pc ls rest) q := by
  intro H locs ls q ce hP hD hS hlv h1 h2 h3
  exact vx_catch (name := E) (E := E) X.1.1.2.2.2.1 pre x suf (by rw [hT, hs]) (fun z hz => by
    obtain ⟨z0, nm, z1, z2⟩ := hpass z hz
    exact Or.inr ⟨z0, nm, X.1.1.2.2.2.2 _ z1, X.2.2.2.1.2.2 _ z2⟩) hx h0 (X.1.1.2.2.2.2 _ hl) (va_Nw.use rfl (X.2.2.2.1.2.1 _ hc)) h1 h2 h3 (k q H locs ls hP hD hS hlv)
theorem w_hcall0 (X : WV p l s m args meth c cc RL nL rt g A) {U2 : Type} {a idx : Nat} {As rest : List Value} {gc : List va_W} {g2 : U2 → List va_W} {o2 : OC} {y : MethodName} {cy : ByteArray} {ny kh mc2 ms2 : Nat} {ry : Option FieldType} (hM : MVX (U := U2) l g y cy ny ry kh mc2 ms2 (.ref a :: As) gc o2 g2) (hlen : ∀ u, (g2 u).length = gc.length) (hy : CV RX5 y cy ny ry As.length) (hlink : Cond.methodLink RL idx y ∈ TW) (hst : st = As.reverse ++ .ref a :: rest) {G : va_W} {fs : List Value} (hG : gc[0]? = some G) (hj : G[0]? = some (a, .inr (5, fs))) (hR : kh + 1 ≤ R.frames ∧ 8 + (ny + 11) + 32 * kh ≤ R.locals) (hw : (rest.map fun v => v.category).sum ≤ 8) (hf : kc + mc2 ≤ R.cells ∧ ks + ms2 ≤ R.slots) (d : decode cc pc = .ok (.invokevirtual idx, 3)) (hI : ∀ rv, o2 = .inl rv → ∃ v, rv = some (.int v))
    (kk : ∀ (v : Int32) (u : U2), o2 = rI v → WW p l e R s m args below meth c g (va_D A) (va_S A s.heap) nL Q (kc + mc2) (ks + ms2) lv (.int v :: rest) (g2 u) (pc + 3))
    (kx : ∀ (E : String) (u : U2), o2 = .inr E → ∀ (H : Heap) (locs : List Loc) (ls : Array Slot) (q : Addr) (ce : Cell), va_P g.1 vwCl (g2 u).flatten H → va_D A (g2 u).flatten → va_S A s.heap H locs → lv_has ls nL lv → H[q]? = some ce → ce.vm = .none → s.vm.findClass E = some ce.cls → vx_W p l e R s m args below meth c H locs (kc + mc2) (ks + ms2) Q (F0 m pc ls rest) q) :
    WW p l e R s m args below meth c g (va_D A) (va_S A s.heap) nL Q kc ks lv st gc pc := by
  refine w_csT (gc := gc) (gr := []) (g2 := g2) (gs1 := g2) (is := List.range gc.length) (ir := []) (ng := gc.length) X.2.2.2.2 (gs_all _) rfl rfl (by rw [List.append_nil]) (fun u => by rw [← hlen u]; exact gs_all _) (fun u => rfl) (fun u => hlen u) (fun H locs ls hP hD hF hS hl => vx_runV (As := As) (rest := rest) X.1.1 (hM H.size) (cwV As.length X.1.1.2.2.2.2 (gV hlink hy) rfl rfl rfl hy.1 hR) ⟨(px_pre (As := .ref a :: As) X hP hD hF hS (gs_all _)).1, va_recv X.1.2.1.1 hP rfl (fl_lt gc 0 G hG 0 _ hj), (px_pre (As := .ref a :: As) X hP hD hF hS (gs_all _)).2⟩ rfl rfl hl.1 hst (lv_room hw) d ⟨hf.1, hf.2⟩) (fun rv u ho => ?_) kx
  obtain ⟨v, rfl⟩ := hI rv ho
  exact kk v u ho
end WHH
section WLA
variable {p : Program} {l : Launch} {e : Env} {R : Room} {s : State} {m : MethodId} {args : Array Value} {below : List Frame} {meth : Method} {c : Code} {g : GG} {nL : Nat} {Q : State → Prop} {kc ks : Nat} {lv : List (Nat × Value)} {st : List Value} {gs : List va_W} {pc : Nat} {cc : ByteArray} {own : String} {rt : Option FieldType} {A : Nat → Prop}
theorem w_csF {U : Type} {a : Array Value} {rest st1 : List Value} {rv : Option Value} {gc gr : List va_W} {g1 gs1 : U → List va_W} {is ir : List Nat} {mc ms : Nat} (hA : ∀ q, s.heap.size ≤ q → A q) (hS1 : rv.toList ++ rest = st1) (hi : is.map (fun i => gs[i]?) = gc.map some) (hr0 : ir.map (fun i => gs[i]?) = gr.map some) {ng : Nat} (hn0 : gs.length = ng) (hp : (is ++ ir).Perm (List.range ng)) (hi1 : ∀ u, is.map (fun i => (gs1 u)[i]?) = (g1 u).map some) (hr1 : ∀ u, ir.map (fun i => (gs1 u)[i]?) = gr.map some) (hlen : ∀ u, (gs1 u).length = ng)
    (hr : ∀ (H : Heap) (locs : List Loc) (ls : Array Slot), va_P g.1 vwCl gs.flatten H → va_D (fun _ => True) gc.flatten → (∀ q, va_A gc.flatten H.size q → A q) → va_S A s.heap H locs → lv_has ls nL lv → va_Run p l e R s m args below meth c H locs kc ks mc ms (F0 m pc ls st) rest (QE g rv g1 (va_A gc.flatten H.size) a) (va_A gc.flatten H.size)) (k : ∀ u, WW p l e R s m args below meth c g (va_D A) (va_S A s.heap) nL Q (kc + mc) (ks + ms) lv st1 (gs1 u) (pc + 3)) : WW p l e R s m args below meth c g (va_D A) (va_S A s.heap) nL Q kc ks lv st gs pc := by
  subst hS1
  intro H locs ls hP hD hS hl T hT X
  have hpm := gs_perm hi hr0 (by rw [hn0]; exact hp)
  have hF := gs_free hD hS hA hpm
  obtain ⟨v, st₀, t, T', L, h0, X', hL, e1, e2, ⟨hv, ⟨u, hP1, hD1⟩, hFr⟩, sg⟩ := hr H locs ls hP (gs_part hD hpm) hF hS hl T hT X
  cases hv
  obtain ⟨hz, hk⟩ := hFr
  rw [h0] at hz hk
  have hpm1 := gs_perm (hi1 u) (hr1 u) (by rw [hlen u]; exact hp)
  have hj := gs_join (ws := gs.flatten) (ws1 := (gs1 u).flatten) (H1 := T'.heap) hP hD hpm hpm1 (fun q h1 h2 => by rw [e1]; exact hk q h1 h2) hF (by rw [e1]; exact hP1) hD1
  obtain ⟨t2, a1, b1⟩ := k u T'.heap (locs ++ L) ls hj.1 hj.2 ⟨Nat.le_trans hS.1 (by rw [e1]; exact hz), fun q h1 h2 => by rw [e1, hk q (Nat.lt_of_lt_of_le h1 hS.1) (fun z => h2 (hF q z))]; exact hS.2.1 q h1 h2, fun q hq => (List.mem_append.mp hq).elim (hS.2.2 q) (fun h => hF _ (hL q h))⟩ hl T' rfl X'
  exact ⟨t2, sg t2 a1, b1⟩
/-- a call of one of the law's own methods -/
theorem w_mhS (X : WV p l s m args meth c cc own nL rt g A) {U : Type} {idx : Nat} {As rest st1 : List Value} {gc : List va_W} {g1 : U → List va_W} (gr : List va_W) (gs1 : U → List va_W) {rv : Option Value} {y : MethodName} {cy : ByteArray} {ny kh mc ms : Nat} {ry : Option FieldType} {hh : List (Nat × Nat × Nat × Nat)} (is ir : List Nat) (hM : MMH (U := U) l g y cy ny ry hh kh mc ms As gc rv g1) (hy : CSh y cy ny ry hh As.length) (hlink : Cond.methodLink own idx y ∈ TW) (hst : st = As.reverse ++ rest) (hi : is.map (fun i => gs[i]?) = gc.map some) (hr0 : ir.map (fun i => gs[i]?) = gr.map some) {ng : Nat} (hn0 : gs.length = ng) (hp : (is ++ ir).Perm (List.range ng)) (hi1 : ∀ u, is.map (fun i => (gs1 u)[i]?) = (g1 u).map some) (hr1 : ∀ u, ir.map (fun i => (gs1 u)[i]?) = gr.map some) (hlen : ∀ u, (gs1 u).length = ng) (hR : kh + 1 ≤ R.frames ∧ 8 + (ny + 11) + 32 * kh ≤ R.locals) (hw : (rest.map fun v => v.category).sum ≤ 8) (hf : kc + mc ≤ R.cells ∧ ks + ms ≤ R.slots) (d : decode cc pc = .ok (.invokestatic idx, 3)) (hS1 : rv.toList ++ rest = st1) (k : ∀ u, WW p l e R s m args below meth c g (va_D A) (va_S A s.heap) nL Q (kc + mc) (ks + ms) lv st1 (gs1 u) (pc + 3)) : WW p l e R s m args below meth c g (va_D A) (va_S A s.heap) nL Q kc ks lv st gs pc :=
  w_csF X.2.2.2.2 hS1 hi hr0 hn0 hp hi1 hr1 hlen (fun H locs ls hP hD hF hS hl => vx_runSW (As := As) (rest := rest) X.1.1 (hM H.size) (vx_cwSW As.length X.1.1.2.2.2.2 (gSh hlink hy) rfl rfl rfl hy.1 hR) (px_pre (As := As) X hP hD hF hS hi) rfl rfl hl.1 hst (lv_room hw) d ⟨hf.1, hf.2⟩) k
/-- the law's script -/
theorem w_sld (X : WX p s m args meth c cc own nL rt g) {b L : Nat} {xs : Nat → Int32} (hX : va_X b L xs s s.heap) (hbl : b < s.heap.size) (hbA : ¬ A b) {i : Nat} (hi : i < L) (hL : L < 2 ^ 31) (d : decode cc pc = .ok (.iaload, 1)) (k : WW p l e R s m args below meth c g (va_D A) (va_S A s.heap) nL Q kc ks lv (.int (xs i) :: st) gs (pc + 1)) : WW p l e R s m args below meth c g (va_D A) (va_S A s.heap) nL Q kc ks lv (.int (nI i) :: .ref b :: st) gs pc :=
  fun H locs ls hP hD hS hl => va_sld X.1.1 X.1.2.1 hX hbl hbA hS (vp_in_nI hi hL) d (by rw [nI_clamp (Nat.lt_trans hi hL)]; exact k H locs ls hP hD hS hl)
theorem w_slen (X : WX p s m args meth c cc own nL rt g) {b L : Nat} {xs : Nat → Int32} (hX : va_X b L xs s s.heap) (hbl : b < s.heap.size) (hbA : ¬ A b) (d : decode cc pc = .ok (.arraylength, 1)) (k : WW p l e R s m args below meth c g (va_D A) (va_S A s.heap) nL Q kc ks lv (.int (nI L) :: st) gs (pc + 1)) : WW p l e R s m args below meth c g (va_D A) (va_S A s.heap) nL Q kc ks lv (.ref b :: st) gs pc :=
  fun H locs ls hP hD hS hl => va_slen X.1.1 X.1.2.1 hX hbl hbA hS d (k H locs ls hP hD hS hl)
end WLA
abbrev MMP {U : Type} (l : Launch) (g : GG) (y : MethodName) (cc : ByteArray) (n : Nat) (r : Option FieldType) (k mc ms : Nat) (As : List Value) (gc : List va_W) (rv : Option Value) (g1 : U → List va_W) : Prop :=
  ∀ sz : Nat, Met l y (WSy y cc n r) (RM k mc ms) (va_Pc As (PX g gc sz)) (QE g rv g1 (va_A gc.flatten sz)) mc ms (va_A gc.flatten sz)
theorem mk_mp {U : Type} {l : Launch} {g : GG} {y : MethodName} {cc : ByteArray} {n : Nat} {r : Option FieldType} {k mc ms : Nat} {As : List Value} {gc : List va_W} {rv : Option Value} {g1 : U → List va_W} (hf : l.stackTraces = false) (hy : plainName y.cls = true) (hn : (lg_sl As).length ≤ n)
    (body : ∀ (p : Program) (e : Env) (s : State) (m : MethodId) (below : List Frame) (meth : Method) (c : Code) (A : Nat → Prop), WV p l s m As.toArray meth c cc y.cls n r g A → WW p l e (RM k mc ms) s m As.toArray below meth c g (va_D A) (va_S A s.heap) n (MQ below (QE g rv g1 A) As.toArray s mc ms A) 0 0 (lv_args 0 As) [] gc 0) : MMP l g y cc n r k mc ms As gc rv g1 := by
  intro sz
  refine Met.ofW (cc := cc) (maxL := n) (ret := r) hy rfl ?_
  intro p e s m args below meth c s₁ B hml hv
  obtain ⟨rfl, hsz, hP, hD0, hE, hZ, hX⟩ := hv
  subst hsz
  have hts := atoms_spec (ws := WSy y cc n r) B.pre
  have b := body p e s m below meth c (va_A gc.flatten s.heap.size) ⟨⟨⟨B.exec, B.bytes, hml, findClass_of_methodNamed B.named, fun w hw => hts w (List.mem_cons_of_mem _ hw)⟩, hE, B.returns, B.notSynchronized⟩, hf, hZ, hX, fun q h => Or.inr h⟩
  have hl := lv_entry As (n := n) hn
  rw [lg_entry_eq]
  exact b s.heap [] _ hP hD0.self va_S.rf hl
/-- the same, with the script beside -/
abbrev PS (g : GG) (gc : List va_W) (sz b L : Nat) (xs : Nat → Int32) (U : State) : Prop := PX g gc sz U ∧ va_X b L xs U U.heap ∧ b < sz ∧ ¬ va_A gc.flatten sz b
abbrev MMS {U : Type} (l : Launch) (g : GG) (y : MethodName) (cc : ByteArray) (n : Nat) (r : Option FieldType) (k mc ms : Nat) (As : List Value) (gc : List va_W) (b L : Nat) (xs : Nat → Int32) (rv : Option Value) (g1 : U → List va_W) : Prop :=
  ∀ sz : Nat, Met l y (WSy y cc n r) (RM k mc ms) (va_Pc As (PS g gc sz b L xs)) (QE g rv g1 (va_A gc.flatten sz)) mc ms (va_A gc.flatten sz)
theorem mk_ms {U : Type} {l : Launch} {g : GG} {y : MethodName} {cc : ByteArray} {n : Nat} {r : Option FieldType} {k mc ms : Nat} {As : List Value} {gc : List va_W} {b L : Nat} {xs : Nat → Int32} {rv : Option Value} {g1 : U → List va_W} (hf : l.stackTraces = false) (hy : plainName y.cls = true) (hn : (lg_sl As).length ≤ n)
    (body : ∀ (p : Program) (e : Env) (s : State) (m : MethodId) (below : List Frame) (meth : Method) (c : Code) (A : Nat → Prop), WV p l s m As.toArray meth c cc y.cls n r g A → (va_X b L xs s s.heap ∧ b < s.heap.size ∧ ¬ A b) → WW p l e (RM k mc ms) s m As.toArray below meth c g (va_D A) (va_S A s.heap) n (MQ below (QE g rv g1 A) As.toArray s mc ms A) 0 0 (lv_args 0 As) [] gc 0) : MMS l g y cc n r k mc ms As gc b L xs rv g1 := by
  intro sz
  refine Met.ofW (cc := cc) (maxL := n) (ret := r) hy rfl ?_
  intro p e s m args below meth c s₁ B hml hv
  obtain ⟨rfl, ⟨hsz, hP, hD0, hE, hZ, hX⟩, hs⟩ := hv
  subst hsz
  have hts := atoms_spec (ws := WSy y cc n r) B.pre
  have b := body p e s m below meth c (va_A gc.flatten s.heap.size) ⟨⟨⟨B.exec, B.bytes, hml, findClass_of_methodNamed B.named, fun w hw => hts w (List.mem_cons_of_mem _ hw)⟩, hE, B.returns, B.notSynchronized⟩, hf, hZ, hX, fun q h => Or.inr h⟩ hs
  have hl := lv_entry As (n := n) hn
  rw [lg_entry_eq]
  exact b s.heap [] _ hP hD0.self va_S.rf hl
section WLP
variable {p : Program} {l : Launch} {e : Env} {R : Room} {s : State} {m : MethodId} {args : Array Value} {below : List Frame} {meth : Method} {c : Code} {g : GG} {nL : Nat} {Q : State → Prop} {kc ks : Nat} {lv : List (Nat × Value)} {st : List Value} {gs : List va_W} {pc : Nat} {cc : ByteArray} {own : String} {rt : Option FieldType} {A : Nat → Prop} {DD : va_W → Prop} {SS : Heap → List Loc → Prop}
/-- a call of one of the law's own methods without a table -/
theorem w_mpS (X : WV p l s m args meth c cc own nL rt g A) {U : Type} {idx : Nat} {As rest st1 : List Value} {gc : List va_W} {g1 : U → List va_W} (gr : List va_W) (gs1 : U → List va_W) {rv : Option Value} {y : MethodName} {cy : ByteArray} {ny kh mc ms : Nat} {ry : Option FieldType} (is ir : List Nat) (hM : MMP (U := U) l g y cy ny ry kh mc ms As gc rv g1) (hy : CSt y cy ny ry As.length) (hlink : Cond.methodLink own idx y ∈ TW) (hst : st = As.reverse ++ rest) (hi : is.map (fun i => gs[i]?) = gc.map some) (hr0 : ir.map (fun i => gs[i]?) = gr.map some) {ng : Nat} (hn0 : gs.length = ng) (hp : (is ++ ir).Perm (List.range ng)) (hi1 : ∀ u, is.map (fun i => (gs1 u)[i]?) = (g1 u).map some) (hr1 : ∀ u, ir.map (fun i => (gs1 u)[i]?) = gr.map some) (hlen : ∀ u, (gs1 u).length = ng) (hR : kh + 1 ≤ R.frames ∧ 8 + (ny + 11) + 32 * kh ≤ R.locals) (hw : (rest.map fun v => v.category).sum ≤ 8) (hf : kc + mc ≤ R.cells ∧ ks + ms ≤ R.slots) (d : decode cc pc = .ok (.invokestatic idx, 3)) (hS1 : rv.toList ++ rest = st1)
    (k : ∀ u, WW p l e R s m args below meth c g (va_D A) (va_S A s.heap) nL Q (kc + mc) (ks + ms) lv st1 (gs1 u) (pc + 3)) : WW p l e R s m args below meth c g (va_D A) (va_S A s.heap) nL Q kc ks lv st gs pc :=
  w_csF X.2.2.2.2 hS1 hi hr0 hn0 hp hi1 hr1 hlen (fun H locs ls hP hD hF hS hl => va_runS (As := As) (rest := rest) X.1.1 (hM H.size) (va_cwS As.length X.1.1.2.2.2.2 (gS hlink hy) rfl rfl rfl hy.1 hR) (px_pre (As := As) X hP hD hF hS hi) rfl rfl hl.1 hst (lv_room hw) d ⟨hf.1, hf.2⟩) k
theorem w_ldc (X : WX p s m args meth c cc own nL rt g) {index : Nat} {v : Int32} (hc : Cond.constant own index v ∈ TW) (d : decode cc pc = .ok (.ldc index, 2)) (k : WW p l e R s m args below meth c g DD SS nL Q kc ks lv (.int v :: st) gs (pc + 2)) : WW p l e R s m args below meth c g DD SS nL Q kc ks lv st gs pc := fun H locs ls hP hD hS hl => lv_ldc X.1.1 X.1.2.1 X.1.2.2.2.1 (X.1.2.2.2.2 _ hc) d (k H locs ls hP hD hS hl)
theorem w_irem (X : WX p s m args meth c cc own nL rt g) {x y : Int32} (hne : ¬ y = 0) (d : decode cc pc = .ok (.irem, 1)) (k : WW p l e R s m args below meth c g DD SS nL Q kc ks lv (.int (x - x / y * y) :: st) gs (pc + 1)) : WW p l e R s m args below meth c g DD SS nL Q kc ks lv (.int y :: .int x :: st) gs pc := fun H locs ls hP hD hS hl => lv_irem X.1.1 X.1.2.1 d hne (k H locs ls hP hD hS hl)
theorem w_idiv (X : WX p s m args meth c cc own nL rt g) {x y : Int32} (hne : ¬ y = 0) (d : decode cc pc = .ok (.idiv, 1)) (k : WW p l e R s m args below meth c g DD SS nL Q kc ks lv (.int (x / y) :: st) gs (pc + 1)) : WW p l e R s m args below meth c g DD SS nL Q kc ks lv (.int y :: .int x :: st) gs pc := fun H locs ls hP hD hS hl => lv_idiv X.1.1 X.1.2.1 d hne (k H locs ls hP hD hS hl)
/-- where nothing changes, too -/
theorem w_sldR (X : WX p s m args meth c cc own nL rt g) {b L : Nat} {xs : Nat → Int32} (hX : va_X b L xs s s.heap) (hbl : b < s.heap.size) {i : Nat} (hi : i < L) (hL : L < 2 ^ 31) (d : decode cc pc = .ok (.iaload, 1)) (k : WW p l e R s m args below meth c g DD (roS s) nL Q kc ks lv (.int (xs i) :: st) gs (pc + 1)) : WW p l e R s m args below meth c g DD (roS s) nL Q kc ks lv (.int (nI i) :: .ref b :: st) gs pc := by
  intro H locs ls hP hD hS hl
  have hS' := hS
  obtain ⟨rfl, rfl⟩ := hS'
  exact va_sld (A := fun _ => False) X.1.1 X.1.2.1 hX hbl (fun z => z) ⟨Nat.le_refl _, fun _ _ _ => rfl, fun q hq => absurd hq List.not_mem_nil⟩ (vp_in_nI hi hL) d (by rw [nI_clamp (Nat.lt_trans hi hL)]; exact k _ _ ls hP hD hS hl)
theorem w_slenR (X : WX p s m args meth c cc own nL rt g) {b L : Nat} {xs : Nat → Int32} (hX : va_X b L xs s s.heap) (hbl : b < s.heap.size) (d : decode cc pc = .ok (.arraylength, 1)) (k : WW p l e R s m args below meth c g DD (roS s) nL Q kc ks lv (.int (nI L) :: st) gs (pc + 1)) : WW p l e R s m args below meth c g DD (roS s) nL Q kc ks lv (.ref b :: st) gs pc := by
  intro H locs ls hP hD hS hl
  have hS' := hS
  obtain ⟨rfl, rfl⟩ := hS'
  exact va_slen (A := fun _ => False) X.1.1 X.1.2.1 hX hbl (fun z => z) ⟨Nat.le_refl _, fun _ _ _ => rfl, fun q hq => absurd hq List.not_mem_nil⟩ d (k _ _ ls hP hD hS hl)
end WLP
theorem kk_L_7 : Cond.constant RL 7 (2147483647 : Int32) ∈ TW := tw 547 (by decide +kernel) (by decide +kernel)
theorem kk_L_8 : Cond.constant RL 8 (40503 : Int32) ∈ TW := tw 543 (by decide +kernel) (by decide +kernel)
/-- low, cell -/
def lwI (v : Int32) (n : Nat) : Int32 := (v &&& 2147483647) - (v &&& 2147483647) / nI n * nI n
theorem and_nn (v : Int32) : 0 ≤ (v &&& 2147483647).toInt := by
  have h : (v &&& 2147483647).toBitVec.msb = false := by
    show (v.toBitVec &&& (2147483647 : Int32).toBitVec).msb = false
    rw [BitVec.msb_and, show ((2147483647 : Int32).toBitVec).msb = false from by decide, Bool.and_false]
  show 0 ≤ (v &&& 2147483647).toBitVec.toInt
  rw [BitVec.toInt_eq_toNat_of_msb h]
  omega
theorem lw_ex (v : Int32) {n : Nat} (h0 : 0 < n) (hn : n < 2 ^ 31) : ∃ j, j < n ∧ lwI v n = nI j := by
  have hy : (nI n).toInt = (n : Int) := by
    have := nI_clamp hn
    have h2 := nI_pos' hn
    rw [Int32.le_iff_toInt_le] at h2
    have h3 : (nI n).toInt.toNat = n := this
    have h4 : (0 : Int32).toInt = 0 := rfl
    omega
  have e : lwI v n = (v &&& 2147483647) % nI n := by
    unfold lwI
    generalize v &&& 2147483647 = x
    exact irem_eq_mod x (nI n)
  have hr : ((v &&& 2147483647) % nI n).toInt = (v &&& 2147483647).toInt % (n : Int) := by rw [Int32.toInt_mod, hy, Int.tmod_eq_emod_of_nonneg (and_nn v)]
  have hb := Int.emod_nonneg (v &&& 2147483647).toInt (show (n : Int) ≠ 0 by omega)
  have hb2 := Int.emod_lt_of_pos (v &&& 2147483647).toInt (show (0 : Int) < (n : Int) by omega)
  refine ⟨((v &&& 2147483647).toInt % (n : Int)).toNat, by omega, ?_⟩
  rw [e]
  refine Int32.toInt_inj.mp ?_
  rw [hr]
  have hj : ((v &&& 2147483647).toInt % (n : Int)).toNat < 2 ^ 31 := by omega
  have := nI_clamp hj
  have h2 := nI_pos' hj
  rw [Int32.le_iff_toInt_le] at h2
  have h3 : (nI ((v &&& 2147483647).toInt % (n : Int)).toNat).toInt.toNat = ((v &&& 2147483647).toInt % (n : Int)).toNat := this
  have h4 : (0 : Int32).toInt = 0 := rfl
  omega
theorem m_L_low (l : Launch) (g : GG) (v : Int32) (n : Nat) (h0 : 0 < n) (hn : n < 2 ^ 31) : MRO l g yL_low cL_low 2 (some .int) 0 [.int v, .int (nI n)] [] (some (.int (lwI v n))) := by
  refine mk_ro (by decide +kernel) (Nat.le_of_ble_eq_true rfl) (fun p e s m below meth c X => ?_)
  refine w_iload_n X 0 rfl dL_low_0 ?_
  refine w_ldc X kk_L_7 dL_low_1 ?_
  refine w_iand X dL_low_3 ?_
  refine w_iload_n X 1 rfl dL_low_4 ?_
  refine w_irem X (fun z => by have := (nI_eq0 hn).mp z; omega) dL_low_5 ?_
  exact w_iret_ro X rfl dL_low_6
def cellI (xs : Nat → Int32) (L k : Nat) : Int32 := if k < L then xs k else nI 40503 * nI k + nI 977
abbrev MRS (l : Launch) (g : GG) (y : MethodName) (cc : ByteArray) (n : Nat) (r : Option FieldType) (k : Nat) (As : List Value) (b L : Nat) (xs : Nat → Int32) (rv : Option Value) : Prop :=
  Met l y (WSy y cc n r) (RM k 0 0) (va_Pc As (fun U => (va_X b L xs U U.heap ∧ b < U.heap.size) ∧ EV g U)) (QR rv) 0 0 (fun _ => False)
set_option maxRecDepth 100000 in
theorem m_L_cell (l : Launch) (g : GG) (b L : Nat) (xs : Nat → Int32) (k : Nat) (hL : L < 2 ^ 31) (hk : k < 2 ^ 31) : MRS l g yL_cell cL_cell 2 (some .int) 0 [.ref b, .int (nI k)] b L xs (some (.int (cellI xs L k))) := by
  refine Met.ofW (cc := cL_cell) (maxL := 2) (ret := some .int) (by decide +kernel) rfl ?_
  intro p e s m args below meth c s₁ B hml hv
  obtain ⟨rfl, ⟨hX, hbl⟩, hE⟩ := hv
  have hts := atoms_spec (ws := WSy yL_cell cL_cell 2 (some .int)) B.pre
  have X : WX p s m [Value.ref b, .int (nI k)].toArray meth c cL_cell RL 2 (some .int) g := ⟨⟨B.exec, B.bytes, hml, findClass_of_methodNamed B.named, fun w hw => hts w (List.mem_cons_of_mem _ hw)⟩, hE, B.returns, B.notSynchronized⟩
  have body : WW p l e (RM 0 0 0) s m [Value.ref b, .int (nI k)].toArray below meth c g roD (roS s) 2 (MQ below (QR (some (.int (cellI xs L k)))) [Value.ref b, .int (nI k)].toArray s 0 0 (fun _ => False)) 0 0 (lv_args 0 [Value.ref b, .int (nI k)]) [] [] 0 := by
    refine w_iload_n X 1 rfl dL_cell_0 ?_
    refine w_aload_n X 0 rfl dL_cell_1 ?_
    refine w_slenR X hX hbl dL_cell_2 ?_
    refine w_nc_ge X hk hL 12 dL_cell_3 (by decide) (fun c3 => ?_) (fun c3 => ?_)
    · refine w_ldc X kk_L_8 dL_cell_12 ?_
      refine w_iload_n X 1 rfl dL_cell_14 ?_
      refine w_imul X dL_cell_15 ?_
      refine w_sipush X (nI 977) dL_cell_16 (by decide +kernel) ?_
      refine w_iadd X dL_cell_19 ?_
      exact w_iret_ro X (by rw [cellI, if_neg (by omega)]; rfl) dL_cell_20
    · refine w_aload_n X 0 rfl dL_cell_6 ?_
      refine w_iload_n X 1 rfl dL_cell_7 ?_
      refine w_sldR X hX hbl c3 hL dL_cell_8 ?_
      refine w_goto X 20 dL_cell_9 (by decide) ?_
      exact w_iret_ro X (by rw [cellI, if_pos c3]) dL_cell_20
  have hl := lv_entry [Value.ref b, .int (nI k)] (n := 2) (Nat.le_of_ble_eq_true rfl)
  rw [lg_entry_eq]
  exact body s.heap [] _ (va_P_mem.mpr (fun q hq => absurd hq List.not_mem_nil)) trivial ⟨rfl, rfl⟩ hl
section WLC
variable {p : Program} {l : Launch} {e : Env} {R : Room} {s : State} {m : MethodId} {args : Array Value} {below : List Frame} {meth : Method} {c : Code} {g : GG} {nL : Nat} {Q : State → Prop} {kc ks : Nat} {lv : List (Nat × Value)} {st : List Value} {gs : List va_W} {pc : Nat} {cc : ByteArray} {own : String} {rt : Option FieldType} {A : Nat → Prop} {DD : va_W → Prop} {SS : Heap → List Loc → Prop}
/-- a look into the script, from a frame that has it -/
theorem w_cell (X : WV p l s m args meth c cc RL nL rt g A) {b L : Nat} {xs : Nat → Int32} (hX : va_X b L xs s s.heap) (hbl : b < s.heap.size) (hbA : ¬ A b) (hL : L < 2 ^ 31) {k : Nat} (hk : k < 2 ^ 31) (hR : 1 ≤ R.frames ∧ 21 ≤ R.locals) (hw : (st.map fun v => v.category).sum ≤ 8) (hf : kc ≤ R.cells ∧ ks ≤ R.slots) (d : decode cc pc = .ok (.invokestatic 70, 3))
    (kk : WW p l e R s m args below meth c g (va_D A) (va_S A s.heap) nL Q kc ks lv (.int (cellI xs L k) :: st) gs (pc + 3)) : WW p l e R s m args below meth c g (va_D A) (va_S A s.heap) nL Q kc ks lv (.int (nI k) :: .ref b :: st) gs pc :=
  w_csR (rest := st) (rv := some (.int (cellI xs L k))) rfl (fun H locs ls hP hD hS hl => va_runS (As := [.ref b, .int (nI k)]) (rest := st) X.1.1 (m_L_cell l g b L xs k hL hk) (va_cwS 2 X.1.1.2.2.2.2 (gS mk_L_70 cs_L_cell) rfl rfl rfl cs_L_cell.1 ⟨hR.1, Nat.le_trans (show _ ≤ 21 from by decide) hR.2⟩) ⟨fun a U j mk q => ⟨q.1, q.2.1, q.2.2.blind j mk a⟩, fun U hU hW => ⟨rfl, ⟨by rw [hU]; exact (hX.kept (hS.2.1 b hbl hbA)).moved hW.alike, by rw [hU]; exact Nat.lt_of_lt_of_le hbl hS.1⟩, X.1.2.1.warm hW⟩⟩ rfl rfl hl.1 rfl (lv_room hw) d ⟨hf.1, hf.2⟩) kk
end WLC
def ef_open : String → Int32 := fun _ => -3
theorem sh_L_open : CSh yL_open cL_open 2 (some .int) [(0, 4, 5, 15)] 1 := ⟨by decide +kernel, tw 549 (by decide +kernel) (by decide +kernel), ii_L, tw 550 (by decide +kernel) (by decide +kernel)⟩
set_option maxRecDepth 100000 in
set_option maxHeartbeats 4000000 in
theorem m_L_open (l : Launch) (g : GG) (hfl : l.stackTraces = false) {U : Type} {gc : List va_W} {g1 : U → List va_W} {a : Nat} {fs : List Value} {G : va_W} {o : OC} {mc ms : Nat}  (hG : gc[0]? = some G) (hj : G[0]? = some (a, .inr (5, fs))) (hM : MVX (U := U) l g yX5_open cX5_open 2 (some .int) 8 mc ms [.ref a] gc o g1) (hlen : ∀ u, (g1 u).length = gc.length) (hI : ∀ rv, o = .inl rv → ∃ v, rv = some (.int v)) (hL : ∀ E, o = .inr E → E ∈ [iSE]) : MMH (U := U) l g yL_open cL_open 2 (some .int) [(0, 4, 5, 15)] 9 mc ms [.ref a] gc (some (.int (exV ef_open o))) g1 := by
  refine mk_mh hfl (by decide +kernel) (Nat.le_of_ble_eq_true rfl) (fun p e s m below meth c A hT X => ?_)
  refine w_aload_n X.1 0 rfl dL_open_0 ?_
  refine w_hcall0 (As := []) (rest := []) X hM hlen cv_X5_open mk_L_9 rfl hG hj ⟨by (try dsimp only); omega, by (try dsimp only); omega⟩ (Nat.le_of_ble_eq_true rfl) ⟨by (try dsimp only); omega, by (try dsimp only); omega⟩ dL_open_1 hI (fun v u ho => ?_) (fun E u ho => ?_)
  · exact w_iret_me X.1 u (by rw [ho]; rfl) rfl (by (try dsimp only); omega) (by (try dsimp only); omega) dL_open_4
  · have hE := hL E ho
    simp only [List.mem_cons, List.not_mem_nil, or_false] at hE
    subst hE
    refine w_catch X hT [] ⟨0, 4, 5, 15⟩ [] rfl (fun z hz => absurd hz List.not_mem_nil) (by decide +kernel) (by decide) ck_L_15 (by decide +kernel) (fun q => ?_)
    refine w_astore_n X.1 dL_open_5 (by decide) ?_
    refine w_bipush X.1 (-3) dL_open_6 (by decide +kernel) ?_
    exact w_iret_me X.1 u (by rw [ho]; first | rfl | decide +kernel) rfl (by (try dsimp only); omega) (by (try dsimp only); omega) dL_open_8
def ef_make : String → Int32 := fun _ => -3
theorem sh_L_make : CSh yL_make cL_make 4 (some .int) [(0, 6, 7, 15)] 3 := ⟨by decide +kernel, tw 553 (by decide +kernel) (by decide +kernel), ii_L, tw 554 (by decide +kernel) (by decide +kernel)⟩
set_option maxRecDepth 100000 in
set_option maxHeartbeats 4000000 in
theorem m_L_make (l : Launch) (g : GG) (hfl : l.stackTraces = false) {U : Type} {gc : List va_W} {g1 : U → List va_W} {a : Nat} {fs : List Value} {G : va_W} {o : OC} {mc ms : Nat} (x1 : Int32) (x2 : Int32) (hG : gc[0]? = some G) (hj : G[0]? = some (a, .inr (5, fs))) (hM : MVX (U := U) l g yX5_make cX5_make 4 (some .int) 9 mc ms [.ref a, .int x1, .int x2] gc o g1) (hlen : ∀ u, (g1 u).length = gc.length) (hI : ∀ rv, o = .inl rv → ∃ v, rv = some (.int v)) (hL : ∀ E, o = .inr E → E ∈ [iSE]) : MMH (U := U) l g yL_make cL_make 4 (some .int) [(0, 6, 7, 15)] 10 mc ms [.ref a, .int x1, .int x2] gc (some (.int (exV ef_make o))) g1 := by
  refine mk_mh hfl (by decide +kernel) (Nat.le_of_ble_eq_true rfl) (fun p e s m below meth c A hT X => ?_)
  refine w_aload_n X.1 0 rfl dL_make_0 ?_
  refine w_iload_n X.1 1 rfl dL_make_1 ?_
  refine w_iload_n X.1 2 rfl dL_make_2 ?_
  refine w_hcall0 (As := [.int x1, .int x2]) (rest := []) X hM hlen cv_X5_make mk_L_17 rfl hG hj ⟨by (try dsimp only); omega, by (try dsimp only); omega⟩ (Nat.le_of_ble_eq_true rfl) ⟨by (try dsimp only); omega, by (try dsimp only); omega⟩ dL_make_3 hI (fun v u ho => ?_) (fun E u ho => ?_)
  · exact w_iret_me X.1 u (by rw [ho]; rfl) rfl (by (try dsimp only); omega) (by (try dsimp only); omega) dL_make_6
  · have hE := hL E ho
    simp only [List.mem_cons, List.not_mem_nil, or_false] at hE
    subst hE
    refine w_catch X hT [] ⟨0, 6, 7, 15⟩ [] rfl (fun z hz => absurd hz List.not_mem_nil) (by decide +kernel) (by decide) ck_L_15 (by decide +kernel) (fun q => ?_)
    refine w_astore_n X.1 dL_make_7 (by decide) ?_
    refine w_bipush X.1 (-3) dL_make_8 (by decide +kernel) ?_
    exact w_iret_me X.1 u (by rw [ho]; first | rfl | decide +kernel) rfl (by (try dsimp only); omega) (by (try dsimp only); omega) dL_make_10
def ef_giveBack : String → Int32 := fun E => if E = iAE then -2 else -3
theorem sh_L_giveBack : CSh yL_giveBack cL_giveBack 4 (some .int) [(0, 6, 7, 24), (0, 6, 11, 15)] 3 := ⟨by decide +kernel, tw 594 (by decide +kernel) (by decide +kernel), ii_L, tw 595 (by decide +kernel) (by decide +kernel)⟩
set_option maxRecDepth 100000 in
set_option maxHeartbeats 4000000 in
theorem m_L_giveBack (l : Launch) (g : GG) (hfl : l.stackTraces = false) {U : Type} {gc : List va_W} {g1 : U → List va_W} {a : Nat} {fs : List Value} {G : va_W} {o : OC} {mc ms : Nat} (x1 : Int32) (x2 : Int32) (hG : gc[0]? = some G) (hj : G[0]? = some (a, .inr (5, fs))) (hM : MVX (U := U) l g yX5_giveBack cX5_giveBack 4 (some .int) 9 mc ms [.ref a, .int x1, .int x2] gc o g1) (hlen : ∀ u, (g1 u).length = gc.length) (hI : ∀ rv, o = .inl rv → ∃ v, rv = some (.int v)) (hL : ∀ E, o = .inr E → E ∈ [iAE, iSE]) : MMH (U := U) l g yL_giveBack cL_giveBack 4 (some .int) [(0, 6, 7, 24), (0, 6, 11, 15)] 10 mc ms [.ref a, .int x1, .int x2] gc (some (.int (exV ef_giveBack o))) g1 := by
  refine mk_mh hfl (by decide +kernel) (Nat.le_of_ble_eq_true rfl) (fun p e s m below meth c A hT X => ?_)
  refine w_aload_n X.1 0 rfl dL_giveBack_0 ?_
  refine w_iload_n X.1 1 rfl dL_giveBack_1 ?_
  refine w_iload_n X.1 2 rfl dL_giveBack_2 ?_
  refine w_hcall0 (As := [.int x1, .int x2]) (rest := []) X hM hlen cv_X5_giveBack mk_L_21 rfl hG hj ⟨by (try dsimp only); omega, by (try dsimp only); omega⟩ (Nat.le_of_ble_eq_true rfl) ⟨by (try dsimp only); omega, by (try dsimp only); omega⟩ dL_giveBack_3 hI (fun v u ho => ?_) (fun E u ho => ?_)
  · exact w_iret_me X.1 u (by rw [ho]; rfl) rfl (by (try dsimp only); omega) (by (try dsimp only); omega) dL_giveBack_6
  · have hE := hL E ho
    simp only [List.mem_cons, List.not_mem_nil, or_false] at hE
    rcases hE with rfl | rfl
    · refine w_catch X hT [] ⟨0, 6, 7, 24⟩ [⟨0, 6, 11, 15⟩] rfl (fun z hz => absurd hz List.not_mem_nil) (by decide +kernel) (by decide) ck_L_24 (by decide +kernel) (fun q => ?_)
      refine w_astore_n X.1 dL_giveBack_7 (by decide) ?_
      refine w_bipush X.1 (-2) dL_giveBack_8 (by decide +kernel) ?_
      exact w_iret_me X.1 u (by rw [ho]; first | rfl | decide +kernel) rfl (by (try dsimp only); omega) (by (try dsimp only); omega) dL_giveBack_10
    · refine w_catch X hT [⟨0, 6, 7, 24⟩] ⟨0, 6, 11, 15⟩ [] rfl (fun z hz => by
        simp only [List.mem_cons, List.not_mem_nil, or_false] at hz
        subst hz
        exact ⟨by decide, _, ck_L_24, by decide +kernel⟩) (by decide +kernel) (by decide) ck_L_15 (by decide +kernel) (fun q => ?_)
      refine w_astore_n X.1 dL_giveBack_11 (by decide) ?_
      refine w_bipush X.1 (-3) dL_giveBack_12 (by decide +kernel) ?_
      exact w_iret_me X.1 u (by rw [ho]; first | rfl | decide +kernel) rfl (by (try dsimp only); omega) (by (try dsimp only); omega) dL_giveBack_14
def ef_link : String → Int32 := fun _ => -4
theorem sh_L_link : CSh yL_link cL_link 5 (some .int) [(0, 7, 8, 30)] 4 := ⟨by decide +kernel, tw 574 (by decide +kernel) (by decide +kernel), ii_L, tw 575 (by decide +kernel) (by decide +kernel)⟩
set_option maxRecDepth 100000 in
set_option maxHeartbeats 4000000 in
theorem m_L_link (l : Launch) (g : GG) (hfl : l.stackTraces = false) {U : Type} {gc : List va_W} {g1 : U → List va_W} {a : Nat} {fs : List Value} {G : va_W} {o : OC} {mc ms : Nat} (x1 : Int32) (x2 : Int32) (x3 : Int32) (hG : gc[0]? = some G) (hj : G[0]? = some (a, .inr (5, fs))) (hM : MVX (U := U) l g yX5_link cX5_link 5 (some .int) 9 mc ms [.ref a, .int x1, .int x2, .int x3] gc o g1) (hlen : ∀ u, (g1 u).length = gc.length) (hI : ∀ rv, o = .inl rv → ∃ v, rv = some (.int v)) (hL : ∀ E, o = .inr E → E ∈ [iOE]) : MMH (U := U) l g yL_link cL_link 5 (some .int) [(0, 7, 8, 30)] 10 mc ms [.ref a, .int x1, .int x2, .int x3] gc (some (.int (exV ef_link o))) g1 := by
  refine mk_mh hfl (by decide +kernel) (Nat.le_of_ble_eq_true rfl) (fun p e s m below meth c A hT X => ?_)
  refine w_aload_n X.1 0 rfl dL_link_0 ?_
  refine w_iload_n X.1 1 rfl dL_link_1 ?_
  refine w_iload_n X.1 2 rfl dL_link_2 ?_
  refine w_iload_n X.1 3 rfl dL_link_3 ?_
  refine w_hcall0 (As := [.int x1, .int x2, .int x3]) (rest := []) X hM hlen cv_X5_link mk_L_26 rfl hG hj ⟨by (try dsimp only); omega, by (try dsimp only); omega⟩ (Nat.le_of_ble_eq_true rfl) ⟨by (try dsimp only); omega, by (try dsimp only); omega⟩ dL_link_4 hI (fun v u ho => ?_) (fun E u ho => ?_)
  · exact w_iret_me X.1 u (by rw [ho]; rfl) rfl (by (try dsimp only); omega) (by (try dsimp only); omega) dL_link_7
  · have hE := hL E ho
    simp only [List.mem_cons, List.not_mem_nil, or_false] at hE
    subst hE
    refine w_catch X hT [] ⟨0, 7, 8, 30⟩ [] rfl (fun z hz => absurd hz List.not_mem_nil) (by decide +kernel) (by decide) ck_L_30 (by decide +kernel) (fun q => ?_)
    refine w_astore X.1 dL_link_8 (by decide) ?_
    refine w_bipush X.1 (-4) dL_link_10 (by decide +kernel) ?_
    exact w_iret_me X.1 u (by rw [ho]; first | rfl | decide +kernel) rfl (by (try dsimp only); omega) (by (try dsimp only); omega) dL_link_12
def ef_object : String → Int32 := fun _ => -4
theorem sh_L_object : CSh yL_object cL_object 4 (some .int) [(0, 6, 7, 30)] 3 := ⟨by decide +kernel, tw 386 (by decide +kernel) (by decide +kernel), ii_L, tw 387 (by decide +kernel) (by decide +kernel)⟩
set_option maxRecDepth 100000 in
set_option maxHeartbeats 4000000 in
theorem m_L_object (l : Launch) (g : GG) (hfl : l.stackTraces = false) {U : Type} {gc : List va_W} {g1 : U → List va_W} {a : Nat} {fs : List Value} {G : va_W} {o : OC} {mc ms : Nat} (x1 : Int32) (x2 : Int32) (hG : gc[0]? = some G) (hj : G[0]? = some (a, .inr (5, fs))) (hM : MVX (U := U) l g yX5_object cX5_object 3 (some .int) 9 mc ms [.ref a, .int x1, .int x2] gc o g1) (hlen : ∀ u, (g1 u).length = gc.length) (hI : ∀ rv, o = .inl rv → ∃ v, rv = some (.int v)) (hL : ∀ E, o = .inr E → E ∈ [iOE]) : MMH (U := U) l g yL_object cL_object 4 (some .int) [(0, 6, 7, 30)] 10 mc ms [.ref a, .int x1, .int x2] gc (some (.int (exV ef_object o))) g1 := by
  refine mk_mh hfl (by decide +kernel) (Nat.le_of_ble_eq_true rfl) (fun p e s m below meth c A hT X => ?_)
  refine w_aload_n X.1 0 rfl dL_object_0 ?_
  refine w_iload_n X.1 1 rfl dL_object_1 ?_
  refine w_iload_n X.1 2 rfl dL_object_2 ?_
  refine w_hcall0 (As := [.int x1, .int x2]) (rest := []) X hM hlen cv_X5_object mk_L_32 rfl hG hj ⟨by (try dsimp only); omega, by (try dsimp only); omega⟩ (Nat.le_of_ble_eq_true rfl) ⟨by (try dsimp only); omega, by (try dsimp only); omega⟩ dL_object_3 hI (fun v u ho => ?_) (fun E u ho => ?_)
  · exact w_iret_me X.1 u (by rw [ho]; rfl) rfl (by (try dsimp only); omega) (by (try dsimp only); omega) dL_object_6
  · have hE := hL E ho
    simp only [List.mem_cons, List.not_mem_nil, or_false] at hE
    subst hE
    refine w_catch X hT [] ⟨0, 6, 7, 30⟩ [] rfl (fun z hz => absurd hz List.not_mem_nil) (by decide +kernel) (by decide) ck_L_30 (by decide +kernel) (fun q => ?_)
    refine w_astore_n X.1 dL_object_7 (by decide) ?_
    refine w_bipush X.1 (-4) dL_object_8 (by decide +kernel) ?_
    exact w_iret_me X.1 u (by rw [ho]; first | rfl | decide +kernel) rfl (by (try dsimp only); omega) (by (try dsimp only); omega) dL_object_10
def ef_undo : String → Int32 := fun _ => -3
theorem sh_L_undo : CSh yL_undo cL_undo 2 (some .int) [(0, 4, 5, 15)] 1 := ⟨by decide +kernel, tw 639 (by decide +kernel) (by decide +kernel), ii_L, tw 640 (by decide +kernel) (by decide +kernel)⟩
set_option maxRecDepth 100000 in
set_option maxHeartbeats 4000000 in
theorem m_L_undo (l : Launch) (g : GG) (hfl : l.stackTraces = false) {U : Type} {gc : List va_W} {g1 : U → List va_W} {a : Nat} {fs : List Value} {G : va_W} {o : OC} {mc ms : Nat}  (hG : gc[0]? = some G) (hj : G[0]? = some (a, .inr (5, fs))) (hM : MVX (U := U) l g yX5_undo cX5_undo 1 (some .int) 9 mc ms [.ref a] gc o g1) (hlen : ∀ u, (g1 u).length = gc.length) (hI : ∀ rv, o = .inl rv → ∃ v, rv = some (.int v)) (hL : ∀ E, o = .inr E → E ∈ [iSE]) : MMH (U := U) l g yL_undo cL_undo 2 (some .int) [(0, 4, 5, 15)] 10 mc ms [.ref a] gc (some (.int (exV ef_undo o))) g1 := by
  refine mk_mh hfl (by decide +kernel) (Nat.le_of_ble_eq_true rfl) (fun p e s m below meth c A hT X => ?_)
  refine w_aload_n X.1 0 rfl dL_undo_0 ?_
  refine w_hcall0 (As := []) (rest := []) X hM hlen cv_X5_undo mk_L_40 rfl hG hj ⟨by (try dsimp only); omega, by (try dsimp only); omega⟩ (Nat.le_of_ble_eq_true rfl) ⟨by (try dsimp only); omega, by (try dsimp only); omega⟩ dL_undo_1 hI (fun v u ho => ?_) (fun E u ho => ?_)
  · exact w_iret_me X.1 u (by rw [ho]; rfl) rfl (by (try dsimp only); omega) (by (try dsimp only); omega) dL_undo_4
  · have hE := hL E ho
    simp only [List.mem_cons, List.not_mem_nil, or_false] at hE
    subst hE
    refine w_catch X hT [] ⟨0, 4, 5, 15⟩ [] rfl (fun z hz => absurd hz List.not_mem_nil) (by decide +kernel) (by decide) ck_L_15 (by decide +kernel) (fun q => ?_)
    refine w_astore_n X.1 dL_undo_5 (by decide) ?_
    refine w_bipush X.1 (-3) dL_undo_6 (by decide +kernel) ?_
    exact w_iret_me X.1 u (by rw [ho]; first | rfl | decide +kernel) rfl (by (try dsimp only); omega) (by (try dsimp only); omega) dL_undo_8
