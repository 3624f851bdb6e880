/-! the law's own static methods: a call of the class, its exceptions caught -/
abbrev WSh (y : MethodName) (cc : ByteArray) (n : Nat) (r : Option FieldType) (hh : List (Nat × Nat × Nat × Nat)) : List Cond := Cond.codeWith y cc n r hh :: TW
theorem wsh_in {y : MethodName} {cc : ByteArray} {n : Nat} {r : Option FieldType} {hh : List (Nat × Nat × Nat × Nat)} (h : Cond.codeWith y cc n r hh ∈ TW) : ∀ w ∈ WSh y cc n r hh, w ∈ TW := fun w hw => (List.mem_cons.mp hw).elim (fun e => by rw [e]; exact h) id
def CSh (y : MethodName) (cc : ByteArray) (n : Nat) (r : Option FieldType) (hh : List (Nat × Nat × Nat × Nat)) (k : Nat) : Prop :=
  (y.cls ≠ "java/lang/invoke/MethodHandle" ∧ y.cls ≠ "java/lang/invoke/VarHandle" ∧ (parseMethodDescriptor y.desc).map (fun d => d.parameters.length) = some k) ∧ Cond.static y ∈ TW ∧ Cond.initialized y.cls ∈ TW ∧ Cond.codeWith y cc n r hh ∈ TW
theorem gSh {own : String} {idx n : Nat} {y : MethodName} {cc : ByteArray} {r : Option FieldType} {hh : List (Nat × Nat × Nat × Nat)} {k : Nat} (hl : Cond.methodLink own idx y ∈ TW) (h : CSh y cc n r hh k) : GoodIn TW (va_wsS own idx y (WSh y cc n r hh)) :=
  tw_in fun w hw => (List.mem_append.mp hw).elim (fun h1 => (List.forall_mem_cons.mpr ⟨hl, List.forall_mem_cons.mpr ⟨h.2.1, List.forall_mem_cons.mpr ⟨h.2.2.1, fun _ h => absurd h List.not_mem_nil⟩⟩⟩ : ∀ w ∈ ([.methodLink own idx y, .static y, .initialized y.cls] : List Cond), w ∈ TW) w h1) (wsh_in h.2.2.2 w)
theorem met_ofWH {l : Launch} {y : MethodName} {ws ws' : List Cond} {rm : Room} {Pc : Array Value → State → Prop} {Qc : Array Value → State → Outcome → State → Prop} {mc ms : Nat} {free : Addr → Prop} {cc : ByteArray} {maxL : Nat} {ret : Option FieldType} {hh : List (Nat × Nat × Nat × Nat)}
    (hy : plainName y.cls = true) (hw : ws = Cond.codeWith y cc maxL ret hh :: ws')
    (body : ∀ p e s m args below meth c s₁, BodyLoose p l y (headSpec ws rm) cc maxL ret e s m args below meth c s₁ → c.maxLocals = maxL → Pc args s →
      W p l e (headSpec ws rm).room s m args below meth c s.heap [] 0 0 (MQ below Qc args s mc ms free) (entryFrame m args maxL)) : Met l y ws rm Pc Qc mc ms free := by
  refine MetFree.of_bodyS (code := cc) (maxLocals := maxL) (ret := ret) hy ?_ ?_
  · intro args s m h hn
    obtain ⟨m9, meth, c, hn9, h1, h2, h3, h4, -, h5, h6, -⟩ := Cond.codeWith_spec (atoms_spec (ws := ws) h _ (by rw [hw]; exact List.mem_cons_self))
    cases hn.symm.trans hn9
    exact ⟨meth, c, h1, h2, h3, h4, h5, h6⟩
  · intro p e s m args below meth c s₁ B hml hP _
    have hh0 : s₁.heap = s.heap := by rw [B.state]; rfl
    obtain ⟨t, a1, o, b1, b2, b3⟩ := body p e s m args below meth c s₁ B hml hP s₁ hh0 (Stand.of_body B)
    exact ⟨t, o, a1, b1, b2, ⟨b3.1, b3.2⟩⟩
abbrev MMH {U : Type} (l : Launch) (g : GG) (y : MethodName) (cc : ByteArray) (n : Nat) (r : Option FieldType) (hh : List (Nat × Nat × Nat × Nat)) (k mc ms : Nat) (As : List Value) (gc : List va_W) (rv : Option Value) (g1 : U → List va_W) : Prop :=
  ∀ sz : Nat, Met l y (WSh y cc n r hh) (RM k mc ms) (va_Pc As (PX g gc sz)) (QE g rv g1 (va_A gc.flatten sz)) mc ms (va_A gc.flatten sz)
theorem mk_mh {U : Type} {l : Launch} {g : GG} {y : MethodName} {cc : ByteArray} {n : Nat} {r : Option FieldType} {hh : List (Nat × Nat × Nat × Nat)} {k mc ms : Nat} {As : List Value} {gc : List va_W} {rv : Option Value} {g1 : U → List va_W} (hf : l.stackTraces = false) (hy : plainName y.cls = true) (hn : (lg_sl As).length ≤ n)
    (body : ∀ (p : Program) (e : Env) (s : State) (m : MethodId) (below : List Frame) (meth : Method) (c : Code) (A : Nat → Prop), c.exceptionTable.toList = tableOf hh → WV p l s m As.toArray meth c cc y.cls n r g A → WW p l e (RM k mc ms) s m As.toArray below meth c g (va_D A) (va_S A s.heap) n (MQ below (QE g rv g1 A) As.toArray s mc ms A) 0 0 (lv_args 0 As) [] gc 0) : MMH l g y cc n r hh k mc ms As gc rv g1 := by
  intro sz
  refine met_ofWH (cc := cc) (maxL := n) (ret := r) (hh := hh) hy rfl ?_
  intro p e s m args below meth c s₁ B hml hv
  obtain ⟨rfl, hsz, hP, hD0, hE, hZ, hX⟩ := hv
  subst hsz
  have hts := atoms_spec (ws := WSh y cc n r hh) B.pre
  have hT := vx_table (x := y) B (hts _ List.mem_cons_self)
  have b := body p e s m below meth c (va_A gc.flatten s.heap.size) hT ⟨⟨⟨B.exec, B.bytes, hml, findClass_of_methodNamed B.named, fun w hw => hts w (List.mem_cons_of_mem _ hw)⟩, hE, B.returns, B.notSynchronized⟩, hf, hZ, hX, fun q h => Or.inr h⟩
  have hl := lv_entry As (n := n) hn
  rw [lg_entry_eq]
  exact b s.heap [] _ hP hD0.self va_S.rf hl
def oC (g : GG) (ao : Nat) (f : Nat → Int64) : va_W := [(ao, .inl (cJ g, 1, .inr (.inl f)))]
/-- what stands in out behind a call -/
def owv (o : OC) (f : Nat → Int64) : Nat → Int64 := match o with
  | .inl (some (.int v)) => vp_updL f 0 v.toInt64
  | _ => f
section WHH
variable {p : Program} {l : Launch} {e : Env} {R : Room} {s : State} {m : MethodId} {args : Array Value} {below : List Frame} {meth : Method} {c : Code} {g : GG} {nL : Nat} {Q : State → Prop} {kc ks : Nat} {lv : List (Nat × Value)} {st : List Value} {gs : List va_W} {pc : Nat} {cc : ByteArray} {own : String} {rt : Option FieldType} {A : Nat → Prop} {DD : va_W → Prop} {SS : Heap → List Loc → Prop}
theorem w_lald_n (X : WX p s m args meth c cc own nL rt g) (gi gj t0 : Nat) {G : va_W} {a n : Nat} {cA : ClassId} {f : Nat → Int64} (hG : gs[gi]? = some G) (hj : G[gj]? = some (a, .inl (cA, n, .inr (.inl f)))) (ht : (tyL g)[t0]? = some (cA, .long)) {i : Nat} (hi : i < n) (hn : n < 2 ^ 31) (d : decode cc pc = .ok (.laload, 1)) (kk : WW p l e R s m args below meth c g DD SS nL Q kc ks (lv) (.long (f i) :: st) (gs) (pc + 1)) : WW p l e R s m args below meth c g DD SS nL Q kc ks (lv) (.int (nI i) :: .ref a :: st) (gs) (pc) := fun H locs ls hP hD hS hl => va_lald X.1.1 X.1.2.1 X.2.1.1 hP _ t0 (fl_lt gs gi G hG gj _ hj) ht (vp_in_nI hi hn) d (by rw [nI_clamp (Nat.lt_trans hi hn)]; exact kk H locs ls hP hD hS hl)
theorem w_last_n (X : WX p s m args meth c cc own nL rt g) (gi gj t0 : Nat) {G : va_W} {a n : Nat} {cA : ClassId} {f : Nat → Int64} (hG : gs[gi]? = some G) (hj : G[gj]? = some (a, .inl (cA, n, .inr (.inl f)))) (ht : (tyL g)[t0]? = some (cA, .long)) {x : Int64} {i : Nat} {G' : va_W} (hi : i < n) (hn : n < 2 ^ 31) (hG' : G.set gj (a, .inl (cA, n, .inr (.inl (vp_updL f i x)))) = G') (d : decode cc pc = .ok (.lastore, 1)) (kk : WW p l e R s m args below meth c g (va_D A) (va_S A s.heap) nL Q kc ks (lv) (st) (gs.set gi G') (pc + 1)) : WW p l e R s m args below meth c g (va_D A) (va_S A s.heap) nL Q kc ks (lv) (.long x :: .int (nI i) :: .ref a :: st) (gs) (pc) := by
  intro H locs ls hP hD hS hl
  subst hG'
  have hj2 : gj < G.length := (List.getElem?_eq_some_iff.mp hj).1
  refine va_last X.1.1 X.1.2.1 X.2.1.1 hP hD hS _ t0 (fl_lt gs gi G hG gj _ hj) ht (vp_in_nI hi hn) d (fun H1 locs1 hP1 hD1 hS1 => ?_)
  rw [nI_clamp (Nat.lt_trans hi hn), fl_set gs gi G hG gj _ hj2] at hP1 hD1
  exact kk H1 locs1 ls hP1 hD1 hS1 hl
/-- caught by a row of this method's table -/
theorem w_catch (X : WV p l s m args meth c cc RL nL rt g A) {hh : List (Nat × Nat × Nat × Nat)} (hT : c.exceptionTable.toList = tableOf hh) {E : String} (pre : List ExceptionTableEntry) (x : ExceptionTableEntry) (suf : List ExceptionTableEntry) (hs : tableOf hh = pre ++ x :: suf) (hpass : ∀ z ∈ pre, z.catchType ≠ 0 ∧ ∃ nm : String, Cond.classLink RL z.catchType nm ∈ TW ∧ (E, nm) ∈ [(iAE, iOE), (iSE, iOE), (iSE, iAE)]) (hx : covers x pc = true) (h0 : x.catchType ≠ 0) (hl : Cond.classLink RL x.catchType E ∈ TW) (hc : (E, E) ∈ [(iSE, iSE), (iAE, iAE), (iOE, iOE)]) {rest : List Value}
    (k : ∀ q : Nat, WW p l e R s m args below meth c g (va_D A) (va_S A s.heap) nL Q kc ks lv [.ref q] gs x.handlerPc) : ∀ (H : Heap) (locs : List Loc) (ls : Array Slot) (q : Addr) (ce : Cell), va_P g.1 vwCl gs.flatten H → va_D A gs.flatten → va_S A s.heap H locs → lv_has ls nL lv → H[q]? = some ce → ce.vm = .none → s.vm.findClass E = some ce.cls → vx_W p l e R s m args below meth c H locs kc ks Q (F0 m pc ls rest) q := by
  intro H locs ls q ce hP hD hS hlv h1 h2 h3
  exact vx_catch (name := E) (E := E) X.1.1.2.2.2.1 pre x suf (by rw [hT, hs]) (fun z hz => by
    obtain ⟨z0, nm, z1, z2⟩ := hpass z hz
    exact Or.inr ⟨z0, nm, X.1.1.2.2.2.2 _ z1, X.2.2.2.1.2.2 _ z2⟩) hx h0 (X.1.1.2.2.2.2 _ hl) (va_Nw.use rfl (X.2.2.2.1.2.1 _ hc)) h1 h2 h3 (k q H locs ls hP hD hS hlv)
theorem w_hcall (X : WV p l s m args meth c cc RL nL rt g A) {U2 : Type} {a idx : Nat} {As rest : List Value} {ou : va_W} {gc : List va_W} {g2 : U2 → List va_W} {o2 : OC} {y : MethodName} {cy : ByteArray} {ny kh mc2 ms2 : Nat} {ry : Option FieldType} (hM : MVX (U := U2) l g y cy ny ry kh mc2 ms2 (.ref a :: As) gc o2 g2) (hlen : ∀ u, (g2 u).length = gc.length) (hy : CV RX5 y cy ny ry As.length) (hlink : Cond.methodLink RL idx y ∈ TW) (hst : st = As.reverse ++ .ref a :: rest) {G : va_W} {fs : List Value} (hG : gc[0]? = some G) (hj : G[0]? = some (a, .inr (5, fs))) (hR : kh + 1 ≤ R.frames ∧ 8 + (ny + 11) + 32 * kh ≤ R.locals) (hw : (rest.map fun v => v.category).sum ≤ 8) (hf : kc + mc2 ≤ R.cells ∧ ks + ms2 ≤ R.slots) (d : decode cc pc = .ok (.invokevirtual idx, 3)) (hI : ∀ rv, o2 = .inl rv → ∃ v, rv = some (.int v))
    (kk : ∀ (v : Int32) (u : U2), o2 = rI v → WW p l e R s m args below meth c g (va_D A) (va_S A s.heap) nL Q (kc + mc2) (ks + ms2) lv (.int v :: rest) (ou :: g2 u) (pc + 3))
    (kx : ∀ (E : String) (u : U2), o2 = .inr E → ∀ (H : Heap) (locs : List Loc) (ls : Array Slot) (q : Addr) (ce : Cell), va_P g.1 vwCl (ou :: g2 u).flatten H → va_D A (ou :: g2 u).flatten → va_S A s.heap H locs → lv_has ls nL lv → H[q]? = some ce → ce.vm = .none → s.vm.findClass E = some ce.cls → vx_W p l e R s m args below meth c H locs (kc + mc2) (ks + ms2) Q (F0 m pc ls rest) q) :
    WW p l e R s m args below meth c g (va_D A) (va_S A s.heap) nL Q kc ks lv st (ou :: gc) pc := by
  have pk : ∀ (G0 : va_W) (gg : List va_W), ((List.range gg.length).map (fun i => i + 1)).map (fun i => (G0 :: gg)[i]?) = gg.map some := fun G0 gg => by
    rw [List.map_map]
    exact gs_all gg
  have hi : ((List.range gc.length).map (fun i => i + 1)).map (fun i => (ou :: gc)[i]?) = gc.map some := pk ou gc
  refine w_csT (gc := gc) (gr := [ou]) (g2 := g2) (gs1 := fun u => ou :: g2 u) (is := (List.range gc.length).map (fun i => i + 1)) (ir := [0]) (ng := gc.length + 1) X.2.2.2.2 hi rfl (by rw [List.length_cons]) ?_ (fun u => by rw [← hlen u]; exact pk ou (g2 u)) (fun u => rfl) (fun u => by rw [List.length_cons, hlen u]) (fun H locs ls hP hD hF hS hl => vx_runV (As := As) (rest := rest) X.1.1 (hM H.size) (cwV As.length X.1.1.2.2.2.2 (gV hlink hy) rfl rfl rfl hy.1 hR) ⟨(px_pre (As := .ref a :: As) X hP hD hF hS hi).1, va_recv X.1.2.1.1 hP rfl (fl_lt (ou :: gc) 1 G (by rw [List.getElem?_cons_succ]; exact hG) 0 _ hj), (px_pre (As := .ref a :: As) X hP hD hF hS hi).2⟩ rfl rfl hl.1 hst (lv_room hw) d ⟨hf.1, hf.2⟩) (fun rv u ho => ?_) kx
  · rw [List.range_succ_eq_map]
    exact List.perm_append_singleton 0 _
  · obtain ⟨v, rfl⟩ := hI rv ho
    exact kk v u ho
end WHH

theorem sh_L_open : CSh yL_open cL_open 3 (some .int) [(0, 8, 11, 13)] 2 := ⟨by decide +kernel, tw 499 (by decide +kernel) (by decide +kernel), ii_L, tw 500 (by decide +kernel) (by decide +kernel)⟩
set_option maxRecDepth 100000 in
set_option maxHeartbeats 4000000 in
theorem m_L_open (l : Launch) (g : GG) (hfl : l.stackTraces = false) {U : Type} {gc : List va_W} {g1 : U → List va_W} {a : Nat} {fs : List Value} {G : va_W} {o : OC} {mc ms : Nat} (ao : Nat) (f : Nat → Int64)  (hG : gc[0]? = some G) (hj : G[0]? = some (a, .inr (5, fs))) (hM : MVX (U := U) l g yX5_open cX5_open 2 (some .int) 8 mc ms [.ref a] gc o g1) (hlen : ∀ u, (g1 u).length = gc.length) (hI : ∀ rv, o = .inl rv → ∃ v, rv = some (.int v)) (hL : ∀ E, o = .inr E → E ∈ [iSE]) : MMH (U := U) l g yL_open cL_open 3 (some .int) [(0, 8, 11, 13)] 10 mc ms [.ref a, .ref ao] (oC g ao f :: gc) (some (.int (nI (cO [iSE] o)))) (fun u => oC g ao (owv o f) :: g1 u) := by
  refine mk_mh hfl (by decide +kernel) (Nat.le_of_ble_eq_true rfl) (fun p e s m below meth c A hT X => ?_)
  refine w_aload_n X.1 1 rfl dL_open_0 ?_
  refine w_iconst X.1 (nI 0) dL_open_1 (by decide +kernel) ?_
  refine w_aload_n X.1 0 rfl dL_open_2 ?_
  refine w_hcall (As := []) (rest := [.int (nI 0), .ref ao]) X hM hlen cv_X5_open mk_L_7 rfl hG hj ⟨by (try dsimp only); omega, by (try dsimp only); omega⟩ (Nat.le_of_ble_eq_true rfl) ⟨by (try dsimp only); omega, by (try dsimp only); omega⟩ dL_open_3 hI (fun v u ho => ?_) (fun E u ho => ?_)
  · refine w_i2l X.1 dL_open_6 ?_
    refine w_last_n X.1 0 0 3 rfl rfl rfl (by decide) (by decide) (show _ = oC g ao (vp_updL f 0 v.toInt64) from rfl) dL_open_7 ?_
    refine w_goto X.1 14 dL_open_8 (by decide) ?_
    refine w_iconst X.1 (nI 0) dL_open_14 (by decide +kernel) ?_
    exact w_iret_me X.1 u (by rw [ho]; rfl) (by rw [ho]; rfl) (by (try dsimp only); omega) (by (try dsimp only); omega) dL_open_15
  · have hE := hL E ho
    simp only [List.mem_cons, List.not_mem_nil, or_false] at hE
    subst hE
    refine w_catch X hT [] ⟨0, 8, 11, 13⟩ [] rfl (fun z hz => absurd hz List.not_mem_nil) (by decide +kernel) (by decide) ck_L_13 (by decide +kernel) (fun q => ?_)
    refine w_astore_n X.1 dL_open_11 (by decide) ?_
    refine w_iconst X.1 (nI 1) dL_open_12 (by decide +kernel) ?_
    exact w_iret_me X.1 u (by rw [ho]; decide +kernel) (by rw [ho]; rfl) (by (try dsimp only); omega) (by (try dsimp only); omega) dL_open_13
theorem sh_L_make : CSh yL_make cL_make 5 (some .int) [(0, 10, 13, 19), (0, 10, 17, 21), (0, 10, 21, 13)] 4 := ⟨by decide +kernel, tw 594 (by decide +kernel) (by decide +kernel), ii_L, tw 595 (by decide +kernel) (by decide +kernel)⟩
set_option maxRecDepth 100000 in
set_option maxHeartbeats 4000000 in
theorem m_L_make (l : Launch) (g : GG) (hfl : l.stackTraces = false) {U : Type} {gc : List va_W} {g1 : U → List va_W} {a : Nat} {fs : List Value} {G : va_W} {o : OC} {mc ms : Nat} (ao : Nat) (f : Nat → Int64) (x1 : Int32) (x2 : Int32) (hG : gc[0]? = some G) (hj : G[0]? = some (a, .inr (5, fs))) (hM : MVX (U := U) l g yX5_make cX5_make 4 (some .int) 9 mc ms [.ref a, .int x1, .int x2] gc o g1) (hlen : ∀ u, (g1 u).length = gc.length) (hI : ∀ rv, o = .inl rv → ∃ v, rv = some (.int v)) (hL : ∀ E, o = .inr E → E ∈ [iOE, iAE, iSE]) : MMH (U := U) l g yL_make cL_make 5 (some .int) [(0, 10, 13, 19), (0, 10, 17, 21), (0, 10, 21, 13)] 10 mc ms [.ref a, .int x1, .int x2, .ref ao] (oC g ao f :: gc) (some (.int (nI (cO [iOE, iAE, iSE] o)))) (fun u => oC g ao (owv o f) :: g1 u) := by
  refine mk_mh hfl (by decide +kernel) (Nat.le_of_ble_eq_true rfl) (fun p e s m below meth c A hT X => ?_)
  refine w_aload_n X.1 3 rfl dL_make_0 ?_
  refine w_iconst X.1 (nI 0) dL_make_1 (by decide +kernel) ?_
  refine w_aload_n X.1 0 rfl dL_make_2 ?_
  refine w_iload_n X.1 1 rfl dL_make_3 ?_
  refine w_iload_n X.1 2 rfl dL_make_4 ?_
  refine w_hcall (As := [.int x1, .int x2]) (rest := [.int (nI 0), .ref ao]) X hM hlen cv_X5_make mk_L_15 rfl hG hj ⟨by (try dsimp only); omega, by (try dsimp only); omega⟩ (Nat.le_of_ble_eq_true rfl) ⟨by (try dsimp only); omega, by (try dsimp only); omega⟩ dL_make_5 hI (fun v u ho => ?_) (fun E u ho => ?_)
  · refine w_i2l X.1 dL_make_8 ?_
    refine w_last_n X.1 0 0 3 rfl rfl rfl (by decide) (by decide) (show _ = oC g ao (vp_updL f 0 v.toInt64) from rfl) dL_make_9 ?_
    refine w_goto X.1 25 dL_make_10 (by decide) ?_
    refine w_iconst X.1 (nI 0) dL_make_25 (by decide +kernel) ?_
    exact w_iret_me X.1 u (by rw [ho]; rfl) (by rw [ho]; rfl) (by (try dsimp only); omega) (by (try dsimp only); omega) dL_make_26
  · have hE := hL E ho
    simp only [List.mem_cons, List.not_mem_nil, or_false] at hE
    rcases hE with rfl | rfl | rfl
    · refine w_catch X hT [] ⟨0, 10, 13, 19⟩ [⟨0, 10, 17, 21⟩, ⟨0, 10, 21, 13⟩] rfl (fun z hz => absurd hz List.not_mem_nil) (by decide +kernel) (by decide) ck_L_19 (by decide +kernel) (fun q => ?_)
      refine w_astore X.1 dL_make_13 (by decide) ?_
      refine w_iconst X.1 (nI 1) dL_make_15 (by decide +kernel) ?_
      exact w_iret_me X.1 u (by rw [ho]; decide +kernel) (by rw [ho]; rfl) (by (try dsimp only); omega) (by (try dsimp only); omega) dL_make_16
    · refine w_catch X hT [⟨0, 10, 13, 19⟩] ⟨0, 10, 17, 21⟩ [⟨0, 10, 21, 13⟩] rfl (fun z hz => by
        simp only [List.mem_cons, List.not_mem_nil, or_false] at hz
        subst hz
        exact ⟨by decide, _, ck_L_19, by decide +kernel⟩) (by decide +kernel) (by decide) ck_L_21 (by decide +kernel) (fun q => ?_)
      refine w_astore X.1 dL_make_17 (by decide) ?_
      refine w_iconst X.1 (nI 2) dL_make_19 (by decide +kernel) ?_
      exact w_iret_me X.1 u (by rw [ho]; decide +kernel) (by rw [ho]; rfl) (by (try dsimp only); omega) (by (try dsimp only); omega) dL_make_20
    · refine w_catch X hT [⟨0, 10, 13, 19⟩, ⟨0, 10, 17, 21⟩] ⟨0, 10, 21, 13⟩ [] rfl (fun z hz => by
        simp only [List.mem_cons, List.not_mem_nil, or_false] at hz
        rcases hz with rfl | rfl
        · exact ⟨by decide, _, ck_L_19, by decide +kernel⟩
        · exact ⟨by decide, _, ck_L_21, by decide +kernel⟩) (by decide +kernel) (by decide) ck_L_13 (by decide +kernel) (fun q => ?_)
      refine w_astore X.1 dL_make_21 (by decide) ?_
      refine w_iconst X.1 (nI 3) dL_make_23 (by decide +kernel) ?_
      exact w_iret_me X.1 u (by rw [ho]; decide +kernel) (by rw [ho]; rfl) (by (try dsimp only); omega) (by (try dsimp only); omega) dL_make_24
theorem sh_L_link : CSh yL_link cL_link 6 (some .int) [(0, 12, 15, 19)] 5 := ⟨by decide +kernel, tw 650 (by decide +kernel) (by decide +kernel), ii_L, tw 651 (by decide +kernel) (by decide +kernel)⟩
set_option maxRecDepth 100000 in
set_option maxHeartbeats 4000000 in
theorem m_L_link (l : Launch) (g : GG) (hfl : l.stackTraces = false) {U : Type} {gc : List va_W} {g1 : U → List va_W} {a : Nat} {fs : List Value} {G : va_W} {o : OC} {mc ms : Nat} (ao : Nat) (f : Nat → Int64) (x1 : Int32) (x2 : Int32) (x3 : Int32) (hG : gc[0]? = some G) (hj : G[0]? = some (a, .inr (5, fs))) (hM : MVX (U := U) l g yX5_link cX5_link 5 (some .int) 9 mc ms [.ref a, .int x1, .int x2, .int x3] gc o g1) (hlen : ∀ u, (g1 u).length = gc.length) (hI : ∀ rv, o = .inl rv → ∃ v, rv = some (.int v)) (hL : ∀ E, o = .inr E → E ∈ [iOE]) : MMH (U := U) l g yL_link cL_link 6 (some .int) [(0, 12, 15, 19)] 10 mc ms [.ref a, .int x1, .int x2, .int x3, .ref ao] (oC g ao f :: gc) (some (.int (nI (cO [iOE] o)))) (fun u => oC g ao (owv o f) :: g1 u) := by
  refine mk_mh hfl (by decide +kernel) (Nat.le_of_ble_eq_true rfl) (fun p e s m below meth c A hT X => ?_)
  refine w_aload X.1 4 rfl dL_link_0 ?_
  refine w_iconst X.1 (nI 0) dL_link_2 (by decide +kernel) ?_
  refine w_aload_n X.1 0 rfl dL_link_3 ?_
  refine w_iload_n X.1 1 rfl dL_link_4 ?_
  refine w_iload_n X.1 2 rfl dL_link_5 ?_
  refine w_iload_n X.1 3 rfl dL_link_6 ?_
  refine w_hcall (As := [.int x1, .int x2, .int x3]) (rest := [.int (nI 0), .ref ao]) X hM hlen cv_X5_link mk_L_23 rfl hG hj ⟨by (try dsimp only); omega, by (try dsimp only); omega⟩ (Nat.le_of_ble_eq_true rfl) ⟨by (try dsimp only); omega, by (try dsimp only); omega⟩ dL_link_7 hI (fun v u ho => ?_) (fun E u ho => ?_)
  · refine w_i2l X.1 dL_link_10 ?_
    refine w_last_n X.1 0 0 3 rfl rfl rfl (by decide) (by decide) (show _ = oC g ao (vp_updL f 0 v.toInt64) from rfl) dL_link_11 ?_
    refine w_goto X.1 19 dL_link_12 (by decide) ?_
    refine w_iconst X.1 (nI 0) dL_link_19 (by decide +kernel) ?_
    exact w_iret_me X.1 u (by rw [ho]; rfl) (by rw [ho]; rfl) (by (try dsimp only); omega) (by (try dsimp only); omega) dL_link_20
  · have hE := hL E ho
    simp only [List.mem_cons, List.not_mem_nil, or_false] at hE
    subst hE
    refine w_catch X hT [] ⟨0, 12, 15, 19⟩ [] rfl (fun z hz => absurd hz List.not_mem_nil) (by decide +kernel) (by decide) ck_L_19 (by decide +kernel) (fun q => ?_)
    refine w_astore X.1 dL_link_15 (by decide) ?_
    refine w_iconst X.1 (nI 1) dL_link_17 (by decide +kernel) ?_
    exact w_iret_me X.1 u (by rw [ho]; decide +kernel) (by rw [ho]; rfl) (by (try dsimp only); omega) (by (try dsimp only); omega) dL_link_18
theorem sh_L_root : CSh yL_root cL_root 5 (some .int) [(0, 10, 13, 19)] 4 := ⟨by decide +kernel, tw 667 (by decide +kernel) (by decide +kernel), ii_L, tw 668 (by decide +kernel) (by decide +kernel)⟩
set_option maxRecDepth 100000 in
set_option maxHeartbeats 4000000 in
theorem m_L_root (l : Launch) (g : GG) (hfl : l.stackTraces = false) {U : Type} {gc : List va_W} {g1 : U → List va_W} {a : Nat} {fs : List Value} {G : va_W} {o : OC} {mc ms : Nat} (ao : Nat) (f : Nat → Int64) (x1 : Int32) (b2 : Bool) (hG : gc[0]? = some G) (hj : G[0]? = some (a, .inr (5, fs))) (hM : MVX (U := U) l g yX5_root cX5_root 4 (some .int) 9 mc ms [.ref a, .int x1, .int (bI b2)] gc o g1) (hlen : ∀ u, (g1 u).length = gc.length) (hI : ∀ rv, o = .inl rv → ∃ v, rv = some (.int v)) (hL : ∀ E, o = .inr E → E ∈ [iOE]) : MMH (U := U) l g yL_root cL_root 5 (some .int) [(0, 10, 13, 19)] 10 mc ms [.ref a, .int x1, .int (bI b2), .ref ao] (oC g ao f :: gc) (some (.int (nI (cO [iOE] o)))) (fun u => oC g ao (owv o f) :: g1 u) := by
  refine mk_mh hfl (by decide +kernel) (Nat.le_of_ble_eq_true rfl) (fun p e s m below meth c A hT X => ?_)
  refine w_aload_n X.1 3 rfl dL_root_0 ?_
  refine w_iconst X.1 (nI 0) dL_root_1 (by decide +kernel) ?_
  refine w_aload_n X.1 0 rfl dL_root_2 ?_
  refine w_iload_n X.1 1 rfl dL_root_3 ?_
  refine w_iload_n X.1 2 rfl dL_root_4 ?_
  refine w_hcall (As := [.int x1, .int (bI b2)]) (rest := [.int (nI 0), .ref ao]) X hM hlen cv_X5_root mk_L_27 rfl hG hj ⟨by (try dsimp only); omega, by (try dsimp only); omega⟩ (Nat.le_of_ble_eq_true rfl) ⟨by (try dsimp only); omega, by (try dsimp only); omega⟩ dL_root_5 hI (fun v u ho => ?_) (fun E u ho => ?_)
  · refine w_i2l X.1 dL_root_8 ?_
    refine w_last_n X.1 0 0 3 rfl rfl rfl (by decide) (by decide) (show _ = oC g ao (vp_updL f 0 v.toInt64) from rfl) dL_root_9 ?_
    refine w_goto X.1 17 dL_root_10 (by decide) ?_
    refine w_iconst X.1 (nI 0) dL_root_17 (by decide +kernel) ?_
    exact w_iret_me X.1 u (by rw [ho]; rfl) (by rw [ho]; rfl) (by (try dsimp only); omega) (by (try dsimp only); omega) dL_root_18
  · have hE := hL E ho
    simp only [List.mem_cons, List.not_mem_nil, or_false] at hE
    subst hE
    refine w_catch X hT [] ⟨0, 10, 13, 19⟩ [] rfl (fun z hz => absurd hz List.not_mem_nil) (by decide +kernel) (by decide) ck_L_19 (by decide +kernel) (fun q => ?_)
    refine w_astore X.1 dL_root_13 (by decide) ?_
    refine w_iconst X.1 (nI 1) dL_root_15 (by decide +kernel) ?_
    exact w_iret_me X.1 u (by rw [ho]; decide +kernel) (by rw [ho]; rfl) (by (try dsimp only); omega) (by (try dsimp only); omega) dL_root_16
theorem sh_L_pin : CSh yL_pin cL_pin 5 (some .int) [(0, 10, 13, 19)] 4 := ⟨by decide +kernel, tw 674 (by decide +kernel) (by decide +kernel), ii_L, tw 675 (by decide +kernel) (by decide +kernel)⟩
set_option maxRecDepth 100000 in
set_option maxHeartbeats 4000000 in
theorem m_L_pin (l : Launch) (g : GG) (hfl : l.stackTraces = false) {U : Type} {gc : List va_W} {g1 : U → List va_W} {a : Nat} {fs : List Value} {G : va_W} {o : OC} {mc ms : Nat} (ao : Nat) (f : Nat → Int64) (x1 : Int32) (b2 : Bool) (hG : gc[0]? = some G) (hj : G[0]? = some (a, .inr (5, fs))) (hM : MVX (U := U) l g yX5_pin cX5_pin 3 (some .int) 9 mc ms [.ref a, .int x1, .int (bI b2)] gc o g1) (hlen : ∀ u, (g1 u).length = gc.length) (hI : ∀ rv, o = .inl rv → ∃ v, rv = some (.int v)) (hL : ∀ E, o = .inr E → E ∈ [iOE]) : MMH (U := U) l g yL_pin cL_pin 5 (some .int) [(0, 10, 13, 19)] 10 mc ms [.ref a, .int x1, .int (bI b2), .ref ao] (oC g ao f :: gc) (some (.int (nI (cO [iOE] o)))) (fun u => oC g ao (owv o f) :: g1 u) := by
  refine mk_mh hfl (by decide +kernel) (Nat.le_of_ble_eq_true rfl) (fun p e s m below meth c A hT X => ?_)
  refine w_aload_n X.1 3 rfl dL_pin_0 ?_
  refine w_iconst X.1 (nI 0) dL_pin_1 (by decide +kernel) ?_
  refine w_aload_n X.1 0 rfl dL_pin_2 ?_
  refine w_iload_n X.1 1 rfl dL_pin_3 ?_
  refine w_iload_n X.1 2 rfl dL_pin_4 ?_
  refine w_hcall (As := [.int x1, .int (bI b2)]) (rest := [.int (nI 0), .ref ao]) X hM hlen cv_X5_pin mk_L_31 rfl hG hj ⟨by (try dsimp only); omega, by (try dsimp only); omega⟩ (Nat.le_of_ble_eq_true rfl) ⟨by (try dsimp only); omega, by (try dsimp only); omega⟩ dL_pin_5 hI (fun v u ho => ?_) (fun E u ho => ?_)
  · refine w_i2l X.1 dL_pin_8 ?_
    refine w_last_n X.1 0 0 3 rfl rfl rfl (by decide) (by decide) (show _ = oC g ao (vp_updL f 0 v.toInt64) from rfl) dL_pin_9 ?_
    refine w_goto X.1 17 dL_pin_10 (by decide) ?_
    refine w_iconst X.1 (nI 0) dL_pin_17 (by decide +kernel) ?_
    exact w_iret_me X.1 u (by rw [ho]; rfl) (by rw [ho]; rfl) (by (try dsimp only); omega) (by (try dsimp only); omega) dL_pin_18
  · have hE := hL E ho
    simp only [List.mem_cons, List.not_mem_nil, or_false] at hE
    subst hE
    refine w_catch X hT [] ⟨0, 10, 13, 19⟩ [] rfl (fun z hz => absurd hz List.not_mem_nil) (by decide +kernel) (by decide) ck_L_19 (by decide +kernel) (fun q => ?_)
    refine w_astore X.1 dL_pin_13 (by decide) ?_
    refine w_iconst X.1 (nI 1) dL_pin_15 (by decide +kernel) ?_
    exact w_iret_me X.1 u (by rw [ho]; decide +kernel) (by rw [ho]; rfl) (by (try dsimp only); omega) (by (try dsimp only); omega) dL_pin_16
theorem sh_L_giveBack : CSh yL_giveBack cL_giveBack 5 (some .int) [(0, 10, 13, 19), (0, 10, 17, 21), (0, 10, 21, 13)] 4 := ⟨by decide +kernel, tw 681 (by decide +kernel) (by decide +kernel), ii_L, tw 682 (by decide +kernel) (by decide +kernel)⟩
set_option maxRecDepth 100000 in
set_option maxHeartbeats 4000000 in
theorem m_L_giveBack (l : Launch) (g : GG) (hfl : l.stackTraces = false) {U : Type} {gc : List va_W} {g1 : U → List va_W} {a : Nat} {fs : List Value} {G : va_W} {o : OC} {mc ms : Nat} (ao : Nat) (f : Nat → Int64) (x1 : Int32) (x2 : Int32) (hG : gc[0]? = some G) (hj : G[0]? = some (a, .inr (5, fs))) (hM : MVX (U := U) l g yX5_giveBack cX5_giveBack 4 (some .int) 9 mc ms [.ref a, .int x1, .int x2] gc o g1) (hlen : ∀ u, (g1 u).length = gc.length) (hI : ∀ rv, o = .inl rv → ∃ v, rv = some (.int v)) (hL : ∀ E, o = .inr E → E ∈ [iOE, iAE, iSE]) : MMH (U := U) l g yL_giveBack cL_giveBack 5 (some .int) [(0, 10, 13, 19), (0, 10, 17, 21), (0, 10, 21, 13)] 10 mc ms [.ref a, .int x1, .int x2, .ref ao] (oC g ao f :: gc) (some (.int (nI (cO [iOE, iAE, iSE] o)))) (fun u => oC g ao (owv o f) :: g1 u) := by
  refine mk_mh hfl (by decide +kernel) (Nat.le_of_ble_eq_true rfl) (fun p e s m below meth c A hT X => ?_)
  refine w_aload_n X.1 3 rfl dL_giveBack_0 ?_
  refine w_iconst X.1 (nI 0) dL_giveBack_1 (by decide +kernel) ?_
  refine w_aload_n X.1 0 rfl dL_giveBack_2 ?_
  refine w_iload_n X.1 1 rfl dL_giveBack_3 ?_
  refine w_iload_n X.1 2 rfl dL_giveBack_4 ?_
  refine w_hcall (As := [.int x1, .int x2]) (rest := [.int (nI 0), .ref ao]) X hM hlen cv_X5_giveBack mk_L_34 rfl hG hj ⟨by (try dsimp only); omega, by (try dsimp only); omega⟩ (Nat.le_of_ble_eq_true rfl) ⟨by (try dsimp only); omega, by (try dsimp only); omega⟩ dL_giveBack_5 hI (fun v u ho => ?_) (fun E u ho => ?_)
  · refine w_i2l X.1 dL_giveBack_8 ?_
    refine w_last_n X.1 0 0 3 rfl rfl rfl (by decide) (by decide) (show _ = oC g ao (vp_updL f 0 v.toInt64) from rfl) dL_giveBack_9 ?_
    refine w_goto X.1 25 dL_giveBack_10 (by decide) ?_
    refine w_iconst X.1 (nI 0) dL_giveBack_25 (by decide +kernel) ?_
    exact w_iret_me X.1 u (by rw [ho]; rfl) (by rw [ho]; rfl) (by (try dsimp only); omega) (by (try dsimp only); omega) dL_giveBack_26
  · have hE := hL E ho
    simp only [List.mem_cons, List.not_mem_nil, or_false] at hE
    rcases hE with rfl | rfl | rfl
    · refine w_catch X hT [] ⟨0, 10, 13, 19⟩ [⟨0, 10, 17, 21⟩, ⟨0, 10, 21, 13⟩] rfl (fun z hz => absurd hz List.not_mem_nil) (by decide +kernel) (by decide) ck_L_19 (by decide +kernel) (fun q => ?_)
      refine w_astore X.1 dL_giveBack_13 (by decide) ?_
      refine w_iconst X.1 (nI 1) dL_giveBack_15 (by decide +kernel) ?_
      exact w_iret_me X.1 u (by rw [ho]; decide +kernel) (by rw [ho]; rfl) (by (try dsimp only); omega) (by (try dsimp only); omega) dL_giveBack_16
    · refine w_catch X hT [⟨0, 10, 13, 19⟩] ⟨0, 10, 17, 21⟩ [⟨0, 10, 21, 13⟩] rfl (fun z hz => by
        simp only [List.mem_cons, List.not_mem_nil, or_false] at hz
        subst hz
        exact ⟨by decide, _, ck_L_19, by decide +kernel⟩) (by decide +kernel) (by decide) ck_L_21 (by decide +kernel) (fun q => ?_)
      refine w_astore X.1 dL_giveBack_17 (by decide) ?_
      refine w_iconst X.1 (nI 2) dL_giveBack_19 (by decide +kernel) ?_
      exact w_iret_me X.1 u (by rw [ho]; decide +kernel) (by rw [ho]; rfl) (by (try dsimp only); omega) (by (try dsimp only); omega) dL_giveBack_20
    · refine w_catch X hT [⟨0, 10, 13, 19⟩, ⟨0, 10, 17, 21⟩] ⟨0, 10, 21, 13⟩ [] rfl (fun z hz => by
        simp only [List.mem_cons, List.not_mem_nil, or_false] at hz
        rcases hz with rfl | rfl
        · exact ⟨by decide, _, ck_L_19, by decide +kernel⟩
        · exact ⟨by decide, _, ck_L_21, by decide +kernel⟩) (by decide +kernel) (by decide) ck_L_13 (by decide +kernel) (fun q => ?_)
      refine w_astore X.1 dL_giveBack_21 (by decide) ?_
      refine w_iconst X.1 (nI 3) dL_giveBack_23 (by decide +kernel) ?_
      exact w_iret_me X.1 u (by rw [ho]; decide +kernel) (by rw [ho]; rfl) (by (try dsimp only); omega) (by (try dsimp only); omega) dL_giveBack_24
theorem sh_L_close : CSh yL_close cL_close 4 (some .int) [(0, 9, 12, 19), (0, 9, 15, 13)] 3 := ⟨by decide +kernel, tw 707 (by decide +kernel) (by decide +kernel), ii_L, tw 708 (by decide +kernel) (by decide +kernel)⟩
set_option maxRecDepth 100000 in
set_option maxHeartbeats 4000000 in
theorem m_L_close (l : Launch) (g : GG) (hfl : l.stackTraces = false) {U : Type} {gc : List va_W} {g1 : U → List va_W} {a : Nat} {fs : List Value} {G : va_W} {o : OC} {mc ms : Nat} (ao : Nat) (f : Nat → Int64) (x1 : Int32) (hG : gc[0]? = some G) (hj : G[0]? = some (a, .inr (5, fs))) (hM : MVX (U := U) l g yX5_close cX5_close 2 (some .int) 9 mc ms [.ref a, .int x1] gc o g1) (hlen : ∀ u, (g1 u).length = gc.length) (hI : ∀ rv, o = .inl rv → ∃ v, rv = some (.int v)) (hL : ∀ E, o = .inr E → E ∈ [iOE, iSE]) : MMH (U := U) l g yL_close cL_close 4 (some .int) [(0, 9, 12, 19), (0, 9, 15, 13)] 10 mc ms [.ref a, .int x1, .ref ao] (oC g ao f :: gc) (some (.int (nI (cO [iOE, iSE] o)))) (fun u => oC g ao (owv o f) :: g1 u) := by
  refine mk_mh hfl (by decide +kernel) (Nat.le_of_ble_eq_true rfl) (fun p e s m below meth c A hT X => ?_)
  refine w_aload_n X.1 2 rfl dL_close_0 ?_
  refine w_iconst X.1 (nI 0) dL_close_1 (by decide +kernel) ?_
  refine w_aload_n X.1 0 rfl dL_close_2 ?_
  refine w_iload_n X.1 1 rfl dL_close_3 ?_
  refine w_hcall (As := [.int x1]) (rest := [.int (nI 0), .ref ao]) X hM hlen cv_X5_close mk_L_37 rfl hG hj ⟨by (try dsimp only); omega, by (try dsimp only); omega⟩ (Nat.le_of_ble_eq_true rfl) ⟨by (try dsimp only); omega, by (try dsimp only); omega⟩ dL_close_4 hI (fun v u ho => ?_) (fun E u ho => ?_)
  · refine w_i2l X.1 dL_close_7 ?_
    refine w_last_n X.1 0 0 3 rfl rfl rfl (by decide) (by decide) (show _ = oC g ao (vp_updL f 0 v.toInt64) from rfl) dL_close_8 ?_
    refine w_goto X.1 18 dL_close_9 (by decide) ?_
    refine w_iconst X.1 (nI 0) dL_close_18 (by decide +kernel) ?_
    exact w_iret_me X.1 u (by rw [ho]; rfl) (by rw [ho]; rfl) (by (try dsimp only); omega) (by (try dsimp only); omega) dL_close_19
  · have hE := hL E ho
    simp only [List.mem_cons, List.not_mem_nil, or_false] at hE
    rcases hE with rfl | rfl
    · refine w_catch X hT [] ⟨0, 9, 12, 19⟩ [⟨0, 9, 15, 13⟩] rfl (fun z hz => absurd hz List.not_mem_nil) (by decide +kernel) (by decide) ck_L_19 (by decide +kernel) (fun q => ?_)
      refine w_astore_n X.1 dL_close_12 (by decide) ?_
      refine w_iconst X.1 (nI 1) dL_close_13 (by decide +kernel) ?_
      exact w_iret_me X.1 u (by rw [ho]; decide +kernel) (by rw [ho]; rfl) (by (try dsimp only); omega) (by (try dsimp only); omega) dL_close_14
    · refine w_catch X hT [⟨0, 9, 12, 19⟩] ⟨0, 9, 15, 13⟩ [] rfl (fun z hz => by
        simp only [List.mem_cons, List.not_mem_nil, or_false] at hz
        subst hz
        exact ⟨by decide, _, ck_L_19, by decide +kernel⟩) (by decide +kernel) (by decide) ck_L_13 (by decide +kernel) (fun q => ?_)
      refine w_astore_n X.1 dL_close_15 (by decide) ?_
      refine w_iconst X.1 (nI 2) dL_close_16 (by decide +kernel) ?_
      exact w_iret_me X.1 u (by rw [ho]; decide +kernel) (by rw [ho]; rfl) (by (try dsimp only); omega) (by (try dsimp only); omega) dL_close_17
theorem sh_L_set : CSh yL_set cL_set 5 (some .int) [(0, 10, 13, 19), (0, 10, 17, 21)] 4 := ⟨by decide +kernel, tw 715 (by decide +kernel) (by decide +kernel), ii_L, tw 716 (by decide +kernel) (by decide +kernel)⟩
set_option maxRecDepth 100000 in
set_option maxHeartbeats 4000000 in
theorem m_L_set (l : Launch) (g : GG) (hfl : l.stackTraces = false) {U : Type} {gc : List va_W} {g1 : U → List va_W} {a : Nat} {fs : List Value} {G : va_W} {o : OC} {mc ms : Nat} (ao : Nat) (f : Nat → Int64) (x1 : Int32) (x2 : Int32) (hG : gc[0]? = some G) (hj : G[0]? = some (a, .inr (5, fs))) (hM : MVX (U := U) l g yX5_set cX5_set 5 (some .int) 9 mc ms [.ref a, .int x1, .int x2] gc o g1) (hlen : ∀ u, (g1 u).length = gc.length) (hI : ∀ rv, o = .inl rv → ∃ v, rv = some (.int v)) (hL : ∀ E, o = .inr E → E ∈ [iOE, iAE]) : MMH (U := U) l g yL_set cL_set 5 (some .int) [(0, 10, 13, 19), (0, 10, 17, 21)] 10 mc ms [.ref a, .int x1, .int x2, .ref ao] (oC g ao f :: gc) (some (.int (nI (cO [iOE, iAE] o)))) (fun u => oC g ao (owv o f) :: g1 u) := by
  refine mk_mh hfl (by decide +kernel) (Nat.le_of_ble_eq_true rfl) (fun p e s m below meth c A hT X => ?_)
  refine w_aload_n X.1 3 rfl dL_set_0 ?_
  refine w_iconst X.1 (nI 0) dL_set_1 (by decide +kernel) ?_
  refine w_aload_n X.1 0 rfl dL_set_2 ?_
  refine w_iload_n X.1 1 rfl dL_set_3 ?_
  refine w_iload_n X.1 2 rfl dL_set_4 ?_
  refine w_hcall (As := [.int x1, .int x2]) (rest := [.int (nI 0), .ref ao]) X hM hlen cv_X5_set mk_L_41 rfl hG hj ⟨by (try dsimp only); omega, by (try dsimp only); omega⟩ (Nat.le_of_ble_eq_true rfl) ⟨by (try dsimp only); omega, by (try dsimp only); omega⟩ dL_set_5 hI (fun v u ho => ?_) (fun E u ho => ?_)
  · refine w_i2l X.1 dL_set_8 ?_
    refine w_last_n X.1 0 0 3 rfl rfl rfl (by decide) (by decide) (show _ = oC g ao (vp_updL f 0 v.toInt64) from rfl) dL_set_9 ?_
    refine w_goto X.1 21 dL_set_10 (by decide) ?_
    refine w_iconst X.1 (nI 0) dL_set_21 (by decide +kernel) ?_
    exact w_iret_me X.1 u (by rw [ho]; rfl) (by rw [ho]; rfl) (by (try dsimp only); omega) (by (try dsimp only); omega) dL_set_22
  · have hE := hL E ho
    simp only [List.mem_cons, List.not_mem_nil, or_false] at hE
    rcases hE with rfl | rfl
    · refine w_catch X hT [] ⟨0, 10, 13, 19⟩ [⟨0, 10, 17, 21⟩] rfl (fun z hz => absurd hz List.not_mem_nil) (by decide +kernel) (by decide) ck_L_19 (by decide +kernel) (fun q => ?_)
      refine w_astore X.1 dL_set_13 (by decide) ?_
      refine w_iconst X.1 (nI 1) dL_set_15 (by decide +kernel) ?_
      exact w_iret_me X.1 u (by rw [ho]; decide +kernel) (by rw [ho]; rfl) (by (try dsimp only); omega) (by (try dsimp only); omega) dL_set_16
    · refine w_catch X hT [⟨0, 10, 13, 19⟩] ⟨0, 10, 17, 21⟩ [] rfl (fun z hz => by
        simp only [List.mem_cons, List.not_mem_nil, or_false] at hz
        subst hz
        exact ⟨by decide, _, ck_L_19, by decide +kernel⟩) (by decide +kernel) (by decide) ck_L_21 (by decide +kernel) (fun q => ?_)
      refine w_astore X.1 dL_set_17 (by decide) ?_
      refine w_iconst X.1 (nI 2) dL_set_19 (by decide +kernel) ?_
      exact w_iret_me X.1 u (by rw [ho]; decide +kernel) (by rw [ho]; rfl) (by (try dsimp only); omega) (by (try dsimp only); omega) dL_set_20
theorem sh_L_append : CSh yL_append cL_append 4 (some .int) [(0, 9, 12, 21), (0, 9, 15, 13)] 3 := ⟨by decide +kernel, tw 727 (by decide +kernel) (by decide +kernel), ii_L, tw 728 (by decide +kernel) (by decide +kernel)⟩
set_option maxRecDepth 100000 in
set_option maxHeartbeats 4000000 in
theorem m_L_append (l : Launch) (g : GG) (hfl : l.stackTraces = false) {U : Type} {gc : List va_W} {g1 : U → List va_W} {a : Nat} {fs : List Value} {G : va_W} {o : OC} {mc ms : Nat} (ao : Nat) (f : Nat → Int64) (x1 : Int32) (hG : gc[0]? = some G) (hj : G[0]? = some (a, .inr (5, fs))) (hM : MVX (U := U) l g yX5_append cX5_append 2 (some .int) 9 mc ms [.ref a, .int x1] gc o g1) (hlen : ∀ u, (g1 u).length = gc.length) (hI : ∀ rv, o = .inl rv → ∃ v, rv = some (.int v)) (hL : ∀ E, o = .inr E → E ∈ [iAE, iSE]) : MMH (U := U) l g yL_append cL_append 4 (some .int) [(0, 9, 12, 21), (0, 9, 15, 13)] 10 mc ms [.ref a, .int x1, .ref ao] (oC g ao f :: gc) (some (.int (nI (cO [iAE, iSE] o)))) (fun u => oC g ao (owv o f) :: g1 u) := by
  refine mk_mh hfl (by decide +kernel) (Nat.le_of_ble_eq_true rfl) (fun p e s m below meth c A hT X => ?_)
  refine w_aload_n X.1 2 rfl dL_append_0 ?_
  refine w_iconst X.1 (nI 0) dL_append_1 (by decide +kernel) ?_
  refine w_aload_n X.1 0 rfl dL_append_2 ?_
  refine w_iload_n X.1 1 rfl dL_append_3 ?_
  refine w_hcall (As := [.int x1]) (rest := [.int (nI 0), .ref ao]) X hM hlen cv_X5_append mk_L_44 rfl hG hj ⟨by (try dsimp only); omega, by (try dsimp only); omega⟩ (Nat.le_of_ble_eq_true rfl) ⟨by (try dsimp only); omega, by (try dsimp only); omega⟩ dL_append_4 hI (fun v u ho => ?_) (fun E u ho => ?_)
  · refine w_i2l X.1 dL_append_7 ?_
    refine w_last_n X.1 0 0 3 rfl rfl rfl (by decide) (by decide) (show _ = oC g ao (vp_updL f 0 v.toInt64) from rfl) dL_append_8 ?_
    refine w_goto X.1 18 dL_append_9 (by decide) ?_
    refine w_iconst X.1 (nI 0) dL_append_18 (by decide +kernel) ?_
    exact w_iret_me X.1 u (by rw [ho]; rfl) (by rw [ho]; rfl) (by (try dsimp only); omega) (by (try dsimp only); omega) dL_append_19
  · have hE := hL E ho
    simp only [List.mem_cons, List.not_mem_nil, or_false] at hE
    rcases hE with rfl | rfl
    · refine w_catch X hT [] ⟨0, 9, 12, 21⟩ [⟨0, 9, 15, 13⟩] rfl (fun z hz => absurd hz List.not_mem_nil) (by decide +kernel) (by decide) ck_L_21 (by decide +kernel) (fun q => ?_)
      refine w_astore_n X.1 dL_append_12 (by decide) ?_
      refine w_iconst X.1 (nI 1) dL_append_13 (by decide +kernel) ?_
      exact w_iret_me X.1 u (by rw [ho]; decide +kernel) (by rw [ho]; rfl) (by (try dsimp only); omega) (by (try dsimp only); omega) dL_append_14
    · refine w_catch X hT [⟨0, 9, 12, 21⟩] ⟨0, 9, 15, 13⟩ [] rfl (fun z hz => by
        simp only [List.mem_cons, List.not_mem_nil, or_false] at hz
        subst hz
        exact ⟨by decide, _, ck_L_21, by decide +kernel⟩) (by decide +kernel) (by decide) ck_L_13 (by decide +kernel) (fun q => ?_)
      refine w_astore_n X.1 dL_append_15 (by decide) ?_
      refine w_iconst X.1 (nI 2) dL_append_16 (by decide +kernel) ?_
      exact w_iret_me X.1 u (by rw [ho]; decide +kernel) (by rw [ho]; rfl) (by (try dsimp only); omega) (by (try dsimp only); omega) dL_append_17
theorem sh_L_makeAll : CSh yL_makeAll cL_makeAll 4 (some .int) [(0, 9, 12, 19), (0, 9, 15, 21), (0, 9, 18, 13)] 3 := ⟨by decide +kernel, tw 744 (by decide +kernel) (by decide +kernel), ii_L, tw 745 (by decide +kernel) (by decide +kernel)⟩
set_option maxRecDepth 100000 in
set_option maxHeartbeats 4000000 in
theorem m_L_makeAll (l : Launch) (g : GG) (hfl : l.stackTraces = false) {U : Type} {gc : List va_W} {g1 : U → List va_W} {a : Nat} {fs : List Value} {G : va_W} {o : OC} {mc ms : Nat} (ao : Nat) (f : Nat → Int64) (x1 : Int32) (hG : gc[0]? = some G) (hj : G[0]? = some (a, .inr (5, fs))) (hM : MVX (U := U) l g yX5_makeAll cX5_makeAll 3 (some .int) 9 mc ms [.ref a, .int x1] gc o g1) (hlen : ∀ u, (g1 u).length = gc.length) (hI : ∀ rv, o = .inl rv → ∃ v, rv = some (.int v)) (hL : ∀ E, o = .inr E → E ∈ [iOE, iAE, iSE]) : MMH (U := U) l g yL_makeAll cL_makeAll 4 (some .int) [(0, 9, 12, 19), (0, 9, 15, 21), (0, 9, 18, 13)] 10 mc ms [.ref a, .int x1, .ref ao] (oC g ao f :: gc) (some (.int (nI (cO [iOE, iAE, iSE] o)))) (fun u => oC g ao (owv o f) :: g1 u) := by
  refine mk_mh hfl (by decide +kernel) (Nat.le_of_ble_eq_true rfl) (fun p e s m below meth c A hT X => ?_)
  refine w_aload_n X.1 2 rfl dL_makeAll_0 ?_
  refine w_iconst X.1 (nI 0) dL_makeAll_1 (by decide +kernel) ?_
  refine w_aload_n X.1 0 rfl dL_makeAll_2 ?_
  refine w_iload_n X.1 1 rfl dL_makeAll_3 ?_
  refine w_hcall (As := [.int x1]) (rest := [.int (nI 0), .ref ao]) X hM hlen cv_X5_makeAll mk_L_47 rfl hG hj ⟨by (try dsimp only); omega, by (try dsimp only); omega⟩ (Nat.le_of_ble_eq_true rfl) ⟨by (try dsimp only); omega, by (try dsimp only); omega⟩ dL_makeAll_4 hI (fun v u ho => ?_) (fun E u ho => ?_)
  · refine w_i2l X.1 dL_makeAll_7 ?_
    refine w_last_n X.1 0 0 3 rfl rfl rfl (by decide) (by decide) (show _ = oC g ao (vp_updL f 0 v.toInt64) from rfl) dL_makeAll_8 ?_
    refine w_goto X.1 21 dL_makeAll_9 (by decide) ?_
    refine w_iconst X.1 (nI 0) dL_makeAll_21 (by decide +kernel) ?_
    exact w_iret_me X.1 u (by rw [ho]; rfl) (by rw [ho]; rfl) (by (try dsimp only); omega) (by (try dsimp only); omega) dL_makeAll_22
  · have hE := hL E ho
    simp only [List.mem_cons, List.not_mem_nil, or_false] at hE
    rcases hE with rfl | rfl | rfl
    · refine w_catch X hT [] ⟨0, 9, 12, 19⟩ [⟨0, 9, 15, 21⟩, ⟨0, 9, 18, 13⟩] rfl (fun z hz => absurd hz List.not_mem_nil) (by decide +kernel) (by decide) ck_L_19 (by decide +kernel) (fun q => ?_)
      refine w_astore_n X.1 dL_makeAll_12 (by decide) ?_
      refine w_iconst X.1 (nI 1) dL_makeAll_13 (by decide +kernel) ?_
      exact w_iret_me X.1 u (by rw [ho]; decide +kernel) (by rw [ho]; rfl) (by (try dsimp only); omega) (by (try dsimp only); omega) dL_makeAll_14
    · refine w_catch X hT [⟨0, 9, 12, 19⟩] ⟨0, 9, 15, 21⟩ [⟨0, 9, 18, 13⟩] rfl (fun z hz => by
        simp only [List.mem_cons, List.not_mem_nil, or_false] at hz
        subst hz
        exact ⟨by decide, _, ck_L_19, by decide +kernel⟩) (by decide +kernel) (by decide) ck_L_21 (by decide +kernel) (fun q => ?_)
      refine w_astore_n X.1 dL_makeAll_15 (by decide) ?_
      refine w_iconst X.1 (nI 2) dL_makeAll_16 (by decide +kernel) ?_
      exact w_iret_me X.1 u (by rw [ho]; decide +kernel) (by rw [ho]; rfl) (by (try dsimp only); omega) (by (try dsimp only); omega) dL_makeAll_17
    · refine w_catch X hT [⟨0, 9, 12, 19⟩, ⟨0, 9, 15, 21⟩] ⟨0, 9, 18, 13⟩ [] rfl (fun z hz => by
        simp only [List.mem_cons, List.not_mem_nil, or_false] at hz
        rcases hz with rfl | rfl
        · exact ⟨by decide, _, ck_L_19, by decide +kernel⟩
        · exact ⟨by decide, _, ck_L_21, by decide +kernel⟩) (by decide +kernel) (by decide) ck_L_13 (by decide +kernel) (fun q => ?_)
      refine w_astore_n X.1 dL_makeAll_18 (by decide) ?_
      refine w_iconst X.1 (nI 3) dL_makeAll_19 (by decide +kernel) ?_
      exact w_iret_me X.1 u (by rw [ho]; decide +kernel) (by rw [ho]; rfl) (by (try dsimp only); omega) (by (try dsimp only); omega) dL_makeAll_20
theorem sh_L_undo : CSh yL_undo cL_undo 3 (some .int) [(0, 8, 11, 13)] 2 := ⟨by decide +kernel, tw 769 (by decide +kernel) (by decide +kernel), ii_L, tw 770 (by decide +kernel) (by decide +kernel)⟩
set_option maxRecDepth 100000 in
set_option maxHeartbeats 4000000 in
theorem m_L_undo (l : Launch) (g : GG) (hfl : l.stackTraces = false) {U : Type} {gc : List va_W} {g1 : U → List va_W} {a : Nat} {fs : List Value} {G : va_W} {o : OC} {mc ms : Nat} (ao : Nat) (f : Nat → Int64)  (hG : gc[0]? = some G) (hj : G[0]? = some (a, .inr (5, fs))) (hM : MVX (U := U) l g yX5_undo cX5_undo 1 (some .int) 9 mc ms [.ref a] gc o g1) (hlen : ∀ u, (g1 u).length = gc.length) (hI : ∀ rv, o = .inl rv → ∃ v, rv = some (.int v)) (hL : ∀ E, o = .inr E → E ∈ [iSE]) : MMH (U := U) l g yL_undo cL_undo 3 (some .int) [(0, 8, 11, 13)] 10 mc ms [.ref a, .ref ao] (oC g ao f :: gc) (some (.int (nI (cO [iSE] o)))) (fun u => oC g ao (owv o f) :: g1 u) := by
  refine mk_mh hfl (by decide +kernel) (Nat.le_of_ble_eq_true rfl) (fun p e s m below meth c A hT X => ?_)
  refine w_aload_n X.1 1 rfl dL_undo_0 ?_
  refine w_iconst X.1 (nI 0) dL_undo_1 (by decide +kernel) ?_
  refine w_aload_n X.1 0 rfl dL_undo_2 ?_
  refine w_hcall (As := []) (rest := [.int (nI 0), .ref ao]) X hM hlen cv_X5_undo mk_L_50 rfl hG hj ⟨by (try dsimp only); omega, by (try dsimp only); omega⟩ (Nat.le_of_ble_eq_true rfl) ⟨by (try dsimp only); omega, by (try dsimp only); omega⟩ dL_undo_3 hI (fun v u ho => ?_) (fun E u ho => ?_)
  · refine w_i2l X.1 dL_undo_6 ?_
    refine w_last_n X.1 0 0 3 rfl rfl rfl (by decide) (by decide) (show _ = oC g ao (vp_updL f 0 v.toInt64) from rfl) dL_undo_7 ?_
    refine w_goto X.1 14 dL_undo_8 (by decide) ?_
    refine w_iconst X.1 (nI 0) dL_undo_14 (by decide +kernel) ?_
    exact w_iret_me X.1 u (by rw [ho]; rfl) (by rw [ho]; rfl) (by (try dsimp only); omega) (by (try dsimp only); omega) dL_undo_15
  · have hE := hL E ho
    simp only [List.mem_cons, List.not_mem_nil, or_false] at hE
    subst hE
    refine w_catch X hT [] ⟨0, 8, 11, 13⟩ [] rfl (fun z hz => absurd hz List.not_mem_nil) (by decide +kernel) (by decide) ck_L_13 (by decide +kernel) (fun q => ?_)
    refine w_astore_n X.1 dL_undo_11 (by decide) ?_
    refine w_iconst X.1 (nI 1) dL_undo_12 (by decide +kernel) ?_
    exact w_iret_me X.1 u (by rw [ho]; decide +kernel) (by rw [ho]; rfl) (by (try dsimp only); omega) (by (try dsimp only); omega) dL_undo_13
theorem sh_L_object : CSh yL_object cL_object 5 (some .int) [(0, 10, 13, 19), (0, 10, 17, 21)] 4 := ⟨by decide +kernel, tw 781 (by decide +kernel) (by decide +kernel), ii_L, tw 782 (by decide +kernel) (by decide +kernel)⟩
set_option maxRecDepth 100000 in
set_option maxHeartbeats 4000000 in
theorem m_L_object (l : Launch) (g : GG) (hfl : l.stackTraces = false) {U : Type} {gc : List va_W} {g1 : U → List va_W} {a : Nat} {fs : List Value} {G : va_W} {o : OC} {mc ms : Nat} (ao : Nat) (f : Nat → Int64) (x1 : Int32) (x2 : Int32) (hG : gc[0]? = some G) (hj : G[0]? = some (a, .inr (5, fs))) (hM : MVX (U := U) l g yX5_object cX5_object 3 (some .int) 9 mc ms [.ref a, .int x1, .int x2] gc o g1) (hlen : ∀ u, (g1 u).length = gc.length) (hI : ∀ rv, o = .inl rv → ∃ v, rv = some (.int v)) (hL : ∀ E, o = .inr E → E ∈ [iOE, iAE]) : MMH (U := U) l g yL_object cL_object 5 (some .int) [(0, 10, 13, 19), (0, 10, 17, 21)] 10 mc ms [.ref a, .int x1, .int x2, .ref ao] (oC g ao f :: gc) (some (.int (nI (cO [iOE, iAE] o)))) (fun u => oC g ao (owv o f) :: g1 u) := by
  refine mk_mh hfl (by decide +kernel) (Nat.le_of_ble_eq_true rfl) (fun p e s m below meth c A hT X => ?_)
  refine w_aload_n X.1 3 rfl dL_object_0 ?_
  refine w_iconst X.1 (nI 0) dL_object_1 (by decide +kernel) ?_
  refine w_aload_n X.1 0 rfl dL_object_2 ?_
  refine w_iload_n X.1 1 rfl dL_object_3 ?_
  refine w_iload_n X.1 2 rfl dL_object_4 ?_
  refine w_hcall (As := [.int x1, .int x2]) (rest := [.int (nI 0), .ref ao]) X hM hlen cv_X5_object mk_L_53 rfl hG hj ⟨by (try dsimp only); omega, by (try dsimp only); omega⟩ (Nat.le_of_ble_eq_true rfl) ⟨by (try dsimp only); omega, by (try dsimp only); omega⟩ dL_object_5 hI (fun v u ho => ?_) (fun E u ho => ?_)
  · refine w_i2l X.1 dL_object_8 ?_
    refine w_last_n X.1 0 0 3 rfl rfl rfl (by decide) (by decide) (show _ = oC g ao (vp_updL f 0 v.toInt64) from rfl) dL_object_9 ?_
    refine w_goto X.1 21 dL_object_10 (by decide) ?_
    refine w_iconst X.1 (nI 0) dL_object_21 (by decide +kernel) ?_
    exact w_iret_me X.1 u (by rw [ho]; rfl) (by rw [ho]; rfl) (by (try dsimp only); omega) (by (try dsimp only); omega) dL_object_22
  · have hE := hL E ho
    simp only [List.mem_cons, List.not_mem_nil, or_false] at hE
    rcases hE with rfl | rfl
    · refine w_catch X hT [] ⟨0, 10, 13, 19⟩ [⟨0, 10, 17, 21⟩] rfl (fun z hz => absurd hz List.not_mem_nil) (by decide +kernel) (by decide) ck_L_19 (by decide +kernel) (fun q => ?_)
      refine w_astore X.1 dL_object_13 (by decide) ?_
      refine w_iconst X.1 (nI 1) dL_object_15 (by decide +kernel) ?_
      exact w_iret_me X.1 u (by rw [ho]; decide +kernel) (by rw [ho]; rfl) (by (try dsimp only); omega) (by (try dsimp only); omega) dL_object_16
    · refine w_catch X hT [⟨0, 10, 13, 19⟩] ⟨0, 10, 17, 21⟩ [] rfl (fun z hz => by
        simp only [List.mem_cons, List.not_mem_nil, or_false] at hz
        subst hz
        exact ⟨by decide, _, ck_L_19, by decide +kernel⟩) (by decide +kernel) (by decide) ck_L_21 (by decide +kernel) (fun q => ?_)
      refine w_astore X.1 dL_object_17 (by decide) ?_
      refine w_iconst X.1 (nI 2) dL_object_19 (by decide +kernel) ?_
      exact w_iret_me X.1 u (by rw [ho]; decide +kernel) (by rw [ho]; rfl) (by (try dsimp only); omega) (by (try dsimp only); omega) dL_object_20
theorem sh_L_arena : CSh yL_arena cL_arena 5 (some .int) [(0, 10, 13, 19), (0, 10, 17, 21)] 4 := ⟨by decide +kernel, tw 789 (by decide +kernel) (by decide +kernel), ii_L, tw 790 (by decide +kernel) (by decide +kernel)⟩
set_option maxRecDepth 100000 in
set_option maxHeartbeats 4000000 in
theorem m_L_arena (l : Launch) (g : GG) (hfl : l.stackTraces = false) {U : Type} {gc : List va_W} {g1 : U → List va_W} {a : Nat} {fs : List Value} {G : va_W} {o : OC} {mc ms : Nat} (ao : Nat) (f : Nat → Int64) (x1 : Int32) (x2 : Int32) (hG : gc[0]? = some G) (hj : G[0]? = some (a, .inr (5, fs))) (hM : MVX (U := U) l g yX5_arena cX5_arena 3 (some .int) 9 mc ms [.ref a, .int x1, .int x2] gc o g1) (hlen : ∀ u, (g1 u).length = gc.length) (hI : ∀ rv, o = .inl rv → ∃ v, rv = some (.int v)) (hL : ∀ E, o = .inr E → E ∈ [iOE, iAE]) : MMH (U := U) l g yL_arena cL_arena 5 (some .int) [(0, 10, 13, 19), (0, 10, 17, 21)] 10 mc ms [.ref a, .int x1, .int x2, .ref ao] (oC g ao f :: gc) (some (.int (nI (cO [iOE, iAE] o)))) (fun u => oC g ao (owv o f) :: g1 u) := by
  refine mk_mh hfl (by decide +kernel) (Nat.le_of_ble_eq_true rfl) (fun p e s m below meth c A hT X => ?_)
  refine w_aload_n X.1 3 rfl dL_arena_0 ?_
  refine w_iconst X.1 (nI 0) dL_arena_1 (by decide +kernel) ?_
  refine w_aload_n X.1 0 rfl dL_arena_2 ?_
  refine w_iload_n X.1 1 rfl dL_arena_3 ?_
  refine w_iload_n X.1 2 rfl dL_arena_4 ?_
  refine w_hcall (As := [.int x1, .int x2]) (rest := [.int (nI 0), .ref ao]) X hM hlen cv_X5_arena mk_L_56 rfl hG hj ⟨by (try dsimp only); omega, by (try dsimp only); omega⟩ (Nat.le_of_ble_eq_true rfl) ⟨by (try dsimp only); omega, by (try dsimp only); omega⟩ dL_arena_5 hI (fun v u ho => ?_) (fun E u ho => ?_)
  · refine w_i2l X.1 dL_arena_8 ?_
    refine w_last_n X.1 0 0 3 rfl rfl rfl (by decide) (by decide) (show _ = oC g ao (vp_updL f 0 v.toInt64) from rfl) dL_arena_9 ?_
    refine w_goto X.1 21 dL_arena_10 (by decide) ?_
    refine w_iconst X.1 (nI 0) dL_arena_21 (by decide +kernel) ?_
    exact w_iret_me X.1 u (by rw [ho]; rfl) (by rw [ho]; rfl) (by (try dsimp only); omega) (by (try dsimp only); omega) dL_arena_22
  · have hE := hL E ho
    simp only [List.mem_cons, List.not_mem_nil, or_false] at hE
    rcases hE with rfl | rfl
    · refine w_catch X hT [] ⟨0, 10, 13, 19⟩ [⟨0, 10, 17, 21⟩] rfl (fun z hz => absurd hz List.not_mem_nil) (by decide +kernel) (by decide) ck_L_19 (by decide +kernel) (fun q => ?_)
      refine w_astore X.1 dL_arena_13 (by decide) ?_
      refine w_iconst X.1 (nI 1) dL_arena_15 (by decide +kernel) ?_
      exact w_iret_me X.1 u (by rw [ho]; decide +kernel) (by rw [ho]; rfl) (by (try dsimp only); omega) (by (try dsimp only); omega) dL_arena_16
    · refine w_catch X hT [⟨0, 10, 13, 19⟩] ⟨0, 10, 17, 21⟩ [] rfl (fun z hz => by
        simp only [List.mem_cons, List.not_mem_nil, or_false] at hz
        subst hz
        exact ⟨by decide, _, ck_L_19, by decide +kernel⟩) (by decide +kernel) (by decide) ck_L_21 (by decide +kernel) (fun q => ?_)
      refine w_astore X.1 dL_arena_17 (by decide) ?_
      refine w_iconst X.1 (nI 2) dL_arena_19 (by decide +kernel) ?_
      exact w_iret_me X.1 u (by rw [ho]; decide +kernel) (by rw [ho]; rfl) (by (try dsimp only); omega) (by (try dsimp only); omega) dL_arena_20
theorem sh_L_at : CSh yL_at cL_at 5 (some .int) [(0, 10, 13, 19)] 4 := ⟨by decide +kernel, tw 796 (by decide +kernel) (by decide +kernel), ii_L, tw 797 (by decide +kernel) (by decide +kernel)⟩
set_option maxRecDepth 100000 in
set_option maxHeartbeats 4000000 in
theorem m_L_at (l : Launch) (g : GG) (hfl : l.stackTraces = false) {U : Type} {gc : List va_W} {g1 : U → List va_W} {a : Nat} {fs : List Value} {G : va_W} {o : OC} {mc ms : Nat} (ao : Nat) (f : Nat → Int64) (x1 : Int32) (x2 : Int32) (hG : gc[0]? = some G) (hj : G[0]? = some (a, .inr (5, fs))) (hM : MVX (U := U) l g yX5_at cX5_at 3 (some .int) 9 mc ms [.ref a, .int x1, .int x2] gc o g1) (hlen : ∀ u, (g1 u).length = gc.length) (hI : ∀ rv, o = .inl rv → ∃ v, rv = some (.int v)) (hL : ∀ E, o = .inr E → E ∈ [iOE]) : MMH (U := U) l g yL_at cL_at 5 (some .int) [(0, 10, 13, 19)] 10 mc ms [.ref a, .int x1, .int x2, .ref ao] (oC g ao f :: gc) (some (.int (nI (cO [iOE] o)))) (fun u => oC g ao (owv o f) :: g1 u) := by
  refine mk_mh hfl (by decide +kernel) (Nat.le_of_ble_eq_true rfl) (fun p e s m below meth c A hT X => ?_)
  refine w_aload_n X.1 3 rfl dL_at_0 ?_
  refine w_iconst X.1 (nI 0) dL_at_1 (by decide +kernel) ?_
  refine w_aload_n X.1 0 rfl dL_at_2 ?_
  refine w_iload_n X.1 1 rfl dL_at_3 ?_
  refine w_iload_n X.1 2 rfl dL_at_4 ?_
  refine w_hcall (As := [.int x1, .int x2]) (rest := [.int (nI 0), .ref ao]) X hM hlen cv_X5_at mk_L_59 rfl hG hj ⟨by (try dsimp only); omega, by (try dsimp only); omega⟩ (Nat.le_of_ble_eq_true rfl) ⟨by (try dsimp only); omega, by (try dsimp only); omega⟩ dL_at_5 hI (fun v u ho => ?_) (fun E u ho => ?_)
  · refine w_i2l X.1 dL_at_8 ?_
    refine w_last_n X.1 0 0 3 rfl rfl rfl (by decide) (by decide) (show _ = oC g ao (vp_updL f 0 v.toInt64) from rfl) dL_at_9 ?_
    refine w_goto X.1 17 dL_at_10 (by decide) ?_
    refine w_iconst X.1 (nI 0) dL_at_17 (by decide +kernel) ?_
    exact w_iret_me X.1 u (by rw [ho]; rfl) (by rw [ho]; rfl) (by (try dsimp only); omega) (by (try dsimp only); omega) dL_at_18
  · have hE := hL E ho
    simp only [List.mem_cons, List.not_mem_nil, or_false] at hE
    subst hE
    refine w_catch X hT [] ⟨0, 10, 13, 19⟩ [] rfl (fun z hz => absurd hz List.not_mem_nil) (by decide +kernel) (by decide) ck_L_19 (by decide +kernel) (fun q => ?_)
    refine w_astore X.1 dL_at_13 (by decide) ?_
    refine w_iconst X.1 (nI 1) dL_at_15 (by decide +kernel) ?_
    exact w_iret_me X.1 u (by rw [ho]; decide +kernel) (by rw [ho]; rfl) (by (try dsimp only); omega) (by (try dsimp only); omega) dL_at_16
theorem sh_L_count : CSh yL_count cL_count 4 (some .int) [(0, 9, 12, 21)] 3 := ⟨by decide +kernel, tw 808 (by decide +kernel) (by decide +kernel), ii_L, tw 809 (by decide +kernel) (by decide +kernel)⟩
set_option maxRecDepth 100000 in
set_option maxHeartbeats 4000000 in
theorem m_L_count (l : Launch) (g : GG) (hfl : l.stackTraces = false) {U : Type} {gc : List va_W} {g1 : U → List va_W} {a : Nat} {fs : List Value} {G : va_W} {o : OC} {mc ms : Nat} (ao : Nat) (f : Nat → Int64) (x1 : Int32) (hG : gc[0]? = some G) (hj : G[0]? = some (a, .inr (5, fs))) (hM : MVX (U := U) l g yX5_count cX5_count 2 (some .int) 9 mc ms [.ref a, .int x1] gc o g1) (hlen : ∀ u, (g1 u).length = gc.length) (hI : ∀ rv, o = .inl rv → ∃ v, rv = some (.int v)) (hL : ∀ E, o = .inr E → E ∈ [iAE]) : MMH (U := U) l g yL_count cL_count 4 (some .int) [(0, 9, 12, 21)] 10 mc ms [.ref a, .int x1, .ref ao] (oC g ao f :: gc) (some (.int (nI (cO [iAE] o)))) (fun u => oC g ao (owv o f) :: g1 u) := by
  refine mk_mh hfl (by decide +kernel) (Nat.le_of_ble_eq_true rfl) (fun p e s m below meth c A hT X => ?_)
  refine w_aload_n X.1 2 rfl dL_count_0 ?_
  refine w_iconst X.1 (nI 0) dL_count_1 (by decide +kernel) ?_
  refine w_aload_n X.1 0 rfl dL_count_2 ?_
  refine w_iload_n X.1 1 rfl dL_count_3 ?_
  refine w_hcall (As := [.int x1]) (rest := [.int (nI 0), .ref ao]) X hM hlen cv_X5_count mk_L_62 rfl hG hj ⟨by (try dsimp only); omega, by (try dsimp only); omega⟩ (Nat.le_of_ble_eq_true rfl) ⟨by (try dsimp only); omega, by (try dsimp only); omega⟩ dL_count_4 hI (fun v u ho => ?_) (fun E u ho => ?_)
  · refine w_i2l X.1 dL_count_7 ?_
    refine w_last_n X.1 0 0 3 rfl rfl rfl (by decide) (by decide) (show _ = oC g ao (vp_updL f 0 v.toInt64) from rfl) dL_count_8 ?_
    refine w_goto X.1 15 dL_count_9 (by decide) ?_
    refine w_iconst X.1 (nI 0) dL_count_15 (by decide +kernel) ?_
    exact w_iret_me X.1 u (by rw [ho]; rfl) (by rw [ho]; rfl) (by (try dsimp only); omega) (by (try dsimp only); omega) dL_count_16
  · have hE := hL E ho
    simp only [List.mem_cons, List.not_mem_nil, or_false] at hE
    subst hE
    refine w_catch X hT [] ⟨0, 9, 12, 21⟩ [] rfl (fun z hz => absurd hz List.not_mem_nil) (by decide +kernel) (by decide) ck_L_21 (by decide +kernel) (fun q => ?_)
    refine w_astore_n X.1 dL_count_12 (by decide) ?_
    refine w_iconst X.1 (nI 1) dL_count_13 (by decide +kernel) ?_
    exact w_iret_me X.1 u (by rw [ho]; decide +kernel) (by rw [ho]; rfl) (by (try dsimp only); omega) (by (try dsimp only); omega) dL_count_14
theorem sh_L_setting : CSh yL_setting cL_setting 4 (some .int) [(0, 9, 12, 19)] 3 := ⟨by decide +kernel, tw 816 (by decide +kernel) (by decide +kernel), ii_L, tw 817 (by decide +kernel) (by decide +kernel)⟩
set_option maxRecDepth 100000 in
set_option maxHeartbeats 4000000 in
theorem m_L_setting (l : Launch) (g : GG) (hfl : l.stackTraces = false) {U : Type} {gc : List va_W} {g1 : U → List va_W} {a : Nat} {fs : List Value} {G : va_W} {o : OC} {mc ms : Nat} (ao : Nat) (f : Nat → Int64) (x1 : Int32) (hG : gc[0]? = some G) (hj : G[0]? = some (a, .inr (5, fs))) (hM : MVX (U := U) l g yX5_setting cX5_setting 2 (some .int) 9 mc ms [.ref a, .int x1] gc o g1) (hlen : ∀ u, (g1 u).length = gc.length) (hI : ∀ rv, o = .inl rv → ∃ v, rv = some (.int v)) (hL : ∀ E, o = .inr E → E ∈ [iOE]) : MMH (U := U) l g yL_setting cL_setting 4 (some .int) [(0, 9, 12, 19)] 10 mc ms [.ref a, .int x1, .ref ao] (oC g ao f :: gc) (some (.int (nI (cO [iOE] o)))) (fun u => oC g ao (owv o f) :: g1 u) := by
  refine mk_mh hfl (by decide +kernel) (Nat.le_of_ble_eq_true rfl) (fun p e s m below meth c A hT X => ?_)
  refine w_aload_n X.1 2 rfl dL_setting_0 ?_
  refine w_iconst X.1 (nI 0) dL_setting_1 (by decide +kernel) ?_
  refine w_aload_n X.1 0 rfl dL_setting_2 ?_
  refine w_iload_n X.1 1 rfl dL_setting_3 ?_
  refine w_hcall (As := [.int x1]) (rest := [.int (nI 0), .ref ao]) X hM hlen cv_X5_setting mk_L_65 rfl hG hj ⟨by (try dsimp only); omega, by (try dsimp only); omega⟩ (Nat.le_of_ble_eq_true rfl) ⟨by (try dsimp only); omega, by (try dsimp only); omega⟩ dL_setting_4 hI (fun v u ho => ?_) (fun E u ho => ?_)
  · refine w_i2l X.1 dL_setting_7 ?_
    refine w_last_n X.1 0 0 3 rfl rfl rfl (by decide) (by decide) (show _ = oC g ao (vp_updL f 0 v.toInt64) from rfl) dL_setting_8 ?_
    refine w_goto X.1 15 dL_setting_9 (by decide) ?_
    refine w_iconst X.1 (nI 0) dL_setting_15 (by decide +kernel) ?_
    exact w_iret_me X.1 u (by rw [ho]; rfl) (by rw [ho]; rfl) (by (try dsimp only); omega) (by (try dsimp only); omega) dL_setting_16
  · have hE := hL E ho
    simp only [List.mem_cons, List.not_mem_nil, or_false] at hE
    subst hE
    refine w_catch X hT [] ⟨0, 9, 12, 19⟩ [] rfl (fun z hz => absurd hz List.not_mem_nil) (by decide +kernel) (by decide) ck_L_19 (by decide +kernel) (fun q => ?_)
    refine w_astore_n X.1 dL_setting_12 (by decide) ?_
    refine w_iconst X.1 (nI 1) dL_setting_13 (by decide +kernel) ?_
    exact w_iret_me X.1 u (by rw [ho]; decide +kernel) (by rw [ho]; rfl) (by (try dsimp only); omega) (by (try dsimp only); omega) dL_setting_14
theorem sh_L_whyNot : CSh yL_whyNot cL_whyNot 5 (some .int) [(0, 10, 13, 19)] 4 := ⟨by decide +kernel, tw 823 (by decide +kernel) (by decide +kernel), ii_L, tw 824 (by decide +kernel) (by decide +kernel)⟩
set_option maxRecDepth 100000 in
set_option maxHeartbeats 4000000 in
theorem m_L_whyNot (l : Launch) (g : GG) (hfl : l.stackTraces = false) {U : Type} {gc : List va_W} {g1 : U → List va_W} {a : Nat} {fs : List Value} {G : va_W} {o : OC} {mc ms : Nat} (ao : Nat) (f : Nat → Int64) (x1 : Int32) (x2 : Int32) (hG : gc[0]? = some G) (hj : G[0]? = some (a, .inr (5, fs))) (hM : MVX (U := U) l g yX5_whyNot cX5_whyNot 3 (some .int) 9 mc ms [.ref a, .int x1, .int x2] gc o g1) (hlen : ∀ u, (g1 u).length = gc.length) (hI : ∀ rv, o = .inl rv → ∃ v, rv = some (.int v)) (hL : ∀ E, o = .inr E → E ∈ [iOE]) : MMH (U := U) l g yL_whyNot cL_whyNot 5 (some .int) [(0, 10, 13, 19)] 10 mc ms [.ref a, .int x1, .int x2, .ref ao] (oC g ao f :: gc) (some (.int (nI (cO [iOE] o)))) (fun u => oC g ao (owv o f) :: g1 u) := by
  refine mk_mh hfl (by decide +kernel) (Nat.le_of_ble_eq_true rfl) (fun p e s m below meth c A hT X => ?_)
  refine w_aload_n X.1 3 rfl dL_whyNot_0 ?_
  refine w_iconst X.1 (nI 0) dL_whyNot_1 (by decide +kernel) ?_
  refine w_aload_n X.1 0 rfl dL_whyNot_2 ?_
  refine w_iload_n X.1 1 rfl dL_whyNot_3 ?_
  refine w_iload_n X.1 2 rfl dL_whyNot_4 ?_
  refine w_hcall (As := [.int x1, .int x2]) (rest := [.int (nI 0), .ref ao]) X hM hlen cv_X5_whyNot mk_L_68 rfl hG hj ⟨by (try dsimp only); omega, by (try dsimp only); omega⟩ (Nat.le_of_ble_eq_true rfl) ⟨by (try dsimp only); omega, by (try dsimp only); omega⟩ dL_whyNot_5 hI (fun v u ho => ?_) (fun E u ho => ?_)
  · refine w_i2l X.1 dL_whyNot_8 ?_
    refine w_last_n X.1 0 0 3 rfl rfl rfl (by decide) (by decide) (show _ = oC g ao (vp_updL f 0 v.toInt64) from rfl) dL_whyNot_9 ?_
    refine w_goto X.1 17 dL_whyNot_10 (by decide) ?_
    refine w_iconst X.1 (nI 0) dL_whyNot_17 (by decide +kernel) ?_
    exact w_iret_me X.1 u (by rw [ho]; rfl) (by rw [ho]; rfl) (by (try dsimp only); omega) (by (try dsimp only); omega) dL_whyNot_18
  · have hE := hL E ho
    simp only [List.mem_cons, List.not_mem_nil, or_false] at hE
    subst hE
    refine w_catch X hT [] ⟨0, 10, 13, 19⟩ [] rfl (fun z hz => absurd hz List.not_mem_nil) (by decide +kernel) (by decide) ck_L_19 (by decide +kernel) (fun q => ?_)
    refine w_astore X.1 dL_whyNot_13 (by decide) ?_
    refine w_iconst X.1 (nI 1) dL_whyNot_15 (by decide +kernel) ?_
    exact w_iret_me X.1 u (by rw [ho]; decide +kernel) (by rw [ho]; rfl) (by (try dsimp only); omega) (by (try dsimp only); omega) dL_whyNot_16
theorem sh_L_ifGiven : CSh yL_ifGiven cL_ifGiven 5 (some .int) [(0, 10, 13, 19)] 4 := ⟨by decide +kernel, tw 830 (by decide +kernel) (by decide +kernel), ii_L, tw 831 (by decide +kernel) (by decide +kernel)⟩
set_option maxRecDepth 100000 in
set_option maxHeartbeats 4000000 in
theorem m_L_ifGiven (l : Launch) (g : GG) (hfl : l.stackTraces = false) {U : Type} {gc : List va_W} {g1 : U → List va_W} {a : Nat} {fs : List Value} {G : va_W} {o : OC} {mc ms : Nat} (ao : Nat) (f : Nat → Int64) (x1 : Int32) (x2 : Int32) (hG : gc[0]? = some G) (hj : G[0]? = some (a, .inr (5, fs))) (hM : MVX (U := U) l g yX5_ifGiven cX5_ifGiven 3 (some .int) 9 mc ms [.ref a, .int x1, .int x2] gc o g1) (hlen : ∀ u, (g1 u).length = gc.length) (hI : ∀ rv, o = .inl rv → ∃ v, rv = some (.int v)) (hL : ∀ E, o = .inr E → E ∈ [iOE]) : MMH (U := U) l g yL_ifGiven cL_ifGiven 5 (some .int) [(0, 10, 13, 19)] 10 mc ms [.ref a, .int x1, .int x2, .ref ao] (oC g ao f :: gc) (some (.int (nI (cO [iOE] o)))) (fun u => oC g ao (owv o f) :: g1 u) := by
  refine mk_mh hfl (by decide +kernel) (Nat.le_of_ble_eq_true rfl) (fun p e s m below meth c A hT X => ?_)
  refine w_aload_n X.1 3 rfl dL_ifGiven_0 ?_
  refine w_iconst X.1 (nI 0) dL_ifGiven_1 (by decide +kernel) ?_
  refine w_aload_n X.1 0 rfl dL_ifGiven_2 ?_
  refine w_iload_n X.1 1 rfl dL_ifGiven_3 ?_
  refine w_iload_n X.1 2 rfl dL_ifGiven_4 ?_
  refine w_hcall (As := [.int x1, .int x2]) (rest := [.int (nI 0), .ref ao]) X hM hlen cv_X5_ifGiven mk_L_71 rfl hG hj ⟨by (try dsimp only); omega, by (try dsimp only); omega⟩ (Nat.le_of_ble_eq_true rfl) ⟨by (try dsimp only); omega, by (try dsimp only); omega⟩ dL_ifGiven_5 hI (fun v u ho => ?_) (fun E u ho => ?_)
  · refine w_i2l X.1 dL_ifGiven_8 ?_
    refine w_last_n X.1 0 0 3 rfl rfl rfl (by decide) (by decide) (show _ = oC g ao (vp_updL f 0 v.toInt64) from rfl) dL_ifGiven_9 ?_
    refine w_goto X.1 17 dL_ifGiven_10 (by decide) ?_
    refine w_iconst X.1 (nI 0) dL_ifGiven_17 (by decide +kernel) ?_
    exact w_iret_me X.1 u (by rw [ho]; rfl) (by rw [ho]; rfl) (by (try dsimp only); omega) (by (try dsimp only); omega) dL_ifGiven_18
  · have hE := hL E ho
    simp only [List.mem_cons, List.not_mem_nil, or_false] at hE
    subst hE
    refine w_catch X hT [] ⟨0, 10, 13, 19⟩ [] rfl (fun z hz => absurd hz List.not_mem_nil) (by decide +kernel) (by decide) ck_L_19 (by decide +kernel) (fun q => ?_)
    refine w_astore X.1 dL_ifGiven_13 (by decide) ?_
    refine w_iconst X.1 (nI 1) dL_ifGiven_15 (by decide +kernel) ?_
    exact w_iret_me X.1 u (by rw [ho]; decide +kernel) (by rw [ho]; rfl) (by (try dsimp only); omega) (by (try dsimp only); omega) dL_ifGiven_16
theorem sh_L_ifLost : CSh yL_ifLost cL_ifLost 4 (some .int) [(0, 9, 12, 19)] 3 := ⟨by decide +kernel, tw 837 (by decide +kernel) (by decide +kernel), ii_L, tw 838 (by decide +kernel) (by decide +kernel)⟩
set_option maxRecDepth 100000 in
set_option maxHeartbeats 4000000 in
theorem m_L_ifLost (l : Launch) (g : GG) (hfl : l.stackTraces = false) {U : Type} {gc : List va_W} {g1 : U → List va_W} {a : Nat} {fs : List Value} {G : va_W} {o : OC} {mc ms : Nat} (ao : Nat) (f : Nat → Int64) (x1 : Int32) (hG : gc[0]? = some G) (hj : G[0]? = some (a, .inr (5, fs))) (hM : MVX (U := U) l g yX5_ifLost cX5_ifLost 2 (some .int) 9 mc ms [.ref a, .int x1] gc o g1) (hlen : ∀ u, (g1 u).length = gc.length) (hI : ∀ rv, o = .inl rv → ∃ v, rv = some (.int v)) (hL : ∀ E, o = .inr E → E ∈ [iOE]) : MMH (U := U) l g yL_ifLost cL_ifLost 4 (some .int) [(0, 9, 12, 19)] 10 mc ms [.ref a, .int x1, .ref ao] (oC g ao f :: gc) (some (.int (nI (cO [iOE] o)))) (fun u => oC g ao (owv o f) :: g1 u) := by
  refine mk_mh hfl (by decide +kernel) (Nat.le_of_ble_eq_true rfl) (fun p e s m below meth c A hT X => ?_)
  refine w_aload_n X.1 2 rfl dL_ifLost_0 ?_
  refine w_iconst X.1 (nI 0) dL_ifLost_1 (by decide +kernel) ?_
  refine w_aload_n X.1 0 rfl dL_ifLost_2 ?_
  refine w_iload_n X.1 1 rfl dL_ifLost_3 ?_
  refine w_hcall (As := [.int x1]) (rest := [.int (nI 0), .ref ao]) X hM hlen cv_X5_ifLost mk_L_74 rfl hG hj ⟨by (try dsimp only); omega, by (try dsimp only); omega⟩ (Nat.le_of_ble_eq_true rfl) ⟨by (try dsimp only); omega, by (try dsimp only); omega⟩ dL_ifLost_4 hI (fun v u ho => ?_) (fun E u ho => ?_)
  · refine w_i2l X.1 dL_ifLost_7 ?_
    refine w_last_n X.1 0 0 3 rfl rfl rfl (by decide) (by decide) (show _ = oC g ao (vp_updL f 0 v.toInt64) from rfl) dL_ifLost_8 ?_
    refine w_goto X.1 15 dL_ifLost_9 (by decide) ?_
    refine w_iconst X.1 (nI 0) dL_ifLost_15 (by decide +kernel) ?_
    exact w_iret_me X.1 u (by rw [ho]; rfl) (by rw [ho]; rfl) (by (try dsimp only); omega) (by (try dsimp only); omega) dL_ifLost_16
  · have hE := hL E ho
    simp only [List.mem_cons, List.not_mem_nil, or_false] at hE
    subst hE
    refine w_catch X hT [] ⟨0, 9, 12, 19⟩ [] rfl (fun z hz => absurd hz List.not_mem_nil) (by decide +kernel) (by decide) ck_L_19 (by decide +kernel) (fun q => ?_)
    refine w_astore_n X.1 dL_ifLost_12 (by decide) ?_
    refine w_iconst X.1 (nI 1) dL_ifLost_13 (by decide +kernel) ?_
    exact w_iret_me X.1 u (by rw [ho]; decide +kernel) (by rw [ho]; rfl) (by (try dsimp only); omega) (by (try dsimp only); omega) dL_ifLost_14
