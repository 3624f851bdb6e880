/-! new cells, constructors -/
theorem oi_link {own : String} {idx : Nat} (h : Cond.methodLink own idx Lib.objectInit ∈ TW) : Cond.methodLink own idx Lib.objectInit ∈ TW := h
theorem oi_in : Cond.instanceMethod Lib.objectInit ∈ TW := tw 31 (by decide +kernel) (by decide +kernel)
theorem oi_co : Cond.code Lib.objectInit ⟨#[0xb1]⟩ 1 none ∈ TW := tw 32 (by decide +kernel) (by decide +kernel)
theorem oi_X5 : Cond.methodLink RX5 1 Lib.objectInit ∈ TW := tw 30 (by decide +kernel) (by decide +kernel)
theorem oi_X3 : Cond.methodLink RX3 3 Lib.objectInit ∈ TW := tw 38 (by decide +kernel) (by decide +kernel)
theorem oi_X2 : Cond.methodLink RX2 3 Lib.objectInit ∈ TW := tw 115 (by decide +kernel) (by decide +kernel)
theorem oi_X1 : Cond.methodLink RX1 3 Lib.objectInit ∈ TW := tw 121 (by decide +kernel) (by decide +kernel)
theorem oi_X4 : Cond.methodLink RX4 3 Lib.objectInit ∈ TW := tw 155 (by decide +kernel) (by decide +kernel)
theorem oi_X0 : Cond.methodLink RX0 1 Lib.objectInit ∈ TW := tw 173 (by decide +kernel) (by decide +kernel)
theorem ac_I : Cond.arrayClass FieldType.int ∈ TW := tw 109 (by decide +kernel) (by decide +kernel)
theorem ac_Z : Cond.arrayClass FieldType.boolean ∈ TW := tw 108 (by decide +kernel) (by decide +kernel)
/-- the contract of a constructor -/
abbrev MMI {U : Type} (l : Launch) (g : GG) (y : MethodName) (cc : ByteArray) (n : Nat) (k mc ms : Nat) (As : List Value) (gc : List va_W) (g1 : U → List va_W) : Prop :=
  ∀ sz : Nat, Met l y (WSy y cc n none) (RM k mc ms) (va_Pc As (fun U => U.heap.size = sz ∧ va_P g.1 vwCl gc.flatten U.heap ∧ va_D (fun _ => True) gc.flatten ∧ EV g U ∧ va_AO RX3 U)) (QE g none g1 (va_A gc.flatten sz)) mc ms (va_A gc.flatten sz)
theorem mk_mi {U : Type} {l : Launch} {g : GG} {y : MethodName} {cc : ByteArray} {n : Nat} {k mc ms : Nat} {As : List Value} {gc : List va_W} {g1 : U → List va_W} (hy : plainName y.cls = true) (hy1 : y.name = "<init>") (hn : (lg_sl As).length ≤ n)
    (body : ∀ (p : Program) (e : Env) (s : State) (m : MethodId) (below : List Frame) (meth : Method) (c : Code) (A : Nat → Prop), (∀ q, s.heap.size ≤ q → A q) → WX p s m As.toArray meth c cc y.cls n none g → meth.name = "<init>" → va_AO RX3 s → WW p l e (RM k mc ms) s m As.toArray below meth c g (va_D A) (va_S A s.heap) n (MQ below (QE g none g1 A) As.toArray s mc ms A) 0 0 (lv_args 0 As) [] gc 0) : MMI l g y cc n k mc ms As gc g1 := by
  intro sz
  refine Met.ofW (cc := cc) (maxL := n) (ret := none) hy rfl ?_
  intro p e s m args below meth c s₁ B hml hv
  obtain ⟨rfl, hsz, hP, hD0, hE, hO⟩ := hv
  subst hsz
  have hts := atoms_spec (ws := WSy y cc n none) B.pre
  have b := body p e s m below meth c (va_A gc.flatten s.heap.size) (fun q h => Or.inr h) ⟨⟨B.exec, B.bytes, hml, findClass_of_methodNamed B.named, fun w hw => hts w (List.mem_cons_of_mem _ hw)⟩, hE, B.returns, B.notSynchronized⟩ ((name_of_methodNamed B.named B.method).1.trans hy1) hO
  have hl := lv_entry As (n := n) hn
  rw [lg_entry_eq]
  exact b s.heap [] _ hP (hD0.weaken (fun k q hq _ => va_A.in hq)) ⟨Nat.le_refl _, fun _ _ _ => rfl, fun q hq => absurd hq List.not_mem_nil⟩ hl
theorem va_P_pm {D : va_G} {cl : List vw_C} {ws ws' : va_W} {H : Heap} (h : ws.Perm ws') (hP : va_P D cl ws H) : va_P D cl ws' H := va_P_mem.mpr fun q hq => va_P_mem.mp hP q (h.symm.subset hq)
theorem va_D_pm {A : Nat → Prop} {ws ws' : va_W} (h : ws.Perm ws') (hD : va_D A ws) : va_D A ws' := by
  rw [va_D_nodup] at hD ⊢
  exact ⟨(h.map (fun q => q.1)).nodup_iff.mp hD.1, fun q hq => hD.2 q (h.symm.subset hq)⟩
section WN
variable {p : Program} {l : Launch} {e : Env} {R : Room} {s : State} {m : MethodId} {args : Array Value} {below : List Frame} {meth : Method} {c : Code} {g : GG} {nL : Nat} {Q : State → Prop} {kc ks : Nat} {lv : List (Nat × Value)} {st : List Value} {gs : List va_W} {pc : Nat} {cc : ByteArray} {own : String} {rt : Option FieldType} {A : Nat → Prop}
theorem fl_app (gs : List va_W) (x : Nat × va_E) : gs.flatten ++ [x] = (gs ++ [[x]]).flatten := by rw [List.flatten_append]; rfl
/-- the groups laid anew -/
theorem w_rg (gs' : List va_W) (h : gs'.flatten = gs.flatten) {SS : Heap → List Loc → Prop} {DD : va_W → Prop} (k : WW p l e R s m args below meth c g DD SS nL Q kc ks lv st gs' pc) : WW p l e R s m args below meth c g DD SS nL Q kc ks lv st gs pc :=
  fun H locs ls hP hD hS hl => k H locs ls (by rw [h]; exact hP) (by rw [h]; exact hD) hS hl
theorem w_rgp (gs' : List va_W) (h : gs.flatten.Perm gs'.flatten) (k : WW p l e R s m args below meth c g (va_D A) (va_S A s.heap) nL Q kc ks lv st gs' pc) : WW p l e R s m args below meth c g (va_D A) (va_S A s.heap) nL Q kc ks lv st gs pc :=
  fun H locs ls hP hD hS hl => k H locs ls (va_P_pm h hP) (va_D_pm h hD) hS hl
theorem w_loopK (X : WX p s m args meth c cc own nL rt g) {DD : va_W → Prop} {SS : Heap → List Loc → Prop} {V : Type} (μ : V → Nat) (I : V → Prop) (kcf ksf : V → Nat) (lvf : V → List (Nat × Value)) (gsf : V → List va_W)
    (hs : ∀ v, I v → (∀ v', μ v' < μ v → I v' → WW p l e R s m args below meth c g DD SS nL Q (kcf v') (ksf v') (lvf v') st (gsf v') pc) → WW p l e R s m args below meth c g DD SS nL Q (kcf v) (ksf v) (lvf v) st (gsf v) pc) (v : V) (hv : I v) : WW p l e R s m args below meth c g DD SS nL Q (kcf v) (ksf v) (lvf v) st (gsf v) pc := by
  have key : ∀ (n : Nat) (v : V), μ v < n → I v → WW p l e R s m args below meth c g DD SS nL Q (kcf v) (ksf v) (lvf v) st (gsf v) pc := by
    intro n
    induction n with
    | zero => intro v h; exact absurd h (Nat.not_lt_zero _)
    | succ n ih => exact fun v h hI => hs v hI (fun v' h' hI' => ih v' (Nat.lt_of_lt_of_le h' (Nat.lt_succ_iff.mp h)) hI')
  exact key (μ v + 1) v (Nat.lt_succ_self _) hv
/-- super() of an object -/
theorem w_oinit (X : WX p s m args meth c cc own nL rt g) {DD : va_W → Prop} {SS : Heap → List Loc → Prop} {idx a : Nat} (hlink : Cond.methodLink own idx Lib.objectInit ∈ TW) (hf : 1 ≤ R.frames) (hw : (st.map fun v => v.category).sum + 12 ≤ R.locals) (d : decode cc pc = .ok (.invokespecial idx, 3)) (k : WW p l e R s m args below meth c g DD SS nL Q kc ks lv st gs (pc + 3)) : WW p l e R s m args below meth c g DD SS nL Q kc ks lv (.ref a :: st) gs pc :=
  fun H locs ls hP hD hS hl => W.objInit (a := a) (rest := st) X.1.1 X.1.2.1 X.1.2.2.2.1 (X.1.2.2.2.2 _ hlink) (X.1.2.2.2.2 _ oi_in) (X.1.2.2.2.2 _ oi_co) rfl (hl.1.trans X.1.2.2.1.symm) rfl d hf (by show 2 * 0 + _ + 12 ≤ _; omega) (k H locs ls hP hD hS hl)
theorem w_new (X : WX p s m args meth c cc own nL rt g) (hA : ∀ q, s.heap.size ≤ q → A q) (ci : Nat) {index N : Nat} {C : String} {T : u_T} {fs : List Value} (hc : vwCl[ci]? = some (C, T, N)) (hin : ∀ w ∈ u_ws C T N, w ∈ TW) (ty : Nat → FieldType) (hty : ∀ k, k < N → parseFieldDescriptor (T k).2.2.1 = some (ty k)) (hcl : Cond.classLink own index C ∈ TW) (hinst : Cond.instantiable C N ∈ TW) (hini : Cond.initialized C ∈ TW) (hfs : ∀ j, j < N → defaultValue (ty j) = vp_V fs j) (hf : kc + 1 ≤ R.cells ∧ ks + N ≤ R.slots) (d : decode cc pc = .ok (.new index, 3))
    (k : ∀ q, WW p l e R s m args below meth c g (va_D A) (va_S A s.heap) nL Q (kc + 1) (ks + N) lv (.ref q :: st) (gs ++ [[(q, .inr (ci, fs))]]) (pc + 3)) : WW p l e R s m args below meth c g (va_D A) (va_S A s.heap) nL Q kc ks lv st gs pc := by
  intro H locs ls hP hD hS hl
  refine va_new X.1.1 X.1.2.1 X.1.2.2.2.2 hin ty hty X.1.2.2.2.1 (X.1.2.2.2.2 _ hcl) (X.1.2.2.2.2 _ hinst) (X.1.2.2.2.2 _ hini) X.2.1.1 hP hD hS hA hc hfs hf.1 hf.2 d (fun q H1 hP1 hD1 hS1 => ?_)
  rw [fl_app] at hP1 hD1
  exact k q H1 locs ls hP1 hD1 hS1 hl
theorem w_newi (X : WX p s m args meth c cc own nL rt g) (hA : ∀ q, s.heap.size ≤ q → A q) {n : Nat} (hn : n < 2 ^ 20) (hf : kc + 1 ≤ R.cells ∧ ks + n ≤ R.slots) (d : decode cc pc = .ok (.newarray .int, 2))
    (k : ∀ q, WW p l e R s m args below meth c g (va_D A) (va_S A s.heap) nL Q (kc + 1) (ks + n) lv (.ref q :: st) (gs ++ [[(q, .inl (cI g, n, .inl (fun _ => 0)))]]) (pc + 2)) : WW p l e R s m args below meth c g (va_D A) (va_S A s.heap) nL Q kc ks lv (.int (nI n) :: st) gs pc := by
  intro H locs ls hP hD hS hl
  refine va_newa (atype := .int) (ty := .int) (a0 := (n, .inl (fun _ => 0))) X.1.1 X.1.2.1 (X.1.2.2.2.2 _ ac_I) rfl X.2.1.1 hP hD hS hA (fun cA => by rw [vp_cell_i]; rfl) (nI_pos (by omega)) (nI_clamp (by omega)) (by show n * 4 ≤ _; omega) hf.1 hf.2 d (fun q cA H1 hK hP1 hD1 hS1 => ?_)
  have e1 : cA = cI g := Option.some.inj (((hK.2 3 (cA, .int) rfl).2).symm.trans (X.2.1.1.2 0 (cI g, .int) rfl).2)
  subst e1
  rw [fl_app] at hP1 hD1
  exact k q H1 locs ls hP1 hD1 hS1 hl
theorem w_newz (X : WX p s m args meth c cc own nL rt g) (hA : ∀ q, s.heap.size ≤ q → A q) {n : Nat} (hn : n < 2 ^ 20) (hf : kc + 1 ≤ R.cells ∧ ks + n ≤ R.slots) (d : decode cc pc = .ok (.newarray .boolean, 2))
    (k : ∀ q, WW p l e R s m args below meth c g (va_D A) (va_S A s.heap) nL Q (kc + 1) (ks + n) lv (.ref q :: st) (gs ++ [[(q, .inl (cZ g, n, .inl (fun _ => 0)))]]) (pc + 2)) : WW p l e R s m args below meth c g (va_D A) (va_S A s.heap) nL Q kc ks lv (.int (nI n) :: st) gs pc := by
  intro H locs ls hP hD hS hl
  refine va_newa (atype := .boolean) (ty := .boolean) (a0 := (n, .inl (fun _ => 0))) X.1.1 X.1.2.1 (X.1.2.2.2.2 _ ac_Z) rfl X.2.1.1 hP hD hS hA (fun cA => by rw [vp_cell_i]; rfl) (nI_pos (by omega)) (nI_clamp (by omega)) (by show n * 1 ≤ _; omega) hf.1 hf.2 d (fun q cA H1 hK hP1 hD1 hS1 => ?_)
  have e1 : cA = cZ g := Option.some.inj (((hK.2 3 (cA, .boolean) rfl).2).symm.trans (X.2.1.1.2 1 (cZ g, .boolean) rfl).2)
  subst e1
  rw [fl_app] at hP1 hD1
  exact k q H1 locs ls hP1 hD1 hS1 hl
theorem w_newq (X : WX p s m args meth c cc own nL rt g) (hA : ∀ q, s.heap.size ≤ q → A q) (hO : va_AO RX3 s) {n index : Nat} (hn : n < 2 ^ 20) (hlink : Cond.classLink own index RX3 ∈ TW) (hf : kc + 1 ≤ R.cells ∧ ks + n ≤ R.slots) (d : decode cc pc = .ok (.anewarray index, 3))
    (k : ∀ q, WW p l e R s m args below meth c g (va_D A) (va_S A s.heap) nL Q (kc + 1) (ks + n) lv (.ref q :: st) (gs ++ [[(q, .inl (cS g, n, .inr (.inr (.inr (.inr (fun _ => none))))))]]) (pc + 3)) : WW p l e R s m args below meth c g (va_D A) (va_S A s.heap) nL Q kc ks lv (.int (nI n) :: st) gs pc := by
  intro H locs ls hP hD hS hl
  refine va_newq X.1.1 X.1.2.1 X.1.2.2.2.1 (X.1.2.2.2.2 _ hlink) hO X.2.1.1 hP hD hS hA (nI_pos (by omega)) (nI_clamp (by omega)) (by omega) hf.1 hf.2 d (fun q cA H1 hK hP1 hD1 hS1 => ?_)
  obtain ⟨k1, c1, -, -, -, h1⟩ := (hK.2 3 (cA, .object RX3) rfl).2
  obtain ⟨k2, c2, -, -, -, h2⟩ := (X.2.1.1.2 2 (cS g, .object RX3) rfl).2
  have e1 : cA = cS g := Option.some.inj (h1.symm.trans h2)
  subst e1
  rw [fl_app] at hP1 hD1
  exact k q H1 locs ls hP1 hD1 hS1 hl
theorem w_putF (X : WX p s m args meth c cc own nL rt g) (hI : meth.name = "<init>") (gi gj : Nat) {G : va_W} {a ci N : Nat} {fs : List Value} {C : String} {T : u_T} (hG : gs[gi]? = some G) (hj : G[gj]? = some (a, .inr (ci, fs))) (hc : vwCl[ci]? = some (C, T, N)) (hin : ∀ w ∈ u_ws C T N, w ∈ TW) (ty0 : Nat → FieldType) (hty : ∀ k, k < N → parseFieldDescriptor (T k).2.2.1 = some (ty0 k)) (hnm : ∀ a, a < N → ∀ b, b < N → a ≠ b → (T a).2.1 ≠ (T b).2.1) {index : Nat} {v : Value} {ty : FieldType} {G' : va_W} (k : Nat) (hk : k < N) (hlink : Cond.fieldLink own index (T k).1 (T k).2.1 (T k).2.2.1 ∈ TW) (hfin : (T k).2.2.2 = true) (hdecl : (T k).1 = own) (hd : parseFieldDescriptor (T k).2.2.1 = some ty) (hn : narrow ty v = v) (hfit : fits ty v = true) (hl0 : k < fs.length) (hG' : G.set gj (a, .inr (ci, fs.set k v)) = G') (d : decode cc pc = .ok (.putfield index, 3)) (kk : WW p l e R s m args below meth c g (va_D A) (va_S A s.heap) nL Q kc ks (lv) (st) (gs.set gi G') (pc + 3)) : WW p l e R s m args below meth c g (va_D A) (va_S A s.heap) nL Q kc ks (lv) (v :: .ref a :: st) (gs) (pc) := by
  intro H locs ls hP hD hS hl
  subst hG'
  have hj2 : gj < G.length := (List.getElem?_eq_some_iff.mp hj).1
  refine va_putF X.1.1 X.1.2.1 X.1.2.2.2.2 hin ty0 hty hnm X.1.2.2.2.1 X.2.1.1 hP hD hS _ (fl_lt gs gi G hG gj _ hj) hc k hk (X.1.2.2.2.2 _ hlink) (fun _ h => h) hfin hI hdecl hd hn hfit hl0 d (fun H1 locs1 hP1 hD1 hS1 => ?_)
  rw [fl_set gs gi G hG gj _ hj2] at hP1 hD1
  exact kk H1 locs1 ls hP1 hD1 hS1 hl
theorem w_astq (X : WX p s m args meth c cc own nL rt g) (gi gj hi' hj' : Nat) {G K : va_W} {a n v : Nat} {f : Nat → Option Nat} {vs : List Value} (hG : gs[gi]? = some G) (hj : G[gj]? = some (a, .inl (cS g, n, .inr (.inr (.inr (.inr f)))))) (hH : gs[hi']? = some K) (hv : K[hj']? = some (v, .inr (3, vs))) {i : Nat} (hi : i < n) (hn : n < 2 ^ 31) {G' : va_W} (hG' : G.set gj (a, .inl (cS g, n, .inr (.inr (.inr (.inr (va_up f i (some v))))))) = G') (d : decode cc pc = .ok (.aastore, 1)) (kk : WW p l e R s m args below meth c g (va_D A) (va_S A s.heap) nL Q kc ks (lv) (st) (gs.set gi G') (pc + 1)) : WW p l e R s m args below meth c g (va_D A) (va_S A s.heap) nL Q kc ks (lv) (.ref v :: .int (nI i) :: .ref a :: st) (gs) (pc) := by
  intro H locs ls hP hD hS hl
  subst hG'
  have hj2 : gj < G.length := (List.getElem?_eq_some_iff.mp hj).1
  refine va_astq (r := (RX3, TX3, 16)) X.1.1 X.1.2.1 X.2.1.1 hP hD hS _ 2 _ 3 (fl_lt gs gi G hG gj _ hj) rfl (fl_lt gs hi' K hH hj' _ hv) rfl (vp_in_nI hi hn) d (fun H1 locs1 hP1 hD1 hS1 => ?_)
  rw [nI_clamp (Nat.lt_trans hi hn), fl_set gs gi G hG gj _ hj2] at hP1 hD1
  exact kk H1 locs1 ls hP1 hD1 hS1 hl
theorem mi_pre {gc : List va_W} {is : List Nat} {H : Heap} {As : List Value} (hE : EV g s) (hO : va_AO RX3 s) (hP : va_P g.1 vwCl gs.flatten H) (hD : va_D (fun _ => True) gc.flatten) (hi : is.map (fun i => gs[i]?) = gc.map some) : PreS s H (va_Pc As (fun U => U.heap.size = H.size ∧ va_P g.1 vwCl gc.flatten U.heap ∧ va_D (fun _ => True) gc.flatten ∧ EV g U ∧ va_AO RX3 U)) As :=
  ⟨fun a U j mk q => ⟨q.1, q.2.1, q.2.2.1, q.2.2.2.1, q.2.2.2.2.1.blind j mk a, q.2.2.2.2.2.moved ((State.WarmedH.refl U).alike)⟩, fun U hU hW => ⟨rfl, by rw [hU], by rw [hU]; exact va_P_mem.mpr (fun q hq => va_P_mem.mp hP q (gs_mem hi q hq)), hD, hE.warm hW, hO.moved hW.alike⟩⟩
theorem w_miI (X : WX p s m args meth c cc own nL rt g) (hA : ∀ q, s.heap.size ≤ q → A q) (hO : va_AO RX3 s) {U : Type} {rest : List Value} {gc : List va_W} {g1 : U → List va_W} (gr : List va_W) (gs1 : U → List va_W) {y : MethodName} {cy : ByteArray} {ny kh mc ms : Nat} (is ir : List Nat) {b idx : Nat} (hM : MMI l g y cy ny kh mc ms [.ref b] gc g1) (hy : CIn y cy ny 0) (hlink : Cond.methodLink own idx y ∈ TW) (hi : is.map (fun i => gs[i]?) = gc.map some) (hr0 : ir.map (fun i => gs[i]?) = gr.map some) {ng : Nat} (hn0 : gs.length = ng) (hp : (is ++ ir).Perm (List.range ng)) (hi1 : ∀ u, is.map (fun i => (gs1 u)[i]?) = (g1 u).map some) (hr1 : ∀ u, ir.map (fun i => (gs1 u)[i]?) = gr.map some) (hlen : ∀ u, (gs1 u).length = ng) (hR : kh + 1 ≤ R.frames ∧ 8 + (ny + 11) + 32 * kh ≤ R.locals) (hw : (rest.map fun v => v.category).sum ≤ 8) (hf : kc + mc ≤ R.cells ∧ ks + ms ≤ R.slots) (d : decode cc pc = .ok (.invokespecial idx, 3)) (k : ∀ u, WW p l e R s m args below meth c g (va_D A) (va_S A s.heap) nL Q (kc + mc) (ks + ms) lv rest (gs1 u) (pc + 3)) : WW p l e R s m args below meth c g (va_D A) (va_S A s.heap) nL Q kc ks lv (.ref b :: rest) gs pc := by
  refine w_csE (rv := none) (rest := rest) (a := #[.ref b]) hA rfl hi hr0 hn0 hp hi1 hr1 hlen (fun H locs ls hP hD hl => ?_) k
  exact va_runI (As := []) (rest := rest) (n := 0) X.1 (hM H.size) ⟨callB_of 0 X.1.2.2.2.2 (tw_in (ws_in hy.2.2.2.1)) rfl rfl rfl (X.1.2.2.2.2 _ hy.2.2.1) (X.1.2.2.2.2 _ hlink) hy.1 hR, hy.2.2.2.2, X.1.2.2.2.2 _ hy.2.1⟩ (mi_pre (As := [.ref b]) X.2.1 hO hP hD hi) rfl rfl hl.1 rfl (lv_room hw) d ⟨hf.1, hf.2⟩
theorem w_miN (X : WX p s m args meth c cc own nL rt g) (hA : ∀ q, s.heap.size ≤ q → A q) (hO : va_AO RX3 s) {U : Type} {host : String} {rest : List Value} {gc : List va_W} {g1 : U → List va_W} (gr : List va_W) (gs1 : U → List va_W) {y : MethodName} {cy : ByteArray} {ny kh mc ms : Nat} (is ir : List Nat) {b idx : Nat} (hM : MMI l g y cy ny kh mc ms [.ref b] gc g1) (hy : CIn y cy ny 0) (hlink : (own, idx, y, host) ∈ nestL) (hi : is.map (fun i => gs[i]?) = gc.map some) (hr0 : ir.map (fun i => gs[i]?) = gr.map some) {ng : Nat} (hn0 : gs.length = ng) (hp : (is ++ ir).Perm (List.range ng)) (hi1 : ∀ u, is.map (fun i => (gs1 u)[i]?) = (g1 u).map some) (hr1 : ∀ u, ir.map (fun i => (gs1 u)[i]?) = gr.map some) (hlen : ∀ u, (gs1 u).length = ng) (hR : kh + 1 ≤ R.frames ∧ 8 + (ny + 11) + 32 * kh ≤ R.locals) (hw : (rest.map fun v => v.category).sum ≤ 8) (hf : kc + mc ≤ R.cells ∧ ks + ms ≤ R.slots) (d : decode cc pc = .ok (.invokespecial idx, 3)) (k : ∀ u, WW p l e R s m args below meth c g (va_D A) (va_S A s.heap) nL Q (kc + mc) (ks + ms) lv rest (gs1 u) (pc + 3)) : WW p l e R s m args below meth c g (va_D A) (va_S A s.heap) nL Q kc ks lv (.ref b :: rest) gs pc := by
  refine w_csE (rv := none) (rest := rest) (a := #[.ref b]) hA rfl hi hr0 hn0 hp hi1 hr1 hlen (fun H locs ls hP hD hl => ?_) k
  exact va_runIN (As := []) (rest := rest) (n := 0) (host := host) X.1 (hM H.size) ⟨va_cnB 0 X.1.2.2.2.2 (tw_in (ws_in hy.2.2.2.1)) rfl rfl rfl (X.2.1.2.1 _ hlink) (X.1.2.2.2.2 _ hy.2.2.1) hy.1 hR, hy.2.2.2.2, X.1.2.2.2.2 _ hy.2.1⟩ (mi_pre (As := [.ref b]) X.2.1 hO hP hD hi) rfl rfl hl.1 rfl (lv_room hw) d ⟨hf.1, hf.2⟩
end WN
