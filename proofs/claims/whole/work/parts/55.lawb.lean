/-! the law: its frame, its script, its comparing -/
section WLA
variable {p : Program} {l : Launch} {e : Env} {R : Room} {s : State} {m : MethodId} {args : Array Value} {below : List Frame} {meth : Method} {c : Code} {g : GG} {nL : Nat} {Q : State → Prop} {kc ks : Nat} {lv : List (Nat × Value)} {st : List Value} {gs : List va_W} {pc : Nat} {cc : ByteArray} {own : String} {rt : Option FieldType} {A : Nat → Prop}
theorem w_csF {U : Type} {a : Array Value} {rest st1 : List Value} {rv : Option Value} {gc gr : List va_W} {g1 gs1 : U → List va_W} {is ir : List Nat} {mc ms : Nat} (hA : ∀ q, s.heap.size ≤ q → A q) (hS1 : rv.toList ++ rest = st1) (hi : is.map (fun i => gs[i]?) = gc.map some) (hr0 : ir.map (fun i => gs[i]?) = gr.map some) {ng : Nat} (hn0 : gs.length = ng) (hp : (is ++ ir).Perm (List.range ng)) (hi1 : ∀ u, is.map (fun i => (gs1 u)[i]?) = (g1 u).map some) (hr1 : ∀ u, ir.map (fun i => (gs1 u)[i]?) = gr.map some) (hlen : ∀ u, (gs1 u).length = ng)
    (hr : ∀ (H : Heap) (locs : List Loc) (ls : Array Slot), va_P g.1 vwCl gs.flatten H → va_D (fun _ => True) gc.flatten → (∀ q, va_A gc.flatten H.size q → A q) → va_S A s.heap H locs → lv_has ls nL lv → va_Run p l e R s m args below meth c H locs kc ks mc ms (F0 m pc ls st) rest (QE g rv g1 (va_A gc.flatten H.size) a) (va_A gc.flatten H.size)) (k : ∀ u, WW p l e R s m args below meth c g (va_D A) (va_S A s.heap) nL Q (kc + mc) (ks + ms) lv st1 (gs1 u) (pc + 3)) : WW p l e R s m args below meth c g (va_D A) (va_S A s.heap) nL Q kc ks lv st gs pc := by
  subst hS1
  intro H locs ls hP hD hS hl T hT X
  have hpm := gs_perm hi hr0 (by rw [hn0]; exact hp)
  have hF := gs_free hD hS hA hpm
  obtain ⟨v, st₀, t, T', L, h0, X', hL, e1, e2, ⟨hv, ⟨u, hP1, hD1⟩, hFr⟩, sg⟩ := hr H locs ls hP (gs_part hD hpm) hF hS hl T hT X
  cases hv
  obtain ⟨hz, hk⟩ := hFr
  rw [h0] at hz hk
  have hpm1 := gs_perm (hi1 u) (hr1 u) (by rw [hlen u]; exact hp)
  have hj := gs_join (ws := gs.flatten) (ws1 := (gs1 u).flatten) (H1 := T'.heap) hP hD hpm hpm1 (fun q h1 h2 => by rw [e1]; exact hk q h1 h2) hF (by rw [e1]; exact hP1) hD1
  obtain ⟨t2, a1, b1⟩ := k u T'.heap (locs ++ L) ls hj.1 hj.2 ⟨Nat.le_trans hS.1 (by rw [e1]; exact hz), fun q h1 h2 => by rw [e1, hk q (Nat.lt_of_lt_of_le h1 hS.1) (fun z => h2 (hF q z))]; exact hS.2.1 q h1 h2, fun q hq => (List.mem_append.mp hq).elim (hS.2.2 q) (fun h => hF _ (hL q h))⟩ hl T' rfl X'
  exact ⟨t2, sg t2 a1, b1⟩
/-- a call of one of the law's own methods -/
theorem w_mhS (X : WV p l s m args meth c cc own nL rt g A) {U : Type} {idx : Nat} {As rest st1 : List Value} {gc : List va_W} {g1 : U → List va_W} (gr : List va_W) (gs1 : U → List va_W) {rv : Option Value} {y : MethodName} {cy : ByteArray} {ny kh mc ms : Nat} {ry : Option FieldType} {hh : List (Nat × Nat × Nat × Nat)} (is ir : List Nat) (hM : MMH (U := U) l g y cy ny ry hh kh mc ms As gc rv g1) (hy : CSh y cy ny ry hh As.length) (hlink : Cond.methodLink own idx y ∈ TW) (hst : st = As.reverse ++ rest) (hi : is.map (fun i => gs[i]?) = gc.map some) (hr0 : ir.map (fun i => gs[i]?) = gr.map some) {ng : Nat} (hn0 : gs.length = ng) (hp : (is ++ ir).Perm (List.range ng)) (hi1 : ∀ u, is.map (fun i => (gs1 u)[i]?) = (g1 u).map some) (hr1 : ∀ u, ir.map (fun i => (gs1 u)[i]?) = gr.map some) (hlen : ∀ u, (gs1 u).length = ng) (hR : kh + 1 ≤ R.frames ∧ 8 + (ny + 11) + 32 * kh ≤ R.locals) (hw : (rest.map fun v => v.category).sum ≤ 8) (hf : kc + mc ≤ R.cells ∧ ks + ms ≤ R.slots) (d : decode cc pc = .ok (.invokestatic idx, 3)) (hS1 : rv.toList ++ rest = st1) (k : ∀ u, WW p l e R s m args below meth c g (va_D A) (va_S A s.heap) nL Q (kc + mc) (ks + ms) lv st1 (gs1 u) (pc + 3)) : WW p l e R s m args below meth c g (va_D A) (va_S A s.heap) nL Q kc ks lv st gs pc :=
  w_csF X.2.2.2.2 hS1 hi hr0 hn0 hp hi1 hr1 hlen (fun H locs ls hP hD hF hS hl => vx_runSW (As := As) (rest := rest) X.1.1 (hM H.size) (vx_cwSW As.length X.1.1.2.2.2.2 (gSh hlink hy) rfl rfl rfl hy.1 hR) (px_pre (As := As) X hP hD hF hS hi) rfl rfl hl.1 hst (lv_room hw) d ⟨hf.1, hf.2⟩) k
/-- the law's script -/
theorem w_sld (X : WX p s m args meth c cc own nL rt g) {b L : Nat} {xs : Nat → Int32} (hX : va_X b L xs s s.heap) (hbl : b < s.heap.size) (hbA : ¬ A b) {i : Nat} (hi : i < L) (hL : L < 2 ^ 31) (d : decode cc pc = .ok (.iaload, 1)) (k : WW p l e R s m args below meth c g (va_D A) (va_S A s.heap) nL Q kc ks lv (.int (xs i) :: st) gs (pc + 1)) : WW p l e R s m args below meth c g (va_D A) (va_S A s.heap) nL Q kc ks lv (.int (nI i) :: .ref b :: st) gs pc :=
  fun H locs ls hP hD hS hl => va_sld X.1.1 X.1.2.1 hX hbl hbA hS (vp_in_nI hi hL) d (by rw [nI_clamp (Nat.lt_trans hi hL)]; exact k H locs ls hP hD hS hl)
theorem w_slen (X : WX p s m args meth c cc own nL rt g) {b L : Nat} {xs : Nat → Int32} (hX : va_X b L xs s s.heap) (hbl : b < s.heap.size) (hbA : ¬ A b) (d : decode cc pc = .ok (.arraylength, 1)) (k : WW p l e R s m args below meth c g (va_D A) (va_S A s.heap) nL Q kc ks lv (.int (nI L) :: st) gs (pc + 1)) : WW p l e R s m args below meth c g (va_D A) (va_S A s.heap) nL Q kc ks lv (.ref b :: st) gs pc :=
  fun H locs ls hP hD hS hl => va_slen X.1.1 X.1.2.1 hX hbl hbA hS d (k H locs ls hP hD hS hl)
end WLA
theorem cO_0 {L : List String} {o : OC} (h : oK L o) (hL : L.length ≤ 3) (h0 : nI (cO L o) = 0) : ∃ v, o = rI v := by
  cases o with
  | inl rv =>
    obtain ⟨v, rfl⟩ := h.1 rv rfl
    exact ⟨v, rfl⟩
  | inr E =>
    have hle : L.findIdx (fun x => x == E) ≤ L.length := List.findIdx_le_length
    have := (nI_eq0 (a := L.findIdx (fun x => x == E) + 1) (by omega)).mp h0
    omega
theorem owv_0 {o : OC} {v : Int32} (h : o = rI v) (f : Nat → Int64) : owv o f 0 = (vO o).toInt64 := by
  subst h
  show vp_updL f 0 v.toInt64 0 = v.toInt64
  simp [vp_updL]
/-- the law's world: out, the model, the class -/
abbrev lW (g : GG) (u : Nat → Nat → Nat) (ad : Nat → Nat) (ao : Nat) (f : Nat → Int64) (μ σ τ η : Nat → Nat → Int32) (ζ hσ : Nat → Nat → Nat → Int32) : List va_W := oC g ao f :: moC g ad μ :: xA g u σ τ η ζ hσ
abbrev lvB (b : Nat) (u : Nat → Nat → Nat) (ad : Nat → Nat) (ao i : Nat) : List (Nat × Value) := [(0, .ref b), (1, .ref (u 0 0)), (2, .ref (ad 0)), (3, .ref ao), (4, .int (nI i))]
abbrev hpA (s : State) : Nat → Prop := fun q => s.heap.size ≤ q
def XL (p : Program) (l : Launch) (s : State) (m : MethodId) (meth : Method) (c : Code) (g : GG) (b L : Nat) (xs : Nat → Int32) : Prop := WV p l s m #[.ref b] meth c cL_law RL 9 (some .boolean) g (hpA s) ∧ va_X b L xs s s.heap ∧ b < s.heap.size ∧ L ≤ 2048
abbrev LW (p : Program) (l : Launch) (e : Env) (s : State) (m : MethodId) (below : List Frame) (meth : Method) (c : Code) (g : GG) (b : Nat) (Q : State → Prop) (kc ks : Nat) (lv : List (Nat × Value)) (st : List Value) (gs : List va_W) (pc : Nat) : Prop := WW p l e room_1 s m #[.ref b] below meth c g (va_D (hpA s)) (va_S (hpA s) s.heap) 9 Q kc ks lv st gs pc
def KE (p : Program) (l : Launch) (e : Env) (s : State) (m : MethodId) (below : List Frame) (meth : Method) (c : Code) (g : GG) (b : Nat) (Q : State → Prop) (u : Nat → Nat → Nat) (ad : Nat → Nat) (ao i : Nat) : Prop := ∀ (f : Nat → Int64) (μ σ τ η : Nat → Nat → Int32) (ζ hσ : Nat → Nat → Nat → Int32) (nx sv : Nat) (cd : Nat → Nat) (t : Nat), REL σ τ η hσ μ nx sv cd t → LW p l e s m below meth c g b Q (204 + i) (5020 + 5 * i) (lvB b u ad ao i) [] (lW g u ad ao f μ σ τ η ζ hσ) 1458
section LWS
variable {p : Program} {l : Launch} {e : Env} {s : State} {m : MethodId} {below : List Frame} {meth : Method} {c : Code} {g : GG} {b L : Nat} {xs : Nat → Int32} {Q : State → Prop} {u : Nat → Nat → Nat} {ad : Nat → Nat} {ao i : Nat} {kc ks pc : Nat} {lv : List (Nat × Value)} {st : List Value} {gs : List va_W}
theorem l_arg (X : XL p l s m meth c g b L xs) (j0 j4 k : Nat) (h0 : lv[j0]? = some (0, .ref b)) (h4 : lv[j4]? = some (4, .int (nI i))) (hk : i + k < L) {n : Int} (hn : Int32.ofInt n = nI k) (d0 : decode cL_law pc = .ok (.aload_n 0, 1)) (d1 : decode cL_law (pc + 1) = .ok (.iload 4, 2)) (d3 : decode cL_law (pc + 3) = .ok (.iconst n, 1)) (d4 : decode cL_law (pc + 4) = .ok (.iadd, 1)) (d5 : decode cL_law (pc + 5) = .ok (.iaload, 1)) (K : LW p l e s m below meth c g b Q kc ks lv (.int (xs (i + k)) :: st) gs (pc + 6)) : LW p l e s m below meth c g b Q kc ks lv st gs pc := by
  refine w_aload_n X.1.1 j0 h0 d0 ?_
  refine w_iload X.1.1 j4 h4 d1 ?_
  refine w_iconst X.1.1 (nI k) d3 hn ?_
  refine w_iadd_n X.1.1 d4 ?_
  exact w_sld X.1.1 X.2.1 X.2.2.1 (Nat.not_le.mpr X.2.2.1) hk (Nat.lt_of_le_of_lt X.2.2.2 (by decide)) d5 K
theorem l_bool (X : XL p l s m meth c g b L xs) {x : Int32} (d0 : decode cL_law pc = .ok (.ifCond .eq 7, 3)) (d3 : decode cL_law (pc + 3) = .ok (.iconst 1, 1)) (d4 : decode cL_law (pc + 4) = .ok (.goto 4, 3)) (d7 : decode cL_law (pc + 7) = .ok (.iconst 0, 1)) (K : LW p l e s m below meth c g b Q kc ks lv (.int (bI (nz x)) :: st) gs (pc + 8)) : LW p l e s m below meth c g b Q kc ks lv (.int x :: st) gs pc := by
  refine w_if_eq X.1.1 (pc + 7) d0 (by omega) (fun c1 => ?_) (fun c1 => ?_)
  · refine w_iconst X.1.1 (bI (nz x)) d7 (by rw [nz, if_pos c1]; decide) K
  · refine w_iconst X.1.1 (bI (nz x)) d3 (by rw [nz, if_neg c1]; decide) ?_
    exact w_goto X.1.1 (pc + 8) d4 (by omega) K
/-- what the law does behind both calls: thrown() against the code, out[0] against the answer -/
theorem l_tail (X : XL p l s m meth c g b L xs) {o : OC} {Ls : List String} {f : Nat → Int64} {μ' : Nat → Nat → Int32} {gt : List va_W} {pt : Nat} {off : Int} (h5 : μ' 5 0 = nI (cO Ls o)) (hI : oK Ls o) (hL : Ls.length ≤ 3) (hk : kc ≤ 601024 ∧ ks ≤ 7293034)
    (d0 : decode cL_law pt = .ok (.aload_n 2, 1)) (d1 : decode cL_law (pt + 1) = .ok (.invokevirtual 87, 3)) (d4 : decode cL_law (pt + 4) = .ok (.iload 5, 2)) (d6 : decode cL_law (pt + 6) = .ok (.if_icmp .eq 5, 3)) (d11 : decode cL_law (pt + 11) = .ok (.iload 5, 2)) (d13 : decode cL_law (pt + 13) = .ok (.ifCond .ne 15, 3)) (d16 : decode cL_law (pt + 16) = .ok (.aload_n 3, 1)) (d17 : decode cL_law (pt + 17) = .ok (.iconst 0, 1)) (d18 : decode cL_law (pt + 18) = .ok (.laload, 1)) (d19 : decode cL_law (pt + 19) = .ok (.iload 6, 2)) (d21 : decode cL_law (pt + 21) = .ok (.i2l, 1)) (d22 : decode cL_law (pt + 22) = .ok (.lcmp, 1)) (d23 : decode cL_law (pt + 23) = .ok (.ifCond .eq 5, 3)) (d28 : decode cL_law (pt + 28) = .ok (.goto off, 3)) (ht : ((pt + 28 : Nat) : Int) + off = ((1458 : Nat) : Int))
    (K : LW p l e s m below meth c g b Q kc ks (lvB b u ad ao i) [] (oC g ao (owv o f) :: moC g ad μ' :: gt) 1458) : LW p l e s m below meth c g b Q kc ks ((6, .int (vO o)) :: (5, .int (nI (cO Ls o))) :: lvB b u ad ao i) [] (oC g ao (owv o f) :: moC g ad μ' :: gt) pt := by
  refine w_aload_n X.1.1 4 rfl d0 ?_
  refine w_roV X.1.1 [1] 1 0 (m_X6_thrown l g ad μ') cv_X6_thrown mk_L_87 rfl rfl rfl rfl rfl ⟨Nat.le_of_ble_eq_true rfl, Nat.le_of_ble_eq_true rfl⟩ (Nat.le_of_ble_eq_true rfl) hk d1 rfl ?_
  refine w_iload X.1.1 1 rfl d4 ?_
  refine w_ic_eq X.1.1 (pt + 11) d6 (by omega) (fun c1 => ?_) (fun c1 => absurd h5 c1)
  refine w_iload X.1.1 1 rfl d11 ?_
  refine w_if_ne X.1.1 (pt + 28) d13 (by omega) (fun c2 => ?_) (fun c2 => ?_)
  · refine w_goto X.1.1 1458 d28 ht ?_
    exact w_lv [2, 3, 4, 5, 6] rfl K
  · obtain ⟨v, ho⟩ := cO_0 hI hL c2
    refine w_aload_n X.1.1 5 rfl d16 ?_
    refine w_iconst X.1.1 (nI 0) d17 (by decide +kernel) ?_
    refine w_lald_n X.1.1 0 0 3 rfl rfl rfl (by decide) (by decide) d18 ?_
    refine w_iload X.1.1 0 rfl d19 ?_
    refine w_i2l X.1.1 d21 ?_
    refine w_lcmp X.1.1 d22 ?_
    refine w_if_eq X.1.1 (pt + 28) d23 (by omega) (fun _ => ?_) (fun c3 => absurd ((lg_cmp_eq _ _).mpr (owv_0 ho f)) c3)
    refine w_goto X.1.1 1458 d28 ht ?_
    exact w_lv [2, 3, 4, 5, 6] rfl K
end LWS
