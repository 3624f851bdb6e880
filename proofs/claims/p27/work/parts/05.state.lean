/-! the groups of cells: State, Reach, Returning, Text, History, MarkArenas, MarkArenasModel; a content is a table of rows -/
def stC (g : GG) (ad : Nat → Nat) (σ : Nat → Nat → Int32) : va_W := [(ad 0, .inr (3, [.ref (ad 1), .ref (ad 2), .ref (ad 3), .ref (ad 4), .ref (ad 5), .ref (ad 6), .ref (ad 7), .ref (ad 8), .ref (ad 9), .ref (ad 10), .ref (ad 11), .ref (ad 12), .int (σ 12 0), .int (σ 12 1), .int (σ 12 2), .int (σ 12 3)])), (ad 1, .inl (cZ g, 24, .inl (σ 0))), (ad 2, .inl (cI g, 24, .inl (σ 1))), (ad 3, .inl (cI g, 24, .inl (σ 2))), (ad 4, .inl (cI g, 24, .inl (σ 3))), (ad 5, .inl (cI g, 48, .inl (σ 4))), (ad 6, .inl (cZ g, 24, .inl (σ 5))), (ad 7, .inl (cZ g, 24, .inl (σ 6))), (ad 8, .inl (cI g, 24, .inl (σ 7))), (ad 9, .inl (cZ g, 6, .inl (σ 8))), (ad 10, .inl (cI g, 6, .inl (σ 9))), (ad 11, .inl (cI g, 6, .inl (σ 10))), (ad 12, .inl (cI g, 2, .inl (σ 11)))]
def rcC (g : GG) (ad : Nat → Nat) (ρ : Nat → Nat → Int32) : va_W := [(ad 0, .inr (1, [.ref (ad 1), .ref (ad 2), .ref (ad 3), .int (ρ 3 0)])), (ad 1, .inl (cI g, 24, .inl (ρ 0))), (ad 2, .inl (cI g, 24, .inl (ρ 1))), (ad 3, .inl (cI g, 24, .inl (ρ 2)))]
def rtC (g : GG) (ad : Nat → Nat) (al asu : Nat) (τ : Nat → Nat → Int32) : va_W := [(ad 0, .inr (2, [.ref al, .ref asu, .ref (ad 1)])), (ad 1, .inl (cI g, 24, .inl (τ 0)))]
def txC (g : GG) (ad : Nat → Nat) (τ : Nat → Nat → Int32) : va_W := [(ad 0, .inr (4, [.ref (ad 1), .int (τ 1 0), .int (τ 1 1), .int (τ 1 2), .int (τ 1 3)])), (ad 1, .inl (cI g, 60, .inl (τ 0)))]
def hiC (g : GG) (ad : Nat → Nat) (fa : Nat → Nat) (η : Nat → Nat → Int32) : va_W := [(ad 0, .inr (0, [.ref (ad 1), .int (η 1 0), .int (η 2 0)])), (ad 1, .inl (cS g, 6, .inr (.inr (.inr (.inr (fun i => some (fa i)))))))]
def maC (g : GG) (ad : Nat → Nat) (a1 a2 a3 a4 a5 : Nat) : va_W := [(ad 0, .inr (5, [.ref a1, .ref a2, .ref a3, .ref a4, .ref a5]))]
def moC (g : GG) (ad : Nat → Nat) (μ : Nat → Nat → Int32) : va_W := [(ad 0, .inr (6, [.ref (ad 1), .ref (ad 2), .int (μ 2 0), .ref (ad 3), .int (μ 4 0), .int (μ 5 0), .int (μ 6 0), .int (μ 7 0), .int (μ 8 0), .ref (ad 4), .int (μ 10 0), .ref (ad 5), .ref (ad 6), .int (μ 13 0), .ref (ad 7), .ref (ad 8), .int (μ 16 0)])), (ad 1, .inl (cI g, 240, .inl (μ 0))), (ad 2, .inl (cI g, 1440, .inl (μ 1))), (ad 3, .inl (cI g, 60, .inl (μ 3))), (ad 4, .inl (cI g, 93, .inl (μ 9))), (ad 5, .inl (cI g, 24, .inl (μ 11))), (ad 6, .inl (cI g, 24, .inl (μ 12))), (ad 7, .inl (cZ g, 24, .inl (μ 14))), (ad 8, .inl (cI g, 24, .inl (μ 15)))]
theorem nI_dec {k : Nat} (h : 1 ≤ k) : nI k + Int32.ofInt (-1) = nI (k - 1) := by
  obtain ⟨n, rfl⟩ : ∃ n, k = n + 1 := ⟨k - 1, by omega⟩
  exact pk_m1 n
theorem bI_fit (b : Bool) : fits .boolean (.int (bI b)) = true := by cases b <;> rfl
theorem nar_bI (b : Bool) : vp_nar .boolean (bI b) = bI b := by cases b <;> rfl
theorem nar_raw {x : Int32} (h : x = 0 ∨ x = 1) : vp_nar .boolean x = x := by rcases h with h | h <;> subst h <;> rfl
theorem add_f (x : Int32) : x + bI false = x := by rw [bI_f, nI_0]; simp
theorem add_t (x : Int32) : x + bI true = x + 1 := by rw [bI_t]; rfl
theorem add_n0 (x : Int32) : x + nI 0 = x := by rw [nI_0]; simp
theorem bI_01 (b : Bool) : bI b = 0 ∨ bI b = 1 := by cases b <;> decide
/-- an index: below zero, beyond, or a number in its range -/
theorem ix_of {x : Int32} {n : Nat} (hn : n < 2 ^ 31) (h0 : ¬ x < 0) (h1 : ¬ nI n ≤ x) : ∃ j : Nat, j < n ∧ x = nI j := by
  rcases pk_ix x hn with h | h | h
  · exact absurd h h0
  · exact absurd h h1
  · exact h
theorem ix_lt {x : Int32} {n : Nat} (hn : n < 2 ^ 31) (h0 : ¬ x < 0) (h1 : x < nI n) : ∃ j : Nat, j < n ∧ x = nI j := by
  obtain ⟨j, hj, rfl⟩ := nI_of h0
  exact ⟨j, (nI_ltI hj hn).mp h1, rfl⟩
theorem ix_in {x : Int32} {n : Nat} (hn : n < 2 ^ 31) (h0 : ¬ x < 0) (h1 : ¬ nI n ≤ x) : vp_in x n := by
  obtain ⟨j, hj, rfl⟩ := ix_of hn h0 h1
  exact vp_in_nI hj hn
section WL
variable {p : Program} {l : Launch} {e : Env} {R : Room} {s : State} {m : MethodId} {args : Array Value} {below : List Frame} {meth : Method} {c : Code} {g : GG} {DD : va_W → Prop} {SS : Heap → List Loc → Prop} {nL : Nat} {Q : State → Prop} {kc ks : Nat} {lv : List (Nat × Value)} {st : List Value} {gs : List va_W} {pc : Nat} {cc : ByteArray} {own : String} {rt : Option FieldType} {A : Nat → Prop}
theorem w_loop (X : WX p s m args meth c cc own nL rt g) {V : Type} (μ : V → Nat) (I : V → Prop) (lvf : V → List (Nat × Value)) (gsf : V → List va_W)
    (hs : ∀ v, I v → (∀ v', μ v' < μ v → I v' → WW p l e R s m args below meth c g DD SS nL Q kc ks (lvf v') st (gsf v') pc) → WW p l e R s m args below meth c g DD SS nL Q kc ks (lvf v) st (gsf v) pc) (v : V) (hv : I v) : WW p l e R s m args below meth c g DD SS nL Q kc ks (lvf v) st (gsf v) pc := by
  have key : ∀ (n : Nat) (v : V), μ v < n → I v → WW p l e R s m args below meth c g DD SS nL Q kc ks (lvf v) st (gsf v) pc := by
    intro n
    induction n with
    | zero => intro v h; exact absurd h (Nat.not_lt_zero _)
    | succ n ih => exact fun v h hI => hs v hI (fun v' h' hI' => ih v' (Nat.lt_of_lt_of_le h' (Nat.lt_succ_iff.mp h)) hI')
  exact key (μ v + 1) v (Nat.lt_succ_self _) hv
theorem w_join (X : WX p s m args meth c cc own nL rt g) {V : Type} (pcJ : Nat) (I : V → Prop) (lvf : V → List (Nat × Value)) (stf : V → List Value) (gsf : V → List va_W)
    (h1 : ∀ v, I v → WW p l e R s m args below meth c g DD SS nL Q kc ks (lvf v) (stf v) (gsf v) pcJ) (h2 : (∀ v, I v → WW p l e R s m args below meth c g DD SS nL Q kc ks (lvf v) (stf v) (gsf v) pcJ) → WW p l e R s m args below meth c g DD SS nL Q kc ks lv st gs pc) : WW p l e R s m args below meth c g DD SS nL Q kc ks lv st gs pc := h2 h1
end WL
theorem mk_cpy : Cond.methodLink RX3 49 arraycopyName ∈ TW := tw 288 (by decide +kernel) (by decide +kernel)
theorem cs_cpy : Cond.static arraycopyName ∈ TW ∧ Cond.native arraycopyName ∈ TW ∧ Cond.initialized "java/lang/System" ∈ TW := ⟨tw 289 (by decide +kernel) (by decide +kernel), tw 290 (by decide +kernel) (by decide +kernel), tw 22 (by decide +kernel) (by decide +kernel)⟩
theorem vp_ext {cA : ClassId} {n : Nat} {f f' : Nat → Int32} (h : ∀ j, j < n → f j = f' j) : vp_cell cA (n, .inl f) = vp_cell cA (n, .inl f') := by
  rw [vp_cell_i, vp_cell_i]
  unfold arrV
  congr 1
  congr 1
  funext j
  exact congrArg Value.int (h j.1 j.2)
theorem va_P_re {D : va_G} {cl : List vw_C} {ws : va_W} {H : Heap} {k : Nat} {x x' : Nat × va_E} (h : va_P D cl (ws.set k x) H) (hx : va_at D cl x H → va_at D cl x' H) : va_P D cl (ws.set k x') H := by
  intro i q hq
  rw [List.getElem?_set] at hq
  split at hq
  · split at hq
    · cases hq
      refine hx (h i x ?_)
      rw [List.getElem?_set, if_pos (by assumption), if_pos (by assumption)]
    · cases hq
  · refine h i q ?_
    rw [List.getElem?_set, if_neg (by assumption)]
    exact hq
theorem va_D_re {A : Nat → Prop} {ws : va_W} {k : Nat} {x x' : Nat × va_E} (h : va_D A (ws.set k x)) (hx : x.1 = x'.1) : va_D A (ws.set k x') := by
  rw [va_D_nodup] at h ⊢
  have e : (ws.set k x').map (fun q => q.1) = (ws.set k x).map (fun q => q.1) := by rw [List.map_set, List.map_set, hx]
  rw [e]
  refine ⟨h.1, fun q hq => ?_⟩
  have hm : q.1 ∈ (ws.set k x).map (fun q => q.1) := by rw [← e]; exact List.mem_map.mpr ⟨q, hq, rfl⟩
  obtain ⟨z, hz, hzq⟩ := List.mem_map.mp hm
  rw [← hzq]
  exact h.2 z hz
/-- a contract whose world is known but for what u tells -/
def QE {U : Type} (g : GG) (rv : Option Value) (g1 : U → List va_W) (A : Nat → Prop) : Array Value → State → Outcome → State → Prop := fun _ st oc t => oc = .returned rv ∧ (∃ u : U, va_P g.1 vwCl (g1 u).flatten t.heap ∧ va_D A (g1 u).flatten) ∧ va_F A st t
abbrev MME {U : Type} (l : Launch) (g : GG) (y : MethodName) (cc : ByteArray) (n : Nat) (r : Option FieldType) (k mc ms : Nat) (As : List Value) (gc : List va_W) (rv : Option Value) (g1 : U → List va_W) : Prop :=
  ∀ sz : Nat, Met l y (WSy y cc n r) (RM k mc ms) (va_Pc As (fun U => U.heap.size = sz ∧ va_P g.1 vwCl gc.flatten U.heap ∧ va_D (fun _ => True) gc.flatten ∧ EV g U)) (QE g rv g1 (va_A gc.flatten sz)) mc ms (va_A gc.flatten sz)
section WC
variable {p : Program} {l : Launch} {e : Env} {R : Room} {s : State} {m : MethodId} {args : Array Value} {below : List Frame} {meth : Method} {c : Code} {g : GG} {DD : va_W → Prop} {SS : Heap → List Loc → Prop} {nL : Nat} {Q : State → Prop} {kc ks : Nat} {lv : List (Nat × Value)} {st : List Value} {gs : List va_W} {pc : Nat} {cc : ByteArray} {own : String} {rt : Option FieldType} {A : Nat → Prop}
/-- System.arraycopy of a whole row: the other array holds what the first one holds -/
theorem w_cpy (X : WX p s m args meth c cc own nL rt g) (gi0 gj0 gi1 gj1 t0 : Nat) {G0 G1 G' : va_W} {a0 a n : Nat} {cA : ClassId} {f h : Nat → Int32} {ty : FieldType} {index : Nat} (hlink : Cond.methodLink own index arraycopyName ∈ TW)
    (hG0 : gs[gi0]? = some G0) (hj0 : G0[gj0]? = some (a0, .inl (cA, n, .inl f))) (hG1 : gs[gi1]? = some G1) (hj1 : G1[gj1]? = some (a, .inl (cA, n, .inl h))) (ht : (tyL g)[t0]? = some (cA, ty)) (hpr : refKind ty = false) (hn : n < 2 ^ 31) (hfit : ∀ i, i < n → fits ty (.int (f i)) = true)
    (hfr : 1 ≤ R.frames) (hlo : (st.map fun v => v.category).sum + (nativeFrameWords "java/lang/System" "arraycopy" 5 + 11) ≤ R.locals) (hG' : G1.set gj1 (a, .inl (cA, n, .inl f)) = G') (d : decode cc pc = .ok (.invokestatic index, 3))
    (kk : WW p l e R s m args below meth c g (va_D A) (va_S A s.heap) nL Q kc ks lv st (gs.set gi1 G') (pc + 3)) : WW p l e R s m args below meth c g (va_D A) (va_S A s.heap) nL Q kc ks lv (.int (nI n) :: .int (nI 0) :: .ref a :: .int (nI 0) :: .ref a0 :: st) gs pc := by
  intro H locs ls hP hD hS hl
  subst hG'
  have hj2 : gj1 < G1.length := (List.getElem?_eq_some_iff.mp hj1).1
  have z0 : (nI 0).toNatClampNeg = 0 := nI_clamp (by decide)
  have zn : (nI n).toNatClampNeg = n := nI_clamp hn
  refine va_copyi X.1.1 X.1.2.1 (X.1.2.2.1.trans hl.1.symm) X.1.2.2.2.1 (X.1.2.2.2.2 _ hlink) (X.1.2.2.2.2 _ cs_cpy.2.1) (X.1.2.2.2.2 _ cs_cpy.1) (X.1.2.2.2.2 _ cs_cpy.2.2) X.2.1.1 hP hD hS _ _ t0 t0 (fl_lt gs gi0 G0 hG0 gj0 _ hj0) (fl_lt gs gi1 G1 hG1 gj1 _ hj1) ht ht hpr (nI_pos (by decide)) (nI_pos (by decide)) (nI_pos hn) (by rw [z0, zn]; omega) (by rw [z0, zn]; omega) (fun i hi => by rw [zn] at hi; rw [z0, Nat.zero_add]; exact hfit i hi) hfr hlo d (fun H1 locs1 hP1 hD1 hS1 => ?_)
  have hP2 := va_P_re (x' := (a, .inl (cA, n, .inl f))) hP1 (fun q => by
    show H1[a]? = some (vp_cell cA (n, .inl f))
    rw [← vp_ext (f := va_cpy f h (nI 0).toNatClampNeg (nI 0).toNatClampNeg (nI n).toNatClampNeg) (fun j hj => by rw [z0, zn, pk_cpy_in (Nat.zero_le _) (by omega)]; congr 1; omega)]
    exact q)
  have hD2 := va_D_re (x' := (a, .inl (cA, n, .inl f))) hD1 rfl
  rw [fl_set gs gi1 G1 hG1 gj1 _ hj2] at hP2 hD2
  exact kk H1 locs1 ls hP2 hD2 hS1 hl
theorem w_csE {U : Type} {a : Array Value} {rest st1 : List Value} {rv : Option Value} {gc gr : List va_W} {g1 gs1 : U → List va_W} {is ir : List Nat} {mc ms : Nat} (hA : ∀ q, s.heap.size ≤ q → A q) (hS1 : rv.toList ++ rest = st1) (hi : is.map (fun i => gs[i]?) = gc.map some) (hr0 : ir.map (fun i => gs[i]?) = gr.map some) {ng : Nat} (hn0 : gs.length = ng) (hp : (is ++ ir).Perm (List.range ng)) (hi1 : ∀ u, is.map (fun i => (gs1 u)[i]?) = (g1 u).map some) (hr1 : ∀ u, ir.map (fun i => (gs1 u)[i]?) = gr.map some) (hlen : ∀ u, (gs1 u).length = ng)
    (hr : ∀ (H : Heap) (locs : List Loc) (ls : Array Slot), va_P g.1 vwCl gs.flatten H → va_D (fun _ => True) gc.flatten → lv_has ls nL lv → va_Run p l e R s m args below meth c H locs kc ks mc ms (F0 m pc ls st) rest (QE g rv g1 (va_A gc.flatten H.size) a) (va_A gc.flatten H.size)) (k : ∀ u, WW p l e R s m args below meth c g (va_D A) (va_S A s.heap) nL Q (kc + mc) (ks + ms) lv st1 (gs1 u) (pc + 3)) : WW p l e R s m args below meth c g (va_D A) (va_S A s.heap) nL Q kc ks lv st gs pc := by
  subst hS1
  intro H locs ls hP hD hS hl T hT X
  have hpm := gs_perm hi hr0 (by rw [hn0]; exact hp)
  have hF := gs_free hD hS hA hpm
  obtain ⟨v, st₀, t, T', L, h0, X', hL, e1, e2, ⟨hv, ⟨u, hP1, hD1⟩, hFr⟩, sg⟩ := hr H locs ls hP (gs_part hD hpm) hl T hT X
  cases hv
  obtain ⟨hz, hk⟩ := hFr
  rw [h0] at hz hk
  have hpm1 := gs_perm (hi1 u) (hr1 u) (by rw [hlen u]; exact hp)
  have hj := gs_join (ws := gs.flatten) (ws1 := (gs1 u).flatten) (H1 := T'.heap) hP hD hpm hpm1 (fun q h1 h2 => by rw [e1]; exact hk q h1 h2) hF (by rw [e1]; exact hP1) hD1
  obtain ⟨t2, a1, b1⟩ := k u T'.heap (locs ++ L) ls hj.1 hj.2 ⟨Nat.le_trans hS.1 (by rw [e1]; exact hz), fun q h1 h2 => by rw [e1, hk q (Nat.lt_of_lt_of_le h1 hS.1) (fun z => h2 (hF q z))]; exact hS.2.1 q h1 h2, fun q hq => (List.mem_append.mp hq).elim (hS.2.2 q) (fun h => hF _ (hL q h))⟩ hl T' rfl X'
  exact ⟨t2, sg t2 a1, b1⟩
theorem w_meV (X : WX p s m args meth c cc own nL rt g) (hA : ∀ q, s.heap.size ≤ q → A q) {U : Type} {As rest st1 : List Value} {gc : List va_W} {g1 : U → List va_W} (gr : List va_W) (gs1 : U → List va_W) {rv : Option Value} {y : MethodName} {cy : ByteArray} {ny kh mc ms : Nat} {ry : Option FieldType} (is ir : List Nat) {b idx : Nat} (gi gj : Nat) (hM : MME l g y cy ny ry kh mc ms (.ref b :: As) gc rv g1) {C : String} {T : u_T} {G : va_W} {ci N : Nat} {fs : List Value} (hy : CV C y cy ny ry As.length) (hlink : Cond.methodLink own idx y ∈ TW) (hst : st = As.reverse ++ .ref b :: rest) (hi : is.map (fun i => gs[i]?) = gc.map some) (hr0 : ir.map (fun i => gs[i]?) = gr.map some) {ng : Nat} (hn0 : gs.length = ng) (hp : (is ++ ir).Perm (List.range ng)) (hi1 : ∀ u, is.map (fun i => (gs1 u)[i]?) = (g1 u).map some) (hr1 : ∀ u, ir.map (fun i => (gs1 u)[i]?) = gr.map some) (hlen : ∀ u, (gs1 u).length = ng) (hG : gs[gi]? = some G) (hj : G[gj]? = some (b, .inr (ci, fs))) (hc : vwCl[ci]? = some (C, T, N)) (hR : kh + 1 ≤ R.frames ∧ 8 + (ny + 11) + 32 * kh ≤ R.locals) (hw : (rest.map fun v => v.category).sum ≤ 8) (hf : kc + mc ≤ R.cells ∧ ks + ms ≤ R.slots) (d : decode cc pc = .ok (.invokevirtual idx, 3)) (hS1 : rv.toList ++ rest = st1) (k : ∀ u, WW p l e R s m args below meth c g (va_D A) (va_S A s.heap) nL Q (kc + mc) (ks + ms) lv st1 (gs1 u) (pc + 3)) : WW p l e R s m args below meth c g (va_D A) (va_S A s.heap) nL Q kc ks lv st gs pc :=
  w_csE hA hS1 hi hr0 hn0 hp hi1 hr1 hlen (fun H locs ls hP hD hl => va_runV (As := As) (rest := rest) X.1 (hM H.size) (cwV As.length X.1.2.2.2.2 (gV hlink hy) rfl rfl rfl hy.1 hR) ⟨(mu_pre (As := .ref b :: As) X.2.1 hP hD hi).1, va_recv X.2.1.1 hP hc (fl_lt gs gi G hG gj _ hj), (mu_pre (As := .ref b :: As) X.2.1 hP hD hi).2⟩ rfl rfl hl.1 hst (lv_room hw) d ⟨hf.1, hf.2⟩) k
theorem w_iret_me (X : WX p s m args meth c cc own nL (some .int) g) {U : Type} {v w : Int32} {g1 : U → List va_W} {mc ms : Nat} (u : U) (h : v = w) (hg : gs = g1 u) (hkc : kc ≤ mc) (hks : ks ≤ ms) (d : decode cc pc = .ok (.ireturn, 1)) : WW p l e R s m args below meth c g (va_D A) (va_S A s.heap) nL (MQ below (QE g (some (.int w)) g1 A) args s mc ms A) kc ks lv [.int v] gs pc := by
  subst h
  subst hg
  intro H locs ls hP hD hS hl
  refine W.widen hkc hks ?_
  exact W.iret X.1.1 X.1.2.1 X.2.2.1 (fun t ht hW => ⟨rfl, ⟨u, by rw [ht]; exact hP, hD⟩, hS.F ht⟩) hS.2.2 d X.2.2.2
theorem w_zret_me (X : WX p s m args meth c cc own nL (some .boolean) g) {U : Type} {v w : Int32} {g1 : U → List va_W} {mc ms : Nat} (u : U) (h : v = w) (hg : gs = g1 u) (hkc : kc ≤ mc) (hks : ks ≤ ms) (hn : narrow .boolean (.int v) = .int v) (d : decode cc pc = .ok (.ireturn, 1)) : WW p l e R s m args below meth c g (va_D A) (va_S A s.heap) nL (MQ below (QE g (some (.int w)) g1 A) args s mc ms A) kc ks lv [.int v] gs pc := by
  subst h
  subst hg
  intro H locs ls hP hD hS hl
  refine W.widen hkc hks ?_
  exact W.zret X.1.1 X.1.2.1 X.2.2.1 hn (fun t ht hW => ⟨rfl, ⟨u, by rw [ht]; exact hP, hD⟩, hS.F ht⟩) hS.2.2 d X.2.2.2
theorem w_lret_me (X : WX p s m args meth c cc own nL (some .long) g) {U : Type} {v w : Int64} {g1 : U → List va_W} {mc ms : Nat} (u : U) (h : v = w) (hg : gs = g1 u) (hkc : kc ≤ mc) (hks : ks ≤ ms) (d : decode cc pc = .ok (.lreturn, 1)) : WW p l e R s m args below meth c g (va_D A) (va_S A s.heap) nL (MQ below (QE g (some (.long w)) g1 A) args s mc ms A) kc ks lv [.long v] gs pc := by
  subst h
  subst hg
  intro H locs ls hP hD hS hl
  refine W.widen hkc hks ?_
  exact W.lret X.1.1 X.1.2.1 X.2.2.1 (fun t ht hW => ⟨rfl, ⟨u, by rw [ht]; exact hP, hD⟩, hS.F ht⟩) hS.2.2 d X.2.2.2
theorem w_dret_me (X : WX p s m args meth c cc own nL (some .double) g) {U : Type} {v w : UInt64} {g1 : U → List va_W} {mc ms : Nat} (u : U) (h : v = w) (hg : gs = g1 u) (hkc : kc ≤ mc) (hks : ks ≤ ms) (d : decode cc pc = .ok (.dreturn, 1)) : WW p l e R s m args below meth c g (va_D A) (va_S A s.heap) nL (MQ below (QE g (some (.double w)) g1 A) args s mc ms A) kc ks lv [.double v] gs pc := by
  subst h
  subst hg
  intro H locs ls hP hD hS hl
  refine W.widen hkc hks ?_
  exact W.dret X.1.1 X.1.2.1 X.2.2.1 (fun t ht hW => ⟨rfl, ⟨u, by rw [ht]; exact hP, hD⟩, hS.F ht⟩) hS.2.2 d X.2.2.2
theorem w_vret_me (X : WX p s m args meth c cc own nL (none) g) {U : Type} {g1 : U → List va_W} {mc ms : Nat} (u : U) (hg : gs = g1 u) (hkc : kc ≤ mc) (hks : ks ≤ ms) (d : decode cc pc = .ok (.return_, 1)) : WW p l e R s m args below meth c g (va_D A) (va_S A s.heap) nL (MQ below (QE g none g1 A) args s mc ms A) kc ks lv [] gs pc := by
  subst hg
  intro H locs ls hP hD hS hl
  refine W.widen hkc hks ?_
  exact W.vret X.1.1 X.1.2.1 X.2.2.1 (fun t ht hW => ⟨rfl, ⟨u, by rw [ht]; exact hP, hD⟩, hS.F ht⟩) hS.2.2 d X.2.2.2
end WC
theorem mk_me {U : Type} {l : Launch} {g : GG} {y : MethodName} {cc : ByteArray} {n : Nat} {r : Option FieldType} {k mc ms : Nat} {As : List Value} {gc : List va_W} {rv : Option Value} {g1 : U → List va_W} (hy : plainName y.cls = true) (hn : (lg_sl As).length ≤ n)
    (body : ∀ (p : Program) (e : Env) (s : State) (m : MethodId) (below : List Frame) (meth : Method) (c : Code) (A : Nat → Prop), (∀ q, s.heap.size ≤ q → A q) → WX p s m As.toArray meth c cc y.cls n r g → WW p l e (RM k mc ms) s m As.toArray below meth c g (va_D A) (va_S A s.heap) n (MQ below (QE g rv g1 A) As.toArray s mc ms A) 0 0 (lv_args 0 As) [] gc 0) : MME l g y cc n r k mc ms As gc rv g1 := by
  intro sz
  refine Met.ofW (cc := cc) (maxL := n) (ret := r) hy rfl ?_
  intro p e s m args below meth c s₁ B hml hv
  obtain ⟨rfl, hsz, hP, hD0, hE⟩ := hv
  subst hsz
  have hts := atoms_spec (ws := WSy y cc n r) B.pre
  have b := body p e s m below meth c (va_A gc.flatten s.heap.size) (fun q h => Or.inr h) ⟨⟨B.exec, B.bytes, hml, findClass_of_methodNamed B.named, fun w hw => hts w (List.mem_cons_of_mem _ hw)⟩, hE, B.returns, B.notSynchronized⟩
  have hl := lv_entry As (n := n) hn
  rw [lg_entry_eq]
  exact b s.heap [] _ hP hD0.self va_S.rf hl
theorem nk_X5_18 : (RX5, 18, yX2_init, RX5) ∈ nestL := by decide +kernel
theorem nk_X5_25 : (RX5, 25, yX1_init, RX5) ∈ nestL := by decide +kernel
theorem nk_X5_32 : (RX5, 32, yX4_init, RX5) ∈ nestL := by decide +kernel
theorem nk_X2_11 : (RX2, 11, yX1_init, RX5) ∈ nestL := by decide +kernel
theorem nk_X2_64 : (RX2, 64, yX5_isArena, RX5) ∈ nestL := by decide +kernel
theorem nk_X2_107 : (RX2, 107, yX5_isNumber, RX5) ∈ nestL := by decide +kernel
theorem nk_X3_68 : (RX3, 68, yX5_isArena, RX5) ∈ nestL := by decide +kernel
theorem nk_X3_72 : (RX3, 72, yX5_isNumber, RX5) ∈ nestL := by decide +kernel
theorem nk_X3_91 : (RX3, 91, yX5_oneIf, RX5) ∈ nestL := by decide +kernel
