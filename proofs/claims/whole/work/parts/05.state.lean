/-! the groups of cells: State, Reach, Returning, Text, History, MarkArenas, MarkArenasModel; a content is a table of rows -/
def stC (g : GG) (ad : Nat → Nat) (σ : Nat → Nat → Int32) : va_W := [(ad 0, .inr (3, [.ref (ad 1), .ref (ad 2), .ref (ad 3), .ref (ad 4), .ref (ad 5), .ref (ad 6), .ref (ad 7), .ref (ad 8), .ref (ad 9), .ref (ad 10), .ref (ad 11), .ref (ad 12), .int (σ 12 0), .int (σ 12 1), .int (σ 12 2), .int (σ 12 3)])), (ad 1, .inl (cZ g, 24, .inl (σ 0))), (ad 2, .inl (cI g, 24, .inl (σ 1))), (ad 3, .inl (cI g, 24, .inl (σ 2))), (ad 4, .inl (cI g, 24, .inl (σ 3))), (ad 5, .inl (cI g, 48, .inl (σ 4))), (ad 6, .inl (cZ g, 24, .inl (σ 5))), (ad 7, .inl (cZ g, 24, .inl (σ 6))), (ad 8, .inl (cI g, 24, .inl (σ 7))), (ad 9, .inl (cZ g, 6, .inl (σ 8))), (ad 10, .inl (cI g, 6, .inl (σ 9))), (ad 11, .inl (cI g, 6, .inl (σ 10))), (ad 12, .inl (cI g, 2, .inl (σ 11)))]
def rcC (g : GG) (ad : Nat → Nat) (ρ : Nat → Nat → Int32) : va_W := [(ad 0, .inr (1, [.ref (ad 1), .ref (ad 2), .ref (ad 3), .int (ρ 3 0)])), (ad 1, .inl (cI g, 24, .inl (ρ 0))), (ad 2, .inl (cI g, 24, .inl (ρ 1))), (ad 3, .inl (cI g, 24, .inl (ρ 2)))]
def rtC (g : GG) (ad : Nat → Nat) (al asu : Nat) (τ : Nat → Nat → Int32) : va_W := [(ad 0, .inr (2, [.ref al, .ref asu, .ref (ad 1)])), (ad 1, .inl (cI g, 24, .inl (τ 0)))]
def txC (g : GG) (ad : Nat → Nat) (τ : Nat → Nat → Int32) : va_W := [(ad 0, .inr (4, [.ref (ad 1), .int (τ 1 0), .int (τ 1 1), .int (τ 1 2), .int (τ 1 3)])), (ad 1, .inl (cI g, 60, .inl (τ 0)))]
def hiC (g : GG) (ad : Nat → Nat) (fa : Nat → Nat) (η : Nat → Nat → Int32) : va_W := [(ad 0, .inr (0, [.ref (ad 1), .int (η 1 0), .int (η 2 0)])), (ad 1, .inl (cS g, 6, .inr (.inr (.inr (.inr (fun i => some (fa i)))))))]
def maC (g : GG) (am a1 a2 a3 a4 a5 : Nat) : va_W := [(am, .inr (5, [.ref a1, .ref a2, .ref a3, .ref a4, .ref a5]))]
def moC (g : GG) (ad : Nat → Nat) (μ : Nat → Nat → Int32) : va_W := [(ad 0, .inr (6, [.ref (ad 1), .ref (ad 2), .int (μ 2 0), .ref (ad 3), .int (μ 4 0), .int (μ 5 0), .int (μ 6 0), .int (μ 7 0), .int (μ 8 0), .ref (ad 4), .int (μ 10 0), .ref (ad 5), .ref (ad 6), .int (μ 13 0), .ref (ad 7), .ref (ad 8), .int (μ 16 0)])), (ad 1, .inl (cI g, 240, .inl (μ 0))), (ad 2, .inl (cI g, 1440, .inl (μ 1))), (ad 3, .inl (cI g, 60, .inl (μ 3))), (ad 4, .inl (cI g, 93, .inl (μ 9))), (ad 5, .inl (cI g, 24, .inl (μ 11))), (ad 6, .inl (cI g, 24, .inl (μ 12))), (ad 7, .inl (cZ g, 24, .inl (μ 14))), (ad 8, .inl (cI g, 24, .inl (μ 15)))]
theorem nI_dec {k : Nat} (h : 1 ≤ k) : nI k + Int32.ofInt (-1) = nI (k - 1) := by
  obtain ⟨n, rfl⟩ : ∃ n, k = n + 1 := ⟨k - 1, by omega⟩
  exact pk_m1 n
theorem bI_fit (b : Bool) : fits .boolean (.int (bI b)) = true := by cases b <;> rfl
theorem nar_bI (b : Bool) : vp_nar .boolean (bI b) = bI b := by cases b <;> rfl
theorem nar_raw {x : Int32} (h : x = 0 ∨ x = 1) : vp_nar .boolean x = x := by rcases h with h | h <;> subst h <;> rfl
theorem add_f (x : Int32) : x + bI false = x := by rw [bI_f, nI_0]; simp
theorem add_t (x : Int32) : x + bI true = x + 1 := by rw [bI_t]; rfl
theorem add_n0 (x : Int32) : x + nI 0 = x := by rw [nI_0]; simp
theorem bI_01 (b : Bool) : bI b = 0 ∨ bI b = 1 := by cases b <;> decide
/-- an index: below zero, beyond, or a number in its range -/
theorem ix_of {x : Int32} {n : Nat} (hn : n < 2 ^ 31) (h0 : ¬ x < 0) (h1 : ¬ nI n ≤ x) : ∃ j : Nat, j < n ∧ x = nI j := by
  rcases pk_ix x hn with h | h | h
  · exact absurd h h0
  · exact absurd h h1
  · exact h
theorem ix_lt {x : Int32} {n : Nat} (hn : n < 2 ^ 31) (h0 : ¬ x < 0) (h1 : x < nI n) : ∃ j : Nat, j < n ∧ x = nI j := by
  obtain ⟨j, hj, rfl⟩ := nI_of h0
  exact ⟨j, (nI_ltI hj hn).mp h1, rfl⟩
theorem ix_in {x : Int32} {n : Nat} (hn : n < 2 ^ 31) (h0 : ¬ x < 0) (h1 : ¬ nI n ≤ x) : vp_in x n := by
  obtain ⟨j, hj, rfl⟩ := ix_of hn h0 h1
  exact vp_in_nI hj hn
section WL
variable {p : Program} {l : Launch} {e : Env} {R : Room} {s : State} {m : MethodId} {args : Array Value} {below : List Frame} {meth : Method} {c : Code} {g : GG} {DD : va_W → Prop} {SS : Heap → List Loc → Prop} {nL : Nat} {Q : State → Prop} {kc ks : Nat} {lv : List (Nat × Value)} {st : List Value} {gs : List va_W} {pc : Nat} {cc : ByteArray} {own : String} {rt : Option FieldType} {A : Nat → Prop}
theorem w_loop (X : WX p s m args meth c cc own nL rt g) {V : Type} (μ : V → Nat) (I : V → Prop) (lvf : V → List (Nat × Value)) (gsf : V → List va_W)
    (hs : ∀ v, I v → (∀ v', μ v' < μ v → I v' → WW p l e R s m args below meth c g DD SS nL Q kc ks (lvf v') st (gsf v') pc) → WW p l e R s m args below meth c g DD SS nL Q kc ks (lvf v) st (gsf v) pc) (v : V) (hv : I v) : WW p l e R s m args below meth c g DD SS nL Q kc ks (lvf v) st (gsf v) pc := by
  have key : ∀ (n : Nat) (v : V), μ v < n → I v → WW p l e R s m args below meth c g DD SS nL Q kc ks (lvf v) st (gsf v) pc := by
    intro n
    induction n with
    | zero => intro v h; exact absurd h (Nat.not_lt_zero _)
    | succ n ih => exact fun v h hI => hs v hI (fun v' h' hI' => ih v' (Nat.lt_of_lt_of_le h' (Nat.lt_succ_iff.mp h)) hI')
  exact key (μ v + 1) v (Nat.lt_succ_self _) hv
theorem w_join (X : WX p s m args meth c cc own nL rt g) {V : Type} (pcJ : Nat) (I : V → Prop) (lvf : V → List (Nat × Value)) (stf : V → List Value) (gsf : V → List va_W)
    (h1 : ∀ v, I v → WW p l e R s m args below meth c g DD SS nL Q kc ks (lvf v) (stf v) (gsf v) pcJ) (h2 : (∀ v, I v → WW p l e R s m args below meth c g DD SS nL Q kc ks (lvf v) (stf v) (gsf v) pcJ) → WW p l e R s m args below meth c g DD SS nL Q kc ks lv st gs pc) : WW p l e R s m args below meth c g DD SS nL Q kc ks lv st gs pc := h2 h1
end WL
theorem mk_cpy : Cond.methodLink RX3 49 arraycopyName ∈ TW := tw 586 (by decide +kernel) (by decide +kernel)
theorem cs_cpy : Cond.static arraycopyName ∈ TW ∧ Cond.native arraycopyName ∈ TW ∧ Cond.initialized "java/lang/System" ∈ TW := ⟨tw 587 (by decide +kernel) (by decide +kernel), tw 588 (by decide +kernel) (by decide +kernel), tw 73 (by decide +kernel) (by decide +kernel)⟩
theorem vp_ext {cA : ClassId} {n : Nat} {f f' : Nat → Int32} (h : ∀ j, j < n → f j = f' j) : vp_cell cA (n, .inl f) = vp_cell cA (n, .inl f') := by
  rw [vp_cell_i, vp_cell_i]
  unfold arrV
  congr 1
  congr 1
  funext j
  exact congrArg Value.int (h j.1 j.2)
theorem va_P_re {D : va_G} {cl : List vw_C} {ws : va_W} {H : Heap} {k : Nat} {x x' : Nat × va_E} (h : va_P D cl (ws.set k x) H) (hx : va_at D cl x H → va_at D cl x' H) : va_P D cl (ws.set k x') H := by
  intro i q hq
  rw [List.getElem?_set] at hq
  split at hq
  · split at hq
    · cases hq
      refine hx (h i x ?_)
      rw [List.getElem?_set, if_pos (by assumption), if_pos (by assumption)]
    · cases hq
  · refine h i q ?_
    rw [List.getElem?_set, if_neg (by assumption)]
    exact hq
theorem va_D_re {A : Nat → Prop} {ws : va_W} {k : Nat} {x x' : Nat × va_E} (h : va_D A (ws.set k x)) (hx : x.1 = x'.1) : va_D A (ws.set k x') := by
  rw [va_D_nodup] at h ⊢
  have e : (ws.set k x').map (fun q => q.1) = (ws.set k x).map (fun q => q.1) := by rw [List.map_set, List.map_set, hx]
  rw [e]
  refine ⟨h.1, fun q hq => ?_⟩
  have hm : q.1 ∈ (ws.set k x).map (fun q => q.1) := by rw [← e]; exact List.mem_map.mpr ⟨q, hq, rfl⟩
  obtain ⟨z, hz, hzq⟩ := List.mem_map.mp hm
  rw [← hzq]
  exact h.2 z hz
section WC
variable {p : Program} {l : Launch} {e : Env} {R : Room} {s : State} {m : MethodId} {args : Array Value} {below : List Frame} {meth : Method} {c : Code} {g : GG} {DD : va_W → Prop} {SS : Heap → List Loc → Prop} {nL : Nat} {Q : State → Prop} {kc ks : Nat} {lv : List (Nat × Value)} {st : List Value} {gs : List va_W} {pc : Nat} {cc : ByteArray} {own : String} {rt : Option FieldType} {A : Nat → Prop}
/-- System.arraycopy of a whole row: the other array holds what the first one holds -/
theorem w_cpy (X : WX p s m args meth c cc own nL rt g) (gi0 gj0 gi1 gj1 t0 : Nat) {G0 G1 G' : va_W} {a0 a n : Nat} {cA : ClassId} {f h : Nat → Int32} {ty : FieldType} {index : Nat} (hlink : Cond.methodLink own index arraycopyName ∈ TW)
    (hG0 : gs[gi0]? = some G0) (hj0 : G0[gj0]? = some (a0, .inl (cA, n, .inl f))) (hG1 : gs[gi1]? = some G1) (hj1 : G1[gj1]? = some (a, .inl (cA, n, .inl h))) (ht : (tyL g)[t0]? = some (cA, ty)) (hpr : refKind ty = false) (hn : n < 2 ^ 31) (hfit : ∀ i, i < n → fits ty (.int (f i)) = true)
    (hfr : 1 ≤ R.frames) (hlo : (st.map fun v => v.category).sum + (nativeFrameWords "java/lang/System" "arraycopy" 5 + 11) ≤ R.locals) (hG' : G1.set gj1 (a, .inl (cA, n, .inl f)) = G') (d : decode cc pc = .ok (.invokestatic index, 3))
    (kk : WW p l e R s m args below meth c g (va_D A) (va_S A s.heap) nL Q kc ks lv st (gs.set gi1 G') (pc + 3)) : WW p l e R s m args below meth c g (va_D A) (va_S A s.heap) nL Q kc ks lv (.int (nI n) :: .int (nI 0) :: .ref a :: .int (nI 0) :: .ref a0 :: st) gs pc := by
  intro H locs ls hP hD hS hl
  subst hG'
  have hj2 : gj1 < G1.length := (List.getElem?_eq_some_iff.mp hj1).1
  have z0 : (nI 0).toNatClampNeg = 0 := nI_clamp (by decide)
  have zn : (nI n).toNatClampNeg = n := nI_clamp hn
  refine va_copyi X.1.1 X.1.2.1 (X.1.2.2.1.trans hl.1.symm) X.1.2.2.2.1 (X.1.2.2.2.2 _ hlink) (X.1.2.2.2.2 _ cs_cpy.2.1) (X.1.2.2.2.2 _ cs_cpy.1) (X.1.2.2.2.2 _ cs_cpy.2.2) X.2.1.1 hP hD hS _ _ t0 t0 (fl_lt gs gi0 G0 hG0 gj0 _ hj0) (fl_lt gs gi1 G1 hG1 gj1 _ hj1) ht ht hpr (nI_pos (by decide)) (nI_pos (by decide)) (nI_pos hn) (by rw [z0, zn]; omega) (by rw [z0, zn]; omega) (fun i hi => by rw [zn] at hi; rw [z0, Nat.zero_add]; exact hfit i hi) hfr hlo d (fun H1 locs1 hP1 hD1 hS1 => ?_)
  have hP2 := va_P_re (x' := (a, .inl (cA, n, .inl f))) hP1 (fun q => by
    show H1[a]? = some (vp_cell cA (n, .inl f))
    rw [← vp_ext (f := va_cpy f h (nI 0).toNatClampNeg (nI 0).toNatClampNeg (nI n).toNatClampNeg) (fun j hj => by rw [z0, zn, pk_cpy_in (Nat.zero_le _) (by omega)]; congr 1; omega)]
    exact q)
  have hD2 := va_D_re (x' := (a, .inl (cA, n, .inl f))) hD1 rfl
  rw [fl_set gs gi1 G1 hG1 gj1 _ hj2] at hP2 hD2
  exact kk H1 locs1 ls hP2 hD2 hS1 hl
end WC
theorem nk_X5_18 : (RX5, 18, yX2_init, RX5) ∈ nestL := by decide +kernel
theorem nk_X5_25 : (RX5, 25, yX1_init, RX5) ∈ nestL := by decide +kernel
theorem nk_X5_32 : (RX5, 32, yX4_init, RX5) ∈ nestL := by decide +kernel
theorem nk_X2_11 : (RX2, 11, yX1_init, RX5) ∈ nestL := by decide +kernel
theorem nk_X2_64 : (RX2, 64, yX5_isArena, RX5) ∈ nestL := by decide +kernel
theorem nk_X2_107 : (RX2, 107, yX5_isNumber, RX5) ∈ nestL := by decide +kernel
theorem nk_X3_68 : (RX3, 68, yX5_isArena, RX5) ∈ nestL := by decide +kernel
theorem nk_X3_72 : (RX3, 72, yX5_isNumber, RX5) ∈ nestL := by decide +kernel
theorem nk_X3_91 : (RX3, 91, yX5_oneIf, RX5) ∈ nestL := by decide +kernel
