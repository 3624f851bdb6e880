/-! the layer WW: a method's frame by its locals, its stack, the groups of its cells and its place; each row turns a WW into the WW of the next place -/
def TW : List Cond := lw_tbl.filter goodWord
theorem tw {w : Cond} (i : Nat) (h : lw_tbl[i]? = some w) (g : goodWord w = true) : w ∈ TW := List.mem_filter.mpr ⟨List.mem_of_getElem? h, g⟩
theorem tw_in {ws : List Cond} (h : ∀ w ∈ ws, w ∈ TW) : GoodIn TW ws := fun w hw => ⟨h w hw, good_of_word (List.mem_filter.mp (h w hw)).2⟩
abbrev WSy (y : MethodName) (cc : ByteArray) (n : Nat) (r : Option FieldType) : List Cond := Cond.code y cc n r :: TW
theorem ws_in {y : MethodName} {cc : ByteArray} {n : Nat} {r : Option FieldType} (h : Cond.code y cc n r ∈ TW) : ∀ w ∈ WSy y cc n r, w ∈ TW := fun w hw => (List.mem_cons.mp hw).elim (fun e => by rw [e]; exact h) id
/-- the rooms: by height -/
abbrev RM (k mc ms : Nat) : Room := { frames := k, cells := mc, slots := ms, locals := 32 * k }
abbrev GG : Type := va_G × ClassId × ClassId × ClassId × ClassId
abbrev cI (g : GG) : ClassId := g.2.1
abbrev cZ (g : GG) : ClassId := g.2.2.1
abbrev cS (g : GG) : ClassId := g.2.2.2.1
abbrev cJ (g : GG) : ClassId := g.2.2.2.2
abbrev tyL (g : GG) : List (ClassId × FieldType) := [(cI g, .int), (cZ g, .boolean), (cS g, .object "MarkArenas$State")]
def nestL : List (String × Nat × MethodName × String) := [("MarkArenas", 18, ⟨"MarkArenas$Returning", "<init>", "()V"⟩, "MarkArenas"), ("MarkArenas$Returning", 11, ⟨"MarkArenas$Reach", "<init>", "()V"⟩, "MarkArenas"), ("MarkArenas", 25, ⟨"MarkArenas$Reach", "<init>", "()V"⟩, "MarkArenas"), ("MarkArenas", 32, ⟨"MarkArenas$Text", "<init>", "()V"⟩, "MarkArenas"), ("MarkArenas$State", 68, ⟨"MarkArenas", "isArena", "(I)Z"⟩, "MarkArenas"), ("MarkArenas$State", 91, ⟨"MarkArenas", "oneIf", "(Z)I"⟩, "MarkArenas"), ("MarkArenas$Returning", 64, ⟨"MarkArenas", "isArena", "(I)Z"⟩, "MarkArenas"), ("MarkArenas$State", 72, ⟨"MarkArenas", "isNumber", "(I)Z"⟩, "MarkArenas"), ("MarkArenas$Returning", 107, ⟨"MarkArenas", "isNumber", "(I)Z"⟩, "MarkArenas")]
def strL : List (Nat × String) := [(50, "no arena is free"), (268, "no such count"), (350, "no such object"), (213, "no such property"), (348, "no such arena"), (263, "no such cell"), (352, "no such setting"), (68, "a size is 1 to 16"), (82, "not open, or without room, or no number is left"), (93, "no such field"), (122, "an arena is returned into another one"), (128, "not open, or kept, or without room"), (152, "the setting has no such value"), (208, "there is no saved state")]
/-- what of the start every method may use: classes, links among nest mates, texts of exceptions -/
def EV (g : GG) (U : State) : Prop := va_K g.1 vwCl (tyL g) U ∧ (∀ q ∈ nestL, va_Nw (.methodLinkNest q.1 q.2.1 q.2.2.1 q.2.2.2) U) ∧ ∀ q ∈ strL, ∃ a, vk_R RX5 q.1 q.2 a U
theorem EV.warm {g : GG} {s U : State} (hW : s.WarmedH U.vm) (h : EV g s) : EV g U := ⟨va_K.moved hW.alike h.1, fun q hq => va_Nw.warmM hW (h.2.1 q hq), fun q hq => (h.2.2 q hq).elim fun a ha => ⟨a, vk_R.warm hW ha⟩⟩
theorem EV.blind {g : GG} {U : State} (h : EV g U) (j : JFrame) (mk : MethodId) (a : Array Value) : EV g (U.calling j mk a) := h.warm (State.WarmedH.refl U)
/-! numbers -/
def bI (b : Bool) : Int32 := if b then nI 1 else nI 0
theorem bI_t : bI true = nI 1 := rfl
theorem bI_f : bI false = nI 0 := rfl
theorem bI_0 (b : Bool) : bI b = 0 ↔ b = false := by cases b <;> decide
theorem bI_nar (b : Bool) : narrow .boolean (.int (bI b)) = .int (bI b) := by cases b <;> rfl
theorem nI_eq0 {a : Nat} (h : a < 2 ^ 31) : nI a = 0 ↔ a = 0 := by
  have h1 := nI_eq h (show 0 < 2 ^ 31 by decide)
  rw [nI_0] at h1
  exact h1
/-- a row of a table of rows is put in another's place -/
def rw2 {α : Type} (μ : Nat → α) (k : Nat) (f : α) : Nat → α := fun j => cond (Nat.beq j k) f (μ j)
theorem rw2_s {α : Type} (μ : Nat → α) (k : Nat) (f : α) : rw2 μ k f k = f := by simp [rw2]
theorem rw2_n {α : Type} (μ : Nat → α) {k j : Nat} (f : α) (h : j ≠ k) : rw2 μ k f j = μ j := by
  unfold rw2
  cases hb : Nat.beq j k
  · rfl
  · exact absurd (Nat.eq_of_beq_eq_true hb) h
/-! worlds in groups -/
theorem fl_lt : ∀ (gs : List va_W) (i : Nat) (G : va_W), gs[i]? = some G → ∀ (j : Nat) (q : Nat × va_E), G[j]? = some q → gs.flatten[((gs.take i).map List.length).sum + j]? = some q
  | [], i, G, h, _, _, _ => by simp at h
  | F :: gs, 0, G, h, j, q, hj => by
    simp only [List.getElem?_cons_zero, Option.some.injEq] at h
    subst h
    have hl : j < F.length := (List.getElem?_eq_some_iff.mp hj).1
    simp only [List.take_zero, List.map_nil, List.sum_nil, Nat.zero_add, List.flatten_cons]
    rw [List.getElem?_append_left hl]
    exact hj
  | F :: gs, i + 1, G, h, j, q, hj => by
    simp only [List.getElem?_cons_succ] at h
    have ih := fl_lt gs i G h j q hj
    simp only [List.take_succ_cons, List.map_cons, List.sum_cons, List.flatten_cons]
    rw [List.getElem?_append_right (by omega), show F.length + ((gs.take i).map List.length).sum + j - F.length = ((gs.take i).map List.length).sum + j by omega]
    exact ih
theorem fl_set : ∀ (gs : List va_W) (i : Nat) (G : va_W), gs[i]? = some G → ∀ (j : Nat) (q : Nat × va_E), j < G.length → gs.flatten.set (((gs.take i).map List.length).sum + j) q = (gs.set i (G.set j q)).flatten
  | [], i, G, h, _, _, _ => by simp at h
  | F :: gs, 0, G, h, j, q, hj => by
    simp only [List.getElem?_cons_zero, Option.some.injEq] at h
    subst h
    simp only [List.take_zero, List.map_nil, List.sum_nil, Nat.zero_add, List.flatten_cons, List.set_cons_zero]
    rw [List.set_append_left _ _ hj]
  | F :: gs, i + 1, G, h, j, q, hj => by
    simp only [List.getElem?_cons_succ] at h
    have ih := fl_set gs i G h j q hj
    simp only [List.take_succ_cons, List.map_cons, List.sum_cons, List.flatten_cons, List.set_cons_succ]
    rw [List.set_append_right _ _ (by omega), show F.length + ((gs.take i).map List.length).sum + j - F.length = ((gs.take i).map List.length).sum + j by omega, ih]
theorem gs_map {gs gc : List va_W} {is : List Nat} (h : is.map (fun i => gs[i]?) = gc.map some) : gc = is.filterMap (fun i => gs[i]?) := by
  have e := congrArg (List.filterMap id) h
  simp only [List.filterMap_map] at e
  rw [show (List.filterMap (id ∘ some) gc) = gc from by rw [show (id ∘ some : va_W → Option va_W) = some from rfl]; exact List.filterMap_some] at e
  exact e.symm.trans rfl |>.trans rfl
theorem gs_mem {gs gc : List va_W} {is : List Nat} (h : is.map (fun i => gs[i]?) = gc.map some) : ∀ q ∈ gc.flatten, q ∈ gs.flatten := by
  intro q hq
  obtain ⟨G, hG, hq⟩ := List.mem_flatten.mp hq
  rw [gs_map h] at hG
  obtain ⟨i, -, hi⟩ := List.mem_filterMap.mp hG
  exact List.mem_flatten.mpr ⟨G, List.mem_of_getElem? hi, hq⟩
theorem gs_range (gs : List va_W) : (List.range gs.length).filterMap (fun i => gs[i]?) = gs := by
  induction gs with
  | nil => rfl
  | cons a t ih =>
    rw [List.length_cons, List.range_succ_eq_map, List.filterMap_cons]
    simp only [List.getElem?_cons_zero, List.filterMap_map]
    congr 1
theorem gs_perm {gs gc gr : List va_W} {is ir : List Nat} (hC : is.map (fun i => gs[i]?) = gc.map some) (hR : ir.map (fun i => gs[i]?) = gr.map some) (hp : (is ++ ir).Perm (List.range gs.length)) : (gc.flatten ++ gr.flatten).Perm gs.flatten := by
  rw [← List.flatten_append, gs_map hC, gs_map hR, ← List.filterMap_append]
  have h2 := (hp.filterMap (fun i => gs[i]?)).flatten
  rw [gs_range] at h2
  exact h2
theorem va_P_mem {D : va_G} {cl : List vw_C} {ws : va_W} {H : Heap} : va_P D cl ws H ↔ ∀ q ∈ ws, va_at D cl q H := by
  constructor
  · intro h q hq
    obtain ⟨i, hi⟩ := List.getElem?_of_mem hq
    exact h i q hi
  · intro h k q hk
    exact h q (List.mem_of_getElem? hk)
theorem nd_of : ∀ (l : List Nat), (∀ (i j a : Nat), l[i]? = some a → l[j]? = some a → i = j) → l.Nodup
  | [], _ => List.nodup_nil
  | a :: t, h => List.nodup_cons.mpr ⟨fun hm => by
      obtain ⟨k, hk⟩ := List.getElem?_of_mem hm
      have := h 0 (k + 1) a rfl (by rw [List.getElem?_cons_succ]; exact hk)
      omega, nd_of t (fun i j b h1 h2 => by
      have := h (i + 1) (j + 1) b (by rw [List.getElem?_cons_succ]; exact h1) (by rw [List.getElem?_cons_succ]; exact h2)
      omega)⟩
theorem nd_inj : ∀ (l : List Nat), l.Nodup → ∀ (i j a : Nat), l[i]? = some a → l[j]? = some a → i = j
  | [], _, i, j, a, h, _ => by simp at h
  | b :: l, hn, i, j, a, h1, h2 => by
    rw [List.nodup_cons] at hn
    cases i with
    | zero =>
      cases j with
      | zero => rfl
      | succ j =>
        rw [List.getElem?_cons_zero] at h1
        rw [List.getElem?_cons_succ] at h2
        cases h1
        exact absurd (List.mem_of_getElem? h2) hn.1
    | succ i =>
      rw [List.getElem?_cons_succ] at h1
      cases j with
      | zero =>
        rw [List.getElem?_cons_zero] at h2
        cases h2
        exact absurd (List.mem_of_getElem? h1) hn.1
      | succ j =>
        rw [List.getElem?_cons_succ] at h2
        rw [nd_inj l hn.2 i j a h1 h2]
theorem va_D_nodup {A : Nat → Prop} {ws : va_W} : va_D A ws ↔ (ws.map (fun q => q.1)).Nodup ∧ ∀ q ∈ ws, A q.1 := by
  constructor
  · intro h
    refine ⟨nd_of _ (fun i j a hi hj => ?_), fun q hq => ?_⟩
    · rw [List.getElem?_map] at hi hj
      cases hx : ws[i]? with
      | none => rw [hx] at hi; cases hi
      | some x =>
        cases hy : ws[j]? with
        | none => rw [hy] at hj; cases hj
        | some y =>
          rw [hx] at hi
          rw [hy] at hj
          exact h.1 i j x y hx hy ((Option.some.inj hi).trans (Option.some.inj hj).symm)
    · obtain ⟨i, hi⟩ := List.getElem?_of_mem hq
      exact h.2 i q hi
  · intro h
    refine ⟨fun i j x y hi hj hxy => ?_, fun k q hk => h.2 q (List.mem_of_getElem? hk)⟩
    exact nd_inj _ h.1 i j x.1 (by rw [List.getElem?_map, hi]; rfl) (by rw [List.getElem?_map, hj, hxy]; rfl)
theorem va_A_mem {ws : va_W} {sz q : Nat} : va_A ws sz q ↔ (∃ x ∈ ws, x.1 = q) ∨ sz ≤ q := by
  constructor
  · rintro (⟨k, e, h⟩ | h)
    · exact Or.inl ⟨(q, e), List.mem_of_getElem? h, rfl⟩
    · exact Or.inr h
  · rintro (⟨x, hx, rfl⟩ | h)
    · obtain ⟨i, hi⟩ := List.getElem?_of_mem hx
      exact Or.inl ⟨i, x.2, hi⟩
    · exact Or.inr h
/-- behind a call: what came back beside the rest -/
theorem gs_join {A0 : Nat → Prop} {D : va_G} {cl : List vw_C} {ws wc wr w1 ws1 : va_W} {H H1 : Heap} (hP : va_P D cl ws H) (hD : va_D A0 ws) (hp : (wc ++ wr).Perm ws) (hp1 : (w1 ++ wr).Perm ws1)
    (hk : ∀ q : Nat, q < H.size → ¬ va_A wc H.size q → H1[q]? = H[q]?) (hF : ∀ q, va_A wc H.size q → A0 q) (hP1 : va_P D cl w1 H1) (hD1 : va_D (va_A wc H.size) w1) : va_P D cl ws1 H1 ∧ va_D A0 ws1 := by
  rw [va_P_mem] at hP hP1 ⊢
  rw [va_D_nodup] at hD hD1 ⊢
  obtain ⟨hn, hA⟩ := hD
  have hn2 : ((wc ++ wr).map (fun q => q.1)).Nodup := ((hp.map (fun q => q.1)).nodup_iff).mpr hn
  rw [List.map_append, List.nodup_append] at hn2
  obtain ⟨n1, n2, n3⟩ := hn2
  have apart : ∀ q ∈ wr, q.1 < H.size ∧ ¬ va_A wc H.size q.1 := by
    intro q hq
    have hl := (hP q (hp.subset (List.mem_append_right _ hq))).lt
    refine ⟨hl, fun h => ?_⟩
    rcases va_A_mem.mp h with ⟨x, hx, he⟩ | h
    · exact n3 x.1 (List.mem_map.mpr ⟨x, hx, rfl⟩) q.1 (List.mem_map.mpr ⟨q, hq, rfl⟩) he
    · omega
  refine ⟨fun q hq => ?_, ?_, fun q hq => ?_⟩
  · rcases List.mem_append.mp (hp1.symm.subset hq) with h | h
    · exact hP1 q h
    · obtain ⟨g1, g2⟩ := apart q h
      exact (hP q (hp.subset (List.mem_append_right _ h))).kept (hk q.1 g1 g2)
  · refine ((hp1.map (fun q => q.1)).nodup_iff).mp ?_
    rw [List.map_append, List.nodup_append]
    refine ⟨hD1.1, n2, fun a ha b hb hab => ?_⟩
    obtain ⟨x, hx, rfl⟩ := List.mem_map.mp ha
    obtain ⟨y, hy, rfl⟩ := List.mem_map.mp hb
    exact (apart y hy).2 (by rw [← hab]; exact hD1.2 x hx)
  · rcases List.mem_append.mp (hp1.symm.subset hq) with h | h
    · exact hF _ (hD1.2 q h)
    · exact hA q (hp.subset (List.mem_append_right _ h))
theorem gs_part {A0 : Nat → Prop} {ws wc wr : va_W} (hD : va_D A0 ws) (hp : (wc ++ wr).Perm ws) : va_D (fun _ => True) wc := by
  rw [va_D_nodup] at hD ⊢
  have hn2 : ((wc ++ wr).map (fun q => q.1)).Nodup := ((hp.map (fun q => q.1)).nodup_iff).mpr hD.1
  rw [List.map_append, List.nodup_append] at hn2
  exact ⟨hn2.1, fun _ _ => trivial⟩
theorem gs_free {A0 : Nat → Prop} {ws wc wr : va_W} {H0 H : Heap} {locs : List Loc} (hD : va_D A0 ws) (hS : va_S A0 H0 H locs) (hA : ∀ q, H0.size ≤ q → A0 q) (hp : (wc ++ wr).Perm ws) : ∀ q, va_A wc H.size q → A0 q := by
  intro q h
  rcases va_A_mem.mp h with ⟨x, hx, rfl⟩ | h
  · exact (va_D_nodup.mp hD).2 x (hp.subset (List.mem_append_left _ hx))
  · exact hA q (Nat.le_trans hS.1 h)
/-- the frame of a method: what stays while it runs -/
def WX (p : Program) (s : State) (m : MethodId) (args : Array Value) (meth : Method) (c : Code) (cc : ByteArray) (own : String) (nL : Nat) (rt : Option FieldType) (g : GG) : Prop :=
  CallFix p m c cc nL s args TW own ∧ EV g s ∧ meth.sig.returnType = rt ∧ meth.locks = false
def WW (p : Program) (l : Launch) (e : Env) (R : Room) (s : State) (m : MethodId) (args : Array Value) (below : List Frame) (meth : Method) (c : Code) (g : GG) (DD : va_W → Prop) (SS : Heap → List Loc → Prop) (nL : Nat) (Q : State → Prop) (kc ks : Nat) (lv : List (Nat × Value)) (st : List Value) (gs : List va_W) (pc : Nat) : Prop :=
  ∀ (H : Heap) (locs : List Loc) (ls : Array Slot), va_P g.1 vwCl gs.flatten H → DD gs.flatten → SS H locs → lv_has ls nL lv → W p l e R s m args below meth c H locs kc ks Q (F0 m pc ls st)
def set1 (lv : List (Nat × Value)) (i : Nat) (v : Value) : List (Nat × Value) := (i, v) :: lv.filter (fun q => !(q.1 == i) && !(q.1 + 1 == i && q.2.category == 2))
def set2 (lv : List (Nat × Value)) (i : Nat) (v : Value) : List (Nat × Value) := (i, v) :: lv.filter (fun q => !(q.1 == i) && (!(q.1 == i + 1) && !(q.1 + 1 == i && q.2.category == 2)))
/-- a contract that reads alone: the heap stays -/
def QR (rv : Option Value) : Array Value → State → Outcome → State → Prop := fun _ st oc t => oc = .returned rv ∧ t.heap = st.heap
def QX (g : GG) (rv : Option Value) (g1 : List va_W) (A : Nat → Prop) : Array Value → State → Outcome → State → Prop := fun _ st oc t => oc = .returned rv ∧ va_P g.1 vwCl g1.flatten t.heap ∧ va_D A g1.flatten ∧ va_F A st t
abbrev MRO (l : Launch) (g : GG) (y : MethodName) (cc : ByteArray) (n : Nat) (r : Option FieldType) (k : Nat) (As : List Value) (gc : List va_W) (rv : Option Value) : Prop :=
  Met l y (WSy y cc n r) (RM k 0 0) (va_Pc As (fun U => va_P g.1 vwCl gc.flatten U.heap ∧ EV g U)) (QR rv) 0 0 (fun _ => False)
abbrev MMU (l : Launch) (g : GG) (y : MethodName) (cc : ByteArray) (n : Nat) (r : Option FieldType) (k mc ms : Nat) (As : List Value) (gc : List va_W) (rv : Option Value) (g1 : List va_W) : Prop :=
  ∀ sz : Nat, Met l y (WSy y cc n r) (RM k mc ms) (va_Pc As (fun U => U.heap.size = sz ∧ va_P g.1 vwCl gc.flatten U.heap ∧ va_D (fun _ => True) gc.flatten ∧ EV g U)) (QX g rv g1 (va_A gc.flatten sz)) mc ms (va_A gc.flatten sz)
/-- a callee's words: called by an object of its class; static; static among nest mates -/
def CV (C : String) (y : MethodName) (cc : ByteArray) (n : Nat) (r : Option FieldType) (k : Nat) : Prop :=
  (y.cls = C ∧ y.cls ≠ "java/lang/invoke/MethodHandle" ∧ y.cls ≠ "java/lang/invoke/VarHandle" ∧ (parseMethodDescriptor y.desc).map (fun d => d.parameters.length) = some k) ∧ Cond.instanceMethod y ∈ TW ∧ Cond.selects C y y ∈ TW ∧ Cond.initialized C ∈ TW ∧ Cond.code y cc n r ∈ TW
def CSt (y : MethodName) (cc : ByteArray) (n : Nat) (r : Option FieldType) (k : Nat) : Prop :=
  (y.cls ≠ "java/lang/invoke/MethodHandle" ∧ y.cls ≠ "java/lang/invoke/VarHandle" ∧ (parseMethodDescriptor y.desc).map (fun d => d.parameters.length) = some k) ∧ Cond.static y ∈ TW ∧ Cond.initialized y.cls ∈ TW ∧ Cond.code y cc n r ∈ TW
def CIn (y : MethodName) (cc : ByteArray) (n : Nat) (k : Nat) : Prop :=
  (y.cls ≠ "java/lang/invoke/MethodHandle" ∧ y.cls ≠ "java/lang/invoke/VarHandle" ∧ (parseMethodDescriptor y.desc).map (fun d => d.parameters.length) = some k) ∧ Cond.instanceMethod y ∈ TW ∧ Cond.initialized y.cls ∈ TW ∧ Cond.code y cc n none ∈ TW ∧ y.name = "<init>"
theorem gV {own C : String} {idx n : Nat} {y : MethodName} {cc : ByteArray} {r : Option FieldType} {k : Nat} (hl : Cond.methodLink own idx y ∈ TW) (h : CV C y cc n r k) : GoodIn TW (wsV own idx C y (WSy y cc n r)) :=
  tw_in fun w hw => (List.mem_append.mp hw).elim (fun h1 => (List.forall_mem_cons.mpr ⟨hl, List.forall_mem_cons.mpr ⟨h.2.1, List.forall_mem_cons.mpr ⟨h.2.2.1, List.forall_mem_cons.mpr ⟨h.2.2.2.1, fun _ h => absurd h List.not_mem_nil⟩⟩⟩⟩ : ∀ w ∈ ([.methodLink own idx y, .instanceMethod y, .selects C y y, .initialized C] : List Cond), w ∈ TW) w h1) (ws_in h.2.2.2.2 w)
theorem gS {own : String} {idx n : Nat} {y : MethodName} {cc : ByteArray} {r : Option FieldType} {k : Nat} (hl : Cond.methodLink own idx y ∈ TW) (h : CSt y cc n r k) : GoodIn TW (va_wsS own idx y (WSy y cc n r)) :=
  tw_in fun w hw => (List.mem_append.mp hw).elim (fun h1 => (List.forall_mem_cons.mpr ⟨hl, List.forall_mem_cons.mpr ⟨h.2.1, List.forall_mem_cons.mpr ⟨h.2.2.1, fun _ h => absurd h List.not_mem_nil⟩⟩⟩ : ∀ w ∈ ([.methodLink own idx y, .static y, .initialized y.cls] : List Cond), w ∈ TW) w h1) (ws_in h.2.2.2 w)
section WWS
variable {p : Program} {l : Launch} {e : Env} {R : Room} {s : State} {m : MethodId} {args : Array Value} {below : List Frame} {meth : Method} {c : Code} {g : GG} {DD : va_W → Prop} {SS : Heap → List Loc → Prop} {nL : Nat} {Q : State → Prop} {kc ks : Nat} {lv : List (Nat × Value)} {st : List Value} {gs : List va_W} {pc : Nat} {cc : ByteArray} {own : String} {rt : Option FieldType} {A : Nat → Prop}
theorem w_iconst (X : WX p s m args meth c cc own nL rt g) {n : Int} (v : Int32) (d : decode cc pc = .ok (.iconst n, 1)) (hv : Int32.ofInt n = v) (k : WW p l e R s m args below meth c g DD SS nL Q kc ks (lv) (.int v :: st) (gs) (pc + 1)) : WW p l e R s m args below meth c g DD SS nL Q kc ks (lv) (st) (gs) (pc) := fun H locs ls hP hD hS hl => lv_iconst X.1.1 X.1.2.1 d hv (k H locs ls hP hD hS hl)
theorem w_bipush (X : WX p s m args meth c cc own nL rt g) {n : Int} (v : Int32) (d : decode cc pc = .ok (.bipush n, 2)) (hv : (Int8.ofInt n).toInt32 = v) (k : WW p l e R s m args below meth c g DD SS nL Q kc ks (lv) (.int v :: st) (gs) (pc + 2)) : WW p l e R s m args below meth c g DD SS nL Q kc ks (lv) (st) (gs) (pc) := fun H locs ls hP hD hS hl => lv_bipush X.1.1 X.1.2.1 d hv (k H locs ls hP hD hS hl)
theorem w_sipush (X : WX p s m args meth c cc own nL rt g) {n : Int} (v : Int32) (d : decode cc pc = .ok (.sipush n, 3)) (hv : (Int16.ofInt n).toInt32 = v) (k : WW p l e R s m args below meth c g DD SS nL Q kc ks (lv) (.int v :: st) (gs) (pc + 3)) : WW p l e R s m args below meth c g DD SS nL Q kc ks (lv) (st) (gs) (pc) := fun H locs ls hP hD hS hl => lv_sipush X.1.1 X.1.2.1 d hv (k H locs ls hP hD hS hl)
theorem w_lconst (X : WX p s m args meth c cc own nL rt g) {n : Fin 2} (v : Int64) (d : decode cc pc = .ok (.lconst n, 1)) (hv : Int64.ofNat (n : Nat) = v) (k : WW p l e R s m args below meth c g DD SS nL Q kc ks (lv) (.long v :: st) (gs) (pc + 1)) : WW p l e R s m args below meth c g DD SS nL Q kc ks (lv) (st) (gs) (pc) := fun H locs ls hP hD hS hl => lv_lconst X.1.1 X.1.2.1 d hv (k H locs ls hP hD hS hl)
theorem w_iload_n (X : WX p s m args meth c cc own nL rt g) {f : Fin 4} {x : Int32} (j : Nat) (hj : lv[j]? = some ((f : Nat), .int x)) (d : decode cc pc = .ok (.iload_n f, 1)) (k : WW p l e R s m args below meth c g DD SS nL Q kc ks (lv) (.int x :: st) (gs) (pc + 1)) : WW p l e R s m args below meth c g DD SS nL Q kc ks (lv) (st) (gs) (pc) := fun H locs ls hP hD hS hl => lv_iload_n X.1.1 X.1.2.1 d rfl (lv_at hl j hj) (k H locs ls hP hD hS hl)
theorem w_iload (X : WX p s m args meth c cc own nL rt g) {i : Nat} {x : Int32} (j : Nat) (hj : lv[j]? = some (i, .int x)) (d : decode cc pc = .ok (.iload i, 2)) (k : WW p l e R s m args below meth c g DD SS nL Q kc ks (lv) (.int x :: st) (gs) (pc + 2)) : WW p l e R s m args below meth c g DD SS nL Q kc ks (lv) (st) (gs) (pc) := fun H locs ls hP hD hS hl => lv_iload X.1.1 X.1.2.1 d (lv_at hl j hj) (k H locs ls hP hD hS hl)
theorem w_istore_n (X : WX p s m args meth c cc own nL rt g) {f : Fin 4} {x : Int32} (d : decode cc pc = .ok (.istore_n f, 1)) (hn : (f : Nat) < nL) (k : WW p l e R s m args below meth c g DD SS nL Q kc ks (set1 lv (f : Nat) (.int x)) (st) (gs) (pc + 1)) : WW p l e R s m args below meth c g DD SS nL Q kc ks (lv) (.int x :: st) (gs) (pc) := fun H locs ls hP hD hS hl => lv_istore_n X.1.1 X.1.2.1 d rfl hl hn rfl (fun ls hl => k H locs ls hP hD hS hl)
theorem w_istore (X : WX p s m args meth c cc own nL rt g) {i : Nat} {x : Int32} (d : decode cc pc = .ok (.istore i, 2)) (hn : i < nL) (k : WW p l e R s m args below meth c g DD SS nL Q kc ks (set1 lv i (.int x)) (st) (gs) (pc + 2)) : WW p l e R s m args below meth c g DD SS nL Q kc ks (lv) (.int x :: st) (gs) (pc) := fun H locs ls hP hD hS hl => lv_istore X.1.1 X.1.2.1 d hl hn rfl (fun ls hl => k H locs ls hP hD hS hl)
theorem w_lload_n (X : WX p s m args meth c cc own nL rt g) {f : Fin 4} {x : Int64} (j : Nat) (hj : lv[j]? = some ((f : Nat), .long x)) (d : decode cc pc = .ok (.lload_n f, 1)) (k : WW p l e R s m args below meth c g DD SS nL Q kc ks (lv) (.long x :: st) (gs) (pc + 1)) : WW p l e R s m args below meth c g DD SS nL Q kc ks (lv) (st) (gs) (pc) := fun H locs ls hP hD hS hl => lv_lload_n X.1.1 X.1.2.1 d rfl (lv_at hl j hj) (k H locs ls hP hD hS hl)
theorem w_lload (X : WX p s m args meth c cc own nL rt g) {i : Nat} {x : Int64} (j : Nat) (hj : lv[j]? = some (i, .long x)) (d : decode cc pc = .ok (.lload i, 2)) (k : WW p l e R s m args below meth c g DD SS nL Q kc ks (lv) (.long x :: st) (gs) (pc + 2)) : WW p l e R s m args below meth c g DD SS nL Q kc ks (lv) (st) (gs) (pc) := fun H locs ls hP hD hS hl => lv_lload X.1.1 X.1.2.1 d (lv_at hl j hj) (k H locs ls hP hD hS hl)
theorem w_lstore_n (X : WX p s m args meth c cc own nL rt g) {f : Fin 4} {x : Int64} (d : decode cc pc = .ok (.lstore_n f, 1)) (hn : (f : Nat) + 1 < nL) (k : WW p l e R s m args below meth c g DD SS nL Q kc ks (set2 lv (f : Nat) (.long x)) (st) (gs) (pc + 1)) : WW p l e R s m args below meth c g DD SS nL Q kc ks (lv) (.long x :: st) (gs) (pc) := fun H locs ls hP hD hS hl => lv_lstore_n X.1.1 X.1.2.1 d rfl hl hn rfl (fun ls hl => k H locs ls hP hD hS hl)
theorem w_lstore (X : WX p s m args meth c cc own nL rt g) {i : Nat} {x : Int64} (d : decode cc pc = .ok (.lstore i, 2)) (hn : i + 1 < nL) (k : WW p l e R s m args below meth c g DD SS nL Q kc ks (set2 lv i (.long x)) (st) (gs) (pc + 2)) : WW p l e R s m args below meth c g DD SS nL Q kc ks (lv) (.long x :: st) (gs) (pc) := fun H locs ls hP hD hS hl => lv_lstore X.1.1 X.1.2.1 d hl hn rfl (fun ls hl => k H locs ls hP hD hS hl)
theorem w_aload_n (X : WX p s m args meth c cc own nL rt g) {f : Fin 4} {x : Nat} (j : Nat) (hj : lv[j]? = some ((f : Nat), .ref x)) (d : decode cc pc = .ok (.aload_n f, 1)) (k : WW p l e R s m args below meth c g DD SS nL Q kc ks (lv) (.ref x :: st) (gs) (pc + 1)) : WW p l e R s m args below meth c g DD SS nL Q kc ks (lv) (st) (gs) (pc) := fun H locs ls hP hD hS hl => lv_aload_n X.1.1 X.1.2.1 d rfl (lv_at hl j hj) (k H locs ls hP hD hS hl)
theorem w_aload (X : WX p s m args meth c cc own nL rt g) {i : Nat} {x : Nat} (j : Nat) (hj : lv[j]? = some (i, .ref x)) (d : decode cc pc = .ok (.aload i, 2)) (k : WW p l e R s m args below meth c g DD SS nL Q kc ks (lv) (.ref x :: st) (gs) (pc + 2)) : WW p l e R s m args below meth c g DD SS nL Q kc ks (lv) (st) (gs) (pc) := fun H locs ls hP hD hS hl => lv_aload X.1.1 X.1.2.1 d (lv_at hl j hj) (k H locs ls hP hD hS hl)
theorem w_astore_n (X : WX p s m args meth c cc own nL rt g) {f : Fin 4} {x : Nat} (d : decode cc pc = .ok (.astore_n f, 1)) (hn : (f : Nat) < nL) (k : WW p l e R s m args below meth c g DD SS nL Q kc ks (set1 lv (f : Nat) (.ref x)) (st) (gs) (pc + 1)) : WW p l e R s m args below meth c g DD SS nL Q kc ks (lv) (.ref x :: st) (gs) (pc) := fun H locs ls hP hD hS hl => lv_astore_n X.1.1 X.1.2.1 d rfl hl hn rfl (fun ls hl => k H locs ls hP hD hS hl)
theorem w_astore (X : WX p s m args meth c cc own nL rt g) {i : Nat} {x : Nat} (d : decode cc pc = .ok (.astore i, 2)) (hn : i < nL) (k : WW p l e R s m args below meth c g DD SS nL Q kc ks (set1 lv i (.ref x)) (st) (gs) (pc + 2)) : WW p l e R s m args below meth c g DD SS nL Q kc ks (lv) (.ref x :: st) (gs) (pc) := fun H locs ls hP hD hS hl => lv_astore X.1.1 X.1.2.1 d hl hn rfl (fun ls hl => k H locs ls hP hD hS hl)
theorem w_dload_n (X : WX p s m args meth c cc own nL rt g) {f : Fin 4} {x : UInt64} (j : Nat) (hj : lv[j]? = some ((f : Nat), .double x)) (d : decode cc pc = .ok (.dload_n f, 1)) (k : WW p l e R s m args below meth c g DD SS nL Q kc ks (lv) (.double x :: st) (gs) (pc + 1)) : WW p l e R s m args below meth c g DD SS nL Q kc ks (lv) (st) (gs) (pc) := fun H locs ls hP hD hS hl => lv_dload_n X.1.1 X.1.2.1 d rfl (lv_at hl j hj) (k H locs ls hP hD hS hl)
theorem w_dload (X : WX p s m args meth c cc own nL rt g) {i : Nat} {x : UInt64} (j : Nat) (hj : lv[j]? = some (i, .double x)) (d : decode cc pc = .ok (.dload i, 2)) (k : WW p l e R s m args below meth c g DD SS nL Q kc ks (lv) (.double x :: st) (gs) (pc + 2)) : WW p l e R s m args below meth c g DD SS nL Q kc ks (lv) (st) (gs) (pc) := fun H locs ls hP hD hS hl => lv_dload X.1.1 X.1.2.1 d (lv_at hl j hj) (k H locs ls hP hD hS hl)
theorem w_dstore_n (X : WX p s m args meth c cc own nL rt g) {f : Fin 4} {x : UInt64} (d : decode cc pc = .ok (.dstore_n f, 1)) (hn : (f : Nat) + 1 < nL) (k : WW p l e R s m args below meth c g DD SS nL Q kc ks (set2 lv (f : Nat) (.double x)) (st) (gs) (pc + 1)) : WW p l e R s m args below meth c g DD SS nL Q kc ks (lv) (.double x :: st) (gs) (pc) := fun H locs ls hP hD hS hl => lv_dstore_n X.1.1 X.1.2.1 d rfl hl hn rfl (fun ls hl => k H locs ls hP hD hS hl)
theorem w_dstore (X : WX p s m args meth c cc own nL rt g) {i : Nat} {x : UInt64} (d : decode cc pc = .ok (.dstore i, 2)) (hn : i + 1 < nL) (k : WW p l e R s m args below meth c g DD SS nL Q kc ks (set2 lv i (.double x)) (st) (gs) (pc + 2)) : WW p l e R s m args below meth c g DD SS nL Q kc ks (lv) (.double x :: st) (gs) (pc) := fun H locs ls hP hD hS hl => lv_dstore X.1.1 X.1.2.1 d hl hn rfl (fun ls hl => k H locs ls hP hD hS hl)
theorem w_iinc (X : WX p s m args meth c cc own nL rt g) {i : Nat} {n : Int} {x : Int32} (v : Int32) (j : Nat) (hj : lv[j]? = some (i, .int x)) (hv : x + Int32.ofInt n = v) (d : decode cc pc = .ok (.iinc i n, 3)) (hn : i < nL) (k : WW p l e R s m args below meth c g DD SS nL Q kc ks (set1 lv i (.int v)) (st) (gs) (pc + 3)) : WW p l e R s m args below meth c g DD SS nL Q kc ks (lv) (st) (gs) (pc) := fun H locs ls hP hD hS hl => lv_iinc X.1.1 X.1.2.1 d hl hj hv hn rfl (fun ls hl => k H locs ls hP hD hS hl)
theorem w_iadd (X : WX p s m args meth c cc own nL rt g) {x y : Int32} (d : decode cc pc = .ok (.iadd, 1)) (k : WW p l e R s m args below meth c g DD SS nL Q kc ks (lv) (.int (x + y) :: st) (gs) (pc + 1)) : WW p l e R s m args below meth c g DD SS nL Q kc ks (lv) (.int y :: .int x :: st) (gs) (pc) := fun H locs ls hP hD hS hl => lv_iadd X.1.1 X.1.2.1 d (k H locs ls hP hD hS hl)
theorem w_isub (X : WX p s m args meth c cc own nL rt g) {x y : Int32} (d : decode cc pc = .ok (.isub, 1)) (k : WW p l e R s m args below meth c g DD SS nL Q kc ks (lv) (.int (x - y) :: st) (gs) (pc + 1)) : WW p l e R s m args below meth c g DD SS nL Q kc ks (lv) (.int y :: .int x :: st) (gs) (pc) := fun H locs ls hP hD hS hl => lv_isub X.1.1 X.1.2.1 d (k H locs ls hP hD hS hl)
theorem w_imul (X : WX p s m args meth c cc own nL rt g) {x y : Int32} (d : decode cc pc = .ok (.imul, 1)) (k : WW p l e R s m args below meth c g DD SS nL Q kc ks (lv) (.int (x * y) :: st) (gs) (pc + 1)) : WW p l e R s m args below meth c g DD SS nL Q kc ks (lv) (.int y :: .int x :: st) (gs) (pc) := fun H locs ls hP hD hS hl => lv_imul X.1.1 X.1.2.1 d (k H locs ls hP hD hS hl)
theorem w_iand (X : WX p s m args meth c cc own nL rt g) {x y : Int32} (d : decode cc pc = .ok (.iand, 1)) (k : WW p l e R s m args below meth c g DD SS nL Q kc ks (lv) (.int (x &&& y) :: st) (gs) (pc + 1)) : WW p l e R s m args below meth c g DD SS nL Q kc ks (lv) (.int y :: .int x :: st) (gs) (pc) := fun H locs ls hP hD hS hl => lv_iand X.1.1 X.1.2.1 d (k H locs ls hP hD hS hl)
theorem w_ladd (X : WX p s m args meth c cc own nL rt g) {x y : Int64} (d : decode cc pc = .ok (.ladd, 1)) (k : WW p l e R s m args below meth c g DD SS nL Q kc ks (lv) (.long (x + y) :: st) (gs) (pc + 1)) : WW p l e R s m args below meth c g DD SS nL Q kc ks (lv) (.long y :: .long x :: st) (gs) (pc) := fun H locs ls hP hD hS hl => lv_ladd X.1.1 X.1.2.1 d (k H locs ls hP hD hS hl)
theorem w_lsub (X : WX p s m args meth c cc own nL rt g) {x y : Int64} (d : decode cc pc = .ok (.lsub, 1)) (k : WW p l e R s m args below meth c g DD SS nL Q kc ks (lv) (.long (x - y) :: st) (gs) (pc + 1)) : WW p l e R s m args below meth c g DD SS nL Q kc ks (lv) (.long y :: .long x :: st) (gs) (pc) := fun H locs ls hP hD hS hl => lv_lsub X.1.1 X.1.2.1 d (k H locs ls hP hD hS hl)
theorem w_lmul (X : WX p s m args meth c cc own nL rt g) {x y : Int64} (d : decode cc pc = .ok (.lmul, 1)) (k : WW p l e R s m args below meth c g DD SS nL Q kc ks (lv) (.long (x * y) :: st) (gs) (pc + 1)) : WW p l e R s m args below meth c g DD SS nL Q kc ks (lv) (.long y :: .long x :: st) (gs) (pc) := fun H locs ls hP hD hS hl => lv_lmul X.1.1 X.1.2.1 d (k H locs ls hP hD hS hl)
theorem w_i2l (X : WX p s m args meth c cc own nL rt g) {x : Int32} (d : decode cc pc = .ok (.i2l, 1)) (k : WW p l e R s m args below meth c g DD SS nL Q kc ks (lv) (.long x.toInt64 :: st) (gs) (pc + 1)) : WW p l e R s m args below meth c g DD SS nL Q kc ks (lv) (.int x :: st) (gs) (pc) := fun H locs ls hP hD hS hl => lv_i2l X.1.1 X.1.2.1 d rfl (k H locs ls hP hD hS hl)
theorem w_lshl (X : WX p s m args meth c cc own nL rt g) {x : Int64} {y : Int32} (d : decode cc pc = .ok (.lshl, 1)) (k : WW p l e R s m args below meth c g DD SS nL Q kc ks (lv) (.long (x <<< (y.toInt64 &&& 63)) :: st) (gs) (pc + 1)) : WW p l e R s m args below meth c g DD SS nL Q kc ks (lv) (.int y :: .long x :: st) (gs) (pc) := fun H locs ls hP hD hS hl => lv_lshl X.1.1 X.1.2.1 d rfl (k H locs ls hP hD hS hl)
theorem w_dup (X : WX p s m args meth c cc own nL rt g) {v : Value} (d : decode cc pc = .ok (.dup, 1)) (hv : v.category = 1) (k : WW p l e R s m args below meth c g DD SS nL Q kc ks (lv) (v :: v :: st) (gs) (pc + 1)) : WW p l e R s m args below meth c g DD SS nL Q kc ks (lv) (v :: st) (gs) (pc) := fun H locs ls hP hD hS hl => lv_dup X.1.1 X.1.2.1 d hv (k H locs ls hP hD hS hl)
theorem w_pop (X : WX p s m args meth c cc own nL rt g) {v : Value} (d : decode cc pc = .ok (.pop, 1)) (hv : v.category = 1) (k : WW p l e R s m args below meth c g DD SS nL Q kc ks (lv) (st) (gs) (pc + 1)) : WW p l e R s m args below meth c g DD SS nL Q kc ks (lv) (v :: st) (gs) (pc) := fun H locs ls hP hD hS hl => lv_pop X.1.1 X.1.2.1 d hv (k H locs ls hP hD hS hl)
theorem w_dup2 (X : WX p s m args meth c cc own nL rt g) {v w : Value} (d : decode cc pc = .ok (.dup2, 1)) (hv : v.category = 1) (hw : w.category = 1) (k : WW p l e R s m args below meth c g DD SS nL Q kc ks (lv) (v :: w :: v :: w :: st) (gs) (pc + 1)) : WW p l e R s m args below meth c g DD SS nL Q kc ks (lv) (v :: w :: st) (gs) (pc) := fun H locs ls hP hD hS hl => lv_dup2_11 X.1.1 X.1.2.1 d hv hw (k H locs ls hP hD hS hl)
theorem w_dsub (X : WX p s m args meth c cc own nL rt g) {x y : UInt64} (d : decode cc pc = .ok (.dsub, 1)) (hn : vf_n64 (FP.dsub x y)) (k : WW p l e R s m args below meth c g DD SS nL Q kc ks (lv) (.double (FP.dsub x y) :: st) (gs) (pc + 1)) : WW p l e R s m args below meth c g DD SS nL Q kc ks (lv) (.double y :: .double x :: st) (gs) (pc) := fun H locs ls hP hD hS hl => lv_dsub X.1.1 X.1.2.1 d hn (k H locs ls hP hD hS hl)
theorem w_dmul (X : WX p s m args meth c cc own nL rt g) {x y : UInt64} (d : decode cc pc = .ok (.dmul, 1)) (hn : vf_n64 (FP.dmul x y)) (k : WW p l e R s m args below meth c g DD SS nL Q kc ks (lv) (.double (FP.dmul x y) :: st) (gs) (pc + 1)) : WW p l e R s m args below meth c g DD SS nL Q kc ks (lv) (.double y :: .double x :: st) (gs) (pc) := fun H locs ls hP hD hS hl => lv_dmul X.1.1 X.1.2.1 d hn (k H locs ls hP hD hS hl)
theorem w_ddiv (X : WX p s m args meth c cc own nL rt g) {x y : UInt64} (d : decode cc pc = .ok (.ddiv, 1)) (hn : vf_n64 (FP.ddiv x y)) (k : WW p l e R s m args below meth c g DD SS nL Q kc ks (lv) (.double (FP.ddiv x y) :: st) (gs) (pc + 1)) : WW p l e R s m args below meth c g DD SS nL Q kc ks (lv) (.double y :: .double x :: st) (gs) (pc) := fun H locs ls hP hD hS hl => lv_ddiv X.1.1 X.1.2.1 d hn (k H locs ls hP hD hS hl)
theorem w_dcmp (X : WX p s m args meth c cc own nL rt g) {x y : UInt64} {op : CmpOp} (d : decode cc pc = .ok (.dcmp op, 1)) (k : WW p l e R s m args below meth c g DD SS nL Q kc ks (lv) (.int (Op.cmpValue (FP.dcmp x y) op) :: st) (gs) (pc + 1)) : WW p l e R s m args below meth c g DD SS nL Q kc ks (lv) (.double y :: .double x :: st) (gs) (pc) := fun H locs ls hP hD hS hl => lv_dcmp X.1.1 X.1.2.1 d (k H locs ls hP hD hS hl)
theorem w_i2d (X : WX p s m args meth c cc own nL rt g) {x : Int32} (d : decode cc pc = .ok (.i2d, 1)) (k : WW p l e R s m args below meth c g DD SS nL Q kc ks (lv) (.double (FP.i2d x) :: st) (gs) (pc + 1)) : WW p l e R s m args below meth c g DD SS nL Q kc ks (lv) (.int x :: st) (gs) (pc) := fun H locs ls hP hD hS hl => lv_i2d X.1.1 X.1.2.1 d (k H locs ls hP hD hS hl)
theorem w_d2l (X : WX p s m args meth c cc own nL rt g) {x : UInt64} (d : decode cc pc = .ok (.d2l, 1)) (k : WW p l e R s m args below meth c g DD SS nL Q kc ks (lv) (.long (FP.d2l x) :: st) (gs) (pc + 1)) : WW p l e R s m args below meth c g DD SS nL Q kc ks (lv) (.double x :: st) (gs) (pc) := fun H locs ls hP hD hS hl => lv_d2l X.1.1 X.1.2.1 d (k H locs ls hP hD hS hl)
theorem w_dconst0 (X : WX p s m args meth c cc own nL rt g) (d : decode cc pc = .ok (.dconst 0, 1)) (k : WW p l e R s m args below meth c g DD SS nL Q kc ks (lv) (.double FP.dconst0 :: st) (gs) (pc + 1)) : WW p l e R s m args below meth c g DD SS nL Q kc ks (lv) (st) (gs) (pc) := fun H locs ls hP hD hS hl => lv_dconst0 X.1.1 X.1.2.1 d (k H locs ls hP hD hS hl)
theorem w_dconst1 (X : WX p s m args meth c cc own nL rt g) (d : decode cc pc = .ok (.dconst 1, 1)) (k : WW p l e R s m args below meth c g DD SS nL Q kc ks (lv) (.double FP.dconst1 :: st) (gs) (pc + 1)) : WW p l e R s m args below meth c g DD SS nL Q kc ks (lv) (st) (gs) (pc) := fun H locs ls hP hD hS hl => lv_dconst1 X.1.1 X.1.2.1 d (k H locs ls hP hD hS hl)
theorem w_ldc2 (X : WX p s m args meth c cc own nL rt g) {index : Nat} {v : Int64} (hc : Cond.constantLong own index v ∈ TW) (d : decode cc pc = .ok (.ldc2_w index, 3)) (k : WW p l e R s m args below meth c g DD SS nL Q kc ks (lv) (.long v :: st) (gs) (pc + 3)) : WW p l e R s m args below meth c g DD SS nL Q kc ks (lv) (st) (gs) (pc) := fun H locs ls hP hD hS hl => lv_ldc2 X.1.1 X.1.2.1 X.1.2.2.2.1 (X.1.2.2.2.2 _ hc) d (k H locs ls hP hD hS hl)
theorem w_ldc2d (X : WX p s m args meth c cc own nL rt g) {index : Nat} {v : UInt64} (hc : Cond.constantDouble own index v ∈ TW) (d : decode cc pc = .ok (.ldc2_w index, 3)) (k : WW p l e R s m args below meth c g DD SS nL Q kc ks (lv) (.double v :: st) (gs) (pc + 3)) : WW p l e R s m args below meth c g DD SS nL Q kc ks (lv) (st) (gs) (pc) := fun H locs ls hP hD hS hl => lv_ldc2d X.1.1 X.1.2.1 X.1.2.2.2.1 (X.1.2.2.2.2 _ hc) d (k H locs ls hP hD hS hl)
theorem w_lcmp (X : WX p s m args meth c cc own nL rt g) {x y : Int64} (d : decode cc pc = .ok (.lcmp, 1)) (k : WW p l e R s m args below meth c g DD SS nL Q kc ks (lv) (.int (lg_cmp x y) :: st) (gs) (pc + 1)) : WW p l e R s m args below meth c g DD SS nL Q kc ks (lv) (.long y :: .long x :: st) (gs) (pc) := fun H locs ls hP hD hS hl => W.lcmp X.1.1 X.1.2.1 d (k H locs ls hP hD hS hl)
theorem w_if_eq (X : WX p s m args meth c cc own nL rt g) {off : Int} {x : Int32} (tgt : Nat) (d : decode cc pc = .ok (.ifCond .eq off, 3)) (ht : (pc : Int) + off = (tgt : Int)) (kt : x = 0 → WW p l e R s m args below meth c g DD SS nL Q kc ks (lv) (st) (gs) (tgt)) (kf : ¬ x = 0 → WW p l e R s m args below meth c g DD SS nL Q kc ks (lv) (st) (gs) (pc + 3)) : WW p l e R s m args below meth c g DD SS nL Q kc ks (lv) (.int x :: st) (gs) (pc) := fun H locs ls hP hD hS hl => lv_if_eq X.1.1 X.1.2.1 d ht (fun c => kt c H locs ls hP hD hS hl) (fun c => kf c H locs ls hP hD hS hl)
theorem w_if_ne (X : WX p s m args meth c cc own nL rt g) {off : Int} {x : Int32} (tgt : Nat) (d : decode cc pc = .ok (.ifCond .ne off, 3)) (ht : (pc : Int) + off = (tgt : Int)) (kt : ¬ x = 0 → WW p l e R s m args below meth c g DD SS nL Q kc ks (lv) (st) (gs) (tgt)) (kf : x = 0 → WW p l e R s m args below meth c g DD SS nL Q kc ks (lv) (st) (gs) (pc + 3)) : WW p l e R s m args below meth c g DD SS nL Q kc ks (lv) (.int x :: st) (gs) (pc) := fun H locs ls hP hD hS hl => lv_if_ne X.1.1 X.1.2.1 d ht (fun c => kt c H locs ls hP hD hS hl) (fun c => kf c H locs ls hP hD hS hl)
theorem w_if_lt (X : WX p s m args meth c cc own nL rt g) {off : Int} {x : Int32} (tgt : Nat) (d : decode cc pc = .ok (.ifCond .lt off, 3)) (ht : (pc : Int) + off = (tgt : Int)) (kt : x < 0 → WW p l e R s m args below meth c g DD SS nL Q kc ks (lv) (st) (gs) (tgt)) (kf : ¬ x < 0 → WW p l e R s m args below meth c g DD SS nL Q kc ks (lv) (st) (gs) (pc + 3)) : WW p l e R s m args below meth c g DD SS nL Q kc ks (lv) (.int x :: st) (gs) (pc) := fun H locs ls hP hD hS hl => lv_if_lt X.1.1 X.1.2.1 d ht (fun c => kt c H locs ls hP hD hS hl) (fun c => kf c H locs ls hP hD hS hl)
theorem w_if_ge (X : WX p s m args meth c cc own nL rt g) {off : Int} {x : Int32} (tgt : Nat) (d : decode cc pc = .ok (.ifCond .ge off, 3)) (ht : (pc : Int) + off = (tgt : Int)) (kt : 0 ≤ x → WW p l e R s m args below meth c g DD SS nL Q kc ks (lv) (st) (gs) (tgt)) (kf : ¬ 0 ≤ x → WW p l e R s m args below meth c g DD SS nL Q kc ks (lv) (st) (gs) (pc + 3)) : WW p l e R s m args below meth c g DD SS nL Q kc ks (lv) (.int x :: st) (gs) (pc) := fun H locs ls hP hD hS hl => lv_if_ge X.1.1 X.1.2.1 d ht (fun c => kt c H locs ls hP hD hS hl) (fun c => kf c H locs ls hP hD hS hl)
theorem w_if_gt (X : WX p s m args meth c cc own nL rt g) {off : Int} {x : Int32} (tgt : Nat) (d : decode cc pc = .ok (.ifCond .gt off, 3)) (ht : (pc : Int) + off = (tgt : Int)) (kt : 0 < x → WW p l e R s m args below meth c g DD SS nL Q kc ks (lv) (st) (gs) (tgt)) (kf : ¬ 0 < x → WW p l e R s m args below meth c g DD SS nL Q kc ks (lv) (st) (gs) (pc + 3)) : WW p l e R s m args below meth c g DD SS nL Q kc ks (lv) (.int x :: st) (gs) (pc) := fun H locs ls hP hD hS hl => lv_if_gt X.1.1 X.1.2.1 d ht (fun c => kt c H locs ls hP hD hS hl) (fun c => kf c H locs ls hP hD hS hl)
theorem w_if_le (X : WX p s m args meth c cc own nL rt g) {off : Int} {x : Int32} (tgt : Nat) (d : decode cc pc = .ok (.ifCond .le off, 3)) (ht : (pc : Int) + off = (tgt : Int)) (kt : x ≤ 0 → WW p l e R s m args below meth c g DD SS nL Q kc ks (lv) (st) (gs) (tgt)) (kf : ¬ x ≤ 0 → WW p l e R s m args below meth c g DD SS nL Q kc ks (lv) (st) (gs) (pc + 3)) : WW p l e R s m args below meth c g DD SS nL Q kc ks (lv) (.int x :: st) (gs) (pc) := fun H locs ls hP hD hS hl => lv_if_le X.1.1 X.1.2.1 d ht (fun c => kt c H locs ls hP hD hS hl) (fun c => kf c H locs ls hP hD hS hl)
theorem w_ic_eq (X : WX p s m args meth c cc own nL rt g) {off : Int} {x y : Int32} (tgt : Nat) (d : decode cc pc = .ok (.if_icmp .eq off, 3)) (ht : (pc : Int) + off = (tgt : Int)) (kt : x = y → WW p l e R s m args below meth c g DD SS nL Q kc ks (lv) (st) (gs) (tgt)) (kf : ¬ x = y → WW p l e R s m args below meth c g DD SS nL Q kc ks (lv) (st) (gs) (pc + 3)) : WW p l e R s m args below meth c g DD SS nL Q kc ks (lv) (.int y :: .int x :: st) (gs) (pc) := fun H locs ls hP hD hS hl => lv_icmp_eq X.1.1 X.1.2.1 d ht (fun c => kt c H locs ls hP hD hS hl) (fun c => kf c H locs ls hP hD hS hl)
theorem w_ic_ne (X : WX p s m args meth c cc own nL rt g) {off : Int} {x y : Int32} (tgt : Nat) (d : decode cc pc = .ok (.if_icmp .ne off, 3)) (ht : (pc : Int) + off = (tgt : Int)) (kt : ¬ x = y → WW p l e R s m args below meth c g DD SS nL Q kc ks (lv) (st) (gs) (tgt)) (kf : x = y → WW p l e R s m args below meth c g DD SS nL Q kc ks (lv) (st) (gs) (pc + 3)) : WW p l e R s m args below meth c g DD SS nL Q kc ks (lv) (.int y :: .int x :: st) (gs) (pc) := fun H locs ls hP hD hS hl => lv_icmp_ne X.1.1 X.1.2.1 d ht (fun c => kt c H locs ls hP hD hS hl) (fun c => kf c H locs ls hP hD hS hl)
theorem w_ic_lt (X : WX p s m args meth c cc own nL rt g) {off : Int} {x y : Int32} (tgt : Nat) (d : decode cc pc = .ok (.if_icmp .lt off, 3)) (ht : (pc : Int) + off = (tgt : Int)) (kt : x < y → WW p l e R s m args below meth c g DD SS nL Q kc ks (lv) (st) (gs) (tgt)) (kf : ¬ x < y → WW p l e R s m args below meth c g DD SS nL Q kc ks (lv) (st) (gs) (pc + 3)) : WW p l e R s m args below meth c g DD SS nL Q kc ks (lv) (.int y :: .int x :: st) (gs) (pc) := fun H locs ls hP hD hS hl => lv_icmp_lt X.1.1 X.1.2.1 d ht (fun c => kt c H locs ls hP hD hS hl) (fun c => kf c H locs ls hP hD hS hl)
theorem w_ic_ge (X : WX p s m args meth c cc own nL rt g) {off : Int} {x y : Int32} (tgt : Nat) (d : decode cc pc = .ok (.if_icmp .ge off, 3)) (ht : (pc : Int) + off = (tgt : Int)) (kt : y ≤ x → WW p l e R s m args below meth c g DD SS nL Q kc ks (lv) (st) (gs) (tgt)) (kf : ¬ y ≤ x → WW p l e R s m args below meth c g DD SS nL Q kc ks (lv) (st) (gs) (pc + 3)) : WW p l e R s m args below meth c g DD SS nL Q kc ks (lv) (.int y :: .int x :: st) (gs) (pc) := fun H locs ls hP hD hS hl => lv_icmp_ge X.1.1 X.1.2.1 d ht (fun c => kt c H locs ls hP hD hS hl) (fun c => kf c H locs ls hP hD hS hl)
theorem w_ic_gt (X : WX p s m args meth c cc own nL rt g) {off : Int} {x y : Int32} (tgt : Nat) (d : decode cc pc = .ok (.if_icmp .gt off, 3)) (ht : (pc : Int) + off = (tgt : Int)) (kt : y < x → WW p l e R s m args below meth c g DD SS nL Q kc ks (lv) (st) (gs) (tgt)) (kf : ¬ y < x → WW p l e R s m args below meth c g DD SS nL Q kc ks (lv) (st) (gs) (pc + 3)) : WW p l e R s m args below meth c g DD SS nL Q kc ks (lv) (.int y :: .int x :: st) (gs) (pc) := fun H locs ls hP hD hS hl => lv_icmp_gt X.1.1 X.1.2.1 d ht (fun c => kt c H locs ls hP hD hS hl) (fun c => kf c H locs ls hP hD hS hl)
theorem w_ic_le (X : WX p s m args meth c cc own nL rt g) {off : Int} {x y : Int32} (tgt : Nat) (d : decode cc pc = .ok (.if_icmp .le off, 3)) (ht : (pc : Int) + off = (tgt : Int)) (kt : x ≤ y → WW p l e R s m args below meth c g DD SS nL Q kc ks (lv) (st) (gs) (tgt)) (kf : ¬ x ≤ y → WW p l e R s m args below meth c g DD SS nL Q kc ks (lv) (st) (gs) (pc + 3)) : WW p l e R s m args below meth c g DD SS nL Q kc ks (lv) (.int y :: .int x :: st) (gs) (pc) := fun H locs ls hP hD hS hl => lv_icmp_le X.1.1 X.1.2.1 d ht (fun c => kt c H locs ls hP hD hS hl) (fun c => kf c H locs ls hP hD hS hl)
theorem w_nc_eq (X : WX p s m args meth c cc own nL rt g) {off : Int} {a b : Nat} (ha : a < 2 ^ 31) (hb : b < 2 ^ 31) (tgt : Nat) (d : decode cc pc = .ok (.if_icmp .eq off, 3)) (ht : (pc : Int) + off = (tgt : Int)) (kt : a = b → WW p l e R s m args below meth c g DD SS nL Q kc ks (lv) (st) (gs) (tgt)) (kf : a ≠ b → WW p l e R s m args below meth c g DD SS nL Q kc ks (lv) (st) (gs) (pc + 3)) : WW p l e R s m args below meth c g DD SS nL Q kc ks (lv) (.int (nI b) :: .int (nI a) :: st) (gs) (pc) := fun H locs ls hP hD hS hl => lv_icmp_eq X.1.1 X.1.2.1 d ht (fun c => kt ((nI_eq ha hb).mp c) H locs ls hP hD hS hl) (fun c => kf (fun h => c ((nI_eq ha hb).mpr h)) H locs ls hP hD hS hl)
theorem w_nc_ne (X : WX p s m args meth c cc own nL rt g) {off : Int} {a b : Nat} (ha : a < 2 ^ 31) (hb : b < 2 ^ 31) (tgt : Nat) (d : decode cc pc = .ok (.if_icmp .ne off, 3)) (ht : (pc : Int) + off = (tgt : Int)) (kt : a ≠ b → WW p l e R s m args below meth c g DD SS nL Q kc ks (lv) (st) (gs) (tgt)) (kf : a = b → WW p l e R s m args below meth c g DD SS nL Q kc ks (lv) (st) (gs) (pc + 3)) : WW p l e R s m args below meth c g DD SS nL Q kc ks (lv) (.int (nI b) :: .int (nI a) :: st) (gs) (pc) := fun H locs ls hP hD hS hl => lv_icmp_ne X.1.1 X.1.2.1 d ht (fun c => kt (fun h => c ((nI_eq ha hb).mpr h)) H locs ls hP hD hS hl) (fun c => kf ((nI_eq ha hb).mp c) H locs ls hP hD hS hl)
theorem w_nc_lt (X : WX p s m args meth c cc own nL rt g) {off : Int} {a b : Nat} (ha : a < 2 ^ 31) (hb : b < 2 ^ 31) (tgt : Nat) (d : decode cc pc = .ok (.if_icmp .lt off, 3)) (ht : (pc : Int) + off = (tgt : Int)) (kt : a < b → WW p l e R s m args below meth c g DD SS nL Q kc ks (lv) (st) (gs) (tgt)) (kf : b ≤ a → WW p l e R s m args below meth c g DD SS nL Q kc ks (lv) (st) (gs) (pc + 3)) : WW p l e R s m args below meth c g DD SS nL Q kc ks (lv) (.int (nI b) :: .int (nI a) :: st) (gs) (pc) := fun H locs ls hP hD hS hl => lv_icmp_lt X.1.1 X.1.2.1 d ht (fun c => kt ((nI_ltI ha hb).mp c) H locs ls hP hD hS hl) (fun c => kf (Nat.le_of_not_lt fun h => c ((nI_ltI ha hb).mpr h)) H locs ls hP hD hS hl)
theorem w_nc_ge (X : WX p s m args meth c cc own nL rt g) {off : Int} {a b : Nat} (ha : a < 2 ^ 31) (hb : b < 2 ^ 31) (tgt : Nat) (d : decode cc pc = .ok (.if_icmp .ge off, 3)) (ht : (pc : Int) + off = (tgt : Int)) (kt : b ≤ a → WW p l e R s m args below meth c g DD SS nL Q kc ks (lv) (st) (gs) (tgt)) (kf : a < b → WW p l e R s m args below meth c g DD SS nL Q kc ks (lv) (st) (gs) (pc + 3)) : WW p l e R s m args below meth c g DD SS nL Q kc ks (lv) (.int (nI b) :: .int (nI a) :: st) (gs) (pc) := fun H locs ls hP hD hS hl => lv_icmp_ge X.1.1 X.1.2.1 d ht (fun c => kt ((nI_leI hb ha).mp c) H locs ls hP hD hS hl) (fun c => kf (Nat.lt_of_not_le fun h => c ((nI_leI hb ha).mpr h)) H locs ls hP hD hS hl)
theorem w_nc_gt (X : WX p s m args meth c cc own nL rt g) {off : Int} {a b : Nat} (ha : a < 2 ^ 31) (hb : b < 2 ^ 31) (tgt : Nat) (d : decode cc pc = .ok (.if_icmp .gt off, 3)) (ht : (pc : Int) + off = (tgt : Int)) (kt : b < a → WW p l e R s m args below meth c g DD SS nL Q kc ks (lv) (st) (gs) (tgt)) (kf : a ≤ b → WW p l e R s m args below meth c g DD SS nL Q kc ks (lv) (st) (gs) (pc + 3)) : WW p l e R s m args below meth c g DD SS nL Q kc ks (lv) (.int (nI b) :: .int (nI a) :: st) (gs) (pc) := fun H locs ls hP hD hS hl => lv_icmp_gt X.1.1 X.1.2.1 d ht (fun c => kt ((nI_ltI hb ha).mp c) H locs ls hP hD hS hl) (fun c => kf (Nat.le_of_not_lt fun h => c ((nI_ltI hb ha).mpr h)) H locs ls hP hD hS hl)
theorem w_nc_le (X : WX p s m args meth c cc own nL rt g) {off : Int} {a b : Nat} (ha : a < 2 ^ 31) (hb : b < 2 ^ 31) (tgt : Nat) (d : decode cc pc = .ok (.if_icmp .le off, 3)) (ht : (pc : Int) + off = (tgt : Int)) (kt : a ≤ b → WW p l e R s m args below meth c g DD SS nL Q kc ks (lv) (st) (gs) (tgt)) (kf : b < a → WW p l e R s m args below meth c g DD SS nL Q kc ks (lv) (st) (gs) (pc + 3)) : WW p l e R s m args below meth c g DD SS nL Q kc ks (lv) (.int (nI b) :: .int (nI a) :: st) (gs) (pc) := fun H locs ls hP hD hS hl => lv_icmp_le X.1.1 X.1.2.1 d ht (fun c => kt ((nI_leI ha hb).mp c) H locs ls hP hD hS hl) (fun c => kf (Nat.lt_of_not_le fun h => c ((nI_leI ha hb).mpr h)) H locs ls hP hD hS hl)
theorem w_nf_eq (X : WX p s m args meth c cc own nL rt g) {off : Int} {a : Nat} (ha : a < 2 ^ 31) (tgt : Nat) (d : decode cc pc = .ok (.ifCond .eq off, 3)) (ht : (pc : Int) + off = (tgt : Int)) (kt : a = 0 → WW p l e R s m args below meth c g DD SS nL Q kc ks (lv) (st) (gs) (tgt)) (kf : a ≠ 0 → WW p l e R s m args below meth c g DD SS nL Q kc ks (lv) (st) (gs) (pc + 3)) : WW p l e R s m args below meth c g DD SS nL Q kc ks (lv) (.int (nI a) :: st) (gs) (pc) := fun H locs ls hP hD hS hl => lv_if_eq X.1.1 X.1.2.1 d ht (fun c => kt ((nI_eq0 ha).mp c) H locs ls hP hD hS hl) (fun c => kf (fun h => c ((nI_eq0 ha).mpr h)) H locs ls hP hD hS hl)
theorem w_nf_ne (X : WX p s m args meth c cc own nL rt g) {off : Int} {a : Nat} (ha : a < 2 ^ 31) (tgt : Nat) (d : decode cc pc = .ok (.ifCond .ne off, 3)) (ht : (pc : Int) + off = (tgt : Int)) (kt : a ≠ 0 → WW p l e R s m args below meth c g DD SS nL Q kc ks (lv) (st) (gs) (tgt)) (kf : a = 0 → WW p l e R s m args below meth c g DD SS nL Q kc ks (lv) (st) (gs) (pc + 3)) : WW p l e R s m args below meth c g DD SS nL Q kc ks (lv) (.int (nI a) :: st) (gs) (pc) := fun H locs ls hP hD hS hl => lv_if_ne X.1.1 X.1.2.1 d ht (fun c => kt (fun h => c ((nI_eq0 ha).mpr h)) H locs ls hP hD hS hl) (fun c => kf ((nI_eq0 ha).mp c) H locs ls hP hD hS hl)
theorem w_bf_eq (X : WX p s m args meth c cc own nL rt g) {off : Int} {b : Bool} (tgt : Nat) (d : decode cc pc = .ok (.ifCond .eq off, 3)) (ht : (pc : Int) + off = (tgt : Int)) (kt : b = false → WW p l e R s m args below meth c g DD SS nL Q kc ks (lv) (st) (gs) (tgt)) (kf : b = true → WW p l e R s m args below meth c g DD SS nL Q kc ks (lv) (st) (gs) (pc + 3)) : WW p l e R s m args below meth c g DD SS nL Q kc ks (lv) (.int (bI b) :: st) (gs) (pc) := fun H locs ls hP hD hS hl => lv_if_eq X.1.1 X.1.2.1 d ht (fun c => kt ((bI_0 b).mp c) H locs ls hP hD hS hl) (fun c => kf (by cases b; exact absurd rfl c; rfl) H locs ls hP hD hS hl)
theorem w_bf_ne (X : WX p s m args meth c cc own nL rt g) {off : Int} {b : Bool} (tgt : Nat) (d : decode cc pc = .ok (.ifCond .ne off, 3)) (ht : (pc : Int) + off = (tgt : Int)) (kt : b = true → WW p l e R s m args below meth c g DD SS nL Q kc ks (lv) (st) (gs) (tgt)) (kf : b = false → WW p l e R s m args below meth c g DD SS nL Q kc ks (lv) (st) (gs) (pc + 3)) : WW p l e R s m args below meth c g DD SS nL Q kc ks (lv) (.int (bI b) :: st) (gs) (pc) := fun H locs ls hP hD hS hl => lv_if_ne X.1.1 X.1.2.1 d ht (fun c => kt (by cases b; exact absurd rfl c; rfl) H locs ls hP hD hS hl) (fun c => kf ((bI_0 b).mp c) H locs ls hP hD hS hl)
theorem w_goto (X : WX p s m args meth c cc own nL rt g) {off : Int} (tgt : Nat) (d : decode cc pc = .ok (.goto off, 3)) (ht : (pc : Int) + off = (tgt : Int)) (k : WW p l e R s m args below meth c g DD SS nL Q kc ks (lv) (st) (gs) (tgt)) : WW p l e R s m args below meth c g DD SS nL Q kc ks (lv) (st) (gs) (pc) := fun H locs ls hP hD hS hl => lv_goto X.1.1 X.1.2.1 d ht (k H locs ls hP hD hS hl)
theorem w_ifnonnull (X : WX p s m args meth c cc own nL rt g) {x : Nat} {off : Int} (tgt : Nat) (d : decode cc pc = .ok (.ifnonnull off, 3)) (ht : (pc : Int) + off = (tgt : Int)) (k : WW p l e R s m args below meth c g DD SS nL Q kc ks (lv) (st) (gs) (tgt)) : WW p l e R s m args below meth c g DD SS nL Q kc ks (lv) (.ref x :: st) (gs) (pc) := fun H locs ls hP hD hS hl => lv_ifnonnull X.1.1 X.1.2.1 d ht (k H locs ls hP hD hS hl)
theorem w_tableOut (X : WX p s m args meth c cc own nL rt g) {dflt lo hi : Int} {offs : Array Int} {len : Nat} {x : Int32} (tgt : Nat) (d : decode cc pc = .ok (.tableswitch dflt lo hi offs, len)) (h : x.toInt < lo ∨ hi < x.toInt) (ht : (pc : Int) + dflt = (tgt : Int)) (k : WW p l e R s m args below meth c g DD SS nL Q kc ks (lv) (st) (gs) (tgt)) : WW p l e R s m args below meth c g DD SS nL Q kc ks (lv) (.int x :: st) (gs) (pc) := fun H locs ls hP hD hS hl => lv_tableOut X.1.1 X.1.2.1 d h ht (k H locs ls hP hD hS hl)
theorem w_tableIn (X : WX p s m args meth c cc own nL rt g) {dflt lo hi : Int} {offs : Array Int} {len : Nat} {x : Int32} {off : Int} (tgt : Nat) (d : decode cc pc = .ok (.tableswitch dflt lo hi offs, len)) (h1 : ¬ x.toInt < lo) (h2 : ¬ hi < x.toInt) (ho : offs[(x.toInt - lo).toNat]? = some off) (ht : (pc : Int) + off = (tgt : Int)) (k : WW p l e R s m args below meth c g DD SS nL Q kc ks (lv) (st) (gs) (tgt)) : WW p l e R s m args below meth c g DD SS nL Q kc ks (lv) (.int x :: st) (gs) (pc) := fun H locs ls hP hD hS hl => lv_tableIn X.1.1 X.1.2.1 d h1 h2 ho ht (k H locs ls hP hD hS hl)
theorem w_st {st2 : List Value} (h : st = st2) (k : WW p l e R s m args below meth c g DD SS nL Q kc ks (lv) (st2) (gs) (pc)) : WW p l e R s m args below meth c g DD SS nL Q kc ks (lv) (st) (gs) (pc) := by rw [h]; exact k
theorem w_gs {gs2 : List va_W} (h : gs = gs2) (k : WW p l e R s m args below meth c g DD SS nL Q kc ks (lv) (st) (gs2) (pc)) : WW p l e R s m args below meth c g DD SS nL Q kc ks (lv) (st) (gs) (pc) := by rw [h]; exact k
theorem w_lv {lv2 : List (Nat × Value)} (js : List Nat) (h : lv_pick lv js = lv2) (k : WW p l e R s m args below meth c g DD SS nL Q kc ks (lv2) (st) (gs) (pc)) : WW p l e R s m args below meth c g DD SS nL Q kc ks (lv) (st) (gs) (pc) := fun H locs ls hP hD hS hl => k H locs ls hP hD hS (lv_sub hl js h)
theorem w_all {lv2 : List (Nat × Value)} {st2 : List Value} {gs2 : List va_W} (js : List Nat) (hs : st = st2) (hg : gs = gs2) (h : lv_pick lv js = lv2) (k : WW p l e R s m args below meth c g DD SS nL Q kc ks (lv2) (st2) (gs2) (pc)) : WW p l e R s m args below meth c g DD SS nL Q kc ks (lv) (st) (gs) (pc) := by subst hs; subst hg; exact w_lv js h k
theorem w_widen {k n : Nat} (h1 : kc ≤ k) (h2 : ks ≤ n) (kk : WW p l e R s m args below meth c g DD SS nL Q k n lv st gs pc) : WW p l e R s m args below meth c g DD SS nL Q kc ks (lv) (st) (gs) (pc) := fun H locs ls hP hD hS hl => W.widen h1 h2 (kk H locs ls hP hD hS hl)
theorem w_get (X : WX p s m args meth c cc own nL rt g) (gi gj : Nat) {G : va_W} {a ci N : Nat} {fs : List Value} {C : String} {T : u_T} (hG : gs[gi]? = some G) (hj : G[gj]? = some (a, .inr (ci, fs))) (hc : vwCl[ci]? = some (C, T, N)) (hin : ∀ w ∈ u_ws C T N, w ∈ TW) {index : Nat} {v : Value} (k : Nat) (hk : k < N) (hlink : Cond.fieldLink own index (T k).1 (T k).2.1 (T k).2.2.1 ∈ TW) (hv : fs[k]? = some v) (d : decode cc pc = .ok (.getfield index, 3)) (kk : WW p l e R s m args below meth c g DD SS nL Q kc ks (lv) (v :: st) (gs) (pc + 3)) : WW p l e R s m args below meth c g DD SS nL Q kc ks (lv) (.ref a :: st) (gs) (pc) := fun H locs ls hP hD hS hl => va_get X.1.1 X.1.2.1 X.1.2.2.2.2 hin X.1.2.2.2.1 X.2.1.1 hP _ (fl_lt gs gi G hG gj _ hj) hc k hk (X.1.2.2.2.2 _ hlink) (fun _ h => h) hv d (kk H locs ls hP hD hS hl)
theorem w_put (X : WX p s m args meth c cc own nL rt g) (gi gj : Nat) {G : va_W} {a ci N : Nat} {fs : List Value} {C : String} {T : u_T} (hG : gs[gi]? = some G) (hj : G[gj]? = some (a, .inr (ci, fs))) (hc : vwCl[ci]? = some (C, T, N)) (hin : ∀ w ∈ u_ws C T N, w ∈ TW) (ty0 : Nat → FieldType) (hty : ∀ k, k < N → parseFieldDescriptor (T k).2.2.1 = some (ty0 k)) (hnm : ∀ a, a < N → ∀ b, b < N → a ≠ b → (T a).2.1 ≠ (T b).2.1) {index : Nat} {v : Value} {ty : FieldType} {G' : va_W} (k : Nat) (hk : k < N) (hlink : Cond.fieldLink own index (T k).1 (T k).2.1 (T k).2.2.1 ∈ TW) (hfin : (T k).2.2.2 = false) (hd : parseFieldDescriptor (T k).2.2.1 = some ty) (hn : narrow ty v = v) (hfit : fits ty v = true) (hl0 : k < fs.length) (hG' : G.set gj (a, .inr (ci, fs.set k v)) = G') (d : decode cc pc = .ok (.putfield index, 3)) (kk : WW p l e R s m args below meth c g (va_D A) (va_S A s.heap) nL Q kc ks (lv) (st) (gs.set gi G') (pc + 3)) : WW p l e R s m args below meth c g (va_D A) (va_S A s.heap) nL Q kc ks (lv) (v :: .ref a :: st) (gs) (pc) := by
  intro H locs ls hP hD hS hl
  subst hG'
  have hj2 : gj < G.length := (List.getElem?_eq_some_iff.mp hj).1
  refine va_put X.1.1 X.1.2.1 X.1.2.2.2.2 hin ty0 hty hnm X.1.2.2.2.1 X.2.1.1 hP hD hS _ (fl_lt gs gi G hG gj _ hj) hc k hk (X.1.2.2.2.2 _ hlink) (fun _ h => h) hfin hd hn hfit hl0 d (fun H1 locs1 hP1 hD1 hS1 => ?_)
  rw [fl_set gs gi G hG gj _ hj2] at hP1 hD1
  exact kk H1 locs1 ls hP1 hD1 hS1 hl
theorem w_iald (X : WX p s m args meth c cc own nL rt g) (gi gj t0 : Nat) {G : va_W} {a n : Nat} {cA : ClassId} {f : Nat → Int32} (hG : gs[gi]? = some G) (hj : G[gj]? = some (a, .inl (cA, n, .inl f))) (ht : (tyL g)[t0]? = some (cA, .int)) {i : Int32} (hin : vp_in i n) (d : decode cc pc = .ok (.iaload, 1)) (kk : WW p l e R s m args below meth c g DD SS nL Q kc ks (lv) (.int (f i.toNatClampNeg) :: st) (gs) (pc + 1)) : WW p l e R s m args below meth c g DD SS nL Q kc ks (lv) (.int i :: .ref a :: st) (gs) (pc) := fun H locs ls hP hD hS hl => va_iald X.1.1 X.1.2.1 X.2.1.1 hP _ t0 (fl_lt gs gi G hG gj _ hj) ht hin d (kk H locs ls hP hD hS hl)
theorem w_iald_n (X : WX p s m args meth c cc own nL rt g) (gi gj t0 : Nat) {G : va_W} {a n : Nat} {cA : ClassId} {f : Nat → Int32} (hG : gs[gi]? = some G) (hj : G[gj]? = some (a, .inl (cA, n, .inl f))) (ht : (tyL g)[t0]? = some (cA, .int)) {i : Nat} (hi : i < n) (hn : n < 2 ^ 31) (d : decode cc pc = .ok (.iaload, 1)) (kk : WW p l e R s m args below meth c g DD SS nL Q kc ks (lv) (.int (f i) :: st) (gs) (pc + 1)) : WW p l e R s m args below meth c g DD SS nL Q kc ks (lv) (.int (nI i) :: .ref a :: st) (gs) (pc) := w_iald X gi gj t0 hG hj ht (vp_in_nI hi hn) d (by rw [nI_clamp (Nat.lt_trans hi hn)]; exact kk)
theorem w_zald (X : WX p s m args meth c cc own nL rt g) (gi gj t0 : Nat) {G : va_W} {a n : Nat} {cA : ClassId} {f : Nat → Int32} (hG : gs[gi]? = some G) (hj : G[gj]? = some (a, .inl (cA, n, .inl f))) (ht : (tyL g)[t0]? = some (cA, .boolean)) {i : Int32} (hin : vp_in i n) (d : decode cc pc = .ok (.baload, 1)) (kk : WW p l e R s m args below meth c g DD SS nL Q kc ks (lv) (.int (f i.toNatClampNeg) :: st) (gs) (pc + 1)) : WW p l e R s m args below meth c g DD SS nL Q kc ks (lv) (.int i :: .ref a :: st) (gs) (pc) := fun H locs ls hP hD hS hl => va_zald X.1.1 X.1.2.1 X.2.1.1 hP _ t0 (fl_lt gs gi G hG gj _ hj) ht hin d (kk H locs ls hP hD hS hl)
theorem w_zald_n (X : WX p s m args meth c cc own nL rt g) (gi gj t0 : Nat) {G : va_W} {a n : Nat} {cA : ClassId} {f : Nat → Int32} (hG : gs[gi]? = some G) (hj : G[gj]? = some (a, .inl (cA, n, .inl f))) (ht : (tyL g)[t0]? = some (cA, .boolean)) {i : Nat} (hi : i < n) (hn : n < 2 ^ 31) (d : decode cc pc = .ok (.baload, 1)) (kk : WW p l e R s m args below meth c g DD SS nL Q kc ks (lv) (.int (f i) :: st) (gs) (pc + 1)) : WW p l e R s m args below meth c g DD SS nL Q kc ks (lv) (.int (nI i) :: .ref a :: st) (gs) (pc) := w_zald X gi gj t0 hG hj ht (vp_in_nI hi hn) d (by rw [nI_clamp (Nat.lt_trans hi hn)]; exact kk)
theorem w_iast (X : WX p s m args meth c cc own nL rt g) (gi gj t0 : Nat) {G : va_W} {a n : Nat} {cA : ClassId} {f : Nat → Int32} (hG : gs[gi]? = some G) (hj : G[gj]? = some (a, .inl (cA, n, .inl f))) (ht : (tyL g)[t0]? = some (cA, .int)) {i x : Int32} {G' : va_W} (hin : vp_in i n) (hG' : G.set gj (a, .inl (cA, n, .inl (upd f i.toNatClampNeg x))) = G') (d : decode cc pc = .ok (.iastore, 1)) (kk : WW p l e R s m args below meth c g (va_D A) (va_S A s.heap) nL Q kc ks (lv) (st) (gs.set gi G') (pc + 1)) : WW p l e R s m args below meth c g (va_D A) (va_S A s.heap) nL Q kc ks (lv) (.int x :: .int i :: .ref a :: st) (gs) (pc) := by
  intro H locs ls hP hD hS hl
  subst hG'
  have hj2 : gj < G.length := (List.getElem?_eq_some_iff.mp hj).1
  refine va_iast X.1.1 X.1.2.1 X.2.1.1 hP hD hS _ t0 (fl_lt gs gi G hG gj _ hj) ht hin d (fun H1 locs1 hP1 hD1 hS1 => ?_)
  rw [fl_set gs gi G hG gj _ hj2] at hP1 hD1
  exact kk H1 locs1 ls hP1 hD1 hS1 hl
theorem w_iast_n (X : WX p s m args meth c cc own nL rt g) (gi gj t0 : Nat) {G : va_W} {a n : Nat} {cA : ClassId} {f : Nat → Int32} (hG : gs[gi]? = some G) (hj : G[gj]? = some (a, .inl (cA, n, .inl f))) (ht : (tyL g)[t0]? = some (cA, .int)) {x : Int32} {i : Nat} {G' : va_W} (hi : i < n) (hn : n < 2 ^ 31) (hG' : G.set gj (a, .inl (cA, n, .inl (upd f i x))) = G') (d : decode cc pc = .ok (.iastore, 1)) (kk : WW p l e R s m args below meth c g (va_D A) (va_S A s.heap) nL Q kc ks (lv) (st) (gs.set gi G') (pc + 1)) : WW p l e R s m args below meth c g (va_D A) (va_S A s.heap) nL Q kc ks (lv) (.int x :: .int (nI i) :: .ref a :: st) (gs) (pc) := w_iast X gi gj t0 hG hj ht (vp_in_nI hi hn) (by rw [nI_clamp (Nat.lt_trans hi hn)]; exact hG') d kk
theorem w_zast (X : WX p s m args meth c cc own nL rt g) (gi gj t0 : Nat) {G : va_W} {a n : Nat} {cA : ClassId} {f : Nat → Int32} (hG : gs[gi]? = some G) (hj : G[gj]? = some (a, .inl (cA, n, .inl f))) (ht : (tyL g)[t0]? = some (cA, .boolean)) {i x : Int32} {G' : va_W} (hin : vp_in i n) (hG' : G.set gj (a, .inl (cA, n, .inl (upd f i.toNatClampNeg (vp_nar .boolean x)))) = G') (d : decode cc pc = .ok (.bastore, 1)) (kk : WW p l e R s m args below meth c g (va_D A) (va_S A s.heap) nL Q kc ks (lv) (st) (gs.set gi G') (pc + 1)) : WW p l e R s m args below meth c g (va_D A) (va_S A s.heap) nL Q kc ks (lv) (.int x :: .int i :: .ref a :: st) (gs) (pc) := by
  intro H locs ls hP hD hS hl
  subst hG'
  have hj2 : gj < G.length := (List.getElem?_eq_some_iff.mp hj).1
  refine va_zast X.1.1 X.1.2.1 X.2.1.1 hP hD hS _ t0 (fl_lt gs gi G hG gj _ hj) ht hin d (fun H1 locs1 hP1 hD1 hS1 => ?_)
  rw [fl_set gs gi G hG gj _ hj2] at hP1 hD1
  exact kk H1 locs1 ls hP1 hD1 hS1 hl
theorem w_zast_n (X : WX p s m args meth c cc own nL rt g) (gi gj t0 : Nat) {G : va_W} {a n : Nat} {cA : ClassId} {f : Nat → Int32} (hG : gs[gi]? = some G) (hj : G[gj]? = some (a, .inl (cA, n, .inl f))) (ht : (tyL g)[t0]? = some (cA, .boolean)) {x : Int32} {i : Nat} {G' : va_W} (hi : i < n) (hn : n < 2 ^ 31) (hG' : G.set gj (a, .inl (cA, n, .inl (upd f i (vp_nar .boolean x)))) = G') (d : decode cc pc = .ok (.bastore, 1)) (kk : WW p l e R s m args below meth c g (va_D A) (va_S A s.heap) nL Q kc ks (lv) (st) (gs.set gi G') (pc + 1)) : WW p l e R s m args below meth c g (va_D A) (va_S A s.heap) nL Q kc ks (lv) (.int x :: .int (nI i) :: .ref a :: st) (gs) (pc) := w_zast X gi gj t0 hG hj ht (vp_in_nI hi hn) (by rw [nI_clamp (Nat.lt_trans hi hn)]; exact hG') d kk
theorem w_aald (X : WX p s m args meth c cc own nL rt g) (gi gj t0 : Nat) {G : va_W} {a n : Nat} {cA : ClassId} {C : String} {f : Nat → Option Nat} (hG : gs[gi]? = some G) (hj : G[gj]? = some (a, .inl (cA, n, .inr (.inr (.inr (.inr f)))))) (ht : (tyL g)[t0]? = some (cA, .object C)) {i b : Nat} (hi : i < n) (hn : n < 2 ^ 31) (hf : f i = some b) (d : decode cc pc = .ok (.aaload, 1)) (kk : WW p l e R s m args below meth c g DD SS nL Q kc ks (lv) (.ref b :: st) (gs) (pc + 1)) : WW p l e R s m args below meth c g DD SS nL Q kc ks (lv) (.int (nI i) :: .ref a :: st) (gs) (pc) := fun H locs ls hP hD hS hl => va_aldq X.1.1 X.1.2.1 X.2.1.1 hP _ t0 (fl_lt gs gi G hG gj _ hj) ht (vp_in_nI hi hn) d (by rw [nI_clamp (Nat.lt_trans hi hn), hf]; exact kk H locs ls hP hD hS hl)
theorem w_iadd_n (X : WX p s m args meth c cc own nL rt g) {a b : Nat} (d : decode cc pc = .ok (.iadd, 1)) (k : WW p l e R s m args below meth c g DD SS nL Q kc ks (lv) (.int (nI (a + b)) :: st) (gs) (pc + 1)) : WW p l e R s m args below meth c g DD SS nL Q kc ks (lv) (.int (nI b) :: .int (nI a) :: st) (gs) (pc) := w_iadd X d (by rw [nI_add]; exact k)
theorem w_imul_n (X : WX p s m args meth c cc own nL rt g) {a b : Nat} (d : decode cc pc = .ok (.imul, 1)) (k : WW p l e R s m args below meth c g DD SS nL Q kc ks (lv) (.int (nI (a * b)) :: st) (gs) (pc + 1)) : WW p l e R s m args below meth c g DD SS nL Q kc ks (lv) (.int (nI b) :: .int (nI a) :: st) (gs) (pc) := w_imul X d (by rw [pk_mul]; exact k)
theorem w_isub_n (X : WX p s m args meth c cc own nL rt g) {a b : Nat} (h : b ≤ a) (d : decode cc pc = .ok (.isub, 1)) (k : WW p l e R s m args below meth c g DD SS nL Q kc ks (lv) (.int (nI (a - b)) :: st) (gs) (pc + 1)) : WW p l e R s m args below meth c g DD SS nL Q kc ks (lv) (.int (nI b) :: .int (nI a) :: st) (gs) (pc) := w_isub X d (by rw [pk_sub h]; exact k)
theorem w_csR {a : Array Value} {rest st1 : List Value} {rv : Option Value} (hS1 : rv.toList ++ rest = st1)
    (hr : ∀ (H : Heap) (locs : List Loc) (ls : Array Slot), va_P g.1 vwCl gs.flatten H → DD gs.flatten → SS H locs → lv_has ls nL lv → va_Run p l e R s m args below meth c H locs kc ks 0 0 (F0 m pc ls st) rest (QR rv a) (fun _ => False)) (k : WW p l e R s m args below meth c g DD SS nL Q kc ks (lv) (st1) (gs) (pc + 3)) : WW p l e R s m args below meth c g DD SS nL Q kc ks (lv) (st) (gs) (pc) := by
  subst hS1
  intro H locs ls hP hD hS hl T hT X
  obtain ⟨v, st₀, t, T', L, h0, X', hL, e1, e2, ⟨hv, hh⟩, sg⟩ := hr H locs ls hP hD hS hl T hT X
  cases hv
  obtain ⟨t2, a1, b1⟩ := k H locs ls hP hD hS hl T' (by rw [e1, hh, h0]) (Stand.forget X' (fun q h => (hL q h).elim))
  exact ⟨t2, sg t2 a1, b1⟩
theorem ro_pre {gc : List va_W} {is : List Nat} {H : Heap} {As : List Value} (hE : EV g s) (hP : va_P g.1 vwCl gs.flatten H) (hi : is.map (fun i => gs[i]?) = gc.map some) : PreS s H (va_Pc As (fun U => va_P g.1 vwCl gc.flatten U.heap ∧ EV g U)) As :=
  ⟨fun a U j mk q => ⟨q.1, q.2.1, q.2.2.blind j mk a⟩, fun U hU hW => ⟨rfl, by rw [hU]; exact va_P_mem.mpr (fun q hq => va_P_mem.mp hP q (gs_mem hi q hq)), hE.warm hW⟩⟩
theorem w_roV (X : WX p s m args meth c cc own nL rt g) {b idx : Nat} {As rest st1 : List Value} {gc : List va_W} {rv : Option Value} {y : MethodName} {cy : ByteArray} {ny kh : Nat} {ry : Option FieldType} (is : List Nat) (gi gj : Nat) (hM : MRO l g y cy ny ry kh (.ref b :: As) gc rv) {C : String} {T : u_T} {G : va_W} {ci N : Nat} {fs : List Value} (hy : CV C y cy ny ry As.length) (hlink : Cond.methodLink own idx y ∈ TW) (hst : st = As.reverse ++ .ref b :: rest) (hi : is.map (fun i => gs[i]?) = gc.map some) (hG : gs[gi]? = some G) (hj : G[gj]? = some (b, .inr (ci, fs))) (hc : vwCl[ci]? = some (C, T, N)) (hR : kh + 1 ≤ R.frames ∧ 8 + (ny + 11) + 32 * kh ≤ R.locals) (hw : (rest.map fun v => v.category).sum ≤ 8) (hf : kc ≤ R.cells ∧ ks ≤ R.slots) (d : decode cc pc = .ok (.invokevirtual idx, 3)) (hS1 : rv.toList ++ rest = st1) (k : WW p l e R s m args below meth c g DD SS nL Q kc ks (lv) (st1) (gs) (pc + 3)) : WW p l e R s m args below meth c g DD SS nL Q kc ks (lv) (st) (gs) (pc) :=
  w_csR hS1 (fun H locs ls hP hD hS hl => va_runV (As := As) (rest := rest) X.1 hM (cwV As.length X.1.2.2.2.2 (gV hlink hy) rfl rfl rfl hy.1 hR) ⟨(ro_pre (As := .ref b :: As) X.2.1 hP hi).1, va_recv X.2.1.1 hP hc (fl_lt gs gi G hG gj _ hj), (ro_pre (As := .ref b :: As) X.2.1 hP hi).2⟩ rfl rfl hl.1 hst (lv_room hw) d ⟨hf.1, hf.2⟩) k
theorem w_roS (X : WX p s m args meth c cc own nL rt g) {idx : Nat} {As rest st1 : List Value} {gc : List va_W} {rv : Option Value} {y : MethodName} {cy : ByteArray} {ny kh : Nat} {ry : Option FieldType} (is : List Nat) (hM : MRO l g y cy ny ry kh As gc rv) (hy : CSt y cy ny ry As.length) (hlink : Cond.methodLink own idx y ∈ TW) (hst : st = As.reverse ++ rest) (hi : is.map (fun i => gs[i]?) = gc.map some) (hR : kh + 1 ≤ R.frames ∧ 8 + (ny + 11) + 32 * kh ≤ R.locals) (hw : (rest.map fun v => v.category).sum ≤ 8) (hf : kc ≤ R.cells ∧ ks ≤ R.slots) (d : decode cc pc = .ok (.invokestatic idx, 3)) (hS1 : rv.toList ++ rest = st1) (k : WW p l e R s m args below meth c g DD SS nL Q kc ks (lv) (st1) (gs) (pc + 3)) : WW p l e R s m args below meth c g DD SS nL Q kc ks (lv) (st) (gs) (pc) :=
  w_csR hS1 (fun H locs ls hP hD hS hl => va_runS (As := As) (rest := rest) X.1 hM (va_cwS As.length X.1.2.2.2.2 (gS hlink hy) rfl rfl rfl hy.1 hR) (ro_pre X.2.1 hP hi) rfl rfl hl.1 hst (lv_room hw) d ⟨hf.1, hf.2⟩) k
theorem w_roSN (X : WX p s m args meth c cc own nL rt g) {idx : Nat} {host : String} {As rest st1 : List Value} {gc : List va_W} {rv : Option Value} {y : MethodName} {cy : ByteArray} {ny kh : Nat} {ry : Option FieldType} (is : List Nat) (hM : MRO l g y cy ny ry kh As gc rv) (hy : CSt y cy ny ry As.length) (hlink : (own, idx, y, host) ∈ nestL) (hst : st = As.reverse ++ rest) (hi : is.map (fun i => gs[i]?) = gc.map some) (hR : kh + 1 ≤ R.frames ∧ 8 + (ny + 11) + 32 * kh ≤ R.locals) (hw : (rest.map fun v => v.category).sum ≤ 8) (hf : kc ≤ R.cells ∧ ks ≤ R.slots) (d : decode cc pc = .ok (.invokestatic idx, 3)) (hS1 : rv.toList ++ rest = st1) (k : WW p l e R s m args below meth c g DD SS nL Q kc ks (lv) (st1) (gs) (pc + 3)) : WW p l e R s m args below meth c g DD SS nL Q kc ks (lv) (st) (gs) (pc) :=
  w_csR hS1 (fun H locs ls hP hD hS hl => va_runSN (As := As) (rest := rest) X.1 hM ⟨va_cnB As.length X.1.2.2.2.2 (tw_in (ws_in hy.2.2.2)) rfl rfl rfl (X.2.1.2.1 _ hlink) (X.1.2.2.2.2 _ hy.2.2.1) hy.1 hR, X.1.2.2.2.2 _ hy.2.1, trivial⟩ (ro_pre X.2.1 hP hi) rfl rfl hl.1 hst (lv_room hw) d ⟨hf.1, hf.2⟩) k
theorem w_csX {a : Array Value} {rest st1 : List Value} {rv : Option Value} {gc gr g1 gs1 : List va_W} {is ir : List Nat} {mc ms : Nat} (hA : ∀ q, s.heap.size ≤ q → A q) (hS1 : rv.toList ++ rest = st1) (hi : is.map (fun i => gs[i]?) = gc.map some) (hr0 : ir.map (fun i => gs[i]?) = gr.map some) {ng : Nat} (hn0 : gs.length = ng) (hp : (is ++ ir).Perm (List.range ng)) (hi1 : is.map (fun i => gs1[i]?) = g1.map some) (hr1 : ir.map (fun i => gs1[i]?) = gr.map some) (hlen : gs1.length = ng)
    (hr : ∀ (H : Heap) (locs : List Loc) (ls : Array Slot), va_P g.1 vwCl gs.flatten H → va_D (fun _ => True) gc.flatten → lv_has ls nL lv → va_Run p l e R s m args below meth c H locs kc ks mc ms (F0 m pc ls st) rest (QX g rv g1 (va_A gc.flatten H.size) a) (va_A gc.flatten H.size)) (k : WW p l e R s m args below meth c g (va_D A) (va_S A s.heap) nL Q (kc + mc) (ks + ms) lv st1 gs1 (pc + 3)) : WW p l e R s m args below meth c g (va_D A) (va_S A s.heap) nL Q kc ks (lv) (st) (gs) (pc) := by
  subst hS1
  intro H locs ls hP hD hS hl T hT X
  have hpm := gs_perm hi hr0 (by rw [hn0]; exact hp)
  have hpm1 := gs_perm hi1 hr1 (by rw [hlen]; exact hp)
  have hF := gs_free hD hS hA hpm
  obtain ⟨v, st₀, t, T', L, h0, X', hL, e1, e2, ⟨hv, hP1, hD1, hFr⟩, sg⟩ := hr H locs ls hP (gs_part hD hpm) hl T hT X
  cases hv
  obtain ⟨hz, hk⟩ := hFr
  rw [h0] at hz hk
  have hj := gs_join (ws := gs.flatten) (ws1 := gs1.flatten) (H1 := T'.heap) hP hD hpm hpm1 (fun q h1 h2 => by rw [e1]; exact hk q h1 h2) hF (by rw [e1]; exact hP1) hD1
  obtain ⟨t2, a1, b1⟩ := k T'.heap (locs ++ L) ls hj.1 hj.2 ⟨Nat.le_trans hS.1 (by rw [e1]; exact hz), fun q h1 h2 => by rw [e1, hk q (Nat.lt_of_lt_of_le h1 hS.1) (fun z => h2 (hF q z))]; exact hS.2.1 q h1 h2, fun q hq => (List.mem_append.mp hq).elim (hS.2.2 q) (fun h => hF _ (hL q h))⟩ hl T' rfl X'
  exact ⟨t2, sg t2 a1, b1⟩
theorem mu_pre {gc : List va_W} {is : List Nat} {H : Heap} {As : List Value} (hE : EV g s) (hP : va_P g.1 vwCl gs.flatten H) (hD : va_D (fun _ => True) gc.flatten) (hi : is.map (fun i => gs[i]?) = gc.map some) : PreS s H (va_Pc As (fun U => U.heap.size = H.size ∧ va_P g.1 vwCl gc.flatten U.heap ∧ va_D (fun _ => True) gc.flatten ∧ EV g U)) As :=
  ⟨fun a U j mk q => ⟨q.1, q.2.1, q.2.2.1, q.2.2.2.1, q.2.2.2.2.blind j mk a⟩, fun U hU hW => ⟨rfl, by rw [hU], by rw [hU]; exact va_P_mem.mpr (fun q hq => va_P_mem.mp hP q (gs_mem hi q hq)), hD, hE.warm hW⟩⟩
theorem w_muV (X : WX p s m args meth c cc own nL rt g) (hA : ∀ q, s.heap.size ≤ q → A q) {As rest st1 : List Value} {gc g1 : List va_W} (gr gs1 : List va_W) {rv : Option Value} {y : MethodName} {cy : ByteArray} {ny kh mc ms : Nat} {ry : Option FieldType} (is ir : List Nat) {b idx : Nat} (gi gj : Nat) (hM : MMU l g y cy ny ry kh mc ms (.ref b :: As) gc rv g1) {C : String} {T : u_T} {G : va_W} {ci N : Nat} {fs : List Value} (hy : CV C y cy ny ry As.length) (hlink : Cond.methodLink own idx y ∈ TW) (hst : st = As.reverse ++ .ref b :: rest) (hi : is.map (fun i => gs[i]?) = gc.map some) (hr0 : ir.map (fun i => gs[i]?) = gr.map some) {ng : Nat} (hn0 : gs.length = ng) (hp : (is ++ ir).Perm (List.range ng)) (hi1 : is.map (fun i => gs1[i]?) = g1.map some) (hr1 : ir.map (fun i => gs1[i]?) = gr.map some) (hlen : gs1.length = ng) (hG : gs[gi]? = some G) (hj : G[gj]? = some (b, .inr (ci, fs))) (hc : vwCl[ci]? = some (C, T, N)) (hR : kh + 1 ≤ R.frames ∧ 8 + (ny + 11) + 32 * kh ≤ R.locals) (hw : (rest.map fun v => v.category).sum ≤ 8) (hf : kc + mc ≤ R.cells ∧ ks + ms ≤ R.slots) (d : decode cc pc = .ok (.invokevirtual idx, 3)) (hS1 : rv.toList ++ rest = st1) (k : WW p l e R s m args below meth c g (va_D A) (va_S A s.heap) nL Q (kc + mc) (ks + ms) lv st1 gs1 (pc + 3)) : WW p l e R s m args below meth c g (va_D A) (va_S A s.heap) nL Q kc ks (lv) (st) (gs) (pc) :=
  w_csX hA hS1 hi hr0 hn0 hp hi1 hr1 hlen (fun H locs ls hP hD hl => va_runV (As := As) (rest := rest) X.1 (hM H.size) (cwV As.length X.1.2.2.2.2 (gV hlink hy) rfl rfl rfl hy.1 hR) ⟨(mu_pre (As := .ref b :: As) X.2.1 hP hD hi).1, va_recv X.2.1.1 hP hc (fl_lt gs gi G hG gj _ hj), (mu_pre (As := .ref b :: As) X.2.1 hP hD hi).2⟩ rfl rfl hl.1 hst (lv_room hw) d ⟨hf.1, hf.2⟩) k
def roS (s : State) : Heap → List Loc → Prop := fun H locs => H = s.heap ∧ locs = []
def roD : va_W → Prop := fun _ => True
theorem w_iret_ro (X : WX p s m args meth c cc own nL (some .int) g) {v w : Int32} (h : v = w) (d : decode cc pc = .ok (.ireturn, 1)) : WW p l e R s m args below meth c g DD (roS s) nL (MQ below (QR (some (.int w))) args s 0 0 (fun _ => False)) 0 0 lv [.int v] gs pc := by
  subst h
  intro H locs ls hP hD hS hl
  obtain ⟨rfl, rfl⟩ := hS
  exact W.iret X.1.1 X.1.2.1 X.2.2.1 (fun t ht hW => ⟨rfl, ht⟩) (fun q hq => absurd hq List.not_mem_nil) d X.2.2.2
theorem w_zret_ro (X : WX p s m args meth c cc own nL (some .boolean) g) {v w : Int32} (h : v = w) (hn : narrow .boolean (.int v) = .int v) (d : decode cc pc = .ok (.ireturn, 1)) : WW p l e R s m args below meth c g DD (roS s) nL (MQ below (QR (some (.int w))) args s 0 0 (fun _ => False)) 0 0 lv [.int v] gs pc := by
  subst h
  intro H locs ls hP hD hS hl
  obtain ⟨rfl, rfl⟩ := hS
  exact W.zret X.1.1 X.1.2.1 X.2.2.1 hn (fun t ht hW => ⟨rfl, ht⟩) (fun q hq => absurd hq List.not_mem_nil) d X.2.2.2
theorem w_lret_ro (X : WX p s m args meth c cc own nL (some .long) g) {v w : Int64} (h : v = w) (d : decode cc pc = .ok (.lreturn, 1)) : WW p l e R s m args below meth c g DD (roS s) nL (MQ below (QR (some (.long w))) args s 0 0 (fun _ => False)) 0 0 lv [.long v] gs pc := by
  subst h
  intro H locs ls hP hD hS hl
  obtain ⟨rfl, rfl⟩ := hS
  exact W.lret X.1.1 X.1.2.1 X.2.2.1 (fun t ht hW => ⟨rfl, ht⟩) (fun q hq => absurd hq List.not_mem_nil) d X.2.2.2
theorem w_iret_mu (X : WX p s m args meth c cc own nL (some .int) g) {v w : Int32} {g1 : List va_W} {mc ms : Nat} (h : v = w) (hg : gs = g1) (hkc : kc ≤ mc) (hks : ks ≤ ms) (d : decode cc pc = .ok (.ireturn, 1)) : WW p l e R s m args below meth c g (va_D A) (va_S A s.heap) nL (MQ below (QX g (some (.int w)) g1 A) args s mc ms A) kc ks lv [.int v] gs pc := by
  subst h
  subst hg
  intro H locs ls hP hD hS hl
  refine W.widen hkc hks ?_
  exact W.iret X.1.1 X.1.2.1 X.2.2.1 (fun t ht hW => ⟨rfl, by rw [ht]; exact hP, hD, hS.F ht⟩) hS.2.2 d X.2.2.2
theorem w_zret_mu (X : WX p s m args meth c cc own nL (some .boolean) g) {v w : Int32} {g1 : List va_W} {mc ms : Nat} (h : v = w) (hg : gs = g1) (hkc : kc ≤ mc) (hks : ks ≤ ms) (hn : narrow .boolean (.int v) = .int v) (d : decode cc pc = .ok (.ireturn, 1)) : WW p l e R s m args below meth c g (va_D A) (va_S A s.heap) nL (MQ below (QX g (some (.int w)) g1 A) args s mc ms A) kc ks lv [.int v] gs pc := by
  subst h
  subst hg
  intro H locs ls hP hD hS hl
  refine W.widen hkc hks ?_
  exact W.zret X.1.1 X.1.2.1 X.2.2.1 hn (fun t ht hW => ⟨rfl, by rw [ht]; exact hP, hD, hS.F ht⟩) hS.2.2 d X.2.2.2
theorem w_lret_mu (X : WX p s m args meth c cc own nL (some .long) g) {v w : Int64} {g1 : List va_W} {mc ms : Nat} (h : v = w) (hg : gs = g1) (hkc : kc ≤ mc) (hks : ks ≤ ms) (d : decode cc pc = .ok (.lreturn, 1)) : WW p l e R s m args below meth c g (va_D A) (va_S A s.heap) nL (MQ below (QX g (some (.long w)) g1 A) args s mc ms A) kc ks lv [.long v] gs pc := by
  subst h
  subst hg
  intro H locs ls hP hD hS hl
  refine W.widen hkc hks ?_
  exact W.lret X.1.1 X.1.2.1 X.2.2.1 (fun t ht hW => ⟨rfl, by rw [ht]; exact hP, hD, hS.F ht⟩) hS.2.2 d X.2.2.2
theorem w_dret_mu (X : WX p s m args meth c cc own nL (some .double) g) {v w : UInt64} {g1 : List va_W} {mc ms : Nat} (h : v = w) (hg : gs = g1) (hkc : kc ≤ mc) (hks : ks ≤ ms) (d : decode cc pc = .ok (.dreturn, 1)) : WW p l e R s m args below meth c g (va_D A) (va_S A s.heap) nL (MQ below (QX g (some (.double w)) g1 A) args s mc ms A) kc ks lv [.double v] gs pc := by
  subst h
  subst hg
  intro H locs ls hP hD hS hl
  refine W.widen hkc hks ?_
  exact W.dret X.1.1 X.1.2.1 X.2.2.1 (fun t ht hW => ⟨rfl, by rw [ht]; exact hP, hD, hS.F ht⟩) hS.2.2 d X.2.2.2
theorem w_vret_mu (X : WX p s m args meth c cc own nL (none) g) {g1 : List va_W} {mc ms : Nat} (hg : gs = g1) (hkc : kc ≤ mc) (hks : ks ≤ ms) (d : decode cc pc = .ok (.return_, 1)) : WW p l e R s m args below meth c g (va_D A) (va_S A s.heap) nL (MQ below (QX g none g1 A) args s mc ms A) kc ks lv [] gs pc := by
  subst hg
  intro H locs ls hP hD hS hl
  refine W.widen hkc hks ?_
  exact W.vret X.1.1 X.1.2.1 X.2.2.1 (fun t ht hW => ⟨rfl, by rw [ht]; exact hP, hD, hS.F ht⟩) hS.2.2 d X.2.2.2
end WWS
theorem mk_ro {l : Launch} {g : GG} {y : MethodName} {cc : ByteArray} {n : Nat} {r : Option FieldType} {k : Nat} {As : List Value} {gc : List va_W} {rv : Option Value} (hy : plainName y.cls = true) (hn : (lg_sl As).length ≤ n)
    (body : ∀ (p : Program) (e : Env) (s : State) (m : MethodId) (below : List Frame) (meth : Method) (c : Code), WX p s m As.toArray meth c cc y.cls n r g → WW p l e (RM k 0 0) s m As.toArray below meth c g roD (roS s) n (MQ below (QR rv) As.toArray s 0 0 (fun _ => False)) 0 0 (lv_args 0 As) [] gc 0) : MRO l g y cc n r k As gc rv := by
  refine Met.ofW (cc := cc) (maxL := n) (ret := r) hy rfl ?_
  intro p e s m args below meth c s₁ B hml hv
  obtain ⟨rfl, hP, hE⟩ := hv
  have hts := atoms_spec (ws := WSy y cc n r) B.pre
  have b := body p e s m below meth c ⟨⟨B.exec, B.bytes, hml, findClass_of_methodNamed B.named, fun w hw => hts w (List.mem_cons_of_mem _ hw)⟩, hE, B.returns, B.notSynchronized⟩
  have hl := lv_entry As (n := n) hn
  rw [lg_entry_eq]
  exact b s.heap [] _ hP trivial ⟨rfl, rfl⟩ hl
theorem mk_mu {l : Launch} {g : GG} {y : MethodName} {cc : ByteArray} {n : Nat} {r : Option FieldType} {k mc ms : Nat} {As : List Value} {gc : List va_W} {rv : Option Value} {g1 : List va_W} (hy : plainName y.cls = true) (hn : (lg_sl As).length ≤ n)
    (body : ∀ (p : Program) (e : Env) (s : State) (m : MethodId) (below : List Frame) (meth : Method) (c : Code) (A : Nat → Prop), (∀ q, s.heap.size ≤ q → A q) → WX p s m As.toArray meth c cc y.cls n r g → WW p l e (RM k mc ms) s m As.toArray below meth c g (va_D A) (va_S A s.heap) n (MQ below (QX g rv g1 A) As.toArray s mc ms A) 0 0 (lv_args 0 As) [] gc 0) : MMU l g y cc n r k mc ms As gc rv g1 := by
  intro sz
  refine Met.ofW (cc := cc) (maxL := n) (ret := r) hy rfl ?_
  intro p e s m args below meth c s₁ B hml hv
  obtain ⟨rfl, hsz, hP, hD0, hE⟩ := hv
  subst hsz
  have hts := atoms_spec (ws := WSy y cc n r) B.pre
  have b := body p e s m below meth c (va_A gc.flatten s.heap.size) (fun q h => Or.inr h) ⟨⟨B.exec, B.bytes, hml, findClass_of_methodNamed B.named, fun w hw => hts w (List.mem_cons_of_mem _ hw)⟩, hE, B.returns, B.notSynchronized⟩
  have hl := lv_entry As (n := n) hn
  rw [lg_entry_eq]
  exact b s.heap [] _ hP hD0.self va_S.rf hl
