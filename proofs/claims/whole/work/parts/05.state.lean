/-! the groups of cells: State, Reach, Returning, Text, History, MarkArenas, MarkArenasModel; a content is a table of rows -/
def stC (g : GG) (ad : Nat → Nat) (σ : Nat → Nat → Int32) : va_W := [(ad 0, .inr (3, [.ref (ad 1), .ref (ad 2), .ref (ad 3), .ref (ad 4), .ref (ad 5), .ref (ad 6), .ref (ad 7), .ref (ad 8), .ref (ad 9), .ref (ad 10), .ref (ad 11), .ref (ad 12), .int (σ 12 0), .int (σ 12 1), .int (σ 12 2), .int (σ 12 3)])), (ad 1, .inl (cZ g, 24, .inl (σ 0))), (ad 2, .inl (cI g, 24, .inl (σ 1))), (ad 3, .inl (cI g, 24, .inl (σ 2))), (ad 4, .inl (cI g, 24, .inl (σ 3))), (ad 5, .inl (cI g, 48, .inl (σ 4))), (ad 6, .inl (cZ g, 24, .inl (σ 5))), (ad 7, .inl (cZ g, 24, .inl (σ 6))), (ad 8, .inl (cI g, 24, .inl (σ 7))), (ad 9, .inl (cZ g, 6, .inl (σ 8))), (ad 10, .inl (cI g, 6, .inl (σ 9))), (ad 11, .inl (cI g, 6, .inl (σ 10))), (ad 12, .inl (cI g, 2, .inl (σ 11)))]
def rcC (g : GG) (ad : Nat → Nat) (ρ : Nat → Nat → Int32) : va_W := [(ad 0, .inr (1, [.ref (ad 1), .ref (ad 2), .ref (ad 3), .int (ρ 3 0)])), (ad 1, .inl (cI g, 24, .inl (ρ 0))), (ad 2, .inl (cI g, 24, .inl (ρ 1))), (ad 3, .inl (cI g, 24, .inl (ρ 2)))]
def rtC (g : GG) (ad : Nat → Nat) (al asu : Nat) (τ : Nat → Nat → Int32) : va_W := [(ad 0, .inr (2, [.ref al, .ref asu, .ref (ad 1)])), (ad 1, .inl (cI g, 24, .inl (τ 0)))]
def txC (g : GG) (ad : Nat → Nat) (τ : Nat → Nat → Int32) : va_W := [(ad 0, .inr (4, [.ref (ad 1), .int (τ 1 0), .int (τ 1 1), .int (τ 1 2), .int (τ 1 3)])), (ad 1, .inl (cI g, 60, .inl (τ 0)))]
def hiC (g : GG) (ad : Nat → Nat) (fa : Nat → Nat) (η : Nat → Nat → Int32) : va_W := [(ad 0, .inr (0, [.ref (ad 1), .int (η 1 0), .int (η 2 0)])), (ad 1, .inl (cS g, 6, .inr (.inr (.inr (.inr (fun i => some (fa i)))))))]
def maC (g : GG) (am a1 a2 a3 a4 a5 : Nat) : va_W := [(am, .inr (5, [.ref a1, .ref a2, .ref a3, .ref a4, .ref a5]))]
def moC (g : GG) (ad : Nat → Nat) (μ : Nat → Nat → Int32) : va_W := [(ad 0, .inr (6, [.ref (ad 1), .ref (ad 2), .int (μ 2 0), .ref (ad 3), .int (μ 4 0), .int (μ 5 0), .int (μ 6 0), .int (μ 7 0), .int (μ 8 0), .ref (ad 4), .int (μ 10 0), .ref (ad 5), .ref (ad 6), .int (μ 13 0), .ref (ad 7), .ref (ad 8), .int (μ 16 0)])), (ad 1, .inl (cI g, 240, .inl (μ 0))), (ad 2, .inl (cI g, 1440, .inl (μ 1))), (ad 3, .inl (cI g, 60, .inl (μ 3))), (ad 4, .inl (cI g, 93, .inl (μ 9))), (ad 5, .inl (cI g, 24, .inl (μ 11))), (ad 6, .inl (cI g, 24, .inl (μ 12))), (ad 7, .inl (cZ g, 24, .inl (μ 14))), (ad 8, .inl (cI g, 24, .inl (μ 15)))]
theorem nI_dec {k : Nat} (h : 1 ≤ k) : nI k + Int32.ofInt (-1) = nI (k - 1) := by
  obtain ⟨n, rfl⟩ : ∃ n, k = n + 1 := ⟨k - 1, by omega⟩
  exact pk_m1 n
theorem bI_fit (b : Bool) : fits .boolean (.int (bI b)) = true := by cases b <;> rfl
theorem nar_bI (b : Bool) : vp_nar .boolean (bI b) = bI b := by cases b <;> rfl
theorem nar_raw {x : Int32} (h : x = 0 ∨ x = 1) : vp_nar .boolean x = x := by rcases h with h | h <;> subst h <;> rfl
theorem add_f (x : Int32) : x + bI false = x := by rw [bI_f, nI_0]; simp
theorem add_t (x : Int32) : x + bI true = x + 1 := by rw [bI_t]; rfl
theorem add_n0 (x : Int32) : x + nI 0 = x := by rw [nI_0]; simp
theorem bI_01 (b : Bool) : bI b = 0 ∨ bI b = 1 := by cases b <;> decide
/-- an index: below zero, beyond, or a number in its range -/
theorem ix_of {x : Int32} {n : Nat} (hn : n < 2 ^ 31) (h0 : ¬ x < 0) (h1 : ¬ nI n ≤ x) : ∃ j : Nat, j < n ∧ x = nI j := by
  rcases pk_ix x hn with h | h | h
  · exact absurd h h0
  · exact absurd h h1
  · exact h
theorem ix_lt {x : Int32} {n : Nat} (hn : n < 2 ^ 31) (h0 : ¬ x < 0) (h1 : x < nI n) : ∃ j : Nat, j < n ∧ x = nI j := by
  obtain ⟨j, hj, rfl⟩ := nI_of h0
  exact ⟨j, (nI_ltI hj hn).mp h1, rfl⟩
theorem ix_in {x : Int32} {n : Nat} (hn : n < 2 ^ 31) (h0 : ¬ x < 0) (h1 : ¬ nI n ≤ x) : vp_in x n := by
  obtain ⟨j, hj, rfl⟩ := ix_of hn h0 h1
  exact vp_in_nI hj hn
section WL
variable {p : Program} {l : Launch} {e : Env} {R : Room} {s : State} {m : MethodId} {args : Array Value} {below : List Frame} {meth : Method} {c : Code} {g : GG} {DD : va_W → Prop} {SS : Heap → List Loc → Prop} {nL : Nat} {Q : State → Prop} {kc ks : Nat} {lv : List (Nat × Value)} {st : List Value} {gs : List va_W} {pc : Nat} {cc : ByteArray} {own : String} {rt : Option FieldType} {A : Nat → Prop}
theorem w_loop (X : WX p s m args meth c cc own nL rt g) {V : Type} (μ : V → Nat) (I : V → Prop) (lvf : V → List (Nat × Value)) (gsf : V → List va_W)
    (hs : ∀ v, I v → (∀ v', μ v' < μ v → I v' → WW p l e R s m args below meth c g DD SS nL Q kc ks (lvf v') st (gsf v') pc) → WW p l e R s m args below meth c g DD SS nL Q kc ks (lvf v) st (gsf v) pc) (v : V) (hv : I v) : WW p l e R s m args below meth c g DD SS nL Q kc ks (lvf v) st (gsf v) pc := by
  have key : ∀ (n : Nat) (v : V), μ v < n → I v → WW p l e R s m args below meth c g DD SS nL Q kc ks (lvf v) st (gsf v) pc := by
    intro n
    induction n with
    | zero => intro v h; exact absurd h (Nat.not_lt_zero _)
    | succ n ih => exact fun v h hI => hs v hI (fun v' h' hI' => ih v' (Nat.lt_of_lt_of_le h' (Nat.lt_succ_iff.mp h)) hI')
  exact key (μ v + 1) v (Nat.lt_succ_self _) hv
end WL
theorem nk_X5_18 : (RX5, 18, yX2_init, RX5) ∈ nestL := by decide +kernel
theorem nk_X5_25 : (RX5, 25, yX1_init, RX5) ∈ nestL := by decide +kernel
theorem nk_X5_32 : (RX5, 32, yX4_init, RX5) ∈ nestL := by decide +kernel
theorem nk_X2_11 : (RX2, 11, yX1_init, RX5) ∈ nestL := by decide +kernel
theorem nk_X2_64 : (RX2, 64, yX5_isArena, RX5) ∈ nestL := by decide +kernel
theorem nk_X2_107 : (RX2, 107, yX5_isNumber, RX5) ∈ nestL := by decide +kernel
theorem nk_X3_68 : (RX3, 68, yX5_isArena, RX5) ∈ nestL := by decide +kernel
theorem nk_X3_72 : (RX3, 72, yX5_isNumber, RX5) ∈ nestL := by decide +kernel
theorem nk_X3_91 : (RX3, 91, yX5_oneIf, RX5) ∈ nestL := by decide +kernel
