/-! MarkArenas' static leaves, State's reads -/
def isArB (x : Int32) : Bool := if x < 0 then false else if nI 6 ≤ x then false else true
def isNuB (x : Int32) : Bool := if x < 0 then false else if nI 24 ≤ x then false else true
theorem isArB_nI {j : Nat} (h : j < 6) : isArB (nI j) = true := by
  unfold isArB
  rw [if_neg (nI_pos (by omega)), if_neg (fun c => absurd ((nI_leI (by decide) (by omega)).mp c) (by omega))]
theorem isNuB_nI {j : Nat} (h : j < 24) : isNuB (nI j) = true := by
  unfold isNuB
  rw [if_neg (nI_pos (by omega)), if_neg (fun c => absurd ((nI_leI (by decide) (by omega)).mp c) (by omega))]
def nz (x : Int32) : Bool := if x = 0 then false else true
def hasB (σ : Nat → Nat → Int32) (x : Int32) : Bool := if x < 0 then false else if nI 24 ≤ x then false else if σ 0 x.toNatClampNeg = 0 then false else true
def isInB (σ : Nat → Nat → Int32) (x a : Int32) : Bool := if x < 0 then false else if nI 24 ≤ x then false else if σ 0 x.toNatClampNeg = 0 then false else if σ 1 x.toNatClampNeg = a then true else false
def isOpB (σ : Nat → Nat → Int32) (a : Int32) : Bool := if isArB a = false then false else if σ 8 a.toNatClampNeg = 0 then false else true
def roomB (σ : Nat → Nat → Int32) (a c : Int32) : Bool := if isArB a = false then false else if nI 64 - σ 9 a.toNatClampNeg < c then false else true
def refI (σ : Nat → Nat → Int32) (x f : Int32) : Int32 := if x < 0 then -1 else if nI 24 ≤ x then -1 else if f < 0 then -1 else if f < nI 2 then σ 4 (x.toNatClampNeg * 2 + f.toNatClampNeg) else -1
def cntI (f : Nat → Bool) : Nat → Int32
  | 0 => nI 0
  | n + 1 => cntI f n + bI (f n)
def sum2 (P : Nat → Nat → Bool) : Nat → Int32
  | 0 => nI 0
  | n + 1 => sum2 P n + bI (P n 0) + bI (P n 1)
/-- the first place below n where p holds; n without one -/
def ffst (p : Nat → Bool) : Nat → Nat → Nat
  | 0, i => i
  | n + 1, i => if p i = true then i else ffst p n (i + 1)
theorem ffst_none {p : Nat → Bool} : ∀ (n i : Nat), (∀ j, i ≤ j → j < i + n → p j = false) → ffst p n i = i + n
  | 0, i, _ => rfl
  | n + 1, i, h => by
    rw [ffst, if_neg (by rw [h i (Nat.le_refl i) (by omega)]; decide), ffst_none n (i + 1) (fun j h1 h2 => h j (by omega) (by omega))]
    omega
theorem ffst_found {p : Nat → Bool} : ∀ (n i k : Nat), (∀ j, i ≤ j → j < k → p j = false) → i ≤ k → k < i + n → p k = true → ffst p n i = k
  | 0, i, k, _, h1, h2, _ => by omega
  | n + 1, i, k, h, h1, h2, h3 => by
    rw [ffst]
    by_cases e : i = k
    · subst e; rw [if_pos h3]
    · rw [if_neg (by rw [h i (Nat.le_refl i) (by omega)]; decide)]
      exact ffst_found n (i + 1) k (fun j a b => h j (by omega) b) (by omega) (by omega) h3
theorem ffst_le (p : Nat → Bool) : ∀ (n i : Nat), i ≤ ffst p n i ∧ ffst p n i ≤ i + n
  | 0, i => ⟨Nat.le_refl _, Nat.le_refl _⟩
  | n + 1, i => by
    rw [ffst]
    have ih := ffst_le p n (i + 1)
    split <;> omega
def lowI (p : Nat → Bool) (n : Nat) : Int32 := if ffst p n 0 = n then -1 else nI (ffst p n 0)
theorem lowI_none {p : Nat → Bool} {n : Nat} (h : ∀ j, j < n → p j = false) : lowI p n = -1 := by
  have e := ffst_none (p := p) n 0 (fun j _ h2 => h j (by omega))
  rw [Nat.zero_add] at e
  rw [lowI, if_pos e]
theorem lowI_found {p : Nat → Bool} {n k : Nat} (h : ∀ j, j < k → p j = false) (hk : k < n) (hp : p k = true) : lowI p n = nI k := by
  have e := ffst_found (p := p) n 0 k (fun j _ h2 => h j h2) (Nat.zero_le _) (by omega) hp
  rw [lowI, e, if_neg (by omega)]
theorem lt_ext {P : Nat → Prop} {i : Nat} (h : ∀ j, j < i → P j) (hi : P i) : ∀ j, j < i + 1 → P j := fun j hj => (Nat.lt_or_ge j i).elim (h j) (fun g => by rw [show j = i by omega]; exact hi)
def atP (σ : Nat → Nat → Int32) (a c : Int32) (o : Nat) : Bool := if isInB σ (nI o) a = false then false else if c < σ 2 o then false else if σ 2 o + σ 3 o ≤ c then false else true
def refP (σ : Nat → Nat → Int32) (b : Bool) (o f : Nat) : Bool := if hasB σ (refI σ (nI o) (nI f)) = false then false else if b = false then true else if σ 1 (refI σ (nI o) (nI f)).toNatClampNeg = σ 1 o then false else true
set_option maxRecDepth 100000 in
set_option maxHeartbeats 4000000 in
theorem m_X5_oneIf (l : Launch) (g : GG) (b : Bool) : MRO l g yX5_oneIf cX5_oneIf 1 (some .int) 0 [.int (bI (b))] [] (some (.int (bI (b)))) := by
  refine mk_ro (by decide +kernel) (Nat.le_of_ble_eq_true rfl) (fun p e s m below meth c X => ?_)
  refine w_iload_n X 0 rfl dX5_oneIf_0 ?_
  refine w_bf_eq X 8 dX5_oneIf_1 (by decide) (fun c1 => ?_) (fun c1 => ?_)
  · refine w_iconst X (nI 0) dX5_oneIf_8 (by decide +kernel) ?_
    exact w_iret_ro X (by first | rfl | (subst he_i; rfl) | simp [c1, bI]) dX5_oneIf_9
  · refine w_iconst X (nI 1) dX5_oneIf_4 (by decide +kernel) ?_
    refine w_goto X 9 dX5_oneIf_5 (by decide) ?_
    exact w_iret_ro X (by first | rfl | (subst he_i; rfl) | simp [c1, bI]) dX5_oneIf_9
set_option maxRecDepth 100000 in
set_option maxHeartbeats 4000000 in
theorem m_X5_oneIf_R (l : Launch) (g : GG) (x : Int32) : MRO l g yX5_oneIf cX5_oneIf 1 (some .int) 0 [.int (x)] [] (some (.int (bI (nz x)))) := by
  refine mk_ro (by decide +kernel) (Nat.le_of_ble_eq_true rfl) (fun p e s m below meth c X => ?_)
  refine w_iload_n X 0 rfl dX5_oneIf_0 ?_
  refine w_if_eq X 8 dX5_oneIf_1 (by decide) (fun c1 => ?_) (fun c1 => ?_)
  · refine w_iconst X (nI 0) dX5_oneIf_8 (by decide +kernel) ?_
    exact w_iret_ro X (by first | rfl | (subst he_i; rfl) | simp [nz, c1, bI]) dX5_oneIf_9
  · refine w_iconst X (nI 1) dX5_oneIf_4 (by decide +kernel) ?_
    refine w_goto X 9 dX5_oneIf_5 (by decide) ?_
    exact w_iret_ro X (by first | rfl | (subst he_i; rfl) | simp [nz, c1, bI]) dX5_oneIf_9
set_option maxRecDepth 100000 in
set_option maxHeartbeats 4000000 in
theorem m_X5_isArena (l : Launch) (g : GG) (x : Int32) : MRO l g yX5_isArena cX5_isArena 1 (some .boolean) 0 [.int (x)] [] (some (.int (bI (isArB x)))) := by
  refine mk_ro (by decide +kernel) (Nat.le_of_ble_eq_true rfl) (fun p e s m below meth c X => ?_)
  refine w_iload_n X 0 rfl dX5_isArena_0 ?_
  refine w_if_lt X 14 dX5_isArena_1 (by decide) (fun c1 => ?_) (fun c1 => ?_)
  · refine w_iconst X (nI 0) dX5_isArena_14 (by decide +kernel) ?_
    exact w_zret_ro X (by first | rfl | (subst he_i; rfl) | simp [isArB, c1, bI]) (rfl) dX5_isArena_15
  · refine w_iload_n X 0 rfl dX5_isArena_4 ?_
    refine w_bipush X (nI 6) dX5_isArena_5 (by decide +kernel) ?_
    refine w_ic_ge X 14 dX5_isArena_7 (by decide) (fun c7 => ?_) (fun c7 => ?_)
    · refine w_iconst X (nI 0) dX5_isArena_14 (by decide +kernel) ?_
      exact w_zret_ro X (by first | rfl | (subst he_i; rfl) | simp [isArB, c1, c7, bI]) (rfl) dX5_isArena_15
    · refine w_iconst X (nI 1) dX5_isArena_10 (by decide +kernel) ?_
      refine w_goto X 15 dX5_isArena_11 (by decide) ?_
      exact w_zret_ro X (by first | rfl | (subst he_i; rfl) | simp [isArB, c1, c7, bI]) (rfl) dX5_isArena_15
set_option maxRecDepth 100000 in
set_option maxHeartbeats 4000000 in
theorem m_X5_isNumber (l : Launch) (g : GG) (x : Int32) : MRO l g yX5_isNumber cX5_isNumber 1 (some .boolean) 0 [.int (x)] [] (some (.int (bI (isNuB x)))) := by
  refine mk_ro (by decide +kernel) (Nat.le_of_ble_eq_true rfl) (fun p e s m below meth c X => ?_)
  refine w_iload_n X 0 rfl dX5_isNumber_0 ?_
  refine w_if_lt X 14 dX5_isNumber_1 (by decide) (fun c1 => ?_) (fun c1 => ?_)
  · refine w_iconst X (nI 0) dX5_isNumber_14 (by decide +kernel) ?_
    exact w_zret_ro X (by first | rfl | (subst he_i; rfl) | simp [isNuB, c1, bI]) (rfl) dX5_isNumber_15
  · refine w_iload_n X 0 rfl dX5_isNumber_4 ?_
    refine w_bipush X (nI 24) dX5_isNumber_5 (by decide +kernel) ?_
    refine w_ic_ge X 14 dX5_isNumber_7 (by decide) (fun c7 => ?_) (fun c7 => ?_)
    · refine w_iconst X (nI 0) dX5_isNumber_14 (by decide +kernel) ?_
      exact w_zret_ro X (by first | rfl | (subst he_i; rfl) | simp [isNuB, c1, c7, bI]) (rfl) dX5_isNumber_15
    · refine w_iconst X (nI 1) dX5_isNumber_10 (by decide +kernel) ?_
      refine w_goto X 15 dX5_isNumber_11 (by decide) ?_
      exact w_zret_ro X (by first | rfl | (subst he_i; rfl) | simp [isNuB, c1, c7, bI]) (rfl) dX5_isNumber_15
set_option maxRecDepth 100000 in
set_option maxHeartbeats 4000000 in
theorem m_X3_has (l : Launch) (g : GG) (ad : Nat → Nat) (σ : Nat → Nat → Int32) (x : Int32) : MRO l g yX3_has cX3_has 2 (some .boolean) 0 [.ref (ad 0), .int (x)] [stC g ad σ] (some (.int (bI (hasB σ x)))) := by
  refine mk_ro (by decide +kernel) (Nat.le_of_ble_eq_true rfl) (fun p e s m below meth c X => ?_)
  refine w_iload_n X 1 rfl dX3_has_0 ?_
  refine w_if_lt X 23 dX3_has_1 (by decide) (fun c1 => ?_) (fun c1 => ?_)
  · refine w_iconst X (nI 0) dX3_has_23 (by decide +kernel) ?_
    exact w_zret_ro X (by first | rfl | (subst he_i; rfl) | simp [hasB, c1, bI]) (rfl) dX3_has_24
  · refine w_iload_n X 1 rfl dX3_has_4 ?_
    refine w_bipush X (nI 24) dX3_has_5 (by decide +kernel) ?_
    refine w_ic_ge X 23 dX3_has_7 (by decide) (fun c7 => ?_) (fun c7 => ?_)
    · refine w_iconst X (nI 0) dX3_has_23 (by decide +kernel) ?_
      exact w_zret_ro X (by first | rfl | (subst he_i; rfl) | simp [hasB, c1, c7, bI]) (rfl) dX3_has_24
    · refine w_aload_n X 0 rfl dX3_has_10 ?_
      refine w_get X 0 0 rfl rfl rfl in_X3 0 (by decide) fk_X3_9 rfl dX3_has_11 ?_
      refine w_iload_n X 1 rfl dX3_has_14 ?_
      refine w_zald X 0 1 1 rfl rfl rfl (ix_in (by decide) c1 c7) dX3_has_15 ?_
      refine w_if_eq X 23 dX3_has_16 (by decide) (fun c16 => ?_) (fun c16 => ?_)
      · refine w_iconst X (nI 0) dX3_has_23 (by decide +kernel) ?_
        exact w_zret_ro X (by first | rfl | (subst he_i; rfl) | simp [hasB, c1, c7, c16, bI]) (rfl) dX3_has_24
      · refine w_iconst X (nI 1) dX3_has_19 (by decide +kernel) ?_
        refine w_goto X 24 dX3_has_20 (by decide) ?_
        exact w_zret_ro X (by first | rfl | (subst he_i; rfl) | simp [hasB, c1, c7, c16, bI]) (rfl) dX3_has_24
set_option maxRecDepth 100000 in
set_option maxHeartbeats 4000000 in
theorem m_X3_isIn (l : Launch) (g : GG) (ad : Nat → Nat) (σ : Nat → Nat → Int32) (x : Int32) (a : Int32) : MRO l g yX3_isIn cX3_isIn 3 (some .boolean) 0 [.ref (ad 0), .int (x), .int (a)] [stC g ad σ] (some (.int (bI (isInB σ x a)))) := by
  refine mk_ro (by decide +kernel) (Nat.le_of_ble_eq_true rfl) (fun p e s m below meth c X => ?_)
  refine w_iload_n X 1 rfl dX3_isIn_0 ?_
  refine w_if_lt X 33 dX3_isIn_1 (by decide) (fun c1 => ?_) (fun c1 => ?_)
  · refine w_iconst X (nI 0) dX3_isIn_33 (by decide +kernel) ?_
    exact w_zret_ro X (by first | rfl | (subst he_i; rfl) | simp [isInB, c1, bI]) (rfl) dX3_isIn_34
  · refine w_iload_n X 1 rfl dX3_isIn_4 ?_
    refine w_bipush X (nI 24) dX3_isIn_5 (by decide +kernel) ?_
    refine w_ic_ge X 33 dX3_isIn_7 (by decide) (fun c7 => ?_) (fun c7 => ?_)
    · refine w_iconst X (nI 0) dX3_isIn_33 (by decide +kernel) ?_
      exact w_zret_ro X (by first | rfl | (subst he_i; rfl) | simp [isInB, c1, c7, bI]) (rfl) dX3_isIn_34
    · refine w_aload_n X 0 rfl dX3_isIn_10 ?_
      refine w_get X 0 0 rfl rfl rfl in_X3 0 (by decide) fk_X3_9 rfl dX3_isIn_11 ?_
      refine w_iload_n X 1 rfl dX3_isIn_14 ?_
      refine w_zald X 0 1 1 rfl rfl rfl (ix_in (by decide) c1 c7) dX3_isIn_15 ?_
      refine w_if_eq X 33 dX3_isIn_16 (by decide) (fun c16 => ?_) (fun c16 => ?_)
      · refine w_iconst X (nI 0) dX3_isIn_33 (by decide +kernel) ?_
        exact w_zret_ro X (by first | rfl | (subst he_i; rfl) | simp [isInB, c1, c7, c16, bI]) (rfl) dX3_isIn_34
      · refine w_aload_n X 0 rfl dX3_isIn_19 ?_
        refine w_get X 0 0 rfl rfl rfl in_X3 1 (by decide) fk_X3_15 rfl dX3_isIn_20 ?_
        refine w_iload_n X 1 rfl dX3_isIn_23 ?_
        refine w_iald X 0 2 0 rfl rfl rfl (ix_in (by decide) c1 c7) dX3_isIn_24 ?_
        refine w_iload_n X 2 rfl dX3_isIn_25 ?_
        refine w_ic_ne X 33 dX3_isIn_26 (by decide) (fun c26 => ?_) (fun c26 => ?_)
        · refine w_iconst X (nI 0) dX3_isIn_33 (by decide +kernel) ?_
          exact w_zret_ro X (by first | rfl | (subst he_i; rfl) | simp [isInB, c1, c7, c16, c26, bI]) (rfl) dX3_isIn_34
        · refine w_iconst X (nI 1) dX3_isIn_29 (by decide +kernel) ?_
          refine w_goto X 34 dX3_isIn_30 (by decide) ?_
          exact w_zret_ro X (by first | rfl | (subst he_i; rfl) | simp [isInB, c1, c7, c16, c26, bI]) (rfl) dX3_isIn_34
theorem isArB_in {x : Int32} (h : isArB x = true) : vp_in x 6 := by
  unfold isArB at h
  split at h
  · cases h
  · split at h
    · cases h
    · exact ix_in (by decide) (by assumption) (by assumption)
theorem isArB_ex {x : Int32} (h : isArB x = true) : ∃ j : Nat, j < 6 ∧ x = nI j := vp_in_of (isArB_in h) (by decide)
set_option maxRecDepth 100000 in
set_option maxHeartbeats 4000000 in
theorem m_X3_isOpen (l : Launch) (g : GG) (ad : Nat → Nat) (σ : Nat → Nat → Int32) (a : Int32) : MRO l g yX3_isOpen cX3_isOpen 2 (some .boolean) 1 [.ref (ad 0), .int (a)] [stC g ad σ] (some (.int (bI (isOpB σ a)))) := by
  refine mk_ro (by decide +kernel) (Nat.le_of_ble_eq_true rfl) (fun p e s m below meth c X => ?_)
  refine w_iload_n X 1 rfl dX3_isOpen_0 ?_
  refine w_roSN X [] (m_X5_isArena l g (a)) cs_X5_isArena nk_X3_68 rfl rfl ⟨Nat.le_of_ble_eq_true rfl, Nat.le_of_ble_eq_true rfl⟩ (Nat.le_of_ble_eq_true rfl) ⟨Nat.le_of_ble_eq_true rfl, Nat.le_of_ble_eq_true rfl⟩ dX3_isOpen_1 rfl ?_
  refine w_bf_eq X 20 dX3_isOpen_4 (by decide) (fun c4 => ?_) (fun c4 => ?_)
  · refine w_iconst X (nI 0) dX3_isOpen_20 (by decide +kernel) ?_
    exact w_zret_ro X (by first | rfl | (subst he_i; rfl) | simp [isOpB, c4, bI]) (rfl) dX3_isOpen_21
  · refine w_aload_n X 0 rfl dX3_isOpen_7 ?_
    refine w_get X 0 0 rfl rfl rfl in_X3 8 (by decide) fk_X3_37 rfl dX3_isOpen_8 ?_
    refine w_iload_n X 1 rfl dX3_isOpen_11 ?_
    refine w_zald X 0 9 1 rfl rfl rfl (isArB_in c4) dX3_isOpen_12 ?_
    refine w_if_eq X 20 dX3_isOpen_13 (by decide) (fun c13 => ?_) (fun c13 => ?_)
    · refine w_iconst X (nI 0) dX3_isOpen_20 (by decide +kernel) ?_
      exact w_zret_ro X (by first | rfl | (subst he_i; rfl) | simp [isOpB, c4, c13, bI]) (rfl) dX3_isOpen_21
    · refine w_iconst X (nI 1) dX3_isOpen_16 (by decide +kernel) ?_
      refine w_goto X 21 dX3_isOpen_17 (by decide) ?_
      exact w_zret_ro X (by first | rfl | (subst he_i; rfl) | simp [isOpB, c4, c13, bI]) (rfl) dX3_isOpen_21
set_option maxRecDepth 100000 in
set_option maxHeartbeats 4000000 in
theorem m_X3_hasRoom (l : Launch) (g : GG) (ad : Nat → Nat) (σ : Nat → Nat → Int32) (a : Int32) (q : Int32) : MRO l g yX3_hasRoom cX3_hasRoom 3 (some .boolean) 1 [.ref (ad 0), .int (a), .int (q)] [stC g ad σ] (some (.int (bI (roomB σ a q)))) := by
  refine mk_ro (by decide +kernel) (Nat.le_of_ble_eq_true rfl) (fun p e s m below meth c X => ?_)
  refine w_iload_n X 1 rfl dX3_hasRoom_0 ?_
  refine w_roSN X [] (m_X5_isArena l g (a)) cs_X5_isArena nk_X3_68 rfl rfl ⟨Nat.le_of_ble_eq_true rfl, Nat.le_of_ble_eq_true rfl⟩ (Nat.le_of_ble_eq_true rfl) ⟨Nat.le_of_ble_eq_true rfl, Nat.le_of_ble_eq_true rfl⟩ dX3_hasRoom_1 rfl ?_
  refine w_bf_eq X 24 dX3_hasRoom_4 (by decide) (fun c4 => ?_) (fun c4 => ?_)
  · refine w_iconst X (nI 0) dX3_hasRoom_24 (by decide +kernel) ?_
    exact w_zret_ro X (by first | rfl | (subst he_i; rfl) | simp [roomB, c4, bI]) (rfl) dX3_hasRoom_25
  · refine w_iload_n X 2 rfl dX3_hasRoom_7 ?_
    refine w_bipush X (nI 64) dX3_hasRoom_8 (by decide +kernel) ?_
    refine w_aload_n X 0 rfl dX3_hasRoom_10 ?_
    refine w_get X 0 0 rfl rfl rfl in_X3 9 (by decide) fk_X3_40 rfl dX3_hasRoom_11 ?_
    refine w_iload_n X 1 rfl dX3_hasRoom_14 ?_
    refine w_iald X 0 10 0 rfl rfl rfl (isArB_in c4) dX3_hasRoom_15 ?_
    refine w_isub X dX3_hasRoom_16 ?_
    refine w_ic_gt X 24 dX3_hasRoom_17 (by decide) (fun c17 => ?_) (fun c17 => ?_)
    · refine w_iconst X (nI 0) dX3_hasRoom_24 (by decide +kernel) ?_
      exact w_zret_ro X (by first | rfl | (subst he_i; rfl) | simp [roomB, c4, c17, bI]) (rfl) dX3_hasRoom_25
    · refine w_iconst X (nI 1) dX3_hasRoom_20 (by decide +kernel) ?_
      refine w_goto X 25 dX3_hasRoom_21 (by decide) ?_
      exact w_zret_ro X (by first | rfl | (subst he_i; rfl) | simp [roomB, c4, c17, bI]) (rfl) dX3_hasRoom_25
set_option maxRecDepth 100000 in
set_option maxHeartbeats 4000000 in
theorem m_X3_reference (l : Launch) (g : GG) (ad : Nat → Nat) (σ : Nat → Nat → Int32) (x : Int32) (f : Int32) : MRO l g yX3_reference cX3_reference 3 (some .int) 0 [.ref (ad 0), .int (x), .int (f)] [stC g ad σ] (some (.int (refI σ x f))) := by
  refine mk_ro (by decide +kernel) (Nat.le_of_ble_eq_true rfl) (fun p e s m below meth c X => ?_)
  refine w_iload_n X 1 rfl dX3_reference_0 ?_
  refine w_if_lt X 19 dX3_reference_1 (by decide) (fun c1 => ?_) (fun c1 => ?_)
  · refine w_iconst X (-1) dX3_reference_19 (by decide +kernel) ?_
    exact w_iret_ro X (by first | rfl | (subst he_i; rfl) | simp [refI, nI_clamp, c1, bI]) dX3_reference_20
  · refine w_iload_n X 1 rfl dX3_reference_4 ?_
    refine w_bipush X (nI 24) dX3_reference_5 (by decide +kernel) ?_
    refine w_ic_ge X 19 dX3_reference_7 (by decide) (fun c7 => ?_) (fun c7 => ?_)
    · refine w_iconst X (-1) dX3_reference_19 (by decide +kernel) ?_
      exact w_iret_ro X (by first | rfl | (subst he_i; rfl) | simp [refI, nI_clamp, c1, c7, bI]) dX3_reference_20
    · refine w_iload_n X 2 rfl dX3_reference_10 ?_
      refine w_if_lt X 19 dX3_reference_11 (by decide) (fun c11 => ?_) (fun c11 => ?_)
      · refine w_iconst X (-1) dX3_reference_19 (by decide +kernel) ?_
        exact w_iret_ro X (by first | rfl | (subst he_i; rfl) | simp [refI, nI_clamp, c1, c7, c11, bI]) dX3_reference_20
      · refine w_iload_n X 2 rfl dX3_reference_14 ?_
        refine w_iconst X (nI 2) dX3_reference_15 (by decide +kernel) ?_
        refine w_ic_lt X 21 dX3_reference_16 (by decide) (fun c16 => ?_) (fun c16 => ?_)
        · obtain ⟨j, hj, rfl⟩ := ix_of (n := 24) (by decide) c1 c7
          obtain ⟨k, hk, rfl⟩ := ix_lt (n := 2) (by decide) c11 c16
          refine w_aload_n X 0 rfl dX3_reference_21 ?_
          refine w_get X 0 0 rfl rfl rfl in_X3 4 (by decide) fk_X3_25 rfl dX3_reference_22 ?_
          refine w_iload_n X 1 rfl dX3_reference_25 ?_
          refine w_iconst X (nI 2) dX3_reference_26 (by decide +kernel) ?_
          refine w_imul_n X dX3_reference_27 ?_
          refine w_iload_n X 2 rfl dX3_reference_28 ?_
          refine w_iadd_n X dX3_reference_29 ?_
          refine w_iald_n X 0 5 0 rfl rfl rfl (by omega) (by decide) dX3_reference_30 ?_
          exact w_iret_ro X (by simp [refI, c1, c7, c11, c16, nI_clamp (show j < 2 ^ 31 by omega), nI_clamp (show k < 2 ^ 31 by omega)]) dX3_reference_31
        · refine w_iconst X (-1) dX3_reference_19 (by decide +kernel) ?_
          exact w_iret_ro X (by first | rfl | (subst he_i; rfl) | simp [refI, nI_clamp, c1, c7, c11, c16, bI]) dX3_reference_20
theorem hasB_in {σ : Nat → Nat → Int32} {x : Int32} (h : hasB σ x = true) : vp_in x 24 := by
  unfold hasB at h
  split at h
  · cases h
  · split at h
    · cases h
    · exact ix_in (by decide) (by assumption) (by assumption)
set_option maxRecDepth 100000 in
set_option maxHeartbeats 4000000 in
theorem m_X3_objects (l : Launch) (g : GG) (ad : Nat → Nat) (σ : Nat → Nat → Int32) : MRO l g yX3_objects cX3_objects 3 (some .int) 1 [.ref (ad 0)] [stC g ad σ] (some (.int (cntI (fun o => nz (σ 0 o)) 24))) := by
  refine mk_ro (by decide +kernel) (Nat.le_of_ble_eq_true rfl) (fun p e s m below meth c X => ?_)
  refine w_iconst X (nI 0) dX3_objects_0 (by decide +kernel) ?_
  refine w_istore_n X dX3_objects_1 (by decide) ?_
  refine w_iconst X (nI 0) dX3_objects_2 (by decide +kernel) ?_
  refine w_istore_n X dX3_objects_3 (by decide) ?_
  refine w_all [2, 1, 0] (rfl) (rfl) rfl (w_loop (st := []) (pc := 4) X (V := Nat) (fun (i : Nat) => 24 - i) (fun (i : Nat) => (i ≤ 24)) (fun (i : Nat) => [(0, .ref (ad 0)), (1, .int (cntI (fun o => nz (σ 0 o)) i)), (2, .int (nI i))]) (fun (i : Nat) => [stC g ad σ]) (fun i hv4 ih4 => ?_) 0 (by omega))
  have hi := hv4
  try dsimp only at ih4 ⊢
  refine w_iload_n X 2 rfl dX3_objects_4 ?_
  refine w_bipush X (nI 24) dX3_objects_5 (by decide +kernel) ?_
  refine w_nc_ge X (by omega) (by omega) 28 dX3_objects_7 (by decide) (fun c7 => ?_) (fun c7 => ?_)
  · have he_i : i = 24 := by omega
    refine w_iload_n X 1 rfl dX3_objects_28 ?_
    exact w_iret_ro X (by first | rfl | (subst he_i; rfl) | simp [c7, bI]) dX3_objects_29
  · refine w_iload_n X 1 rfl dX3_objects_10 ?_
    refine w_aload_n X 0 rfl dX3_objects_11 ?_
    refine w_get X 0 0 rfl rfl rfl in_X3 0 (by decide) fk_X3_9 rfl dX3_objects_12 ?_
    refine w_iload_n X 2 rfl dX3_objects_15 ?_
    refine w_zald_n X 0 1 1 rfl rfl rfl (by omega) (by decide) dX3_objects_16 ?_
    refine w_roSN X [] (m_X5_oneIf_R l g (σ 0 i)) cs_X5_oneIf nk_X3_91 rfl rfl ⟨Nat.le_of_ble_eq_true rfl, Nat.le_of_ble_eq_true rfl⟩ (Nat.le_of_ble_eq_true rfl) ⟨Nat.le_of_ble_eq_true rfl, Nat.le_of_ble_eq_true rfl⟩ dX3_objects_17 rfl ?_
    refine w_iadd X dX3_objects_20 ?_
    refine w_istore_n X dX3_objects_21 (by decide) ?_
    refine w_iinc X (nI (i + 1)) 2 rfl (nI_1 _) dX3_objects_22 (by decide) ?_
    refine w_goto X 4 dX3_objects_25 (by decide) ?_
    exact w_all [2, 1, 0] (rfl) (rfl) rfl (ih4 (i + 1) (by omega) (by omega))
set_option maxRecDepth 100000 in
set_option maxHeartbeats 4000000 in
theorem m_X3_roots (l : Launch) (g : GG) (ad : Nat → Nat) (σ : Nat → Nat → Int32) : MRO l g yX3_roots cX3_roots 3 (some .int) 1 [.ref (ad 0)] [stC g ad σ] (some (.int (cntI (fun o => nz (σ 5 o)) 24))) := by
  refine mk_ro (by decide +kernel) (Nat.le_of_ble_eq_true rfl) (fun p e s m below meth c X => ?_)
  refine w_iconst X (nI 0) dX3_roots_0 (by decide +kernel) ?_
  refine w_istore_n X dX3_roots_1 (by decide) ?_
  refine w_iconst X (nI 0) dX3_roots_2 (by decide +kernel) ?_
  refine w_istore_n X dX3_roots_3 (by decide) ?_
  refine w_all [2, 1, 0] (rfl) (rfl) rfl (w_loop (st := []) (pc := 4) X (V := Nat) (fun (i : Nat) => 24 - i) (fun (i : Nat) => (i ≤ 24)) (fun (i : Nat) => [(0, .ref (ad 0)), (1, .int (cntI (fun o => nz (σ 5 o)) i)), (2, .int (nI i))]) (fun (i : Nat) => [stC g ad σ]) (fun i hv4 ih4 => ?_) 0 (by omega))
  have hi := hv4
  try dsimp only at ih4 ⊢
  refine w_iload_n X 2 rfl dX3_roots_4 ?_
  refine w_bipush X (nI 24) dX3_roots_5 (by decide +kernel) ?_
  refine w_nc_ge X (by omega) (by omega) 28 dX3_roots_7 (by decide) (fun c7 => ?_) (fun c7 => ?_)
  · have he_i : i = 24 := by omega
    refine w_iload_n X 1 rfl dX3_roots_28 ?_
    exact w_iret_ro X (by first | rfl | (subst he_i; rfl) | simp [c7, bI]) dX3_roots_29
  · refine w_iload_n X 1 rfl dX3_roots_10 ?_
    refine w_aload_n X 0 rfl dX3_roots_11 ?_
    refine w_get X 0 0 rfl rfl rfl in_X3 5 (by decide) fk_X3_28 rfl dX3_roots_12 ?_
    refine w_iload_n X 2 rfl dX3_roots_15 ?_
    refine w_zald_n X 0 6 1 rfl rfl rfl (by omega) (by decide) dX3_roots_16 ?_
    refine w_roSN X [] (m_X5_oneIf_R l g (σ 5 i)) cs_X5_oneIf nk_X3_91 rfl rfl ⟨Nat.le_of_ble_eq_true rfl, Nat.le_of_ble_eq_true rfl⟩ (Nat.le_of_ble_eq_true rfl) ⟨Nat.le_of_ble_eq_true rfl, Nat.le_of_ble_eq_true rfl⟩ dX3_roots_17 rfl ?_
    refine w_iadd X dX3_roots_20 ?_
    refine w_istore_n X dX3_roots_21 (by decide) ?_
    refine w_iinc X (nI (i + 1)) 2 rfl (nI_1 _) dX3_roots_22 (by decide) ?_
    refine w_goto X 4 dX3_roots_25 (by decide) ?_
    exact w_all [2, 1, 0] (rfl) (rfl) rfl (ih4 (i + 1) (by omega) (by omega))
set_option maxRecDepth 100000 in
set_option maxHeartbeats 4000000 in
theorem m_X3_openArenas (l : Launch) (g : GG) (ad : Nat → Nat) (σ : Nat → Nat → Int32) : MRO l g yX3_openArenas cX3_openArenas 3 (some .int) 1 [.ref (ad 0)] [stC g ad σ] (some (.int (cntI (fun o => nz (σ 8 o)) 6))) := by
  refine mk_ro (by decide +kernel) (Nat.le_of_ble_eq_true rfl) (fun p e s m below meth c X => ?_)
  refine w_iconst X (nI 0) dX3_openArenas_0 (by decide +kernel) ?_
  refine w_istore_n X dX3_openArenas_1 (by decide) ?_
  refine w_iconst X (nI 0) dX3_openArenas_2 (by decide +kernel) ?_
  refine w_istore_n X dX3_openArenas_3 (by decide) ?_
  refine w_all [2, 1, 0] (rfl) (rfl) rfl (w_loop (st := []) (pc := 4) X (V := Nat) (fun (i : Nat) => 6 - i) (fun (i : Nat) => (i ≤ 6)) (fun (i : Nat) => [(0, .ref (ad 0)), (1, .int (cntI (fun o => nz (σ 8 o)) i)), (2, .int (nI i))]) (fun (i : Nat) => [stC g ad σ]) (fun i hv4 ih4 => ?_) 0 (by omega))
  have hi := hv4
  try dsimp only at ih4 ⊢
  refine w_iload_n X 2 rfl dX3_openArenas_4 ?_
  refine w_bipush X (nI 6) dX3_openArenas_5 (by decide +kernel) ?_
  refine w_nc_ge X (by omega) (by omega) 28 dX3_openArenas_7 (by decide) (fun c7 => ?_) (fun c7 => ?_)
  · have he_i : i = 6 := by omega
    refine w_iload_n X 1 rfl dX3_openArenas_28 ?_
    exact w_iret_ro X (by first | rfl | (subst he_i; rfl) | simp [c7, bI]) dX3_openArenas_29
  · refine w_iload_n X 1 rfl dX3_openArenas_10 ?_
    refine w_aload_n X 0 rfl dX3_openArenas_11 ?_
    refine w_get X 0 0 rfl rfl rfl in_X3 8 (by decide) fk_X3_37 rfl dX3_openArenas_12 ?_
    refine w_iload_n X 2 rfl dX3_openArenas_15 ?_
    refine w_zald_n X 0 9 1 rfl rfl rfl (by omega) (by decide) dX3_openArenas_16 ?_
    refine w_roSN X [] (m_X5_oneIf_R l g (σ 8 i)) cs_X5_oneIf nk_X3_91 rfl rfl ⟨Nat.le_of_ble_eq_true rfl, Nat.le_of_ble_eq_true rfl⟩ (Nat.le_of_ble_eq_true rfl) ⟨Nat.le_of_ble_eq_true rfl, Nat.le_of_ble_eq_true rfl⟩ dX3_openArenas_17 rfl ?_
    refine w_iadd X dX3_openArenas_20 ?_
    refine w_istore_n X dX3_openArenas_21 (by decide) ?_
    refine w_iinc X (nI (i + 1)) 2 rfl (nI_1 _) dX3_openArenas_22 (by decide) ?_
    refine w_goto X 4 dX3_openArenas_25 (by decide) ?_
    exact w_all [2, 1, 0] (rfl) (rfl) rfl (ih4 (i + 1) (by omega) (by omega))
set_option maxRecDepth 100000 in
set_option maxHeartbeats 4000000 in
theorem m_X3_objectsIn (l : Launch) (g : GG) (ad : Nat → Nat) (σ : Nat → Nat → Int32) (a : Int32) : MRO l g yX3_objectsIn cX3_objectsIn 4 (some .int) 1 [.ref (ad 0), .int (a)] [stC g ad σ] (some (.int (cntI (fun o => isInB σ (nI o) a) 24))) := by
  refine mk_ro (by decide +kernel) (Nat.le_of_ble_eq_true rfl) (fun p e s m below meth c X => ?_)
  refine w_iconst X (nI 0) dX3_objectsIn_0 (by decide +kernel) ?_
  refine w_istore_n X dX3_objectsIn_1 (by decide) ?_
  refine w_iconst X (nI 0) dX3_objectsIn_2 (by decide +kernel) ?_
  refine w_istore_n X dX3_objectsIn_3 (by decide) ?_
  refine w_all [2, 3, 1, 0] (rfl) (rfl) rfl (w_loop (st := []) (pc := 4) X (V := Nat) (fun (i : Nat) => 24 - i) (fun (i : Nat) => (i ≤ 24)) (fun (i : Nat) => [(0, .ref (ad 0)), (1, .int (a)), (2, .int (cntI (fun o => isInB σ (nI o) a) i)), (3, .int (nI i))]) (fun (i : Nat) => [stC g ad σ]) (fun i hv4 ih4 => ?_) 0 (by omega))
  have hi := hv4
  try dsimp only at ih4 ⊢
  refine w_iload_n X 3 rfl dX3_objectsIn_4 ?_
  refine w_bipush X (nI 24) dX3_objectsIn_5 (by decide +kernel) ?_
  refine w_nc_ge X (by omega) (by omega) 28 dX3_objectsIn_7 (by decide) (fun c7 => ?_) (fun c7 => ?_)
  · have he_i : i = 24 := by omega
    refine w_iload_n X 2 rfl dX3_objectsIn_28 ?_
    exact w_iret_ro X (by first | rfl | (subst he_i; rfl) | simp [c7, bI]) dX3_objectsIn_29
  · refine w_iload_n X 2 rfl dX3_objectsIn_10 ?_
    refine w_aload_n X 0 rfl dX3_objectsIn_11 ?_
    refine w_iload_n X 3 rfl dX3_objectsIn_12 ?_
    refine w_iload_n X 1 rfl dX3_objectsIn_13 ?_
    refine w_roV X [0] 0 0 (m_X3_isIn l g ad σ (nI (i)) (a)) cv_X3_isIn mk_X3_75 rfl rfl rfl rfl rfl ⟨Nat.le_of_ble_eq_true rfl, Nat.le_of_ble_eq_true rfl⟩ (Nat.le_of_ble_eq_true rfl) ⟨Nat.le_of_ble_eq_true rfl, Nat.le_of_ble_eq_true rfl⟩ dX3_objectsIn_14 rfl ?_
    refine w_roSN X [] (m_X5_oneIf l g (isInB σ (nI (i)) (a))) cs_X5_oneIf nk_X3_91 rfl rfl ⟨Nat.le_of_ble_eq_true rfl, Nat.le_of_ble_eq_true rfl⟩ (Nat.le_of_ble_eq_true rfl) ⟨Nat.le_of_ble_eq_true rfl, Nat.le_of_ble_eq_true rfl⟩ dX3_objectsIn_17 rfl ?_
    refine w_iadd X dX3_objectsIn_20 ?_
    refine w_istore_n X dX3_objectsIn_21 (by decide) ?_
    refine w_iinc X (nI (i + 1)) 3 rfl (nI_1 _) dX3_objectsIn_22 (by decide) ?_
    refine w_goto X 4 dX3_objectsIn_25 (by decide) ?_
    exact w_all [2, 3, 1, 0] (rfl) (rfl) rfl (ih4 (i + 1) (by omega) (by omega))
set_option maxRecDepth 100000 in
set_option maxHeartbeats 4000000 in
theorem m_X3_pinnedIn (l : Launch) (g : GG) (ad : Nat → Nat) (σ : Nat → Nat → Int32) (a : Int32) : MRO l g yX3_pinnedIn cX3_pinnedIn 4 (some .int) 1 [.ref (ad 0), .int (a)] [stC g ad σ] (some (.int (cntI (fun o => if isInB σ (nI o) a = false then false else nz (σ 6 o)) 24))) := by
  refine mk_ro (by decide +kernel) (Nat.le_of_ble_eq_true rfl) (fun p e s m below meth c X => ?_)
  refine w_iconst X (nI 0) dX3_pinnedIn_0 (by decide +kernel) ?_
  refine w_istore_n X dX3_pinnedIn_1 (by decide) ?_
  refine w_iconst X (nI 0) dX3_pinnedIn_2 (by decide +kernel) ?_
  refine w_istore_n X dX3_pinnedIn_3 (by decide) ?_
  refine w_all [2, 3, 1, 0] (rfl) (rfl) rfl (w_loop (st := []) (pc := 4) X (V := Nat) (fun (i : Nat) => 24 - i) (fun (i : Nat) => (i ≤ 24)) (fun (i : Nat) => [(0, .ref (ad 0)), (1, .int (a)), (2, .int (cntI (fun o => if isInB σ (nI o) a = false then false else nz (σ 6 o)) i)), (3, .int (nI i))]) (fun (i : Nat) => [stC g ad σ]) (fun i hv4 ih4 => ?_) 0 (by omega))
  have hi := hv4
  try dsimp only at ih4 ⊢
  refine w_iload_n X 3 rfl dX3_pinnedIn_4 ?_
  refine w_bipush X (nI 24) dX3_pinnedIn_5 (by decide +kernel) ?_
  refine w_nc_ge X (by omega) (by omega) 45 dX3_pinnedIn_7 (by decide) (fun c7 => ?_) (fun c7 => ?_)
  · have he_i : i = 24 := by omega
    refine w_iload_n X 2 rfl dX3_pinnedIn_45 ?_
    exact w_iret_ro X (by first | rfl | (subst he_i; rfl) | simp [c7, bI]) dX3_pinnedIn_46
  · refine w_iload_n X 2 rfl dX3_pinnedIn_10 ?_
    refine w_aload_n X 0 rfl dX3_pinnedIn_11 ?_
    refine w_iload_n X 3 rfl dX3_pinnedIn_12 ?_
    refine w_iload_n X 1 rfl dX3_pinnedIn_13 ?_
    refine w_roV X [0] 0 0 (m_X3_isIn l g ad σ (nI (i)) (a)) cv_X3_isIn mk_X3_75 rfl rfl rfl rfl rfl ⟨Nat.le_of_ble_eq_true rfl, Nat.le_of_ble_eq_true rfl⟩ (Nat.le_of_ble_eq_true rfl) ⟨Nat.le_of_ble_eq_true rfl, Nat.le_of_ble_eq_true rfl⟩ dX3_pinnedIn_14 rfl ?_
    refine w_bf_eq X 33 dX3_pinnedIn_17 (by decide) (fun c17 => ?_) (fun c17 => ?_)
    · refine w_iconst X (nI 0) dX3_pinnedIn_33 (by decide +kernel) ?_
      refine w_roSN X [] (m_X5_oneIf l g false) cs_X5_oneIf nk_X3_91 rfl rfl ⟨Nat.le_of_ble_eq_true rfl, Nat.le_of_ble_eq_true rfl⟩ (Nat.le_of_ble_eq_true rfl) ⟨Nat.le_of_ble_eq_true rfl, Nat.le_of_ble_eq_true rfl⟩ dX3_pinnedIn_34 rfl ?_
      refine w_iadd X dX3_pinnedIn_37 ?_
      refine w_istore_n X dX3_pinnedIn_38 (by decide) ?_
      refine w_iinc X (nI (i + 1)) 3 rfl (nI_1 _) dX3_pinnedIn_39 (by decide) ?_
      refine w_goto X 4 dX3_pinnedIn_42 (by decide) ?_
      have e1_2 : ((cntI (fun o => if isInB σ (nI o) a = false then false else nz (σ 6 o)) i) + bI (false)) = (cntI (fun o => if isInB σ (nI o) a = false then false else nz (σ 6 o)) (i + 1)) := by rw [cntI]; simp [nz, c7, c17]
      exact w_all [2, 3, 1, 0] (rfl) (rfl) (by rw [← e1_2]; rfl) (ih4 (i + 1) (by omega) (by omega))
    · refine w_aload_n X 0 rfl dX3_pinnedIn_20 ?_
      refine w_get X 0 0 rfl rfl rfl in_X3 6 (by decide) fk_X3_31 rfl dX3_pinnedIn_21 ?_
      refine w_iload_n X 3 rfl dX3_pinnedIn_24 ?_
      refine w_zald_n X 0 7 1 rfl rfl rfl (by omega) (by decide) dX3_pinnedIn_25 ?_
      refine w_if_eq X 33 dX3_pinnedIn_26 (by decide) (fun c26 => ?_) (fun c26 => ?_)
      · refine w_iconst X (nI 0) dX3_pinnedIn_33 (by decide +kernel) ?_
        refine w_roSN X [] (m_X5_oneIf l g false) cs_X5_oneIf nk_X3_91 rfl rfl ⟨Nat.le_of_ble_eq_true rfl, Nat.le_of_ble_eq_true rfl⟩ (Nat.le_of_ble_eq_true rfl) ⟨Nat.le_of_ble_eq_true rfl, Nat.le_of_ble_eq_true rfl⟩ dX3_pinnedIn_34 rfl ?_
        refine w_iadd X dX3_pinnedIn_37 ?_
        refine w_istore_n X dX3_pinnedIn_38 (by decide) ?_
        refine w_iinc X (nI (i + 1)) 3 rfl (nI_1 _) dX3_pinnedIn_39 (by decide) ?_
        refine w_goto X 4 dX3_pinnedIn_42 (by decide) ?_
        have e2_2 : ((cntI (fun o => if isInB σ (nI o) a = false then false else nz (σ 6 o)) i) + bI (false)) = (cntI (fun o => if isInB σ (nI o) a = false then false else nz (σ 6 o)) (i + 1)) := by rw [cntI]; simp [nz, c7, c17, c26]
        exact w_all [2, 3, 1, 0] (rfl) (rfl) (by rw [← e2_2]; rfl) (ih4 (i + 1) (by omega) (by omega))
      · refine w_iconst X (nI 1) dX3_pinnedIn_29 (by decide +kernel) ?_
        refine w_goto X 34 dX3_pinnedIn_30 (by decide) ?_
        refine w_roSN X [] (m_X5_oneIf l g true) cs_X5_oneIf nk_X3_91 rfl rfl ⟨Nat.le_of_ble_eq_true rfl, Nat.le_of_ble_eq_true rfl⟩ (Nat.le_of_ble_eq_true rfl) ⟨Nat.le_of_ble_eq_true rfl, Nat.le_of_ble_eq_true rfl⟩ dX3_pinnedIn_34 rfl ?_
        refine w_iadd X dX3_pinnedIn_37 ?_
        refine w_istore_n X dX3_pinnedIn_38 (by decide) ?_
        refine w_iinc X (nI (i + 1)) 3 rfl (nI_1 _) dX3_pinnedIn_39 (by decide) ?_
        refine w_goto X 4 dX3_pinnedIn_42 (by decide) ?_
        have e3_2 : ((cntI (fun o => if isInB σ (nI o) a = false then false else nz (σ 6 o)) i) + bI (true)) = (cntI (fun o => if isInB σ (nI o) a = false then false else nz (σ 6 o)) (i + 1)) := by rw [cntI]; simp [nz, c7, c17, c26]
        exact w_all [2, 3, 1, 0] (rfl) (rfl) (by rw [← e3_2]; rfl) (ih4 (i + 1) (by omega) (by omega))
set_option maxRecDepth 100000 in
set_option maxHeartbeats 4000000 in
theorem m_X3_lowestFreeArena (l : Launch) (g : GG) (ad : Nat → Nat) (σ : Nat → Nat → Int32) : MRO l g yX3_lowestFreeArena cX3_lowestFreeArena 2 (some .int) 0 [.ref (ad 0)] [stC g ad σ] (some (.int (lowI (fun o => !nz (σ 8 o)) 6))) := by
  refine mk_ro (by decide +kernel) (Nat.le_of_ble_eq_true rfl) (fun p e s m below meth c X => ?_)
  refine w_iconst X (nI 0) dX3_lowestFreeArena_0 (by decide +kernel) ?_
  refine w_istore_n X dX3_lowestFreeArena_1 (by decide) ?_
  refine w_all [1, 0] (rfl) (rfl) rfl (w_loop (st := []) (pc := 2) X (V := Nat) (fun (i : Nat) => 6 - i) (fun (i : Nat) => (i ≤ 6) ∧ (∀ j, j < i → (fun o => !nz (σ 8 o)) j = false)) (fun (i : Nat) => [(0, .ref (ad 0)), (1, .int (nI i))]) (fun (i : Nat) => [stC g ad σ]) (fun i hv2 ih2 => ?_) 0 ⟨by omega, fun j hj => absurd hj (Nat.not_lt_zero j)⟩)
  obtain ⟨hi, hj⟩ := hv2
  try dsimp only at ih2 ⊢
  refine w_iload_n X 1 rfl dX3_lowestFreeArena_2 ?_
  refine w_bipush X (nI 6) dX3_lowestFreeArena_3 (by decide +kernel) ?_
  refine w_nc_ge X (by omega) (by omega) 25 dX3_lowestFreeArena_5 (by decide) (fun c5 => ?_) (fun c5 => ?_)
  · have he_i : i = 6 := by omega
    refine w_iconst X (-1) dX3_lowestFreeArena_25 (by decide +kernel) ?_
    exact w_iret_ro X (by rw [← he_i]; exact (lowI_none hj).symm) dX3_lowestFreeArena_26
  · refine w_aload_n X 0 rfl dX3_lowestFreeArena_8 ?_
    refine w_get X 0 0 rfl rfl rfl in_X3 8 (by decide) fk_X3_37 rfl dX3_lowestFreeArena_9 ?_
    refine w_iload_n X 1 rfl dX3_lowestFreeArena_12 ?_
    refine w_zald_n X 0 9 1 rfl rfl rfl (by omega) (by decide) dX3_lowestFreeArena_13 ?_
    refine w_if_ne X 19 dX3_lowestFreeArena_14 (by decide) (fun c14 => ?_) (fun c14 => ?_)
    · refine w_iinc X (nI (i + 1)) 1 rfl (nI_1 _) dX3_lowestFreeArena_19 (by decide) ?_
      refine w_goto X 2 dX3_lowestFreeArena_22 (by decide) ?_
      exact w_all [1, 0] (rfl) (rfl) rfl (ih2 (i + 1) (by omega) ⟨by omega, lt_ext hj (by simp [nz, c14])⟩)
    · refine w_iload_n X 1 rfl dX3_lowestFreeArena_17 ?_
      exact w_iret_ro X ((lowI_found hj c5 (by simp [nz, c14])).symm) dX3_lowestFreeArena_18
set_option maxRecDepth 100000 in
set_option maxHeartbeats 4000000 in
theorem m_X3_lowestFreeNumber (l : Launch) (g : GG) (ad : Nat → Nat) (σ : Nat → Nat → Int32) : MRO l g yX3_lowestFreeNumber cX3_lowestFreeNumber 2 (some .int) 0 [.ref (ad 0)] [stC g ad σ] (some (.int (lowI (fun o => !nz (σ 0 o)) 24))) := by
  refine mk_ro (by decide +kernel) (Nat.le_of_ble_eq_true rfl) (fun p e s m below meth c X => ?_)
  refine w_iconst X (nI 0) dX3_lowestFreeNumber_0 (by decide +kernel) ?_
  refine w_istore_n X dX3_lowestFreeNumber_1 (by decide) ?_
  refine w_all [1, 0] (rfl) (rfl) rfl (w_loop (st := []) (pc := 2) X (V := Nat) (fun (i : Nat) => 24 - i) (fun (i : Nat) => (i ≤ 24) ∧ (∀ j, j < i → (fun o => !nz (σ 0 o)) j = false)) (fun (i : Nat) => [(0, .ref (ad 0)), (1, .int (nI i))]) (fun (i : Nat) => [stC g ad σ]) (fun i hv2 ih2 => ?_) 0 ⟨by omega, fun j hj => absurd hj (Nat.not_lt_zero j)⟩)
  obtain ⟨hi, hj⟩ := hv2
  try dsimp only at ih2 ⊢
  refine w_iload_n X 1 rfl dX3_lowestFreeNumber_2 ?_
  refine w_bipush X (nI 24) dX3_lowestFreeNumber_3 (by decide +kernel) ?_
  refine w_nc_ge X (by omega) (by omega) 25 dX3_lowestFreeNumber_5 (by decide) (fun c5 => ?_) (fun c5 => ?_)
  · have he_i : i = 24 := by omega
    refine w_iconst X (-1) dX3_lowestFreeNumber_25 (by decide +kernel) ?_
    exact w_iret_ro X (by rw [← he_i]; exact (lowI_none hj).symm) dX3_lowestFreeNumber_26
  · refine w_aload_n X 0 rfl dX3_lowestFreeNumber_8 ?_
    refine w_get X 0 0 rfl rfl rfl in_X3 0 (by decide) fk_X3_9 rfl dX3_lowestFreeNumber_9 ?_
    refine w_iload_n X 1 rfl dX3_lowestFreeNumber_12 ?_
    refine w_zald_n X 0 1 1 rfl rfl rfl (by omega) (by decide) dX3_lowestFreeNumber_13 ?_
    refine w_if_ne X 19 dX3_lowestFreeNumber_14 (by decide) (fun c14 => ?_) (fun c14 => ?_)
    · refine w_iinc X (nI (i + 1)) 1 rfl (nI_1 _) dX3_lowestFreeNumber_19 (by decide) ?_
      refine w_goto X 2 dX3_lowestFreeNumber_22 (by decide) ?_
      exact w_all [1, 0] (rfl) (rfl) rfl (ih2 (i + 1) (by omega) ⟨by omega, lt_ext hj (by simp [nz, c14])⟩)
    · refine w_iload_n X 1 rfl dX3_lowestFreeNumber_17 ?_
      exact w_iret_ro X ((lowI_found hj c5 (by simp [nz, c14])).symm) dX3_lowestFreeNumber_18
set_option maxRecDepth 100000 in
set_option maxHeartbeats 4000000 in
theorem m_X3_objectAt (l : Launch) (g : GG) (ad : Nat → Nat) (σ : Nat → Nat → Int32) (a : Int32) (q : Int32) : MRO l g yX3_objectAt cX3_objectAt 4 (some .int) 1 [.ref (ad 0), .int (a), .int (q)] [stC g ad σ] (some (.int (lowI (fun o => atP σ a q o) 24))) := by
  refine mk_ro (by decide +kernel) (Nat.le_of_ble_eq_true rfl) (fun p e s m below meth c X => ?_)
  refine w_iconst X (nI 0) dX3_objectAt_0 (by decide +kernel) ?_
  refine w_istore_n X dX3_objectAt_1 (by decide) ?_
  refine w_all [1, 2, 3, 0] (rfl) (rfl) rfl (w_loop (st := []) (pc := 2) X (V := Nat) (fun (i : Nat) => 24 - i) (fun (i : Nat) => (i ≤ 24) ∧ (∀ j, j < i → (fun o => atP σ a q o) j = false)) (fun (i : Nat) => [(0, .ref (ad 0)), (1, .int (a)), (2, .int (q)), (3, .int (nI i))]) (fun (i : Nat) => [stC g ad σ]) (fun i hv2 ih2 => ?_) 0 ⟨by omega, fun j hj => absurd hj (Nat.not_lt_zero j)⟩)
  obtain ⟨hi, hj⟩ := hv2
  try dsimp only at ih2 ⊢
  refine w_iload_n X 3 rfl dX3_objectAt_2 ?_
  refine w_bipush X (nI 24) dX3_objectAt_3 (by decide +kernel) ?_
  refine w_nc_ge X (by omega) (by omega) 52 dX3_objectAt_5 (by decide) (fun c5 => ?_) (fun c5 => ?_)
  · have he_i : i = 24 := by omega
    refine w_iconst X (-1) dX3_objectAt_52 (by decide +kernel) ?_
    exact w_iret_ro X (by rw [← he_i]; exact (lowI_none hj).symm) dX3_objectAt_53
  · refine w_aload_n X 0 rfl dX3_objectAt_8 ?_
    refine w_iload_n X 3 rfl dX3_objectAt_9 ?_
    refine w_iload_n X 1 rfl dX3_objectAt_10 ?_
    refine w_roV X [0] 0 0 (m_X3_isIn l g ad σ (nI (i)) (a)) cv_X3_isIn mk_X3_75 rfl rfl rfl rfl rfl ⟨Nat.le_of_ble_eq_true rfl, Nat.le_of_ble_eq_true rfl⟩ (Nat.le_of_ble_eq_true rfl) ⟨Nat.le_of_ble_eq_true rfl, Nat.le_of_ble_eq_true rfl⟩ dX3_objectAt_11 rfl ?_
    refine w_bf_eq X 46 dX3_objectAt_14 (by decide) (fun c14 => ?_) (fun c14 => ?_)
    · refine w_iinc X (nI (i + 1)) 3 rfl (nI_1 _) dX3_objectAt_46 (by decide) ?_
      refine w_goto X 2 dX3_objectAt_49 (by decide) ?_
      exact w_all [1, 2, 3, 0] (rfl) (rfl) rfl (ih2 (i + 1) (by omega) ⟨by omega, lt_ext hj (by simp [atP, c5, c14])⟩)
    · refine w_iload_n X 2 rfl dX3_objectAt_17 ?_
      refine w_aload_n X 0 rfl dX3_objectAt_18 ?_
      refine w_get X 0 0 rfl rfl rfl in_X3 2 (by decide) fk_X3_19 rfl dX3_objectAt_19 ?_
      refine w_iload_n X 3 rfl dX3_objectAt_22 ?_
      refine w_iald_n X 0 3 0 rfl rfl rfl (by omega) (by decide) dX3_objectAt_23 ?_
      refine w_ic_lt X 46 dX3_objectAt_24 (by decide) (fun c24 => ?_) (fun c24 => ?_)
      · refine w_iinc X (nI (i + 1)) 3 rfl (nI_1 _) dX3_objectAt_46 (by decide) ?_
        refine w_goto X 2 dX3_objectAt_49 (by decide) ?_
        exact w_all [1, 2, 3, 0] (rfl) (rfl) rfl (ih2 (i + 1) (by omega) ⟨by omega, lt_ext hj (by simp [atP, c5, c14, c24])⟩)
      · refine w_iload_n X 2 rfl dX3_objectAt_27 ?_
        refine w_aload_n X 0 rfl dX3_objectAt_28 ?_
        refine w_get X 0 0 rfl rfl rfl in_X3 2 (by decide) fk_X3_19 rfl dX3_objectAt_29 ?_
        refine w_iload_n X 3 rfl dX3_objectAt_32 ?_
        refine w_iald_n X 0 3 0 rfl rfl rfl (by omega) (by decide) dX3_objectAt_33 ?_
        refine w_aload_n X 0 rfl dX3_objectAt_34 ?_
        refine w_get X 0 0 rfl rfl rfl in_X3 3 (by decide) fk_X3_22 rfl dX3_objectAt_35 ?_
        refine w_iload_n X 3 rfl dX3_objectAt_38 ?_
        refine w_iald_n X 0 4 0 rfl rfl rfl (by omega) (by decide) dX3_objectAt_39 ?_
        refine w_iadd X dX3_objectAt_40 ?_
        refine w_ic_ge X 46 dX3_objectAt_41 (by decide) (fun c41 => ?_) (fun c41 => ?_)
        · refine w_iinc X (nI (i + 1)) 3 rfl (nI_1 _) dX3_objectAt_46 (by decide) ?_
          refine w_goto X 2 dX3_objectAt_49 (by decide) ?_
          exact w_all [1, 2, 3, 0] (rfl) (rfl) rfl (ih2 (i + 1) (by omega) ⟨by omega, lt_ext hj (by simp [atP, c5, c14, c24, c41])⟩)
        · refine w_iload_n X 3 rfl dX3_objectAt_44 ?_
          exact w_iret_ro X ((lowI_found hj c5 (by simp [atP, c5, c14, c24, c41])).symm) dX3_objectAt_45
set_option maxRecDepth 100000 in
set_option maxHeartbeats 4000000 in
theorem m_X3_referencesTo (l : Launch) (g : GG) (ad : Nat → Nat) (σ : Nat → Nat → Int32) (x : Int32) : MRO l g yX3_referencesTo cX3_referencesTo 5 (some .int) 1 [.ref (ad 0), .int (x)] [stC g ad σ] (some (.int (sum2 (fun h f => if refI σ (nI h) (nI f) = x then true else false) 24))) := by
  refine mk_ro (by decide +kernel) (Nat.le_of_ble_eq_true rfl) (fun p e s m below meth c X => ?_)
  refine w_iconst X (nI 0) dX3_referencesTo_0 (by decide +kernel) ?_
  refine w_istore_n X dX3_referencesTo_1 (by decide) ?_
  refine w_iconst X (nI 0) dX3_referencesTo_2 (by decide +kernel) ?_
  refine w_istore_n X dX3_referencesTo_3 (by decide) ?_
  refine w_all [2, 3, 1, 0] (rfl) (rfl) rfl (w_loop (st := []) (pc := 4) X (V := Nat) (fun (i : Nat) => 24 - i) (fun (i : Nat) => (i ≤ 24)) (fun (i : Nat) => [(0, .ref (ad 0)), (1, .int (x)), (2, .int (sum2 (fun h f => if refI σ (nI h) (nI f) = x then true else false) i)), (3, .int (nI i))]) (fun (i : Nat) => [stC g ad σ]) (fun i hv4 ih4 => ?_) 0 (by omega))
  have hi := hv4
  try dsimp only at ih4 ⊢
  refine w_iload_n X 3 rfl dX3_referencesTo_4 ?_
  refine w_bipush X (nI 24) dX3_referencesTo_5 (by decide +kernel) ?_
  refine w_nc_ge X (by omega) (by omega) 53 dX3_referencesTo_7 (by decide) (fun c7 => ?_) (fun c7 => ?_)
  · have he_i : i = 24 := by omega
    refine w_iload_n X 2 rfl dX3_referencesTo_53 ?_
    exact w_iret_ro X (by first | rfl | (subst he_i; rfl) | simp [c7, bI]) dX3_referencesTo_54
  · refine w_iconst X (nI 0) dX3_referencesTo_10 (by decide +kernel) ?_
    refine w_istore X dX3_referencesTo_11 (by decide) ?_
    refine w_iload X 0 rfl dX3_referencesTo_13 ?_
    refine w_iconst X (nI 2) dX3_referencesTo_15 (by decide +kernel) ?_
    refine w_nc_ge X (by omega) (by omega) 47 dX3_referencesTo_16 (by decide) (fun c16 => by exfalso; omega) (fun c16 => ?_)
    refine w_iload_n X 3 rfl dX3_referencesTo_19 ?_
    refine w_aload_n X 1 rfl dX3_referencesTo_20 ?_
    refine w_iload_n X 4 rfl dX3_referencesTo_21 ?_
    refine w_iload X 0 rfl dX3_referencesTo_22 ?_
    refine w_roV X [0] 0 0 (m_X3_reference l g ad σ (nI (i)) (nI (0))) cv_X3_reference mk_X3_83 rfl rfl rfl rfl rfl ⟨Nat.le_of_ble_eq_true rfl, Nat.le_of_ble_eq_true rfl⟩ (Nat.le_of_ble_eq_true rfl) ⟨Nat.le_of_ble_eq_true rfl, Nat.le_of_ble_eq_true rfl⟩ dX3_referencesTo_24 rfl ?_
    refine w_iload_n X 2 rfl dX3_referencesTo_27 ?_
    refine w_ic_ne X 35 dX3_referencesTo_28 (by decide) (fun c28 => ?_) (fun c28 => ?_)
    · refine w_iconst X (nI 0) dX3_referencesTo_35 (by decide +kernel) ?_
      refine w_roSN X [] (m_X5_oneIf l g false) cs_X5_oneIf nk_X3_91 rfl rfl ⟨Nat.le_of_ble_eq_true rfl, Nat.le_of_ble_eq_true rfl⟩ (Nat.le_of_ble_eq_true rfl) ⟨Nat.le_of_ble_eq_true rfl, Nat.le_of_ble_eq_true rfl⟩ dX3_referencesTo_36 rfl ?_
      refine w_iadd X dX3_referencesTo_39 ?_
      refine w_istore_n X dX3_referencesTo_40 (by decide) ?_
      refine w_iinc X (nI (1)) 1 rfl (nI_1 _) dX3_referencesTo_41 (by decide) ?_
      refine w_goto X 13 dX3_referencesTo_44 (by decide) ?_
      refine w_iload X 0 rfl dX3_referencesTo_13 ?_
      refine w_iconst X (nI 2) dX3_referencesTo_15 (by decide +kernel) ?_
      refine w_nc_ge X (by omega) (by omega) 47 dX3_referencesTo_16 (by decide) (fun c16_ => by exfalso; omega) (fun c16_ => ?_)
      refine w_iload_n X 1 rfl dX3_referencesTo_19 ?_
      refine w_aload_n X 2 rfl dX3_referencesTo_20 ?_
      refine w_iload_n X 4 rfl dX3_referencesTo_21 ?_
      refine w_iload X 0 rfl dX3_referencesTo_22 ?_
      refine w_roV X [0] 0 0 (m_X3_reference l g ad σ (nI (i)) (nI (1))) cv_X3_reference mk_X3_83 rfl rfl rfl rfl rfl ⟨Nat.le_of_ble_eq_true rfl, Nat.le_of_ble_eq_true rfl⟩ (Nat.le_of_ble_eq_true rfl) ⟨Nat.le_of_ble_eq_true rfl, Nat.le_of_ble_eq_true rfl⟩ dX3_referencesTo_24 rfl ?_
      refine w_iload_n X 3 rfl dX3_referencesTo_27 ?_
      refine w_ic_ne X 35 dX3_referencesTo_28 (by decide) (fun c28_ => ?_) (fun c28_ => ?_)
      · refine w_iconst X (nI 0) dX3_referencesTo_35 (by decide +kernel) ?_
        refine w_roSN X [] (m_X5_oneIf l g false) cs_X5_oneIf nk_X3_91 rfl rfl ⟨Nat.le_of_ble_eq_true rfl, Nat.le_of_ble_eq_true rfl⟩ (Nat.le_of_ble_eq_true rfl) ⟨Nat.le_of_ble_eq_true rfl, Nat.le_of_ble_eq_true rfl⟩ dX3_referencesTo_36 rfl ?_
        refine w_iadd X dX3_referencesTo_39 ?_
        refine w_istore_n X dX3_referencesTo_40 (by decide) ?_
        refine w_iinc X (nI (2)) 1 rfl (nI_1 _) dX3_referencesTo_41 (by decide) ?_
        refine w_goto X 13 dX3_referencesTo_44 (by decide) ?_
        refine w_iload X 0 rfl dX3_referencesTo_13 ?_
        refine w_iconst X (nI 2) dX3_referencesTo_15 (by decide +kernel) ?_
        refine w_nc_ge X (by omega) (by omega) 47 dX3_referencesTo_16 (by decide) (fun c16__ => ?_) (fun c16__ => by exfalso; omega)
        refine w_iinc X (nI (i + 1)) 4 rfl (nI_1 _) dX3_referencesTo_47 (by decide) ?_
        refine w_goto X 4 dX3_referencesTo_50 (by decide) ?_
        have e1_2 : (((sum2 (fun h f => if refI σ (nI h) (nI f) = x then true else false) i) + bI (false)) + bI (false)) = (sum2 (fun h f => if refI σ (nI h) (nI f) = x then true else false) (i + 1)) := by rw [sum2]; simp [c7, c16, c28, c16_, c28_, c16__]
        exact w_all [3, 4, 2, 0] (rfl) (rfl) (by rw [← e1_2]; rfl) (ih4 (i + 1) (by omega) (by omega))
      · refine w_iconst X (nI 1) dX3_referencesTo_31 (by decide +kernel) ?_
        refine w_goto X 36 dX3_referencesTo_32 (by decide) ?_
        refine w_roSN X [] (m_X5_oneIf l g true) cs_X5_oneIf nk_X3_91 rfl rfl ⟨Nat.le_of_ble_eq_true rfl, Nat.le_of_ble_eq_true rfl⟩ (Nat.le_of_ble_eq_true rfl) ⟨Nat.le_of_ble_eq_true rfl, Nat.le_of_ble_eq_true rfl⟩ dX3_referencesTo_36 rfl ?_
        refine w_iadd X dX3_referencesTo_39 ?_
        refine w_istore_n X dX3_referencesTo_40 (by decide) ?_
        refine w_iinc X (nI (2)) 1 rfl (nI_1 _) dX3_referencesTo_41 (by decide) ?_
        refine w_goto X 13 dX3_referencesTo_44 (by decide) ?_
        refine w_iload X 0 rfl dX3_referencesTo_13 ?_
        refine w_iconst X (nI 2) dX3_referencesTo_15 (by decide +kernel) ?_
        refine w_nc_ge X (by omega) (by omega) 47 dX3_referencesTo_16 (by decide) (fun c16__ => ?_) (fun c16__ => by exfalso; omega)
        refine w_iinc X (nI (i + 1)) 4 rfl (nI_1 _) dX3_referencesTo_47 (by decide) ?_
        refine w_goto X 4 dX3_referencesTo_50 (by decide) ?_
        have e2_2 : (((sum2 (fun h f => if refI σ (nI h) (nI f) = x then true else false) i) + bI (false)) + bI (true)) = (sum2 (fun h f => if refI σ (nI h) (nI f) = x then true else false) (i + 1)) := by rw [sum2]; simp [c7, c16, c28, c16_, c28_, c16__]
        exact w_all [3, 4, 2, 0] (rfl) (rfl) (by rw [← e2_2]; rfl) (ih4 (i + 1) (by omega) (by omega))
    · refine w_iconst X (nI 1) dX3_referencesTo_31 (by decide +kernel) ?_
      refine w_goto X 36 dX3_referencesTo_32 (by decide) ?_
      refine w_roSN X [] (m_X5_oneIf l g true) cs_X5_oneIf nk_X3_91 rfl rfl ⟨Nat.le_of_ble_eq_true rfl, Nat.le_of_ble_eq_true rfl⟩ (Nat.le_of_ble_eq_true rfl) ⟨Nat.le_of_ble_eq_true rfl, Nat.le_of_ble_eq_true rfl⟩ dX3_referencesTo_36 rfl ?_
      refine w_iadd X dX3_referencesTo_39 ?_
      refine w_istore_n X dX3_referencesTo_40 (by decide) ?_
      refine w_iinc X (nI (1)) 1 rfl (nI_1 _) dX3_referencesTo_41 (by decide) ?_
      refine w_goto X 13 dX3_referencesTo_44 (by decide) ?_
      refine w_iload X 0 rfl dX3_referencesTo_13 ?_
      refine w_iconst X (nI 2) dX3_referencesTo_15 (by decide +kernel) ?_
      refine w_nc_ge X (by omega) (by omega) 47 dX3_referencesTo_16 (by decide) (fun c16_ => by exfalso; omega) (fun c16_ => ?_)
      refine w_iload_n X 1 rfl dX3_referencesTo_19 ?_
      refine w_aload_n X 2 rfl dX3_referencesTo_20 ?_
      refine w_iload_n X 4 rfl dX3_referencesTo_21 ?_
      refine w_iload X 0 rfl dX3_referencesTo_22 ?_
      refine w_roV X [0] 0 0 (m_X3_reference l g ad σ (nI (i)) (nI (1))) cv_X3_reference mk_X3_83 rfl rfl rfl rfl rfl ⟨Nat.le_of_ble_eq_true rfl, Nat.le_of_ble_eq_true rfl⟩ (Nat.le_of_ble_eq_true rfl) ⟨Nat.le_of_ble_eq_true rfl, Nat.le_of_ble_eq_true rfl⟩ dX3_referencesTo_24 rfl ?_
      refine w_iload_n X 3 rfl dX3_referencesTo_27 ?_
      refine w_ic_ne X 35 dX3_referencesTo_28 (by decide) (fun c28_ => ?_) (fun c28_ => ?_)
      · refine w_iconst X (nI 0) dX3_referencesTo_35 (by decide +kernel) ?_
        refine w_roSN X [] (m_X5_oneIf l g false) cs_X5_oneIf nk_X3_91 rfl rfl ⟨Nat.le_of_ble_eq_true rfl, Nat.le_of_ble_eq_true rfl⟩ (Nat.le_of_ble_eq_true rfl) ⟨Nat.le_of_ble_eq_true rfl, Nat.le_of_ble_eq_true rfl⟩ dX3_referencesTo_36 rfl ?_
        refine w_iadd X dX3_referencesTo_39 ?_
        refine w_istore_n X dX3_referencesTo_40 (by decide) ?_
        refine w_iinc X (nI (2)) 1 rfl (nI_1 _) dX3_referencesTo_41 (by decide) ?_
        refine w_goto X 13 dX3_referencesTo_44 (by decide) ?_
        refine w_iload X 0 rfl dX3_referencesTo_13 ?_
        refine w_iconst X (nI 2) dX3_referencesTo_15 (by decide +kernel) ?_
        refine w_nc_ge X (by omega) (by omega) 47 dX3_referencesTo_16 (by decide) (fun c16__ => ?_) (fun c16__ => by exfalso; omega)
        refine w_iinc X (nI (i + 1)) 4 rfl (nI_1 _) dX3_referencesTo_47 (by decide) ?_
        refine w_goto X 4 dX3_referencesTo_50 (by decide) ?_
        have e3_2 : (((sum2 (fun h f => if refI σ (nI h) (nI f) = x then true else false) i) + bI (true)) + bI (false)) = (sum2 (fun h f => if refI σ (nI h) (nI f) = x then true else false) (i + 1)) := by rw [sum2]; simp [c7, c16, c28, c16_, c28_, c16__]
        exact w_all [3, 4, 2, 0] (rfl) (rfl) (by rw [← e3_2]; rfl) (ih4 (i + 1) (by omega) (by omega))
      · refine w_iconst X (nI 1) dX3_referencesTo_31 (by decide +kernel) ?_
        refine w_goto X 36 dX3_referencesTo_32 (by decide) ?_
        refine w_roSN X [] (m_X5_oneIf l g true) cs_X5_oneIf nk_X3_91 rfl rfl ⟨Nat.le_of_ble_eq_true rfl, Nat.le_of_ble_eq_true rfl⟩ (Nat.le_of_ble_eq_true rfl) ⟨Nat.le_of_ble_eq_true rfl, Nat.le_of_ble_eq_true rfl⟩ dX3_referencesTo_36 rfl ?_
        refine w_iadd X dX3_referencesTo_39 ?_
        refine w_istore_n X dX3_referencesTo_40 (by decide) ?_
        refine w_iinc X (nI (2)) 1 rfl (nI_1 _) dX3_referencesTo_41 (by decide) ?_
        refine w_goto X 13 dX3_referencesTo_44 (by decide) ?_
        refine w_iload X 0 rfl dX3_referencesTo_13 ?_
        refine w_iconst X (nI 2) dX3_referencesTo_15 (by decide +kernel) ?_
        refine w_nc_ge X (by omega) (by omega) 47 dX3_referencesTo_16 (by decide) (fun c16__ => ?_) (fun c16__ => by exfalso; omega)
        refine w_iinc X (nI (i + 1)) 4 rfl (nI_1 _) dX3_referencesTo_47 (by decide) ?_
        refine w_goto X 4 dX3_referencesTo_50 (by decide) ?_
        have e4_2 : (((sum2 (fun h f => if refI σ (nI h) (nI f) = x then true else false) i) + bI (true)) + bI (true)) = (sum2 (fun h f => if refI σ (nI h) (nI f) = x then true else false) (i + 1)) := by rw [sum2]; simp [c7, c16, c28, c16_, c28_, c16__]
        exact w_all [3, 4, 2, 0] (rfl) (rfl) (by rw [← e4_2]; rfl) (ih4 (i + 1) (by omega) (by omega))
set_option maxRecDepth 100000 in
set_option maxHeartbeats 4000000 in
theorem m_X3_references (l : Launch) (g : GG) (ad : Nat → Nat) (σ : Nat → Nat → Int32) (b : Bool) : MRO l g yX3_references cX3_references 6 (some .int) 1 [.ref (ad 0), .int (bI (b))] [stC g ad σ] (some (.int (sum2 (fun h f => refP σ b h f) 24))) := by
  refine mk_ro (by decide +kernel) (Nat.le_of_ble_eq_true rfl) (fun p e s m below meth c X => ?_)
  refine w_iconst X (nI 0) dX3_references_0 (by decide +kernel) ?_
  refine w_istore_n X dX3_references_1 (by decide) ?_
  refine w_iconst X (nI 0) dX3_references_2 (by decide +kernel) ?_
  refine w_istore_n X dX3_references_3 (by decide) ?_
  refine w_all [2, 3, 1, 0] (rfl) (rfl) rfl (w_loop (st := []) (pc := 4) X (V := Nat) (fun (i : Nat) => 24 - i) (fun (i : Nat) => (i ≤ 24)) (fun (i : Nat) => [(0, .ref (ad 0)), (1, .int (bI (b))), (2, .int (sum2 (fun h f => refP σ b h f) i)), (3, .int (nI i))]) (fun (i : Nat) => [stC g ad σ]) (fun i hv4 ih4 => ?_) 0 (by omega))
  have hi := hv4
  try dsimp only at ih4 ⊢
  refine w_iload_n X 3 rfl dX3_references_4 ?_
  refine w_bipush X (nI 24) dX3_references_5 (by decide +kernel) ?_
  refine w_nc_ge X (by omega) (by omega) 72 dX3_references_7 (by decide) (fun c7 => ?_) (fun c7 => ?_)
  · have he_i : i = 24 := by omega
    refine w_iload_n X 2 rfl dX3_references_72 ?_
    exact w_iret_ro X (by first | rfl | (subst he_i; rfl) | simp [c7, bI]) dX3_references_73
  · refine w_iconst X (nI 0) dX3_references_10 (by decide +kernel) ?_
    refine w_istore X dX3_references_11 (by decide) ?_
    refine w_all [1, 2, 3, 4, 0] (rfl) (rfl) rfl (w_loop (st := []) (pc := 13) X (V := Nat × Int32) (fun (v13 : Nat × Int32) => 2 - v13.1) (fun (v13 : Nat × Int32) => (v13.1 ≤ 2) ∧ (v13.2 = if v13.1 = 0 then sum2 (fun h f => refP σ b h f) i else if v13.1 = 1 then sum2 (fun h f => refP σ b h f) i + bI (refP σ b i 0) else sum2 (fun h f => refP σ b h f) (i + 1))) (fun (v13 : Nat × Int32) => [(0, .ref (ad 0)), (1, .int (bI (b))), (2, .int (v13.2)), (3, .int (nI i)), (4, .int (nI v13.1))]) (fun (v13 : Nat × Int32) => [stC g ad σ]) (fun v13 hv13 ih13 => ?_) (0, sum2 (fun h f => refP σ b h f) i) ⟨by omega, rfl⟩)
    obtain ⟨k, z⟩ := v13
    obtain ⟨hk, hz⟩ := hv13
    try dsimp only at hk hz ih13 ⊢
    refine w_iload X 4 rfl dX3_references_13 ?_
    refine w_iconst X (nI 2) dX3_references_15 (by decide +kernel) ?_
    refine w_nc_ge X (by omega) (by omega) 66 dX3_references_16 (by decide) (fun c16 => ?_) (fun c16 => ?_)
    · have he_k : k = 2 := by omega
      subst he_k
      simp at hz
      refine w_iinc X (nI (i + 1)) 3 rfl (nI_1 _) dX3_references_66 (by decide) ?_
      refine w_goto X 4 dX3_references_69 (by decide) ?_
      have e2_2 : (z) = (sum2 (fun h f => refP σ b h f) (i + 1)) := hz
      exact w_all [1, 2, 3, 0] (rfl) (rfl) (by rw [← e2_2]; rfl) (ih4 (i + 1) (by omega) (by omega))
    · refine w_aload_n X 0 rfl dX3_references_19 ?_
      refine w_iload_n X 3 rfl dX3_references_20 ?_
      refine w_iload X 4 rfl dX3_references_21 ?_
      refine w_roV X [0] 0 0 (m_X3_reference l g ad σ (nI (i)) (nI (k))) cv_X3_reference mk_X3_83 rfl rfl rfl rfl rfl ⟨Nat.le_of_ble_eq_true rfl, Nat.le_of_ble_eq_true rfl⟩ (Nat.le_of_ble_eq_true rfl) ⟨Nat.le_of_ble_eq_true rfl, Nat.le_of_ble_eq_true rfl⟩ dX3_references_23 rfl ?_
      refine w_istore X dX3_references_26 (by decide) ?_
      refine w_aload_n X 1 rfl dX3_references_28 ?_
      refine w_iload X 0 rfl dX3_references_29 ?_
      refine w_roV X [0] 0 0 (m_X3_has l g ad σ (refI σ (nI (i)) (nI (k)))) cv_X3_has mk_X3_95 rfl rfl rfl rfl rfl ⟨Nat.le_of_ble_eq_true rfl, Nat.le_of_ble_eq_true rfl⟩ (Nat.le_of_ble_eq_true rfl) ⟨Nat.le_of_ble_eq_true rfl, Nat.le_of_ble_eq_true rfl⟩ dX3_references_31 rfl ?_
      refine w_bf_eq X 60 dX3_references_34 (by decide) (fun c34 => ?_) (fun c34 => ?_)
      · refine w_iinc X (nI (k + 1)) 5 rfl (nI_1 _) dX3_references_60 (by decide) ?_
        refine w_goto X 13 dX3_references_63 (by decide) ?_
        exact w_all [2, 3, 4, 5, 0] (rfl) (rfl) rfl (ih13 (k + 1, (z)) (by omega) ⟨by omega, by rcases (show k = 0 ∨ k = 1 by omega) with rfl | rfl <;> simp_all [refP, sum2, add_f, add_t]⟩)
      · refine w_iload_n X 2 rfl dX3_references_37 ?_
        refine w_bf_eq X 57 dX3_references_38 (by decide) (fun c38 => ?_) (fun c38 => ?_)
        · refine w_iinc X (z + 1) 3 rfl rfl dX3_references_57 (by decide) ?_
          refine w_iinc X (nI (k + 1)) 5 rfl (nI_1 _) dX3_references_60 (by decide) ?_
          refine w_goto X 13 dX3_references_63 (by decide) ?_
          exact w_all [3, 4, 1, 5, 0] (rfl) (rfl) rfl (ih13 (k + 1, (z + 1)) (by omega) ⟨by omega, by rcases (show k = 0 ∨ k = 1 by omega) with rfl | rfl <;> simp_all [refP, sum2, add_f, add_t]⟩)
        · refine w_aload_n X 1 rfl dX3_references_41 ?_
          refine w_get X 0 0 rfl rfl rfl in_X3 1 (by decide) fk_X3_15 rfl dX3_references_42 ?_
          refine w_iload X 0 rfl dX3_references_45 ?_
          refine w_iald X 0 2 0 rfl rfl rfl (hasB_in (by assumption)) dX3_references_47 ?_
          refine w_aload_n X 1 rfl dX3_references_48 ?_
          refine w_get X 0 0 rfl rfl rfl in_X3 1 (by decide) fk_X3_15 rfl dX3_references_49 ?_
          refine w_iload_n X 4 rfl dX3_references_52 ?_
          refine w_iald_n X 0 2 0 rfl rfl rfl (by omega) (by decide) dX3_references_53 ?_
          refine w_ic_eq X 60 dX3_references_54 (by decide) (fun c54 => ?_) (fun c54 => ?_)
          · refine w_iinc X (nI (k + 1)) 5 rfl (nI_1 _) dX3_references_60 (by decide) ?_
            refine w_goto X 13 dX3_references_63 (by decide) ?_
            exact w_all [2, 3, 4, 5, 0] (rfl) (rfl) rfl (ih13 (k + 1, (z)) (by omega) ⟨by omega, by rcases (show k = 0 ∨ k = 1 by omega) with rfl | rfl <;> simp_all [refP, sum2, add_f, add_t]⟩)
          · refine w_iinc X (z + 1) 3 rfl rfl dX3_references_57 (by decide) ?_
            refine w_iinc X (nI (k + 1)) 5 rfl (nI_1 _) dX3_references_60 (by decide) ?_
            refine w_goto X 13 dX3_references_63 (by decide) ?_
            exact w_all [3, 4, 1, 5, 0] (rfl) (rfl) rfl (ih13 (k + 1, (z + 1)) (by omega) ⟨by omega, by rcases (show k = 0 ∨ k = 1 by omega) with rfl | rfl <;> simp_all [refP, sum2, add_f, add_t]⟩)
