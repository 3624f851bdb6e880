/-! Text -/
def fullB (τ : Nat → Nat → Int32) : Bool := if τ 1 0 < nI 60 then false else true
def addT (τ : Nat → Nat → Int32) (q : Int32) : Nat → Nat → Int32 := if τ 1 0 < 0 then τ else if nI 60 ≤ τ 1 0 then τ else rw2 (rw2 τ 0 (upd (τ 0) (τ 1 0).toNatClampNeg q)) 1 (upd (τ 1) 0 (τ 1 0 + nI 1))
def emptyT (τ : Nat → Nat → Int32) : Nat → Nat → Int32 := rw2 τ 1 (upd (τ 1) 0 (nI 0))
def digB (q a b : Int32) : Bool := if q < a then false else if b < q then false else true
def behP (q : Int32) : Int32 := if q = nI 59 then nI 0 else -1
def behS (q : Int32) : Int32 := if q = nI 114 then nI 3 else if q = nI 60 then nI 4 else behP q
def inH (q : Int32) : Int32 := if q = nI 49 then nI 5 else if q = nI 50 then nI 6 else if digB q (nI 48) (nI 57) = true then nI 7 else -1
def stgI (z q : Int32) : Int32 := if z = nI 0 then (if q = nI 49 then nI 1 else if digB q (nI 50) (nI 57) = true then nI 2 else -1) else if z = nI 1 then (if digB q (nI 48) (nI 54) = true then nI 2 else behS q) else if z = nI 2 then behS q else if z = nI 3 then (if q = nI 60 then nI 4 else behP q) else if z = nI 4 then inH q else if z = nI 5 then (if digB q (nI 48) (nI 57) = true then nI 7 else behP q) else if z = nI 6 then (if digB q (nI 48) (nI 51) = true then nI 7 else behP q) else if z = nI 7 then behP q else -1
theorem sw8 (x : Int32) : (∃ j : Nat, j < 8 ∧ x = nI j) ∨ (x.toInt < 0 ∨ 7 < x.toInt) := by
  by_cases h : vp_in x 8
  · exact Or.inl (vp_in_of h (by decide))
  · rw [vp_in_iff] at h
    exact Or.inr (by omega)
theorem stg_out {z : Int32} (q : Int32) (h : z.toInt < 0 ∨ 7 < z.toInt) : stgI z q = -1 := by
  have n : ∀ j : Nat, j < 8 → ¬ z = nI j := fun j hj e => by rw [e, nI_toInt (by omega)] at h; omega
  rw [stgI, if_neg (n 0 (by decide)), if_neg (n 1 (by decide)), if_neg (n 2 (by decide)), if_neg (n 3 (by decide)), if_neg (n 4 (by decide)), if_neg (n 5 (by decide)), if_neg (n 6 (by decide)), if_neg (n 7 (by decide))]
def errL (τ : Nat → Nat → Int32) : Nat → Nat → Int32 → Int32
  | 0, _, _ => τ 1 0
  | n + 1, i, z => if τ 1 0 ≤ nI i then τ 1 0 else if stgI z (τ 0 i) = -1 then nI i else errL τ n (i + 1) (stgI z (τ 0 i))
def stL (τ : Nat → Nat → Int32) : Nat → Nat → Int32 → Int32
  | 0, _, z => z
  | n + 1, i, z => if τ 1 0 ≤ nI i then z else stL τ n (i + 1) (stgI z (τ 0 i))
def okB (z : Int32) : Bool := if z = -1 then false else if z = 0 then false else if z = nI 4 then false else true
def rdL (τ : Nat → Nat → Int32) : Nat → Nat → Int32 → Int32 → Int32 → Int32 × Int32 × Int32 × Int32
  | 0, _, a, b, h => (τ 1 0, a, b, h)
  | n + 1, i, a, b, h => if τ 1 0 ≤ nI i then (τ 1 0, a, b, h) else if τ 0 i = nI 59 then (nI (i + 1), a, b, h) else if τ 0 i = nI 114 then rdL τ n (i + 1) a (nI 1) h else if τ 0 i = nI 60 then rdL τ n (i + 1) a b (nI 0) else if h = -1 then rdL τ n (i + 1) (a * nI 10 + τ 0 i - nI 48) b h else rdL τ n (i + 1) a b (h * nI 10 + τ 0 i - nI 48)
def rdR (τ : Nat → Nat → Int32) (f : Nat) : Int32 × Int32 × Int32 × Int32 := rdL τ (60 - f) f (nI 0) (nI 0) (-1)
def rdT (τ : Nat → Nat → Int32) (r : Int32 × Int32 × Int32 × Int32) : Nat → Nat → Int32 := rw2 τ 1 (upd (upd (upd (τ 1) 1 r.2.1) 2 r.2.2.1) 3 r.2.2.2)
def lcL (τ : Nat → Nat → Int32) : Nat → Nat → Int64 → Int64
  | 0, _, h => h
  | n + 1, i, h => if τ 1 0 ≤ nI i then h else lcL τ n (i + 1) (31 * h + (τ 0 i).toInt64)
set_option maxRecDepth 100000 in
set_option maxHeartbeats 4000000 in
theorem m_X4_isFull (l : Launch) (g : GG) (ad : Nat → Nat) (τ : Nat → Nat → Int32) : MRO l g yX4_isFull cX4_isFull 1 (some .boolean) 0 [.ref (ad 0)] [txC g ad τ] (some (.int (bI (fullB τ)))) := by
  refine mk_ro (by decide +kernel) (Nat.le_of_ble_eq_true rfl) (fun p e s m below meth c X => ?_)
  refine w_aload_n X 0 rfl dX4_isFull_0 ?_
  refine w_get X 0 0 rfl rfl rfl in_X4 1 (by decide) fk_X4_15 rfl dX4_isFull_1 ?_
  refine w_bipush X (nI 60) dX4_isFull_4 (by decide +kernel) ?_
  refine w_ic_lt X 13 dX4_isFull_6 (by decide) (fun c6 => ?_) (fun c6 => ?_)
  · refine w_iconst X (nI 0) dX4_isFull_13 (by decide +kernel) ?_
    exact w_zret_ro X (by first | rfl | (subst he_i; rfl) | simp (decide := true) [fullB, c6, bI]) (rfl) dX4_isFull_14
  · refine w_iconst X (nI 1) dX4_isFull_9 (by decide +kernel) ?_
    refine w_goto X 14 dX4_isFull_10 (by decide) ?_
    exact w_zret_ro X (by first | rfl | (subst he_i; rfl) | simp (decide := true) [fullB, c6, bI]) (rfl) dX4_isFull_14
set_option maxRecDepth 100000 in
set_option maxHeartbeats 4000000 in
theorem m_X4_empty (l : Launch) (g : GG) (ad : Nat → Nat) (τ : Nat → Nat → Int32) : MMU l g yX4_empty cX4_empty 1 none 0 0 0 [.ref (ad 0)] [txC g ad τ] (none) [txC g ad (emptyT τ)] := by
  refine mk_mu (by decide +kernel) (Nat.le_of_ble_eq_true rfl) (fun p e s m below meth c A hA X => ?_)
  refine w_aload_n X 0 rfl dX4_empty_0 ?_
  refine w_iconst X (nI 0) dX4_empty_1 (by decide +kernel) ?_
  refine w_put X 0 0 rfl rfl rfl in_X4 tyX4 tyX4_ok nmX4 1 (by decide) fk_X4_15 rfl rfl rfl rfl (Nat.le_of_ble_eq_true rfl) (show _ = txC g ad (rw2 τ 1 (upd (τ 1) 0 (nI (0)))) from rfl) dX4_empty_2 ?_
  exact w_vret_mu X (rfl) (Nat.le_of_ble_eq_true rfl) (Nat.le_of_ble_eq_true rfl) dX4_empty_5
set_option maxRecDepth 100000 in
set_option maxHeartbeats 4000000 in
theorem m_X4_add (l : Launch) (g : GG) (ad : Nat → Nat) (τ : Nat → Nat → Int32) (q : Int32) : MMU l g yX4_add cX4_add 2 none 0 0 0 [.ref (ad 0), .int (q)] [txC g ad τ] (none) [txC g ad (addT τ q)] := by
  refine mk_mu (by decide +kernel) (Nat.le_of_ble_eq_true rfl) (fun p e s m below meth c A hA X => ?_)
  refine w_aload_n X 0 rfl dX4_add_0 ?_
  refine w_get X 0 0 rfl rfl rfl in_X4 1 (by decide) fk_X4_15 rfl dX4_add_1 ?_
  refine w_if_lt X 36 dX4_add_4 (by decide) (fun c4 => ?_) (fun c4 => ?_)
  · exact w_vret_mu X (by rw [addT, if_pos c4]) (Nat.le_of_ble_eq_true rfl) (Nat.le_of_ble_eq_true rfl) dX4_add_36
  · refine w_aload_n X 0 rfl dX4_add_7 ?_
    refine w_get X 0 0 rfl rfl rfl in_X4 1 (by decide) fk_X4_15 rfl dX4_add_8 ?_
    refine w_bipush X (nI 60) dX4_add_11 (by decide +kernel) ?_
    refine w_ic_ge X 36 dX4_add_13 (by decide) (fun c13 => ?_) (fun c13 => ?_)
    · exact w_vret_mu X (by first | (rw [addT, if_neg c4, if_pos c13]; done) | (rw [addT, if_neg c4, if_neg c13]; rfl)) (Nat.le_of_ble_eq_true rfl) (Nat.le_of_ble_eq_true rfl) dX4_add_36
    · refine w_aload_n X 0 rfl dX4_add_16 ?_
      refine w_get X 0 0 rfl rfl rfl in_X4 0 (by decide) fk_X4_11 rfl dX4_add_17 ?_
      refine w_aload_n X 0 rfl dX4_add_20 ?_
      refine w_get X 0 0 rfl rfl rfl in_X4 1 (by decide) fk_X4_15 rfl dX4_add_21 ?_
      refine w_iload_n X 1 rfl dX4_add_24 ?_
      refine w_iast X 0 1 0 rfl rfl rfl (ix_in (by decide) c4 c13) (show _ = txC g ad (rw2 τ 0 (upd (τ 0) ((τ 1 0)).toNatClampNeg ((q)))) from rfl) dX4_add_25 ?_
      refine w_aload_n X 0 rfl dX4_add_26 ?_
      refine w_dup X dX4_add_27 rfl ?_
      refine w_get X 0 0 rfl rfl rfl in_X4 1 (by decide) fk_X4_15 rfl dX4_add_28 ?_
      refine w_st (st2 := [.int (τ 1 0), .ref (ad 0)]) rfl ?_
      refine w_iconst X (nI 1) dX4_add_31 (by decide +kernel) ?_
      refine w_iadd X dX4_add_32 ?_
      refine w_put X 0 0 rfl rfl rfl in_X4 tyX4 tyX4_ok nmX4 1 (by decide) fk_X4_15 rfl rfl rfl rfl (Nat.le_of_ble_eq_true rfl) (show _ = txC g ad (rw2 (rw2 τ 0 (upd (τ 0) ((τ 1 0)).toNatClampNeg ((q)))) 1 (upd (τ 1) 0 (((τ 1 0) + nI (1))))) from rfl) dX4_add_33 ?_
      exact w_vret_mu X (by first | (rw [addT, if_neg c4, if_pos c13]; done) | (rw [addT, if_neg c4, if_neg c13]; rfl)) (Nat.le_of_ble_eq_true rfl) (Nat.le_of_ble_eq_true rfl) dX4_add_36
set_option maxRecDepth 100000 in
set_option maxHeartbeats 4000000 in
theorem m_X4_isDigit (l : Launch) (g : GG) (q : Int32) (a : Int32) (b : Int32) : MRO l g yX4_isDigit cX4_isDigit 3 (some .boolean) 0 [.int (q), .int (a), .int (b)] [] (some (.int (bI (digB q a b)))) := by
  refine mk_ro (by decide +kernel) (Nat.le_of_ble_eq_true rfl) (fun p e s m below meth c X => ?_)
  refine w_iload_n X 0 rfl dX4_isDigit_0 ?_
  refine w_iload_n X 1 rfl dX4_isDigit_1 ?_
  refine w_ic_lt X 14 dX4_isDigit_2 (by decide) (fun c2 => ?_) (fun c2 => ?_)
  · refine w_iconst X (nI 0) dX4_isDigit_14 (by decide +kernel) ?_
    exact w_zret_ro X (by first | rfl | (subst he_i; rfl) | simp (decide := true) [digB, c2, bI]) (rfl) dX4_isDigit_15
  · refine w_iload_n X 0 rfl dX4_isDigit_5 ?_
    refine w_iload_n X 2 rfl dX4_isDigit_6 ?_
    refine w_ic_gt X 14 dX4_isDigit_7 (by decide) (fun c7 => ?_) (fun c7 => ?_)
    · refine w_iconst X (nI 0) dX4_isDigit_14 (by decide +kernel) ?_
      exact w_zret_ro X (by first | rfl | (subst he_i; rfl) | simp (decide := true) [digB, c2, c7, bI]) (rfl) dX4_isDigit_15
    · refine w_iconst X (nI 1) dX4_isDigit_10 (by decide +kernel) ?_
      refine w_goto X 15 dX4_isDigit_11 (by decide) ?_
      exact w_zret_ro X (by first | rfl | (subst he_i; rfl) | simp (decide := true) [digB, c2, c7, bI]) (rfl) dX4_isDigit_15
set_option maxRecDepth 100000 in
set_option maxHeartbeats 4000000 in
theorem m_X4_stageBehindPart (l : Launch) (g : GG) (q : Int32) : MRO l g yX4_stageBehindPart cX4_stageBehindPart 1 (some .int) 0 [.int (q)] [] (some (.int (behP q))) := by
  refine mk_ro (by decide +kernel) (Nat.le_of_ble_eq_true rfl) (fun p e s m below meth c X => ?_)
  refine w_iload_n X 0 rfl dX4_stageBehindPart_0 ?_
  refine w_bipush X (nI 59) dX4_stageBehindPart_1 (by decide +kernel) ?_
  refine w_ic_ne X 10 dX4_stageBehindPart_3 (by decide) (fun c3 => ?_) (fun c3 => ?_)
  · refine w_iconst X (-1) dX4_stageBehindPart_10 (by decide +kernel) ?_
    exact w_iret_ro X (by first | rfl | (subst he_i; rfl) | simp (decide := true) [behP, c3, bI]) dX4_stageBehindPart_11
  · refine w_iconst X (nI 0) dX4_stageBehindPart_6 (by decide +kernel) ?_
    refine w_goto X 11 dX4_stageBehindPart_7 (by decide) ?_
    exact w_iret_ro X (by first | rfl | (subst he_i; rfl) | simp (decide := true) [behP, c3, bI]) dX4_stageBehindPart_11
set_option maxRecDepth 100000 in
set_option maxHeartbeats 4000000 in
theorem m_X4_stageBehindSize (l : Launch) (g : GG) (q : Int32) : MRO l g yX4_stageBehindSize cX4_stageBehindSize 1 (some .int) 1 [.int (q)] [] (some (.int (behS q))) := by
  refine mk_ro (by decide +kernel) (Nat.le_of_ble_eq_true rfl) (fun p e s m below meth c X => ?_)
  refine w_iload_n X 0 rfl dX4_stageBehindSize_0 ?_
  refine w_bipush X (nI 114) dX4_stageBehindSize_1 (by decide +kernel) ?_
  refine w_ic_ne X 8 dX4_stageBehindSize_3 (by decide) (fun c3 => ?_) (fun c3 => ?_)
  · refine w_iload_n X 0 rfl dX4_stageBehindSize_8 ?_
    refine w_bipush X (nI 60) dX4_stageBehindSize_9 (by decide +kernel) ?_
    refine w_ic_ne X 18 dX4_stageBehindSize_11 (by decide) (fun c11 => ?_) (fun c11 => ?_)
    · refine w_iload_n X 0 rfl dX4_stageBehindSize_18 ?_
      refine w_roS X [] (m_X4_stageBehindPart l g (q)) cs_X4_stageBehindPart mk_X4_31 rfl rfl ⟨Nat.le_of_ble_eq_true rfl, Nat.le_of_ble_eq_true rfl⟩ (Nat.le_of_ble_eq_true rfl) ⟨Nat.le_of_ble_eq_true rfl, Nat.le_of_ble_eq_true rfl⟩ dX4_stageBehindSize_19 rfl ?_
      exact w_iret_ro X (by first | rfl | (subst he_i; rfl) | simp (decide := true) [behS, c3, c11, bI]) dX4_stageBehindSize_22
    · refine w_iconst X (nI 4) dX4_stageBehindSize_14 (by decide +kernel) ?_
      refine w_goto X 22 dX4_stageBehindSize_15 (by decide) ?_
      exact w_iret_ro X (by first | rfl | (subst he_i; rfl) | simp (decide := true) [behS, c3, c11, bI]) dX4_stageBehindSize_22
  · refine w_iconst X (nI 3) dX4_stageBehindSize_6 (by decide +kernel) ?_
    exact w_iret_ro X (by first | rfl | (subst he_i; rfl) | simp (decide := true) [behS, c3, bI]) dX4_stageBehindSize_7
set_option maxRecDepth 100000 in
set_option maxHeartbeats 4000000 in
theorem m_X4_stageInHolder (l : Launch) (g : GG) (q : Int32) : MRO l g yX4_stageInHolder cX4_stageInHolder 1 (some .int) 1 [.int (q)] [] (some (.int (inH q))) := by
  refine mk_ro (by decide +kernel) (Nat.le_of_ble_eq_true rfl) (fun p e s m below meth c X => ?_)
  refine w_iload_n X 0 rfl dX4_stageInHolder_0 ?_
  refine w_bipush X (nI 49) dX4_stageInHolder_1 (by decide +kernel) ?_
  refine w_ic_ne X 8 dX4_stageInHolder_3 (by decide) (fun c3 => ?_) (fun c3 => ?_)
  · refine w_iload_n X 0 rfl dX4_stageInHolder_8 ?_
    refine w_bipush X (nI 50) dX4_stageInHolder_9 (by decide +kernel) ?_
    refine w_ic_ne X 17 dX4_stageInHolder_11 (by decide) (fun c11 => ?_) (fun c11 => ?_)
    · refine w_iload_n X 0 rfl dX4_stageInHolder_17 ?_
      refine w_bipush X (nI 48) dX4_stageInHolder_18 (by decide +kernel) ?_
      refine w_bipush X (nI 57) dX4_stageInHolder_20 (by decide +kernel) ?_
      refine w_roS X [] (m_X4_isDigit l g (q) (nI (48)) (nI (57))) cs_X4_isDigit mk_X4_23 rfl rfl ⟨Nat.le_of_ble_eq_true rfl, Nat.le_of_ble_eq_true rfl⟩ (Nat.le_of_ble_eq_true rfl) ⟨Nat.le_of_ble_eq_true rfl, Nat.le_of_ble_eq_true rfl⟩ dX4_stageInHolder_22 rfl ?_
      refine w_bf_eq X 33 dX4_stageInHolder_25 (by decide) (fun c25 => ?_) (fun c25 => ?_)
      · refine w_iconst X (-1) dX4_stageInHolder_33 (by decide +kernel) ?_
        exact w_iret_ro X (by simp (decide := true) [inH, c3, c11, c25]) dX4_stageInHolder_34
      · refine w_bipush X (nI 7) dX4_stageInHolder_28 (by decide +kernel) ?_
        refine w_goto X 34 dX4_stageInHolder_30 (by decide) ?_
        exact w_iret_ro X (by simp (decide := true) [inH, c3, c11, c25]) dX4_stageInHolder_34
    · refine w_bipush X (nI 6) dX4_stageInHolder_14 (by decide +kernel) ?_
      exact w_iret_ro X (by simp (decide := true) [inH, c3, c11]) dX4_stageInHolder_16
  · refine w_iconst X (nI 5) dX4_stageInHolder_6 (by decide +kernel) ?_
    exact w_iret_ro X (by simp (decide := true) [inH, c3]) dX4_stageInHolder_7
set_option maxRecDepth 100000 in
set_option maxHeartbeats 4000000 in
theorem m_X4_stageAfter (l : Launch) (g : GG) (z : Int32) (q : Int32) : MRO l g yX4_stageAfter cX4_stageAfter 2 (some .int) 2 [.int (z), .int (q)] [] (some (.int (stgI z q))) := by
  refine mk_ro (by decide +kernel) (Nat.le_of_ble_eq_true rfl) (fun p e s m below meth c X => ?_)
  refine w_iload_n X 0 rfl dX4_stageAfter_0 ?_
  rcases sw8 z with ⟨j, hj, rfl⟩ | hout
  · rcases (show j = 0 ∨ j = 1 ∨ j = 2 ∨ j = 3 ∨ j = 4 ∨ j = 5 ∨ j = 6 ∨ j = 7 by omega) with c1 | c1 | c1 | c1 | c1 | c1 | c1 | c1
    · subst c1
      refine w_tableIn X 48 dX4_stageAfter_1 (by decide) (by decide) (by rfl) (by decide) ?_
      refine w_iload_n X 1 rfl dX4_stageAfter_48 ?_
      refine w_bipush X (nI 49) dX4_stageAfter_49 (by decide +kernel) ?_
      refine w_ic_ne X 58 dX4_stageAfter_51 (by decide) (fun c51 => ?_) (fun c51 => ?_)
      · refine w_iload_n X 1 rfl dX4_stageAfter_58 ?_
        refine w_bipush X (nI 50) dX4_stageAfter_59 (by decide +kernel) ?_
        refine w_bipush X (nI 57) dX4_stageAfter_61 (by decide +kernel) ?_
        refine w_roS X [] (m_X4_isDigit l g (q) (nI (50)) (nI (57))) cs_X4_isDigit mk_X4_23 rfl rfl ⟨Nat.le_of_ble_eq_true rfl, Nat.le_of_ble_eq_true rfl⟩ (Nat.le_of_ble_eq_true rfl) ⟨Nat.le_of_ble_eq_true rfl, Nat.le_of_ble_eq_true rfl⟩ dX4_stageAfter_63 rfl ?_
        refine w_bf_eq X 73 dX4_stageAfter_66 (by decide) (fun c66 => ?_) (fun c66 => ?_)
        · refine w_iconst X (-1) dX4_stageAfter_73 (by decide +kernel) ?_
          exact w_iret_ro X (by simp (decide := true) [stgI, c51, c66]) dX4_stageAfter_74
        · refine w_iconst X (nI 2) dX4_stageAfter_69 (by decide +kernel) ?_
          refine w_goto X 74 dX4_stageAfter_70 (by decide) ?_
          exact w_iret_ro X (by simp (decide := true) [stgI, c51, c66]) dX4_stageAfter_74
      · refine w_iconst X (nI 1) dX4_stageAfter_54 (by decide +kernel) ?_
        refine w_goto X 74 dX4_stageAfter_55 (by decide) ?_
        exact w_iret_ro X (by simp (decide := true) [stgI, c51]) dX4_stageAfter_74
    · subst c1
      refine w_tableIn X 75 dX4_stageAfter_1 (by decide) (by decide) (by rfl) (by decide) ?_
      refine w_iload_n X 1 rfl dX4_stageAfter_75 ?_
      refine w_bipush X (nI 48) dX4_stageAfter_76 (by decide +kernel) ?_
      refine w_bipush X (nI 54) dX4_stageAfter_78 (by decide +kernel) ?_
      refine w_roS X [] (m_X4_isDigit l g (q) (nI (48)) (nI (54))) cs_X4_isDigit mk_X4_23 rfl rfl ⟨Nat.le_of_ble_eq_true rfl, Nat.le_of_ble_eq_true rfl⟩ (Nat.le_of_ble_eq_true rfl) ⟨Nat.le_of_ble_eq_true rfl, Nat.le_of_ble_eq_true rfl⟩ dX4_stageAfter_80 rfl ?_
      refine w_bf_eq X 90 dX4_stageAfter_83 (by decide) (fun c83 => ?_) (fun c83 => ?_)
      · refine w_iload_n X 1 rfl dX4_stageAfter_90 ?_
        refine w_roS X [] (m_X4_stageBehindSize l g (q)) cs_X4_stageBehindSize mk_X4_27 rfl rfl ⟨Nat.le_of_ble_eq_true rfl, Nat.le_of_ble_eq_true rfl⟩ (Nat.le_of_ble_eq_true rfl) ⟨Nat.le_of_ble_eq_true rfl, Nat.le_of_ble_eq_true rfl⟩ dX4_stageAfter_91 rfl ?_
        exact w_iret_ro X (by simp (decide := true) [stgI, c83]) dX4_stageAfter_94
      · refine w_iconst X (nI 2) dX4_stageAfter_86 (by decide +kernel) ?_
        refine w_goto X 94 dX4_stageAfter_87 (by decide) ?_
        exact w_iret_ro X (by simp (decide := true) [stgI, c83]) dX4_stageAfter_94
    · subst c1
      refine w_tableIn X 95 dX4_stageAfter_1 (by decide) (by decide) (by rfl) (by decide) ?_
      refine w_iload_n X 1 rfl dX4_stageAfter_95 ?_
      refine w_roS X [] (m_X4_stageBehindSize l g (q)) cs_X4_stageBehindSize mk_X4_27 rfl rfl ⟨Nat.le_of_ble_eq_true rfl, Nat.le_of_ble_eq_true rfl⟩ (Nat.le_of_ble_eq_true rfl) ⟨Nat.le_of_ble_eq_true rfl, Nat.le_of_ble_eq_true rfl⟩ dX4_stageAfter_96 rfl ?_
      exact w_iret_ro X (by simp (decide := true) [stgI, ]) dX4_stageAfter_99
    · subst c1
      refine w_tableIn X 100 dX4_stageAfter_1 (by decide) (by decide) (by rfl) (by decide) ?_
      refine w_iload_n X 1 rfl dX4_stageAfter_100 ?_
      refine w_bipush X (nI 60) dX4_stageAfter_101 (by decide +kernel) ?_
      refine w_ic_ne X 110 dX4_stageAfter_103 (by decide) (fun c103 => ?_) (fun c103 => ?_)
      · refine w_iload_n X 1 rfl dX4_stageAfter_110 ?_
        refine w_roS X [] (m_X4_stageBehindPart l g (q)) cs_X4_stageBehindPart mk_X4_31 rfl rfl ⟨Nat.le_of_ble_eq_true rfl, Nat.le_of_ble_eq_true rfl⟩ (Nat.le_of_ble_eq_true rfl) ⟨Nat.le_of_ble_eq_true rfl, Nat.le_of_ble_eq_true rfl⟩ dX4_stageAfter_111 rfl ?_
        exact w_iret_ro X (by simp (decide := true) [stgI, c103]) dX4_stageAfter_114
      · refine w_iconst X (nI 4) dX4_stageAfter_106 (by decide +kernel) ?_
        refine w_goto X 114 dX4_stageAfter_107 (by decide) ?_
        exact w_iret_ro X (by simp (decide := true) [stgI, c103]) dX4_stageAfter_114
    · subst c1
      refine w_tableIn X 115 dX4_stageAfter_1 (by decide) (by decide) (by rfl) (by decide) ?_
      refine w_iload_n X 1 rfl dX4_stageAfter_115 ?_
      refine w_roS X [] (m_X4_stageInHolder l g (q)) cs_X4_stageInHolder mk_X4_34 rfl rfl ⟨Nat.le_of_ble_eq_true rfl, Nat.le_of_ble_eq_true rfl⟩ (Nat.le_of_ble_eq_true rfl) ⟨Nat.le_of_ble_eq_true rfl, Nat.le_of_ble_eq_true rfl⟩ dX4_stageAfter_116 rfl ?_
      exact w_iret_ro X (by simp (decide := true) [stgI, ]) dX4_stageAfter_119
    · subst c1
      refine w_tableIn X 120 dX4_stageAfter_1 (by decide) (by decide) (by rfl) (by decide) ?_
      refine w_iload_n X 1 rfl dX4_stageAfter_120 ?_
      refine w_bipush X (nI 48) dX4_stageAfter_121 (by decide +kernel) ?_
      refine w_bipush X (nI 57) dX4_stageAfter_123 (by decide +kernel) ?_
      refine w_roS X [] (m_X4_isDigit l g (q) (nI (48)) (nI (57))) cs_X4_isDigit mk_X4_23 rfl rfl ⟨Nat.le_of_ble_eq_true rfl, Nat.le_of_ble_eq_true rfl⟩ (Nat.le_of_ble_eq_true rfl) ⟨Nat.le_of_ble_eq_true rfl, Nat.le_of_ble_eq_true rfl⟩ dX4_stageAfter_125 rfl ?_
      refine w_bf_eq X 136 dX4_stageAfter_128 (by decide) (fun c128 => ?_) (fun c128 => ?_)
      · refine w_iload_n X 1 rfl dX4_stageAfter_136 ?_
        refine w_roS X [] (m_X4_stageBehindPart l g (q)) cs_X4_stageBehindPart mk_X4_31 rfl rfl ⟨Nat.le_of_ble_eq_true rfl, Nat.le_of_ble_eq_true rfl⟩ (Nat.le_of_ble_eq_true rfl) ⟨Nat.le_of_ble_eq_true rfl, Nat.le_of_ble_eq_true rfl⟩ dX4_stageAfter_137 rfl ?_
        exact w_iret_ro X (by simp (decide := true) [stgI, c128]) dX4_stageAfter_140
      · refine w_bipush X (nI 7) dX4_stageAfter_131 (by decide +kernel) ?_
        refine w_goto X 140 dX4_stageAfter_133 (by decide) ?_
        exact w_iret_ro X (by simp (decide := true) [stgI, c128]) dX4_stageAfter_140
    · subst c1
      refine w_tableIn X 141 dX4_stageAfter_1 (by decide) (by decide) (by rfl) (by decide) ?_
      refine w_iload_n X 1 rfl dX4_stageAfter_141 ?_
      refine w_bipush X (nI 48) dX4_stageAfter_142 (by decide +kernel) ?_
      refine w_bipush X (nI 51) dX4_stageAfter_144 (by decide +kernel) ?_
      refine w_roS X [] (m_X4_isDigit l g (q) (nI (48)) (nI (51))) cs_X4_isDigit mk_X4_23 rfl rfl ⟨Nat.le_of_ble_eq_true rfl, Nat.le_of_ble_eq_true rfl⟩ (Nat.le_of_ble_eq_true rfl) ⟨Nat.le_of_ble_eq_true rfl, Nat.le_of_ble_eq_true rfl⟩ dX4_stageAfter_146 rfl ?_
      refine w_bf_eq X 157 dX4_stageAfter_149 (by decide) (fun c149 => ?_) (fun c149 => ?_)
      · refine w_iload_n X 1 rfl dX4_stageAfter_157 ?_
        refine w_roS X [] (m_X4_stageBehindPart l g (q)) cs_X4_stageBehindPart mk_X4_31 rfl rfl ⟨Nat.le_of_ble_eq_true rfl, Nat.le_of_ble_eq_true rfl⟩ (Nat.le_of_ble_eq_true rfl) ⟨Nat.le_of_ble_eq_true rfl, Nat.le_of_ble_eq_true rfl⟩ dX4_stageAfter_158 rfl ?_
        exact w_iret_ro X (by simp (decide := true) [stgI, c149]) dX4_stageAfter_161
      · refine w_bipush X (nI 7) dX4_stageAfter_152 (by decide +kernel) ?_
        refine w_goto X 161 dX4_stageAfter_154 (by decide) ?_
        exact w_iret_ro X (by simp (decide := true) [stgI, c149]) dX4_stageAfter_161
    · subst c1
      refine w_tableIn X 162 dX4_stageAfter_1 (by decide) (by decide) (by rfl) (by decide) ?_
      refine w_iload_n X 1 rfl dX4_stageAfter_162 ?_
      refine w_roS X [] (m_X4_stageBehindPart l g (q)) cs_X4_stageBehindPart mk_X4_31 rfl rfl ⟨Nat.le_of_ble_eq_true rfl, Nat.le_of_ble_eq_true rfl⟩ (Nat.le_of_ble_eq_true rfl) ⟨Nat.le_of_ble_eq_true rfl, Nat.le_of_ble_eq_true rfl⟩ dX4_stageAfter_163 rfl ?_
      exact w_iret_ro X (by simp (decide := true) [stgI, ]) dX4_stageAfter_166
  · refine w_tableOut X 167 dX4_stageAfter_1 (by simpa using hout) (by decide) ?_
    refine w_iconst X (-1) dX4_stageAfter_167 (by decide +kernel) ?_
    exact w_iret_ro X (by rw [stg_out q hout]) dX4_stageAfter_168
set_option maxRecDepth 100000 in
set_option maxHeartbeats 4000000 in
theorem m_X4_errorPlace (l : Launch) (g : GG) (ad : Nat → Nat) (τ : Nat → Nat → Int32) : MRO l g yX4_errorPlace cX4_errorPlace 3 (some .int) 3 [.ref (ad 0)] [txC g ad τ] (some (.int (errL τ 60 0 (nI 0)))) := by
  refine mk_ro (by decide +kernel) (Nat.le_of_ble_eq_true rfl) (fun p e s m below meth c X => ?_)
  refine w_iconst X (nI 0) dX4_errorPlace_0 (by decide +kernel) ?_
  refine w_istore_n X dX4_errorPlace_1 (by decide) ?_
  refine w_iconst X (nI 0) dX4_errorPlace_2 (by decide +kernel) ?_
  refine w_istore_n X dX4_errorPlace_3 (by decide) ?_
  refine w_all [2, 1, 0] (rfl) (rfl) rfl (w_loop (st := []) (pc := 4) X (V := Nat × Int32) (fun (v4 : Nat × Int32) => 60 - v4.1) (fun (v4 : Nat × Int32) => (v4.1 ≤ 60) ∧ (errL τ (60 - v4.1) v4.1 v4.2 = errL τ 60 0 (nI 0))) (fun (v4 : Nat × Int32) => [(0, .ref (ad 0)), (1, .int (v4.2)), (2, .int (nI v4.1))]) (fun (v4 : Nat × Int32) => [txC g ad τ]) (fun v4 hv4 ih4 => ?_) (0, nI 0) ⟨by omega, rfl⟩)
  obtain ⟨i, z⟩ := v4
  obtain ⟨hi, hz⟩ := hv4
  try dsimp only at hi hz ih4 ⊢
  refine w_iload_n X 2 rfl dX4_errorPlace_4 ?_
  refine w_bipush X (nI 60) dX4_errorPlace_5 (by decide +kernel) ?_
  refine w_nc_ge X (by omega) (by omega) 42 dX4_errorPlace_7 (by decide) (fun c7 => ?_) (fun c7 => ?_)
  · refine w_aload_n X 0 rfl dX4_errorPlace_42 ?_
    refine w_get X 0 0 rfl rfl rfl in_X4 1 (by decide) fk_X4_15 rfl dX4_errorPlace_43 ?_
    exact w_iret_ro X (by rw [← hz, show 60 - i = 0 by omega, errL]) dX4_errorPlace_46
  · refine w_iload_n X 2 rfl dX4_errorPlace_10 ?_
    refine w_aload_n X 0 rfl dX4_errorPlace_11 ?_
    refine w_get X 0 0 rfl rfl rfl in_X4 1 (by decide) fk_X4_15 rfl dX4_errorPlace_12 ?_
    refine w_ic_ge X 42 dX4_errorPlace_15 (by decide) (fun c15 => ?_) (fun c15 => ?_)
    · refine w_aload_n X 0 rfl dX4_errorPlace_42 ?_
      refine w_get X 0 0 rfl rfl rfl in_X4 1 (by decide) fk_X4_15 rfl dX4_errorPlace_43 ?_
      exact w_iret_ro X (by rw [← hz, show 60 - i = (59 - i) + 1 by omega, errL, if_pos c15]) dX4_errorPlace_46
    · refine w_iload_n X 1 rfl dX4_errorPlace_18 ?_
      refine w_aload_n X 0 rfl dX4_errorPlace_19 ?_
      refine w_get X 0 0 rfl rfl rfl in_X4 0 (by decide) fk_X4_11 rfl dX4_errorPlace_20 ?_
      refine w_iload_n X 2 rfl dX4_errorPlace_23 ?_
      refine w_iald_n X 0 1 0 rfl rfl rfl (by omega) (by decide) dX4_errorPlace_24 ?_
      refine w_roS X [] (m_X4_stageAfter l g (z) (τ 0 i)) cs_X4_stageAfter mk_X4_19 rfl rfl ⟨Nat.le_of_ble_eq_true rfl, Nat.le_of_ble_eq_true rfl⟩ (Nat.le_of_ble_eq_true rfl) ⟨Nat.le_of_ble_eq_true rfl, Nat.le_of_ble_eq_true rfl⟩ dX4_errorPlace_25 rfl ?_
      refine w_istore_n X dX4_errorPlace_28 (by decide) ?_
      refine w_iload_n X 0 rfl dX4_errorPlace_29 ?_
      refine w_iconst X (-1) dX4_errorPlace_30 (by decide +kernel) ?_
      refine w_ic_ne X 36 dX4_errorPlace_31 (by decide) (fun c31 => ?_) (fun c31 => ?_)
      · refine w_iinc X (nI (i + 1)) 2 rfl (nI_1 _) dX4_errorPlace_36 (by decide) ?_
        refine w_goto X 4 dX4_errorPlace_39 (by decide) ?_
        exact w_all [2, 1, 0] (rfl) (rfl) rfl (ih4 (i + 1, (stgI (z) (τ 0 i))) (by omega) ⟨by omega, by rw [← hz, show 60 - i = (60 - (i + 1)) + 1 by omega, errL, if_neg c15, if_neg c31]⟩)
      · refine w_iload_n X 2 rfl dX4_errorPlace_34 ?_
        exact w_iret_ro X (by rw [← hz, show 60 - i = (59 - i) + 1 by omega, errL, if_neg c15, if_pos c31]) dX4_errorPlace_35
set_option maxRecDepth 100000 in
set_option maxHeartbeats 4000000 in
theorem m_X4_isComplete (l : Launch) (g : GG) (ad : Nat → Nat) (τ : Nat → Nat → Int32) : MRO l g yX4_isComplete cX4_isComplete 3 (some .boolean) 3 [.ref (ad 0)] [txC g ad τ] (some (.int (bI (okB (stL τ 60 0 (nI 0)))))) := by
  refine mk_ro (by decide +kernel) (Nat.le_of_ble_eq_true rfl) (fun p e s m below meth c X => ?_)
  refine w_iconst X (nI 0) dX4_isComplete_0 (by decide +kernel) ?_
  refine w_istore_n X dX4_isComplete_1 (by decide) ?_
  refine w_iconst X (nI 0) dX4_isComplete_2 (by decide +kernel) ?_
  refine w_istore_n X dX4_isComplete_3 (by decide) ?_
  refine w_all [2, 1, 0] (rfl) (rfl) rfl (w_loop (st := []) (pc := 4) X (V := Nat × Int32) (fun (v4 : Nat × Int32) => 60 - v4.1) (fun (v4 : Nat × Int32) => (v4.1 ≤ 60) ∧ (stL τ (60 - v4.1) v4.1 v4.2 = stL τ 60 0 (nI 0))) (fun (v4 : Nat × Int32) => [(0, .ref (ad 0)), (1, .int (v4.2)), (2, .int (nI v4.1))]) (fun (v4 : Nat × Int32) => [txC g ad τ]) (fun v4 hv4 ih4 => ?_) (0, nI 0) ⟨by omega, rfl⟩)
  obtain ⟨i, z⟩ := v4
  obtain ⟨hi, hz⟩ := hv4
  try dsimp only at hi hz ih4 ⊢
  refine w_iload_n X 2 rfl dX4_isComplete_4 ?_
  refine w_bipush X (nI 60) dX4_isComplete_5 (by decide +kernel) ?_
  refine w_nc_ge X (by omega) (by omega) 35 dX4_isComplete_7 (by decide) (fun c7 => ?_) (fun c7 => ?_)
  · refine w_iload_n X 1 rfl dX4_isComplete_35 ?_
    refine w_iconst X (-1) dX4_isComplete_36 (by decide +kernel) ?_
    refine w_ic_eq X 53 dX4_isComplete_37 (by decide) (fun c37 => ?_) (fun c37 => ?_)
    · refine w_iconst X (nI 0) dX4_isComplete_53 (by decide +kernel) ?_
      exact w_zret_ro X (by rw [← hz, show 60 - i = 0 by omega, stL]; simp [okB, bI, c7, c37]) (rfl) dX4_isComplete_54
    · refine w_iload_n X 1 rfl dX4_isComplete_40 ?_
      refine w_if_eq X 53 dX4_isComplete_41 (by decide) (fun c41 => ?_) (fun c41 => ?_)
      · refine w_iconst X (nI 0) dX4_isComplete_53 (by decide +kernel) ?_
        exact w_zret_ro X (by rw [← hz, show 60 - i = 0 by omega, stL]; simp [okB, bI, c7, c37, c41]) (rfl) dX4_isComplete_54
      · refine w_iload_n X 1 rfl dX4_isComplete_44 ?_
        refine w_iconst X (nI 4) dX4_isComplete_45 (by decide +kernel) ?_
        refine w_ic_eq X 53 dX4_isComplete_46 (by decide) (fun c46 => ?_) (fun c46 => ?_)
        · refine w_iconst X (nI 0) dX4_isComplete_53 (by decide +kernel) ?_
          exact w_zret_ro X (by rw [← hz, show 60 - i = 0 by omega, stL]; simp [okB, bI, c7, c37, c41, c46]) (rfl) dX4_isComplete_54
        · refine w_iconst X (nI 1) dX4_isComplete_49 (by decide +kernel) ?_
          refine w_goto X 54 dX4_isComplete_50 (by decide) ?_
          exact w_zret_ro X (by rw [← hz, show 60 - i = 0 by omega, stL]; simp [okB, bI, c7, c37, c41, c46]) (rfl) dX4_isComplete_54
  · refine w_iload_n X 2 rfl dX4_isComplete_10 ?_
    refine w_aload_n X 0 rfl dX4_isComplete_11 ?_
    refine w_get X 0 0 rfl rfl rfl in_X4 1 (by decide) fk_X4_15 rfl dX4_isComplete_12 ?_
    refine w_ic_ge X 35 dX4_isComplete_15 (by decide) (fun c15 => ?_) (fun c15 => ?_)
    · refine w_iload_n X 1 rfl dX4_isComplete_35 ?_
      refine w_iconst X (-1) dX4_isComplete_36 (by decide +kernel) ?_
      refine w_ic_eq X 53 dX4_isComplete_37 (by decide) (fun c37 => ?_) (fun c37 => ?_)
      · refine w_iconst X (nI 0) dX4_isComplete_53 (by decide +kernel) ?_
        exact w_zret_ro X (by rw [← hz, show 60 - i = (59 - i) + 1 by omega, stL, if_pos c15]; simp [okB, bI, c7, c15, c37]) (rfl) dX4_isComplete_54
      · refine w_iload_n X 1 rfl dX4_isComplete_40 ?_
        refine w_if_eq X 53 dX4_isComplete_41 (by decide) (fun c41 => ?_) (fun c41 => ?_)
        · refine w_iconst X (nI 0) dX4_isComplete_53 (by decide +kernel) ?_
          exact w_zret_ro X (by rw [← hz, show 60 - i = (59 - i) + 1 by omega, stL, if_pos c15]; simp [okB, bI, c7, c15, c37, c41]) (rfl) dX4_isComplete_54
        · refine w_iload_n X 1 rfl dX4_isComplete_44 ?_
          refine w_iconst X (nI 4) dX4_isComplete_45 (by decide +kernel) ?_
          refine w_ic_eq X 53 dX4_isComplete_46 (by decide) (fun c46 => ?_) (fun c46 => ?_)
          · refine w_iconst X (nI 0) dX4_isComplete_53 (by decide +kernel) ?_
            exact w_zret_ro X (by rw [← hz, show 60 - i = (59 - i) + 1 by omega, stL, if_pos c15]; simp [okB, bI, c7, c15, c37, c41, c46]) (rfl) dX4_isComplete_54
          · refine w_iconst X (nI 1) dX4_isComplete_49 (by decide +kernel) ?_
            refine w_goto X 54 dX4_isComplete_50 (by decide) ?_
            exact w_zret_ro X (by rw [← hz, show 60 - i = (59 - i) + 1 by omega, stL, if_pos c15]; simp [okB, bI, c7, c15, c37, c41, c46]) (rfl) dX4_isComplete_54
    · refine w_iload_n X 1 rfl dX4_isComplete_18 ?_
      refine w_aload_n X 0 rfl dX4_isComplete_19 ?_
      refine w_get X 0 0 rfl rfl rfl in_X4 0 (by decide) fk_X4_11 rfl dX4_isComplete_20 ?_
      refine w_iload_n X 2 rfl dX4_isComplete_23 ?_
      refine w_iald_n X 0 1 0 rfl rfl rfl (by omega) (by decide) dX4_isComplete_24 ?_
      refine w_roS X [] (m_X4_stageAfter l g (z) (τ 0 i)) cs_X4_stageAfter mk_X4_19 rfl rfl ⟨Nat.le_of_ble_eq_true rfl, Nat.le_of_ble_eq_true rfl⟩ (Nat.le_of_ble_eq_true rfl) ⟨Nat.le_of_ble_eq_true rfl, Nat.le_of_ble_eq_true rfl⟩ dX4_isComplete_25 rfl ?_
      refine w_istore_n X dX4_isComplete_28 (by decide) ?_
      refine w_iinc X (nI (i + 1)) 2 rfl (nI_1 _) dX4_isComplete_29 (by decide) ?_
      refine w_goto X 4 dX4_isComplete_32 (by decide) ?_
      exact w_all [2, 1, 0] (rfl) (rfl) rfl (ih4 (i + 1, (stgI (z) (τ 0 i))) (by omega) ⟨by omega, by rw [← hz, show 60 - i = (60 - (i + 1)) + 1 by omega, stL, if_neg c15]⟩)
set_option maxRecDepth 100000 in
set_option maxHeartbeats 4000000 in
theorem m_X4_withCodes (l : Launch) (g : GG) (ad : Nat → Nat) (τ : Nat → Nat → Int32) (h : Int64) : MRO l g yX4_withCodes cX4_withCodes 6 (some .long) 0 [.ref (ad 0), .long (h)] [txC g ad τ] (some (.long (lcL τ 60 0 h))) := by
  refine mk_ro (by decide +kernel) (Nat.le_of_ble_eq_true rfl) (fun p e s m below meth c X => ?_)
  refine w_lload_n X 1 rfl dX4_withCodes_0 ?_
  refine w_lstore_n X dX4_withCodes_1 (by decide) ?_
  refine w_iconst X (nI 0) dX4_withCodes_2 (by decide +kernel) ?_
  refine w_istore X dX4_withCodes_3 (by decide) ?_
  refine w_all [2, 1, 0] (rfl) (rfl) rfl (w_loop (st := []) (pc := 5) X (V := Nat × Int64) (fun (v5 : Nat × Int64) => 60 - v5.1) (fun (v5 : Nat × Int64) => (v5.1 ≤ 60) ∧ (lcL τ (60 - v5.1) v5.1 v5.2 = lcL τ 60 0 h)) (fun (v5 : Nat × Int64) => [(0, .ref (ad 0)), (3, .long (v5.2)), (5, .int (nI v5.1))]) (fun (v5 : Nat × Int64) => [txC g ad τ]) (fun v5 hv5 ih5 => ?_) (0, h) ⟨by omega, rfl⟩)
  obtain ⟨i, z⟩ := v5
  obtain ⟨hi, hz⟩ := hv5
  try dsimp only at hi hz ih5 ⊢
  refine w_iload X 2 rfl dX4_withCodes_5 ?_
  refine w_bipush X (nI 60) dX4_withCodes_7 (by decide +kernel) ?_
  refine w_nc_ge X (by omega) (by omega) 42 dX4_withCodes_9 (by decide) (fun c9 => ?_) (fun c9 => ?_)
  · refine w_lload_n X 1 rfl dX4_withCodes_42 ?_
    exact w_lret_ro X (by rw [← hz, show 60 - i = 0 by omega, lcL]) dX4_withCodes_43
  · refine w_iload X 2 rfl dX4_withCodes_12 ?_
    refine w_aload_n X 0 rfl dX4_withCodes_14 ?_
    refine w_get X 0 0 rfl rfl rfl in_X4 1 (by decide) fk_X4_15 rfl dX4_withCodes_15 ?_
    refine w_ic_ge X 42 dX4_withCodes_18 (by decide) (fun c18 => ?_) (fun c18 => ?_)
    · refine w_lload_n X 1 rfl dX4_withCodes_42 ?_
      exact w_lret_ro X (by rw [← hz, show 60 - i = (59 - i) + 1 by omega, lcL, if_pos c18]) dX4_withCodes_43
    · refine w_ldc2 X kk_X4_47 dX4_withCodes_21 ?_
      refine w_lload_n X 1 rfl dX4_withCodes_24 ?_
      refine w_lmul X dX4_withCodes_25 ?_
      refine w_aload_n X 0 rfl dX4_withCodes_26 ?_
      refine w_get X 0 0 rfl rfl rfl in_X4 0 (by decide) fk_X4_11 rfl dX4_withCodes_27 ?_
      refine w_iload X 2 rfl dX4_withCodes_30 ?_
      refine w_iald_n X 0 1 0 rfl rfl rfl (by omega) (by decide) dX4_withCodes_32 ?_
      refine w_i2l X dX4_withCodes_33 ?_
      refine w_ladd X dX4_withCodes_34 ?_
      refine w_lstore_n X dX4_withCodes_35 (by decide) ?_
      refine w_iinc X (nI (i + 1)) 2 rfl (nI_1 _) dX4_withCodes_36 (by decide) ?_
      refine w_goto X 5 dX4_withCodes_39 (by decide) ?_
      exact w_all [2, 1, 0] (rfl) (rfl) rfl (ih5 (i + 1, ((31 : Int64) * z) + (((τ 0 i)).toInt64)) (by omega) ⟨by omega, by rw [← hz, show 60 - i = (60 - (i + 1)) + 1 by omega, lcL, if_neg c18]⟩)
set_option maxRecDepth 100000 in
set_option maxHeartbeats 4000000 in
theorem m_X4_readPart (l : Launch) (g : GG) (ad : Nat → Nat) (τ : Nat → Nat → Int32) (f : Nat) (hf : f ≤ 60) : MMU l g yX4_readPart cX4_readPart 4 (some .int) 0 0 0 [.ref (ad 0), .int (nI f)] [txC g ad τ] (some (.int ((rdR τ f).1))) [txC g ad (rdT τ (rdR τ f))] := by
  refine mk_mu (by decide +kernel) (Nat.le_of_ble_eq_true rfl) (fun p e s m below meth c A hA X => ?_)
  refine w_aload_n X 0 rfl dX4_readPart_0 ?_
  refine w_iconst X (nI 0) dX4_readPart_1 (by decide +kernel) ?_
  refine w_put X 0 0 rfl rfl rfl in_X4 tyX4 tyX4_ok nmX4 2 (by decide) fk_X4_37 rfl rfl rfl rfl (Nat.le_of_ble_eq_true rfl) (show _ = txC g ad (rw2 τ 1 (upd (τ 1) 1 (nI (0)))) from rfl) dX4_readPart_2 ?_
  refine w_aload_n X 0 rfl dX4_readPart_5 ?_
  refine w_iconst X (nI 0) dX4_readPart_6 (by decide +kernel) ?_
  refine w_put X 0 0 rfl rfl rfl in_X4 tyX4 tyX4_ok nmX4 3 (by decide) fk_X4_40 rfl rfl (rfl) (rfl) (Nat.le_of_ble_eq_true rfl) (show _ = txC g ad (rw2 τ 1 (upd (upd (τ 1) 1 (nI (0))) 2 (nI (0)))) from rfl) dX4_readPart_7 ?_
  refine w_aload_n X 0 rfl dX4_readPart_10 ?_
  refine w_iconst X (-1) dX4_readPart_11 (by decide +kernel) ?_
  refine w_put X 0 0 rfl rfl rfl in_X4 tyX4 tyX4_ok nmX4 4 (by decide) fk_X4_44 rfl rfl rfl rfl (Nat.le_of_ble_eq_true rfl) (show _ = txC g ad (rw2 τ 1 (upd (upd (upd (τ 1) 1 (nI (0))) 2 (nI (0))) 3 ((-1)))) from rfl) dX4_readPart_12 ?_
  refine w_iload_n X 1 rfl dX4_readPart_15 ?_
  refine w_istore_n X dX4_readPart_16 (by decide) ?_
  refine w_all [1, 2, 0] (rfl) (rfl) rfl (w_loop (st := []) (pc := 17) X (V := Nat × Int32 × Int32 × Int32) (fun (v17 : Nat × Int32 × Int32 × Int32) => 60 - v17.1) (fun (v17 : Nat × Int32 × Int32 × Int32) => (v17.1 ≤ 60) ∧ (rdL τ (60 - v17.1) v17.1 v17.2.1 v17.2.2.1 v17.2.2.2 = rdR τ f)) (fun (v17 : Nat × Int32 × Int32 × Int32) => [(0, .ref (ad 0)), (1, .int (nI f)), (2, .int (nI v17.1))]) (fun (v17 : Nat × Int32 × Int32 × Int32) => [txC g ad (rw2 τ 1 (upd (upd (upd (τ 1) 1 (v17.2.1)) 2 (v17.2.2.1)) 3 (v17.2.2.2)))]) (fun v17 hv17 ih17 => ?_) (f, nI 0, nI 0, -1) ⟨by omega, rfl⟩)
  obtain ⟨i, a, b, h⟩ := v17
  obtain ⟨hi, hz⟩ := hv17
  try dsimp only at hi hz ih17 ⊢
  refine w_iload_n X 2 rfl dX4_readPart_17 ?_
  refine w_if_lt X 129 dX4_readPart_18 (by decide) (fun c18 => by exfalso; exact absurd c18 (nI_pos (by omega))) (fun c18 => ?_)
  refine w_iload_n X 2 rfl dX4_readPart_21 ?_
  refine w_bipush X (nI 60) dX4_readPart_22 (by decide +kernel) ?_
  refine w_nc_ge X (by omega) (by omega) 129 dX4_readPart_24 (by decide) (fun c24 => ?_) (fun c24 => ?_)
  · refine w_aload_n X 0 rfl dX4_readPart_129 ?_
    refine w_get X 0 0 rfl rfl rfl in_X4 1 (by decide) fk_X4_15 rfl dX4_readPart_130 ?_
    refine w_st (st2 := [.int (τ 1 0)]) rfl ?_
    exact w_iret_mu X (by rw [← hz, show 60 - i = 0 by omega, rdL]) (by rw [← hz, show 60 - i = 0 by omega, rdL]; rfl) (Nat.le_of_ble_eq_true rfl) (Nat.le_of_ble_eq_true rfl) dX4_readPart_133
  · refine w_iload_n X 2 rfl dX4_readPart_27 ?_
    refine w_aload_n X 0 rfl dX4_readPart_28 ?_
    refine w_get X 0 0 rfl rfl rfl in_X4 1 (by decide) fk_X4_15 rfl dX4_readPart_29 ?_
    refine w_st (st2 := [.int (τ 1 0), .int (nI i)]) rfl ?_
    refine w_ic_ge X 129 dX4_readPart_32 (by decide) (fun c32 => ?_) (fun c32 => ?_)
    · refine w_aload_n X 0 rfl dX4_readPart_129 ?_
      refine w_get X 0 0 rfl rfl rfl in_X4 1 (by decide) fk_X4_15 rfl dX4_readPart_130 ?_
      refine w_st (st2 := [.int (τ 1 0)]) rfl ?_
      exact w_iret_mu X (by rw [← hz, show 60 - i = (59 - i) + 1 by omega, rdL]; simp [c18, c24, c32]) (by rw [← hz, show 60 - i = (59 - i) + 1 by omega, rdL]; simp only [c18, c24, c32, if_true, if_false]; rfl) (Nat.le_of_ble_eq_true rfl) (Nat.le_of_ble_eq_true rfl) dX4_readPart_133
    · refine w_aload_n X 0 rfl dX4_readPart_35 ?_
      refine w_get X 0 0 rfl rfl rfl in_X4 0 (by decide) fk_X4_11 rfl dX4_readPart_36 ?_
      refine w_iload_n X 2 rfl dX4_readPart_39 ?_
      refine w_iald_n X 0 1 0 rfl rfl rfl (by omega) (by decide) dX4_readPart_40 ?_
      refine w_st (st2 := [.int (τ 0 i)]) rfl ?_
      refine w_istore_n X dX4_readPart_41 (by decide) ?_
      refine w_iload_n X 0 rfl dX4_readPart_42 ?_
      refine w_bipush X (nI 59) dX4_readPart_43 (by decide +kernel) ?_
      refine w_ic_ne X 52 dX4_readPart_45 (by decide) (fun c45 => ?_) (fun c45 => ?_)
      · refine w_iload_n X 0 rfl dX4_readPart_52 ?_
        refine w_bipush X (nI 114) dX4_readPart_53 (by decide +kernel) ?_
        refine w_ic_ne X 66 dX4_readPart_55 (by decide) (fun c55 => ?_) (fun c55 => ?_)
        · refine w_iload_n X 0 rfl dX4_readPart_66 ?_
          refine w_bipush X (nI 60) dX4_readPart_67 (by decide +kernel) ?_
          refine w_ic_ne X 80 dX4_readPart_69 (by decide) (fun c69 => ?_) (fun c69 => ?_)
          · refine w_aload_n X 1 rfl dX4_readPart_80 ?_
            refine w_get X 0 0 rfl rfl rfl in_X4 4 (by decide) fk_X4_44 rfl dX4_readPart_81 ?_
            refine w_st (st2 := [.int (h)]) rfl ?_
            refine w_iconst X (-1) dX4_readPart_84 (by decide +kernel) ?_
            refine w_ic_ne X 107 dX4_readPart_85 (by decide) (fun c85 => ?_) (fun c85 => ?_)
            · refine w_aload_n X 1 rfl dX4_readPart_107 ?_
              refine w_aload_n X 1 rfl dX4_readPart_108 ?_
              refine w_get X 0 0 rfl rfl rfl in_X4 4 (by decide) fk_X4_44 rfl dX4_readPart_109 ?_
              refine w_st (st2 := [.int (h), .ref (ad 0)]) rfl ?_
              refine w_bipush X (nI 10) dX4_readPart_112 (by decide +kernel) ?_
              refine w_imul X dX4_readPart_114 ?_
              refine w_iload_n X 0 rfl dX4_readPart_115 ?_
              refine w_iadd X dX4_readPart_116 ?_
              refine w_bipush X (nI 48) dX4_readPart_117 (by decide +kernel) ?_
              refine w_isub X dX4_readPart_119 ?_
              refine w_put X 0 0 rfl rfl rfl in_X4 tyX4 tyX4_ok nmX4 4 (by decide) fk_X4_44 rfl rfl rfl rfl (Nat.le_of_ble_eq_true rfl) (show _ = txC g ad (rw2 τ 1 (upd (upd (upd (τ 1) 1 (a)) 2 (b)) 3 (((((h) * nI (10)) + (τ 0 i)) - nI (48))))) from rfl) dX4_readPart_120 ?_
              refine w_iinc X (nI (i + 1)) 3 rfl (nI_1 _) dX4_readPart_123 (by decide) ?_
              refine w_goto X 17 dX4_readPart_126 (by decide) ?_
              exact w_all [2, 3, 0] (rfl) (rfl) rfl (ih17 (i + 1, a, b, ((((h) * nI (10)) + (τ 0 i)) - nI (48))) (by omega) ⟨by omega, by rw [← hz, show 60 - i = (60 - (i + 1)) + 1 by omega, rdL]; simp (decide := true) [c18, c24, c32, c45, c55, c69, c85]⟩)
            · refine w_aload_n X 1 rfl dX4_readPart_88 ?_
              refine w_aload_n X 1 rfl dX4_readPart_89 ?_
              refine w_get X 0 0 rfl rfl rfl in_X4 2 (by decide) fk_X4_37 rfl dX4_readPart_90 ?_
              refine w_st (st2 := [.int (a), .ref (ad 0)]) rfl ?_
              refine w_bipush X (nI 10) dX4_readPart_93 (by decide +kernel) ?_
              refine w_imul X dX4_readPart_95 ?_
              refine w_iload_n X 0 rfl dX4_readPart_96 ?_
              refine w_iadd X dX4_readPart_97 ?_
              refine w_bipush X (nI 48) dX4_readPart_98 (by decide +kernel) ?_
              refine w_isub X dX4_readPart_100 ?_
              refine w_put X 0 0 rfl rfl rfl in_X4 tyX4 tyX4_ok nmX4 2 (by decide) fk_X4_37 rfl rfl rfl rfl (Nat.le_of_ble_eq_true rfl) (show _ = txC g ad (rw2 τ 1 (upd (upd (upd (τ 1) 1 (((((a) * nI (10)) + (τ 0 i)) - nI (48)))) 2 (b)) 3 (h))) from rfl) dX4_readPart_101 ?_
              refine w_goto X 123 dX4_readPart_104 (by decide) ?_
              refine w_iinc X (nI (i + 1)) 3 rfl (nI_1 _) dX4_readPart_123 (by decide) ?_
              refine w_goto X 17 dX4_readPart_126 (by decide) ?_
              exact w_all [2, 3, 0] (rfl) (rfl) rfl (ih17 (i + 1, ((((a) * nI (10)) + (τ 0 i)) - nI (48)), b, h) (by omega) ⟨by omega, by rw [← hz, show 60 - i = (60 - (i + 1)) + 1 by omega, rdL]; simp (decide := true) [c18, c24, c32, c45, c55, c69, c85]⟩)
          · refine w_aload_n X 1 rfl dX4_readPart_72 ?_
            refine w_iconst X (nI 0) dX4_readPart_73 (by decide +kernel) ?_
            refine w_put X 0 0 rfl rfl rfl in_X4 tyX4 tyX4_ok nmX4 4 (by decide) fk_X4_44 rfl rfl rfl rfl (Nat.le_of_ble_eq_true rfl) (show _ = txC g ad (rw2 τ 1 (upd (upd (upd (τ 1) 1 (a)) 2 (b)) 3 (nI (0)))) from rfl) dX4_readPart_74 ?_
            refine w_goto X 123 dX4_readPart_77 (by decide) ?_
            refine w_iinc X (nI (i + 1)) 3 rfl (nI_1 _) dX4_readPart_123 (by decide) ?_
            refine w_goto X 17 dX4_readPart_126 (by decide) ?_
            exact w_all [2, 3, 0] (rfl) (rfl) rfl (ih17 (i + 1, a, b, nI (0)) (by omega) ⟨by omega, by rw [← hz, show 60 - i = (60 - (i + 1)) + 1 by omega, rdL]; simp (decide := true) [c18, c24, c32, c45, c55, c69]⟩)
        · refine w_aload_n X 1 rfl dX4_readPart_58 ?_
          refine w_iconst X (nI 1) dX4_readPart_59 (by decide +kernel) ?_
          refine w_put X 0 0 rfl rfl rfl in_X4 tyX4 tyX4_ok nmX4 3 (by decide) fk_X4_40 rfl rfl (rfl) (rfl) (Nat.le_of_ble_eq_true rfl) (show _ = txC g ad (rw2 τ 1 (upd (upd (upd (τ 1) 1 (a)) 2 (nI (1))) 3 (h))) from rfl) dX4_readPart_60 ?_
          refine w_goto X 123 dX4_readPart_63 (by decide) ?_
          refine w_iinc X (nI (i + 1)) 3 rfl (nI_1 _) dX4_readPart_123 (by decide) ?_
          refine w_goto X 17 dX4_readPart_126 (by decide) ?_
          exact w_all [2, 3, 0] (rfl) (rfl) rfl (ih17 (i + 1, a, nI (1), h) (by omega) ⟨by omega, by rw [← hz, show 60 - i = (60 - (i + 1)) + 1 by omega, rdL]; simp (decide := true) [c18, c24, c32, c45, c55]⟩)
      · refine w_iload_n X 3 rfl dX4_readPart_48 ?_
        refine w_iconst X (nI 1) dX4_readPart_49 (by decide +kernel) ?_
        refine w_iadd_n X dX4_readPart_50 ?_
        exact w_iret_mu X (by rw [← hz, show 60 - i = (59 - i) + 1 by omega, rdL]; simp [c18, c24, c32, c45]) (by rw [← hz, show 60 - i = (59 - i) + 1 by omega, rdL]; simp only [c18, c24, c32, c45, if_true, if_false]; rfl) (Nat.le_of_ble_eq_true rfl) (Nat.le_of_ble_eq_true rfl) dX4_readPart_51
