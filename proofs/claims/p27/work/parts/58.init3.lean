/-! the constructors of Returning, History, MarkArenas -/
theorem pm_4 {o q : Nat × va_E} {L1 L2 : va_W} : ([[o], L1, L2, [q]] : List va_W).flatten.Perm ([[o, q] ++ (L1 ++ L2)] : List va_W).flatten := by
  show (o :: (L1 ++ (L2 ++ [q]))).Perm (o :: q :: (L1 ++ L2 ++ []))
  rw [List.append_nil, ← List.append_assoc]
  exact List.Perm.cons o (List.perm_append_singleton q (L1 ++ L2))
section WN2
variable {p : Program} {l : Launch} {e : Env} {R : Room} {s : State} {m : MethodId} {args : Array Value} {below : List Frame} {meth : Method} {c : Code} {g : GG} {nL : Nat} {Q : State → Prop} {kc ks : Nat} {lv : List (Nat × Value)} {st : List Value} {gs : List va_W} {pc : Nat} {cc : ByteArray} {own : String} {rt : Option FieldType} {A : Nat → Prop}
theorem w_kc {DD : va_W → Prop} {SS : Heap → List Loc → Prop} {kc' ks' : Nat} (h1 : kc = kc') (h2 : ks = ks') (k : WW p l e R s m args below meth c g DD SS nL Q kc' ks' lv st gs pc) : WW p l e R s m args below meth c g DD SS nL Q kc ks lv st gs pc := by
  subst h1
  subst h2
  exact k
theorem vp_extq {cA : ClassId} {n : Nat} {f f' : Nat → Option Nat} (h : ∀ j, j < n → f j = f' j) : vp_cell cA (n, .inr (.inr (.inr (.inr f)))) = vp_cell cA (n, .inr (.inr (.inr (.inr f')))) := by
  rw [vp_cell_q, vp_cell_q]
  unfold arrV
  congr 1
  congr 1
  funext j
  exact congrArg va_rf (h j.1 j.2)
/-- an array of references: another content that is the same within it -/
theorem w_extq (gi gj : Nat) {G : va_W} {a n : Nat} {cA : ClassId} {f f' : Nat → Option Nat} {G' : va_W} (hG : gs[gi]? = some G) (hj : G[gj]? = some (a, .inl (cA, n, .inr (.inr (.inr (.inr f)))))) (h : ∀ j, j < n → f j = f' j) (hG' : G.set gj (a, .inl (cA, n, .inr (.inr (.inr (.inr f'))))) = G') (kk : WW p l e R s m args below meth c g (va_D A) (va_S A s.heap) nL Q kc ks lv st (gs.set gi G') pc) : WW p l e R s m args below meth c g (va_D A) (va_S A s.heap) nL Q kc ks lv st gs pc := by
  intro H locs ls hP hD hS hl
  subst hG'
  have hj2 : gj < G.length := (List.getElem?_eq_some_iff.mp hj).1
  have hat := fl_lt gs gi G hG gj _ hj
  have hs0 : gs.flatten.set (((gs.take gi).map List.length).sum + gj) (a, .inl (cA, n, .inr (.inr (.inr (.inr f))))) = gs.flatten := by
    apply List.ext_getElem?
    intro i
    rw [List.getElem?_set]
    split
    · rename_i e
      subst e
      rw [if_pos (List.getElem?_eq_some_iff.mp hat).1, hat]
    · rfl
  have hP2 := va_P_re (k := ((gs.take gi).map List.length).sum + gj) (x := (a, .inl (cA, n, .inr (.inr (.inr (.inr f)))))) (x' := (a, .inl (cA, n, .inr (.inr (.inr (.inr f')))))) (by rw [hs0]; exact hP) (fun q => by
    show H[a]? = some (vp_cell cA (n, .inr (.inr (.inr (.inr f')))))
    rw [← vp_extq h]
    exact q)
  have hD2 := va_D_re (k := ((gs.take gi).map List.length).sum + gj) (x := (a, .inl (cA, n, .inr (.inr (.inr (.inr f)))))) (x' := (a, .inl (cA, n, .inr (.inr (.inr (.inr f')))))) (by rw [hs0]; exact hD) rfl
  rw [fl_set gs gi G hG gj _ hj2] at hP2 hD2
  exact kk H locs ls hP2 hD2 hS hl
end WN2
def stF (g : GG) (b : Nat → Nat → Nat) : Nat → va_W
  | 0 => []
  | k + 1 => stF g b k ++ stC g (b k) (s0 48)
def bN (b : Nat → Nat → Nat) (k : Nat) (ad : Nat → Nat) : Nat → Nat → Nat := fun i => if i = k then ad else b i
def cF (b : Nat → Nat → Nat) (k : Nat) : Nat → Option Nat := fun i => if i < k then some (b i 0) else none
theorem stF_c (g : GG) {b b' : Nat → Nat → Nat} : ∀ n, (∀ i, i < n → b i = b' i) → stF g b n = stF g b' n
  | 0, _ => rfl
  | n + 1, h => by rw [stF, stF, stF_c g n (fun i hi => h i (by omega)), h n (by omega)]
theorem stF_n (g : GG) (b : Nat → Nat → Nat) (k : Nat) (ad : Nat → Nat) : stF g (bN b k ad) (k + 1) = stF g b k ++ stC g ad (s0 48) := by
  rw [stF, stF_c g k (b := bN b k ad) (b' := b) (fun i hi => if_neg (by omega)), show bN b k ad k = ad from if_pos rfl]
theorem cF_n (b : Nat → Nat → Nat) (k : Nat) (ad : Nat → Nat) : va_up (cF b k) k (some (ad 0)) = cF (bN b k ad) (k + 1) := by
  funext i
  show (if i = k then some (ad 0) else cF b k i) = if i < k + 1 then some (bN b k ad i 0) else none
  by_cases e : i = k
  · subst e
    rw [if_pos rfl, if_pos (by omega), show bN b i ad i = ad from if_pos rfl]
  · rw [if_neg e]
    show (if i < k then some (b i 0) else none) = _
    by_cases f : i < k
    · rw [if_pos f, if_pos (by omega), show bN b k ad i = b i from if_neg e]
    · rw [if_neg f, if_neg (by omega)]
set_option maxRecDepth 100000 in
set_option maxHeartbeats 4000000 in
theorem m_X2_init (l : Launch) (g : GG) (a : Nat) : MMI (U := {u : (Nat → Nat) × (Nat → Nat) × (Nat → Nat) // u.1 0 = a}) l g yX2_init cX2_init 1 2 9 176 [.ref a] [[(a, .inr (2, [.null, .null, .null]))]] (fun u => [rtC g u.1.1 (u.1.2.1 0) (u.1.2.2 0) z0 ++ (rcC g u.1.2.1 z0 ++ rcC g u.1.2.2 z0)]) := by
  refine mk_mi (by decide +kernel) rfl (Nat.le_of_ble_eq_true rfl) (fun p e s m below meth c A hA X hI hO => ?_)
  refine w_aload_n X 0 rfl dX2_init_0 ?_
  refine w_oinit X oi_X2 (Nat.le_of_ble_eq_true rfl) (Nat.le_of_ble_eq_true rfl) dX2_init_1 ?_
  refine w_aload_n X 0 rfl dX2_init_4 ?_
  refine w_new X hA (fs := [.null, .null, .null, .int 0]) 1 rfl in_X1 tyX1 tyX1_ok ck_X2_9 ni_X1 ii_X1 (by decide +kernel) ⟨Nat.le_of_ble_eq_true rfl, Nat.le_of_ble_eq_true rfl⟩ dX2_init_5 (fun q1 => ?_)
  refine w_dup X dX2_init_8 rfl ?_
  refine w_miN X hA hO (gr := [[(a, .inr (2, [.null, .null, .null]))]]) (gs1 := fun u => [[(a, .inr (2, [.null, .null, .null]))], rcC g u.1 z0]) [1] [0] (m_X1_init l g q1) ci_X1_init nk_X2_11 (ng := 2) rfl rfl rfl (by decide) (fun _ => rfl) (fun _ => rfl) (fun _ => rfl) ⟨Nat.le_of_ble_eq_true rfl, Nat.le_of_ble_eq_true rfl⟩ (Nat.le_of_ble_eq_true rfl) ⟨Nat.le_of_ble_eq_true rfl, Nat.le_of_ble_eq_true rfl⟩ dX2_init_9 (fun u1 => ?_)
  obtain ⟨al, rfl⟩ := u1
  try dsimp only
  refine w_putF X hI 0 0 rfl rfl rfl in_X2 tyX2 tyX2_ok nmX2 0 (by decide) fk_X2_12 rfl rfl rfl rfl rfl (Nat.le_of_ble_eq_true rfl) (show _ = [(a, .inr (2, [.ref (al 0), .null, .null]))] from rfl) dX2_init_12 ?_
  refine w_rg [[(a, .inr (2, [.ref (al 0), .null, .null]))], rcC g al z0] rfl ?_
  refine w_aload_n X 0 rfl dX2_init_15 ?_
  refine w_new X hA (fs := [.null, .null, .null, .int 0]) 1 rfl in_X1 tyX1 tyX1_ok ck_X2_9 ni_X1 ii_X1 (by decide +kernel) ⟨Nat.le_of_ble_eq_true rfl, Nat.le_of_ble_eq_true rfl⟩ dX2_init_16 (fun q2 => ?_)
  refine w_dup X dX2_init_19 rfl ?_
  refine w_miN X hA hO (gr := [[(a, .inr (2, [.ref (al 0), .null, .null]))], rcC g al z0]) (gs1 := fun u => [[(a, .inr (2, [.ref (al 0), .null, .null]))], rcC g al z0, rcC g u.1 z0]) [2] [0, 1] (m_X1_init l g q2) ci_X1_init nk_X2_11 (ng := 3) rfl rfl rfl (by decide) (fun _ => rfl) (fun _ => rfl) (fun _ => rfl) ⟨Nat.le_of_ble_eq_true rfl, Nat.le_of_ble_eq_true rfl⟩ (Nat.le_of_ble_eq_true rfl) ⟨Nat.le_of_ble_eq_true rfl, Nat.le_of_ble_eq_true rfl⟩ dX2_init_20 (fun u2 => ?_)
  obtain ⟨asu, rfl⟩ := u2
  try dsimp only
  refine w_putF X hI 0 0 rfl rfl rfl in_X2 tyX2 tyX2_ok nmX2 1 (by decide) fk_X2_18 rfl rfl rfl rfl rfl (Nat.le_of_ble_eq_true rfl) (show _ = [(a, .inr (2, [.ref (al 0), .ref (asu 0), .null]))] from rfl) dX2_init_23 ?_
  refine w_rg [[(a, .inr (2, [.ref (al 0), .ref (asu 0), .null]))], rcC g al z0, rcC g asu z0] rfl ?_
  refine w_aload_n X 0 rfl dX2_init_26 ?_
  refine w_bipush X (nI 24) dX2_init_27 (by decide +kernel) ?_
  refine w_newi X hA (by decide) ⟨Nat.le_of_ble_eq_true rfl, Nat.le_of_ble_eq_true rfl⟩ dX2_init_29 (fun q3 => ?_)
  refine w_putF X hI 0 0 rfl rfl rfl in_X2 tyX2 tyX2_ok nmX2 2 (by decide) fk_X2_21 rfl rfl rfl rfl rfl (Nat.le_of_ble_eq_true rfl) (show _ = [(a, .inr (2, [.ref (al 0), .ref (asu 0), .ref q3]))] from rfl) dX2_init_31 ?_
  refine w_rgp [rtC g (adL [a, q3]) (al 0) (asu 0) z0 ++ (rcC g al z0 ++ rcC g asu z0)] pm_4 ?_
  exact w_vret_me X ⟨(adL [a, q3], al, asu), rfl⟩ rfl (Nat.le_of_ble_eq_true rfl) (Nat.le_of_ble_eq_true rfl) dX2_init_34
set_option maxRecDepth 100000 in
set_option maxHeartbeats 4000000 in
theorem m_X0_init (l : Launch) (g : GG) (a : Nat) : MMI (U := {u : (Nat → Nat) × (Nat → Nat → Nat) // u.1 0 = a}) l g yX0_init cX0_init 2 2 79 1518 [.ref a] [[(a, .inr (0, [.null, .int 0, .int 0]))]] (fun u => [hiC g u.1.1 (fun i => u.1.2 i 0) z0 ++ stF g u.1.2 6]) := by
  refine mk_mi (by decide +kernel) rfl (Nat.le_of_ble_eq_true rfl) (fun p e s m below meth c A hA X hI hO => ?_)
  refine w_aload_n X 0 rfl dX0_init_0 ?_
  refine w_oinit X oi_X0 (Nat.le_of_ble_eq_true rfl) (Nat.le_of_ble_eq_true rfl) dX0_init_1 ?_
  refine w_aload_n X 0 rfl dX0_init_4 ?_
  refine w_bipush X (nI 6) dX0_init_5 (by decide +kernel) ?_
  refine w_newq X hA hO (by decide) ck_X0_9 ⟨Nat.le_of_ble_eq_true rfl, Nat.le_of_ble_eq_true rfl⟩ dX0_init_7 (fun q1 => ?_)
  refine w_putF X hI 0 0 rfl rfl rfl in_X0 tyX0 tyX0_ok nmX0 0 (by decide) fk_X0_11 rfl rfl rfl rfl rfl (Nat.le_of_ble_eq_true rfl) (show _ = [(a, .inr (0, [.ref q1, .int 0, .int 0]))] from rfl) dX0_init_10 ?_
  refine w_iconst X (nI 0) dX0_init_13 (by decide +kernel) ?_
  refine w_istore_n X dX0_init_14 (by decide) ?_
  refine w_rg [[(a, .inr (0, [.ref q1, .int 0, .int 0]))], [(q1, .inl (cS g, 6, .inr (.inr (.inr (.inr (cF (fun _ _ => 0) 0))))))], stF g (fun _ _ => 0) 0] rfl ?_
  refine w_all [1, 0] rfl rfl rfl (w_loopK (st := []) (pc := 15) X (V := Nat × (Nat → Nat → Nat)) (fun v => 6 - v.1) (fun v => v.1 ≤ 6) (fun v => 1 + 13 * v.1) (fun v => 6 + 252 * v.1) (fun v => [(0, .ref a), (1, .int (nI v.1))]) (fun v => [[(a, .inr (0, [.ref q1, .int 0, .int 0]))], [(q1, .inl (cS g, 6, .inr (.inr (.inr (.inr (cF v.2 v.1))))))], stF g v.2 v.1]) (fun v hk ih => ?_) (0, fun _ _ => 0) (by show 0 ≤ 6; omega))
  obtain ⟨k, b⟩ := v
  try dsimp only at hk ih ⊢
  refine w_iload_n X 1 rfl dX0_init_15 ?_
  refine w_bipush X (nI 6) dX0_init_16 (by decide +kernel) ?_
  refine w_nc_ge X (by omega) (by omega) 40 dX0_init_18 (by decide) (fun c18 => ?_) (fun c18 => ?_)
  · have he_k : k = 6 := by omega
    subst he_k
    refine w_extq 1 0 rfl rfl (f' := fun i => some (b i 0)) (fun j hj => if_pos hj) rfl ?_
    refine w_rg [hiC g (adL [a, q1]) (fun i => b i 0) z0 ++ stF g b 6] (by simp only [List.flatten_cons, List.flatten_nil, List.append_nil, List.append_assoc]; rfl) ?_
    exact w_vret_me X ⟨(adL [a, q1], b), rfl⟩ rfl (Nat.le_of_ble_eq_true rfl) (Nat.le_of_ble_eq_true rfl) dX0_init_40
  · refine w_aload_n X 0 rfl dX0_init_21 ?_
    refine w_get X 0 0 rfl rfl rfl in_X0 0 (by decide) fk_X0_11 rfl dX0_init_22 ?_
    refine w_iload_n X 1 rfl dX0_init_25 ?_
    refine w_new X hA (fs := [.null, .null, .null, .null, .null, .null, .null, .null, .null, .null, .null, .null, .int 0, .int 0, .int 0, .int 0]) 3 rfl in_X3 tyX3 tyX3_ok ck_X0_9 ni_X3 ii_X3 (by decide +kernel) ⟨by show _ ≤ 79; omega, by show _ ≤ 1518; omega⟩ dX0_init_26 (fun q => ?_)
    refine w_dup X dX0_init_29 rfl ?_
    refine w_miI X hA hO (gr := [[(a, .inr (0, [.ref q1, .int 0, .int 0]))], [(q1, .inl (cS g, 6, .inr (.inr (.inr (.inr (cF b k))))))], stF g b k]) (gs1 := fun u => [[(a, .inr (0, [.ref q1, .int 0, .int 0]))], [(q1, .inl (cS g, 6, .inr (.inr (.inr (.inr (cF b k))))))], stF g b k, stC g u.1 (s0 48)]) [3] [0, 1, 2] (m_X3_init l g q) ci_X3_init mk_X0_15 (ng := 4) rfl rfl rfl (by decide) (fun _ => rfl) (fun _ => rfl) (fun _ => rfl) ⟨Nat.le_of_ble_eq_true rfl, Nat.le_of_ble_eq_true rfl⟩ (Nat.le_of_ble_eq_true rfl) ⟨by show _ ≤ 79; omega, by show _ ≤ 1518; omega⟩ dX0_init_30 (fun u => ?_)
    obtain ⟨ad, rfl⟩ := u
    try dsimp only
    refine w_astq X 1 0 3 0 rfl rfl rfl rfl (by omega) (by decide) rfl dX0_init_33 ?_
    rw [cF_n]
    refine w_rg [[(a, .inr (0, [.ref q1, .int 0, .int 0]))], [(q1, .inl (cS g, 6, .inr (.inr (.inr (.inr (cF (bN b k ad) (k + 1)))))))], stF g (bN b k ad) (k + 1)] (by rw [stF_n]; simp) ?_
    refine w_iinc X (nI (k + 1)) 1 rfl (nI_1 _) dX0_init_34 (by decide) ?_
    refine w_goto X 15 dX0_init_37 (by decide) ?_
    refine w_kc (kc' := 1 + 13 * (k + 1)) (ks' := 6 + 252 * (k + 1)) (by omega) (by omega) ?_
    exact w_all [1, 0] rfl rfl rfl (ih (k + 1, bN b k ad) (by show 6 - (k + 1) < 6 - k; omega) (by show k + 1 ≤ 6; omega))
def uN (a : Nat) (x1 x2 x3 x4 x5 x6 x7 : Nat → Nat) (b : Nat → Nat → Nat) : Nat → Nat → Nat := fun i => match i with
  | 0 => fun _ => a
  | 1 => x1
  | 2 => x2
  | 3 => x3
  | 4 => x4
  | 5 => x5
  | 6 => x6
  | 7 => x7
  | i + 8 => b i
/-- the groups of a MarkArenas: by its addresses u, its contents -/
def xA (g : GG) (u : Nat → Nat → Nat) (σ τ η : Nat → Nat → Int32) (ζ hσ : Nat → Nat → Nat → Int32) : List va_W := [maC g (u 0) (u 1 0) (u 2 0) (u 5 0) (u 6 0) (u 7 0), stC g (u 1) σ, rtC g (u 2) (u 3 0) (u 4 0) (ζ 3), rcC g (u 3) (ζ 0), rcC g (u 4) (ζ 1), rcC g (u 5) (ζ 2), txC g (u 6) τ, hiC g (u 7) (fun i => u (i + 8) 0) η, stC g (u 8) (hσ 0), stC g (u 9) (hσ 1), stC g (u 10) (hσ 2), stC g (u 11) (hσ 3), stC g (u 12) (hσ 4), stC g (u 13) (hσ 5)]
abbrev xG (g : GG) (u : Nat → Nat → Nat) : List va_W := xA g u (s0 48) z0 z0 (fun _ => z0) (fun _ => s0 48)
theorem xG_eq (g : GG) (a : Nat) (x1 : Nat → Nat) (x2 : (Nat → Nat) × (Nat → Nat) × (Nat → Nat)) (x3 x4 : Nat → Nat) (x5 : (Nat → Nat) × (Nat → Nat → Nat)) : [(xG g (uN a x1 x2.1 x2.2.1 x2.2.2 x3 x4 x5.1 x5.2)).flatten].flatten = ([[(a, .inr (5, [.ref (x1 0), .ref (x2.1 0), .ref (x3 0), .ref (x4 0), .ref (x5.1 0)]))], stC g x1 (s0 48), rtC g x2.1 (x2.2.1 0) (x2.2.2 0) z0 ++ (rcC g x2.2.1 z0 ++ rcC g x2.2.2 z0), rcC g x3 z0, txC g x4 z0, hiC g x5.1 (fun i => x5.2 i 0) z0 ++ stF g x5.2 6] : List va_W).flatten := by
  simp only [xG, xA, stF, List.flatten_cons, List.flatten_nil, List.append_assoc, List.append_nil, List.nil_append]
  rfl
set_option maxRecDepth 100000 in
set_option maxHeartbeats 4000000 in
theorem m_X5_init (l : Launch) (g : GG) (a : Nat) : MMI (U := {u : Nat → Nat → Nat // u 0 0 = a}) l g yX5_init cX5_init 1 3 109 2093 [.ref a] [[(a, .inr (5, [.null, .null, .null, .null, .null]))]] (fun u => [(xG g u.1).flatten]) := by
  refine mk_mi (by decide +kernel) rfl (Nat.le_of_ble_eq_true rfl) (fun p e s m below meth c A hA X hI hO => ?_)
  refine w_aload_n X 0 rfl dX5_init_0 ?_
  refine w_oinit X oi_X5 (Nat.le_of_ble_eq_true rfl) (Nat.le_of_ble_eq_true rfl) dX5_init_1 ?_
  refine w_aload_n X 0 rfl dX5_init_4 ?_
  refine w_new X hA (fs := [.null, .null, .null, .null, .null, .null, .null, .null, .null, .null, .null, .null, .int 0, .int 0, .int 0, .int 0]) 3 rfl in_X3 tyX3 tyX3_ok ck_X5_7 ni_X3 ii_X3 (by decide +kernel) ⟨Nat.le_of_ble_eq_true rfl, Nat.le_of_ble_eq_true rfl⟩ dX5_init_5 (fun q1 => ?_)
  refine w_dup X dX5_init_8 rfl ?_
  refine w_miI X hA hO (gr := [[(a, .inr (5, [.null, .null, .null, .null, .null]))]]) (gs1 := fun u => [[(a, .inr (5, [.null, .null, .null, .null, .null]))], stC g u.1 (s0 48)]) [1] [0] (m_X3_init l g q1) ci_X3_init mk_X5_9 (ng := 2) rfl rfl rfl (by decide) (fun _ => rfl) (fun _ => rfl) (fun _ => rfl) ⟨Nat.le_of_ble_eq_true rfl, Nat.le_of_ble_eq_true rfl⟩ (Nat.le_of_ble_eq_true rfl) ⟨Nat.le_of_ble_eq_true rfl, Nat.le_of_ble_eq_true rfl⟩ dX5_init_9 (fun u1 => ?_)
  obtain ⟨x1, rfl⟩ := u1
  try dsimp only
  refine w_putF X hI 0 0 rfl rfl rfl in_X5 tyX5 tyX5_ok nmX5 0 (by decide) fk_X5_10 rfl rfl rfl rfl rfl (Nat.le_of_ble_eq_true rfl) (show _ = [(a, .inr (5, [.ref (x1 0), .null, .null, .null, .null]))] from rfl) dX5_init_12 ?_
  refine w_rg [[(a, .inr (5, [.ref (x1 0), .null, .null, .null, .null]))], stC g x1 (s0 48)] rfl ?_
  refine w_aload_n X 0 rfl dX5_init_15 ?_
  refine w_new X hA (fs := [.null, .null, .null]) 2 rfl in_X2 tyX2 tyX2_ok ck_X5_16 ni_X2 ii_X2 (by decide +kernel) ⟨Nat.le_of_ble_eq_true rfl, Nat.le_of_ble_eq_true rfl⟩ dX5_init_16 (fun q2 => ?_)
  refine w_dup X dX5_init_19 rfl ?_
  refine w_miN X hA hO (gr := [[(a, .inr (5, [.ref (x1 0), .null, .null, .null, .null]))], stC g x1 (s0 48)]) (gs1 := fun u => [[(a, .inr (5, [.ref (x1 0), .null, .null, .null, .null]))], stC g x1 (s0 48), rtC g u.1.1 (u.1.2.1 0) (u.1.2.2 0) z0 ++ (rcC g u.1.2.1 z0 ++ rcC g u.1.2.2 z0)]) [2] [0, 1] (m_X2_init l g q2) ci_X2_init nk_X5_18 (ng := 3) rfl rfl rfl (by decide) (fun _ => rfl) (fun _ => rfl) (fun _ => rfl) ⟨Nat.le_of_ble_eq_true rfl, Nat.le_of_ble_eq_true rfl⟩ (Nat.le_of_ble_eq_true rfl) ⟨Nat.le_of_ble_eq_true rfl, Nat.le_of_ble_eq_true rfl⟩ dX5_init_20 (fun u2 => ?_)
  obtain ⟨x2, rfl⟩ := u2
  try dsimp only
  refine w_putF X hI 0 0 rfl rfl rfl in_X5 tyX5 tyX5_ok nmX5 1 (by decide) fk_X5_19 rfl rfl rfl rfl rfl (Nat.le_of_ble_eq_true rfl) (show _ = [(a, .inr (5, [.ref (x1 0), .ref (x2.1 0), .null, .null, .null]))] from rfl) dX5_init_23 ?_
  refine w_rg [[(a, .inr (5, [.ref (x1 0), .ref (x2.1 0), .null, .null, .null]))], stC g x1 (s0 48), rtC g x2.1 (x2.2.1 0) (x2.2.2 0) z0 ++ (rcC g x2.2.1 z0 ++ rcC g x2.2.2 z0)] rfl ?_
  refine w_aload_n X 0 rfl dX5_init_26 ?_
  refine w_new X hA (fs := [.null, .null, .null, .int 0]) 1 rfl in_X1 tyX1 tyX1_ok ck_X5_23 ni_X1 ii_X1 (by decide +kernel) ⟨Nat.le_of_ble_eq_true rfl, Nat.le_of_ble_eq_true rfl⟩ dX5_init_27 (fun q3 => ?_)
  refine w_dup X dX5_init_30 rfl ?_
  refine w_miN X hA hO (gr := [[(a, .inr (5, [.ref (x1 0), .ref (x2.1 0), .null, .null, .null]))], stC g x1 (s0 48), rtC g x2.1 (x2.2.1 0) (x2.2.2 0) z0 ++ (rcC g x2.2.1 z0 ++ rcC g x2.2.2 z0)]) (gs1 := fun u => [[(a, .inr (5, [.ref (x1 0), .ref (x2.1 0), .null, .null, .null]))], stC g x1 (s0 48), rtC g x2.1 (x2.2.1 0) (x2.2.2 0) z0 ++ (rcC g x2.2.1 z0 ++ rcC g x2.2.2 z0), rcC g u.1 z0]) [3] [0, 1, 2] (m_X1_init l g q3) ci_X1_init nk_X5_25 (ng := 4) rfl rfl rfl (by decide) (fun _ => rfl) (fun _ => rfl) (fun _ => rfl) ⟨Nat.le_of_ble_eq_true rfl, Nat.le_of_ble_eq_true rfl⟩ (Nat.le_of_ble_eq_true rfl) ⟨Nat.le_of_ble_eq_true rfl, Nat.le_of_ble_eq_true rfl⟩ dX5_init_31 (fun u3 => ?_)
  obtain ⟨x3, rfl⟩ := u3
  try dsimp only
  refine w_putF X hI 0 0 rfl rfl rfl in_X5 tyX5 tyX5_ok nmX5 2 (by decide) fk_X5_26 rfl rfl rfl rfl rfl (Nat.le_of_ble_eq_true rfl) (show _ = [(a, .inr (5, [.ref (x1 0), .ref (x2.1 0), .ref (x3 0), .null, .null]))] from rfl) dX5_init_34 ?_
  refine w_rg [[(a, .inr (5, [.ref (x1 0), .ref (x2.1 0), .ref (x3 0), .null, .null]))], stC g x1 (s0 48), rtC g x2.1 (x2.2.1 0) (x2.2.2 0) z0 ++ (rcC g x2.2.1 z0 ++ rcC g x2.2.2 z0), rcC g x3 z0] rfl ?_
  refine w_aload_n X 0 rfl dX5_init_37 ?_
  refine w_new X hA (fs := [.null, .int 0, .int 0, .int 0, .int 0]) 4 rfl in_X4 tyX4 tyX4_ok ck_X5_30 ni_X4 ii_X4 (by decide +kernel) ⟨Nat.le_of_ble_eq_true rfl, Nat.le_of_ble_eq_true rfl⟩ dX5_init_38 (fun q4 => ?_)
  refine w_dup X dX5_init_41 rfl ?_
  refine w_miN X hA hO (gr := [[(a, .inr (5, [.ref (x1 0), .ref (x2.1 0), .ref (x3 0), .null, .null]))], stC g x1 (s0 48), rtC g x2.1 (x2.2.1 0) (x2.2.2 0) z0 ++ (rcC g x2.2.1 z0 ++ rcC g x2.2.2 z0), rcC g x3 z0]) (gs1 := fun u => [[(a, .inr (5, [.ref (x1 0), .ref (x2.1 0), .ref (x3 0), .null, .null]))], stC g x1 (s0 48), rtC g x2.1 (x2.2.1 0) (x2.2.2 0) z0 ++ (rcC g x2.2.1 z0 ++ rcC g x2.2.2 z0), rcC g x3 z0, txC g u.1 z0]) [4] [0, 1, 2, 3] (m_X4_init l g q4) ci_X4_init nk_X5_32 (ng := 5) rfl rfl rfl (by decide) (fun _ => rfl) (fun _ => rfl) (fun _ => rfl) ⟨Nat.le_of_ble_eq_true rfl, Nat.le_of_ble_eq_true rfl⟩ (Nat.le_of_ble_eq_true rfl) ⟨Nat.le_of_ble_eq_true rfl, Nat.le_of_ble_eq_true rfl⟩ dX5_init_42 (fun u4 => ?_)
  obtain ⟨x4, rfl⟩ := u4
  try dsimp only
  refine w_putF X hI 0 0 rfl rfl rfl in_X5 tyX5 tyX5_ok nmX5 3 (by decide) fk_X5_33 rfl rfl rfl rfl rfl (Nat.le_of_ble_eq_true rfl) (show _ = [(a, .inr (5, [.ref (x1 0), .ref (x2.1 0), .ref (x3 0), .ref (x4 0), .null]))] from rfl) dX5_init_45 ?_
  refine w_rg [[(a, .inr (5, [.ref (x1 0), .ref (x2.1 0), .ref (x3 0), .ref (x4 0), .null]))], stC g x1 (s0 48), rtC g x2.1 (x2.2.1 0) (x2.2.2 0) z0 ++ (rcC g x2.2.1 z0 ++ rcC g x2.2.2 z0), rcC g x3 z0, txC g x4 z0] rfl ?_
  refine w_aload_n X 0 rfl dX5_init_48 ?_
  refine w_new X hA (fs := [.null, .int 0, .int 0]) 0 rfl in_X0 tyX0 tyX0_ok ck_X5_37 ni_X0 ii_X0 (by decide +kernel) ⟨Nat.le_of_ble_eq_true rfl, Nat.le_of_ble_eq_true rfl⟩ dX5_init_49 (fun q5 => ?_)
  refine w_dup X dX5_init_52 rfl ?_
  refine w_miI X hA hO (gr := [[(a, .inr (5, [.ref (x1 0), .ref (x2.1 0), .ref (x3 0), .ref (x4 0), .null]))], stC g x1 (s0 48), rtC g x2.1 (x2.2.1 0) (x2.2.2 0) z0 ++ (rcC g x2.2.1 z0 ++ rcC g x2.2.2 z0), rcC g x3 z0, txC g x4 z0]) (gs1 := fun u => [[(a, .inr (5, [.ref (x1 0), .ref (x2.1 0), .ref (x3 0), .ref (x4 0), .null]))], stC g x1 (s0 48), rtC g x2.1 (x2.2.1 0) (x2.2.2 0) z0 ++ (rcC g x2.2.1 z0 ++ rcC g x2.2.2 z0), rcC g x3 z0, txC g x4 z0, hiC g u.1.1 (fun i => u.1.2 i 0) z0 ++ stF g u.1.2 6]) [5] [0, 1, 2, 3, 4] (m_X0_init l g q5) ci_X0_init mk_X5_39 (ng := 6) rfl rfl rfl (by decide) (fun _ => rfl) (fun _ => rfl) (fun _ => rfl) ⟨Nat.le_of_ble_eq_true rfl, Nat.le_of_ble_eq_true rfl⟩ (Nat.le_of_ble_eq_true rfl) ⟨Nat.le_of_ble_eq_true rfl, Nat.le_of_ble_eq_true rfl⟩ dX5_init_53 (fun u5 => ?_)
  obtain ⟨x5, rfl⟩ := u5
  try dsimp only
  refine w_putF X hI 0 0 rfl rfl rfl in_X5 tyX5 tyX5_ok nmX5 4 (by decide) fk_X5_40 rfl rfl rfl rfl rfl (Nat.le_of_ble_eq_true rfl) (show _ = [(a, .inr (5, [.ref (x1 0), .ref (x2.1 0), .ref (x3 0), .ref (x4 0), .ref (x5.1 0)]))] from rfl) dX5_init_56 ?_
  refine w_rg [[(a, .inr (5, [.ref (x1 0), .ref (x2.1 0), .ref (x3 0), .ref (x4 0), .ref (x5.1 0)]))], stC g x1 (s0 48), rtC g x2.1 (x2.2.1 0) (x2.2.2 0) z0 ++ (rcC g x2.2.1 z0 ++ rcC g x2.2.2 z0), rcC g x3 z0, txC g x4 z0, hiC g x5.1 (fun i => x5.2 i 0) z0 ++ stF g x5.2 6] rfl ?_
  refine w_rg [(xG g (uN a x1 x2.1 x2.2.1 x2.2.2 x3 x4 x5.1 x5.2)).flatten] (xG_eq g a x1 x2 x3 x4 x5) ?_
  exact w_vret_me X ⟨(uN a x1 x2.1 x2.2.1 x2.2.2 x3 x4 x5.1 x5.2), rfl⟩ rfl (Nat.le_of_ble_eq_true rfl) (Nat.le_of_ble_eq_true rfl) dX5_init_59
