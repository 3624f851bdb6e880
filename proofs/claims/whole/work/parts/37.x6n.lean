/-! The model: looks -/
def vO (o : OC) : Int32 := match o with
  | .inl (some (.int v)) => v
  | _ => nI 0
def cO (L : List String) (o : OC) : Nat := match o with
  | .inl _ => 0
  | .inr E => L.findIdx (fun x => x == E) + 1
def lk (μ μ' : Nat → Nat → Int32) (q : Nat) : Prop := (∀ j, j < 5 → μ' j = μ j) ∧ μ' 5 0 = nI q
theorem lk_0 (μ : Nat → Nat → Int32) (q : Nat) : lk μ (rw2 μ 5 (fun _ => nI q)) q := ⟨fun j hj => rw2_n _ _ (by omega), rfl⟩
theorem lk_1 (μ : Nat → Nat → Int32) (f : Nat → Int32) (q : Nat) : lk μ (rw2 (rw2 μ 5 f) 5 (fun _ => nI q)) q := ⟨fun j hj => (rw2_n _ _ (by omega)).trans (rw2_n _ _ (by omega)), rfl⟩
theorem lk_s {μ μ' : Nat → Nat → Int32} {q : Nat} (h : scr (rw2 μ 5 (fun _ => nI q)) μ') : lk μ μ' q := ⟨fun j hj => (h j (by omega)).trans (rw2_n _ _ (by omega)), by rw [h 5 (by decide), rw2_s]⟩
def objO (σ : Nat → Nat → Int32) (x w : Int32) : OC := if hasB σ x = false then .inr iOE else if digB w (nI 0) (nI 11) = false then .inr iAE else rI (opC σ x.toNatClampNeg w.toNatClampNeg)
def areO (σ : Nat → Nat → Int32) (x w : Int32) : OC := if isArB x = false then .inr iOE else if digB w (nI 0) (nI 7) = false then .inr iAE else rI (apC σ x.toNatClampNeg w.toNatClampNeg)
def atO (σ : Nat → Nat → Int32) (x w : Int32) : OC := if isArB x = false then .inr iOE else if digB w (nI 0) (nI 63) = false then .inr iOE else rI (lowI (fun o => atP σ x w o) 24)
def couO (σ η : Nat → Nat → Int32) (w : Int32) : OC := if digB w (nI 0) (nI 10) = false then .inr iAE else rI (ctC σ η w.toNatClampNeg)
def setO (σ : Nat → Nat → Int32) (x : Int32) : OC := if digB x (nI 0) (nI 1) = false then .inr iOE else rI (σ 11 x.toNatClampNeg)
def whyO (σ : Nat → Nat → Int32) (x y : Int32) : OC := if isArB x = false then .inr iOE else if isArB y = false then .inr iOE else rI (rsC σ x y)
def givO (σ : Nat → Nat → Int32) (x y : Int32) : OC := if hasB σ x = false then .inr iOE else if isArB y = false then .inr iOE else rI (gvC σ x y)
def losO (σ : Nat → Nat → Int32) (x : Int32) : OC := if hasB σ x = false then .inr iOE else rI (lostC σ x)
theorem has_used {σ : Nat → Nat → Int32} {N : Nat → Int32} (hR : RI σ N) {o : Nat} (ho : o < 24) (h : hasB σ (nI o) = true) : σ 0 o = nI 1 := by
  rw [has_nI σ ho] at h
  rcases hR.flag ho with e | e
  · rw [e, if_pos rfl] at h; cases h
  · exact e
set_option maxRecDepth 100000 in
set_option maxHeartbeats 4000000 in
theorem m_X6_fails (l : Launch) (g : GG) (ad : Nat → Nat) (μ : Nat → Nat → Int32) (s1 : Nat) : MMU l g yX6_fails cX6_fails 2 (some .int) 0 0 0 [.ref (ad 0), .int (nI s1)] [moC g ad μ] (some (.int (nI 0))) [moC g ad (rw2 μ 5 (fun _ => nI s1))] := by
  refine mk_mu (by decide +kernel) (Nat.le_of_ble_eq_true rfl) (fun p e s m below meth c A hA X => ?_)
  refine w_aload_n X 0 rfl dX6_fails_0 ?_
  refine w_iload_n X 1 rfl dX6_fails_1 ?_
  refine w_put X 0 0 rfl rfl rfl in_X6 tyX6 tyX6_ok nmX6 5 (by decide) fk_X6_35 rfl rfl rfl rfl (Nat.le_of_ble_eq_true rfl) (show _ = moC g ad (rw2 μ 5 (fun _ => nI (s1))) from rfl) dX6_fails_2 ?_
  refine w_iconst X (nI 0) dX6_fails_5 (by decide +kernel) ?_
  exact w_iret_mu X (by first | rfl | (subst he_i; rfl) | simp (decide := true) [bI]) (rfl) (Nat.le_of_ble_eq_true rfl) (Nat.le_of_ble_eq_true rfl) dX6_fails_6
set_option maxRecDepth 100000 in
set_option maxHeartbeats 4000000 in
theorem m_X6_object (l : Launch) (g : GG) (ad : Nat → Nat) (μ : Nat → Nat → Int32) (σ : Nat → Nat → Int32) (x : Int32) (w : Int32) (hR : RI σ (μ 0)) : MME (U := {μ' : Nat → Nat → Int32 // lk μ μ' (cO [iOE, iAE] (objO σ x w))}) l g yX6_object cX6_object 3 (some .int) 7 0 0 [.ref (ad 0), .int (x), .int (w)] [moC g ad μ] (some (.int (vO (objO σ x w)))) (fun u => [moC g ad u.1]) := by
  refine mk_me (by decide +kernel) (Nat.le_of_ble_eq_true rfl) (fun p e s m below meth c A hA X => ?_)
  refine w_aload_n X 0 rfl dX6_object_0 ?_
  refine w_iconst X (nI 0) dX6_object_1 (by decide +kernel) ?_
  refine w_put X 0 0 rfl rfl rfl in_X6 tyX6 tyX6_ok nmX6 5 (by decide) fk_X6_35 rfl rfl rfl rfl (Nat.le_of_ble_eq_true rfl) (show _ = moC g ad (rw2 μ 5 (fun _ => nI (0))) from rfl) dX6_object_2 ?_
  refine w_aload_n X 0 rfl dX6_object_5 ?_
  refine w_iload_n X 1 rfl dX6_object_6 ?_
  refine w_roV X [0] 0 0 (m_X6_isObject l g ad (rw2 μ 5 (fun _ => nI (0))) σ (x) (hR)) cv_X6_isObject mk_X6_112 rfl rfl rfl rfl rfl ⟨Nat.le_of_ble_eq_true rfl, Nat.le_of_ble_eq_true rfl⟩ (Nat.le_of_ble_eq_true rfl) ⟨Nat.le_of_ble_eq_true rfl, Nat.le_of_ble_eq_true rfl⟩ dX6_object_7 rfl ?_
  refine w_bf_ne X 19 dX6_object_10 (by decide) (fun c10 => ?_) (fun c10 => ?_)
  · obtain ⟨o, ho, rfl⟩ := vp_in_of (hasB_in c10) (by decide)
    refine w_iload_n X 2 rfl dX6_object_19 ?_
    refine w_iconst X (nI 0) dX6_object_20 (by decide +kernel) ?_
    refine w_bipush X (nI 11) dX6_object_21 (by decide +kernel) ?_
    refine w_roS X [] (m_X6_in l g (w) (nI (0)) (nI (11))) cs_X6_in mk_X6_39 rfl rfl ⟨Nat.le_of_ble_eq_true rfl, Nat.le_of_ble_eq_true rfl⟩ (Nat.le_of_ble_eq_true rfl) ⟨Nat.le_of_ble_eq_true rfl, Nat.le_of_ble_eq_true rfl⟩ dX6_object_23 rfl ?_
    refine w_bf_eq X 38 dX6_object_26 (by decide) (fun c26 => ?_) (fun c26 => ?_)
    · refine w_aload_n X 0 rfl dX6_object_38 ?_
      refine w_iconst X (nI 2) dX6_object_39 (by decide +kernel) ?_
      refine w_muV X hA (gr := []) (gs1 := [moC g ad (rw2 (rw2 μ 5 (fun _ => nI (0))) 5 (fun _ => nI 2))]) [0] [] 0 0 (m_X6_fails l g ad (rw2 μ 5 (fun _ => nI (0))) 2) cv_X6_fails mk_X6_50 rfl rfl rfl (ng := 1) rfl (by decide) rfl rfl rfl rfl rfl rfl ⟨Nat.le_of_ble_eq_true rfl, Nat.le_of_ble_eq_true rfl⟩ (Nat.le_of_ble_eq_true rfl) ⟨Nat.le_of_ble_eq_true rfl, Nat.le_of_ble_eq_true rfl⟩ dX6_object_40 rfl ?_
      exact w_iret_me X ⟨rw2 (rw2 μ 5 (fun _ => nI (0))) 5 (fun _ => nI 2), by rw [objO, if_neg (by rw [c10]; decide), if_pos c26]; exact lk_1 _ _ _⟩ (by rw [objO, if_neg (by rw [c10]; decide), if_pos c26]; rfl) rfl (Nat.le_of_ble_eq_true rfl) (Nat.le_of_ble_eq_true rfl) dX6_object_43
    · obtain ⟨y, hy, rfl⟩ := dig_ex (by decide) c26
      refine w_aload_n X 0 rfl dX6_object_29 ?_
      refine w_iload_n X 1 rfl dX6_object_30 ?_
      refine w_iload_n X 2 rfl dX6_object_31 ?_
      refine w_meV X hA (U := {μ' : Nat → Nat → Int32 // scr (rw2 μ 5 (fun _ => nI (0))) μ'}) (gr := []) (gs1 := fun u => [moC g ad u.1]) [0] [] 0 0 (m_X6_ofObject l g ad (rw2 μ 5 (fun _ => nI (0))) σ o y (hR) (by omega) (by omega) (has_used hR (by omega) c10)) cv_X6_ofObject mk_X6_178 rfl rfl rfl (ng := 1) rfl (by decide) (fun _ => rfl) (fun _ => rfl) (fun _ => rfl) rfl rfl rfl ⟨Nat.le_of_ble_eq_true rfl, Nat.le_of_ble_eq_true rfl⟩ (Nat.le_of_ble_eq_true rfl) ⟨Nat.le_of_ble_eq_true rfl, Nat.le_of_ble_eq_true rfl⟩ dX6_object_32 rfl (fun u => ?_)
      obtain ⟨μ1, hμ1⟩ := u
      try dsimp only
      refine w_goto X 43 dX6_object_35 (by decide) ?_
      exact w_iret_me X ⟨μ1, by rw [objO, if_neg (by rw [c10]; decide), if_neg (by rw [c26]; decide), nI_clamp (by omega), nI_clamp (by omega)]; exact lk_s hμ1⟩ (by rw [objO, if_neg (by rw [c10]; decide), if_neg (by rw [c26]; decide), nI_clamp (by omega), nI_clamp (by omega)]; rfl) rfl (Nat.le_of_ble_eq_true rfl) (Nat.le_of_ble_eq_true rfl) dX6_object_43
  · refine w_aload_n X 0 rfl dX6_object_13 ?_
    refine w_iconst X (nI 1) dX6_object_14 (by decide +kernel) ?_
    refine w_muV X hA (gr := []) (gs1 := [moC g ad (rw2 (rw2 μ 5 (fun _ => nI (0))) 5 (fun _ => nI 1))]) [0] [] 0 0 (m_X6_fails l g ad (rw2 μ 5 (fun _ => nI (0))) 1) cv_X6_fails mk_X6_50 rfl rfl rfl (ng := 1) rfl (by decide) rfl rfl rfl rfl rfl rfl ⟨Nat.le_of_ble_eq_true rfl, Nat.le_of_ble_eq_true rfl⟩ (Nat.le_of_ble_eq_true rfl) ⟨Nat.le_of_ble_eq_true rfl, Nat.le_of_ble_eq_true rfl⟩ dX6_object_15 rfl ?_
    exact w_iret_me X ⟨rw2 (rw2 μ 5 (fun _ => nI (0))) 5 (fun _ => nI 1), by rw [objO, if_pos c10]; exact lk_1 _ _ _⟩ (by rw [objO, if_pos c10]; rfl) rfl (Nat.le_of_ble_eq_true rfl) (Nat.le_of_ble_eq_true rfl) dX6_object_18
set_option maxRecDepth 100000 in
set_option maxHeartbeats 4000000 in
theorem m_X6_arena (l : Launch) (g : GG) (ad : Nat → Nat) (μ : Nat → Nat → Int32) (σ : Nat → Nat → Int32) (x : Int32) (w : Int32) (hR : RI σ (μ 0)) : MME (U := {μ' : Nat → Nat → Int32 // lk μ μ' (cO [iOE, iAE] (areO σ x w))}) l g yX6_arena cX6_arena 3 (some .int) 7 0 0 [.ref (ad 0), .int (x), .int (w)] [moC g ad μ] (some (.int (vO (areO σ x w)))) (fun u => [moC g ad u.1]) := by
  refine mk_me (by decide +kernel) (Nat.le_of_ble_eq_true rfl) (fun p e s m below meth c A hA X => ?_)
  refine w_aload_n X 0 rfl dX6_arena_0 ?_
  refine w_iconst X (nI 0) dX6_arena_1 (by decide +kernel) ?_
  refine w_put X 0 0 rfl rfl rfl in_X6 tyX6 tyX6_ok nmX6 5 (by decide) fk_X6_35 rfl rfl rfl rfl (Nat.le_of_ble_eq_true rfl) (show _ = moC g ad (rw2 μ 5 (fun _ => nI (0))) from rfl) dX6_arena_2 ?_
  refine w_iload_n X 1 rfl dX6_arena_5 ?_
  refine w_roS X [] (m_X6_isArena l g (x)) cs_X6_isArena mk_X6_103 rfl rfl ⟨Nat.le_of_ble_eq_true rfl, Nat.le_of_ble_eq_true rfl⟩ (Nat.le_of_ble_eq_true rfl) ⟨Nat.le_of_ble_eq_true rfl, Nat.le_of_ble_eq_true rfl⟩ dX6_arena_6 rfl ?_
  refine w_bf_ne X 18 dX6_arena_9 (by decide) (fun c9 => ?_) (fun c9 => ?_)
  · obtain ⟨a, ha, rfl⟩ := isArB_ex c9
    refine w_iload_n X 2 rfl dX6_arena_18 ?_
    refine w_iconst X (nI 0) dX6_arena_19 (by decide +kernel) ?_
    refine w_bipush X (nI 7) dX6_arena_20 (by decide +kernel) ?_
    refine w_roS X [] (m_X6_in l g (w) (nI (0)) (nI (7))) cs_X6_in mk_X6_39 rfl rfl ⟨Nat.le_of_ble_eq_true rfl, Nat.le_of_ble_eq_true rfl⟩ (Nat.le_of_ble_eq_true rfl) ⟨Nat.le_of_ble_eq_true rfl, Nat.le_of_ble_eq_true rfl⟩ dX6_arena_22 rfl ?_
    refine w_bf_eq X 37 dX6_arena_25 (by decide) (fun c25 => ?_) (fun c25 => ?_)
    · refine w_aload_n X 0 rfl dX6_arena_37 ?_
      refine w_iconst X (nI 2) dX6_arena_38 (by decide +kernel) ?_
      refine w_muV X hA (gr := []) (gs1 := [moC g ad (rw2 (rw2 μ 5 (fun _ => nI (0))) 5 (fun _ => nI 2))]) [0] [] 0 0 (m_X6_fails l g ad (rw2 μ 5 (fun _ => nI (0))) 2) cv_X6_fails mk_X6_50 rfl rfl rfl (ng := 1) rfl (by decide) rfl rfl rfl rfl rfl rfl ⟨Nat.le_of_ble_eq_true rfl, Nat.le_of_ble_eq_true rfl⟩ (Nat.le_of_ble_eq_true rfl) ⟨Nat.le_of_ble_eq_true rfl, Nat.le_of_ble_eq_true rfl⟩ dX6_arena_39 rfl ?_
      exact w_iret_me X ⟨rw2 (rw2 μ 5 (fun _ => nI (0))) 5 (fun _ => nI 2), by rw [areO, if_neg (by rw [c9]; decide), if_pos c25]; exact lk_1 _ _ _⟩ (by rw [areO, if_neg (by rw [c9]; decide), if_pos c25]; rfl) rfl (Nat.le_of_ble_eq_true rfl) (Nat.le_of_ble_eq_true rfl) dX6_arena_42
    · obtain ⟨y, hy, rfl⟩ := dig_ex (by decide) c25
      refine w_aload_n X 0 rfl dX6_arena_28 ?_
      refine w_iload_n X 1 rfl dX6_arena_29 ?_
      refine w_iload_n X 2 rfl dX6_arena_30 ?_
      refine w_meV X hA (U := {μ' : Nat → Nat → Int32 // scr (rw2 μ 5 (fun _ => nI (0))) μ'}) (gr := []) (gs1 := fun u => [moC g ad u.1]) [0] [] 0 0 (m_X6_ofArena l g ad (rw2 μ 5 (fun _ => nI (0))) σ a y (hR) (by omega) (by omega)) cv_X6_ofArena mk_X6_184 rfl rfl rfl (ng := 1) rfl (by decide) (fun _ => rfl) (fun _ => rfl) (fun _ => rfl) rfl rfl rfl ⟨Nat.le_of_ble_eq_true rfl, Nat.le_of_ble_eq_true rfl⟩ (Nat.le_of_ble_eq_true rfl) ⟨Nat.le_of_ble_eq_true rfl, Nat.le_of_ble_eq_true rfl⟩ dX6_arena_31 rfl (fun u => ?_)
      obtain ⟨μ1, hμ1⟩ := u
      try dsimp only
      refine w_goto X 42 dX6_arena_34 (by decide) ?_
      exact w_iret_me X ⟨μ1, by rw [areO, if_neg (by rw [c9]; decide), if_neg (by rw [c25]; decide), nI_clamp (by omega), nI_clamp (by omega)]; exact lk_s hμ1⟩ (by rw [areO, if_neg (by rw [c9]; decide), if_neg (by rw [c25]; decide), nI_clamp (by omega), nI_clamp (by omega)]; rfl) rfl (Nat.le_of_ble_eq_true rfl) (Nat.le_of_ble_eq_true rfl) dX6_arena_42
  · refine w_aload_n X 0 rfl dX6_arena_12 ?_
    refine w_iconst X (nI 1) dX6_arena_13 (by decide +kernel) ?_
    refine w_muV X hA (gr := []) (gs1 := [moC g ad (rw2 (rw2 μ 5 (fun _ => nI (0))) 5 (fun _ => nI 1))]) [0] [] 0 0 (m_X6_fails l g ad (rw2 μ 5 (fun _ => nI (0))) 1) cv_X6_fails mk_X6_50 rfl rfl rfl (ng := 1) rfl (by decide) rfl rfl rfl rfl rfl rfl ⟨Nat.le_of_ble_eq_true rfl, Nat.le_of_ble_eq_true rfl⟩ (Nat.le_of_ble_eq_true rfl) ⟨Nat.le_of_ble_eq_true rfl, Nat.le_of_ble_eq_true rfl⟩ dX6_arena_14 rfl ?_
    exact w_iret_me X ⟨rw2 (rw2 μ 5 (fun _ => nI (0))) 5 (fun _ => nI 1), by rw [areO, if_pos c9]; exact lk_1 _ _ _⟩ (by rw [areO, if_pos c9]; rfl) rfl (Nat.le_of_ble_eq_true rfl) (Nat.le_of_ble_eq_true rfl) dX6_arena_17
set_option maxRecDepth 100000 in
set_option maxHeartbeats 4000000 in
theorem m_X6_at (l : Launch) (g : GG) (ad : Nat → Nat) (μ : Nat → Nat → Int32) (σ : Nat → Nat → Int32) (x : Int32) (y : Int32) (hR : RI σ (μ 0)) : MME (U := {μ' : Nat → Nat → Int32 // lk μ μ' (cO [iOE] (atO σ x y))}) l g yX6_at cX6_at 3 (some .int) 7 0 0 [.ref (ad 0), .int (x), .int (y)] [moC g ad μ] (some (.int (vO (atO σ x y)))) (fun u => [moC g ad u.1]) := by
  refine mk_me (by decide +kernel) (Nat.le_of_ble_eq_true rfl) (fun p e s m below meth c A hA X => ?_)
  refine w_aload_n X 0 rfl dX6_at_0 ?_
  refine w_iconst X (nI 0) dX6_at_1 (by decide +kernel) ?_
  refine w_put X 0 0 rfl rfl rfl in_X6 tyX6 tyX6_ok nmX6 5 (by decide) fk_X6_35 rfl rfl rfl rfl (Nat.le_of_ble_eq_true rfl) (show _ = moC g ad (rw2 μ 5 (fun _ => nI (0))) from rfl) dX6_at_2 ?_
  refine w_iload_n X 1 rfl dX6_at_5 ?_
  refine w_roS X [] (m_X6_isArena l g (x)) cs_X6_isArena mk_X6_103 rfl rfl ⟨Nat.le_of_ble_eq_true rfl, Nat.le_of_ble_eq_true rfl⟩ (Nat.le_of_ble_eq_true rfl) ⟨Nat.le_of_ble_eq_true rfl, Nat.le_of_ble_eq_true rfl⟩ dX6_at_6 rfl ?_
  refine w_bf_eq X 31 dX6_at_9 (by decide) (fun c9 => ?_) (fun c9 => ?_)
  · refine w_aload_n X 0 rfl dX6_at_31 ?_
    refine w_iconst X (nI 1) dX6_at_32 (by decide +kernel) ?_
    refine w_muV X hA (gr := []) (gs1 := [moC g ad (rw2 (rw2 μ 5 (fun _ => nI (0))) 5 (fun _ => nI 1))]) [0] [] 0 0 (m_X6_fails l g ad (rw2 μ 5 (fun _ => nI (0))) 1) cv_X6_fails mk_X6_50 rfl rfl rfl (ng := 1) rfl (by decide) rfl rfl rfl rfl rfl rfl ⟨Nat.le_of_ble_eq_true rfl, Nat.le_of_ble_eq_true rfl⟩ (Nat.le_of_ble_eq_true rfl) ⟨Nat.le_of_ble_eq_true rfl, Nat.le_of_ble_eq_true rfl⟩ dX6_at_33 rfl ?_
    exact w_iret_me X ⟨rw2 (rw2 μ 5 (fun _ => nI (0))) 5 (fun _ => nI 1), by rw [atO, if_pos c9]; exact lk_1 _ _ _⟩ (by rw [atO, if_pos c9]; rfl) rfl (Nat.le_of_ble_eq_true rfl) (Nat.le_of_ble_eq_true rfl) dX6_at_36
  · refine w_iload_n X 2 rfl dX6_at_12 ?_
    refine w_iconst X (nI 0) dX6_at_13 (by decide +kernel) ?_
    refine w_bipush X (nI 63) dX6_at_14 (by decide +kernel) ?_
    refine w_roS X [] (m_X6_in l g (y) (nI (0)) (nI (63))) cs_X6_in mk_X6_39 rfl rfl ⟨Nat.le_of_ble_eq_true rfl, Nat.le_of_ble_eq_true rfl⟩ (Nat.le_of_ble_eq_true rfl) ⟨Nat.le_of_ble_eq_true rfl, Nat.le_of_ble_eq_true rfl⟩ dX6_at_16 rfl ?_
    refine w_bf_eq X 31 dX6_at_19 (by decide) (fun c19 => ?_) (fun c19 => ?_)
    · refine w_aload_n X 0 rfl dX6_at_31 ?_
      refine w_iconst X (nI 1) dX6_at_32 (by decide +kernel) ?_
      refine w_muV X hA (gr := []) (gs1 := [moC g ad (rw2 (rw2 μ 5 (fun _ => nI (0))) 5 (fun _ => nI 1))]) [0] [] 0 0 (m_X6_fails l g ad (rw2 μ 5 (fun _ => nI (0))) 1) cv_X6_fails mk_X6_50 rfl rfl rfl (ng := 1) rfl (by decide) rfl rfl rfl rfl rfl rfl ⟨Nat.le_of_ble_eq_true rfl, Nat.le_of_ble_eq_true rfl⟩ (Nat.le_of_ble_eq_true rfl) ⟨Nat.le_of_ble_eq_true rfl, Nat.le_of_ble_eq_true rfl⟩ dX6_at_33 rfl ?_
      exact w_iret_me X ⟨rw2 (rw2 μ 5 (fun _ => nI (0))) 5 (fun _ => nI 1), by rw [atO, if_neg (by rw [c9]; decide), if_pos c19]; exact lk_1 _ _ _⟩ (by rw [atO, if_neg (by rw [c9]; decide), if_pos c19]; rfl) rfl (Nat.le_of_ble_eq_true rfl) (Nat.le_of_ble_eq_true rfl) dX6_at_36
    · refine w_aload_n X 0 rfl dX6_at_22 ?_
      refine w_iload_n X 1 rfl dX6_at_23 ?_
      refine w_iload_n X 2 rfl dX6_at_24 ?_
      refine w_roV X [0] 0 0 (m_X6_objectAt l g ad (rw2 μ 5 (fun _ => nI (0))) σ (x) (y) (hR)) cv_X6_objectAt mk_X6_187 rfl rfl rfl rfl rfl ⟨Nat.le_of_ble_eq_true rfl, Nat.le_of_ble_eq_true rfl⟩ (Nat.le_of_ble_eq_true rfl) ⟨Nat.le_of_ble_eq_true rfl, Nat.le_of_ble_eq_true rfl⟩ dX6_at_25 rfl ?_
      refine w_goto X 36 dX6_at_28 (by decide) ?_
      exact w_iret_me X ⟨rw2 μ 5 (fun _ => nI (0)), by rw [atO, if_neg (by rw [c9]; decide), if_neg (by rw [c19]; decide)]; exact lk_0 _ _⟩ (by rw [atO, if_neg (by rw [c9]; decide), if_neg (by rw [c19]; decide)]; rfl) rfl (Nat.le_of_ble_eq_true rfl) (Nat.le_of_ble_eq_true rfl) dX6_at_36
set_option maxRecDepth 100000 in
set_option maxHeartbeats 4000000 in
theorem m_X6_count (l : Launch) (g : GG) (ad : Nat → Nat) (μ : Nat → Nat → Int32) (σ : Nat → Nat → Int32) (η : Nat → Nat → Int32) (w : Int32) (hR : RI σ (μ 0)) (hK : μ 2 0 = η 2 0) : MME (U := {μ' : Nat → Nat → Int32 // lk μ μ' (cO [iAE] (couO σ η w))}) l g yX6_count cX6_count 2 (some .int) 7 0 0 [.ref (ad 0), .int (w)] [moC g ad μ] (some (.int (vO (couO σ η w)))) (fun u => [moC g ad u.1]) := by
  refine mk_me (by decide +kernel) (Nat.le_of_ble_eq_true rfl) (fun p e s m below meth c A hA X => ?_)
  refine w_aload_n X 0 rfl dX6_count_0 ?_
  refine w_iconst X (nI 0) dX6_count_1 (by decide +kernel) ?_
  refine w_put X 0 0 rfl rfl rfl in_X6 tyX6 tyX6_ok nmX6 5 (by decide) fk_X6_35 rfl rfl rfl rfl (Nat.le_of_ble_eq_true rfl) (show _ = moC g ad (rw2 μ 5 (fun _ => nI (0))) from rfl) dX6_count_2 ?_
  refine w_iload_n X 1 rfl dX6_count_5 ?_
  refine w_iconst X (nI 0) dX6_count_6 (by decide +kernel) ?_
  refine w_bipush X (nI 10) dX6_count_7 (by decide +kernel) ?_
  refine w_roS X [] (m_X6_in l g (w) (nI (0)) (nI (10))) cs_X6_in mk_X6_39 rfl rfl ⟨Nat.le_of_ble_eq_true rfl, Nat.le_of_ble_eq_true rfl⟩ (Nat.le_of_ble_eq_true rfl) ⟨Nat.le_of_ble_eq_true rfl, Nat.le_of_ble_eq_true rfl⟩ dX6_count_9 rfl ?_
  refine w_bf_eq X 23 dX6_count_12 (by decide) (fun c12 => ?_) (fun c12 => ?_)
  · refine w_aload_n X 0 rfl dX6_count_23 ?_
    refine w_iconst X (nI 1) dX6_count_24 (by decide +kernel) ?_
    refine w_muV X hA (gr := []) (gs1 := [moC g ad (rw2 (rw2 μ 5 (fun _ => nI (0))) 5 (fun _ => nI 1))]) [0] [] 0 0 (m_X6_fails l g ad (rw2 μ 5 (fun _ => nI (0))) 1) cv_X6_fails mk_X6_50 rfl rfl rfl (ng := 1) rfl (by decide) rfl rfl rfl rfl rfl rfl ⟨Nat.le_of_ble_eq_true rfl, Nat.le_of_ble_eq_true rfl⟩ (Nat.le_of_ble_eq_true rfl) ⟨Nat.le_of_ble_eq_true rfl, Nat.le_of_ble_eq_true rfl⟩ dX6_count_25 rfl ?_
    exact w_iret_me X ⟨rw2 (rw2 μ 5 (fun _ => nI (0))) 5 (fun _ => nI 1), by rw [couO, if_pos c12]; exact lk_1 _ _ _⟩ (by rw [couO, if_pos c12]; rfl) rfl (Nat.le_of_ble_eq_true rfl) (Nat.le_of_ble_eq_true rfl) dX6_count_28
  · obtain ⟨y, hy, rfl⟩ := dig_ex (by decide) c12
    refine w_aload_n X 0 rfl dX6_count_15 ?_
    refine w_iload_n X 1 rfl dX6_count_16 ?_
    refine w_meV X hA (U := {μ' : Nat → Nat → Int32 // scr (rw2 μ 5 (fun _ => nI (0))) μ'}) (gr := []) (gs1 := fun u => [moC g ad u.1]) [0] [] 0 0 (m_X6_counted l g ad (rw2 μ 5 (fun _ => nI (0))) σ η y (hR) (by omega) (hK)) cv_X6_counted mk_X6_200 rfl rfl rfl (ng := 1) rfl (by decide) (fun _ => rfl) (fun _ => rfl) (fun _ => rfl) rfl rfl rfl ⟨Nat.le_of_ble_eq_true rfl, Nat.le_of_ble_eq_true rfl⟩ (Nat.le_of_ble_eq_true rfl) ⟨Nat.le_of_ble_eq_true rfl, Nat.le_of_ble_eq_true rfl⟩ dX6_count_17 rfl (fun u => ?_)
    obtain ⟨μ1, hμ1⟩ := u
    try dsimp only
    refine w_goto X 28 dX6_count_20 (by decide) ?_
    exact w_iret_me X ⟨μ1, by rw [couO, if_neg (by rw [c12]; decide), nI_clamp (by omega)]; exact lk_s hμ1⟩ (by rw [couO, if_neg (by rw [c12]; decide), nI_clamp (by omega)]; rfl) rfl (Nat.le_of_ble_eq_true rfl) (Nat.le_of_ble_eq_true rfl) dX6_count_28
set_option maxRecDepth 100000 in
set_option maxHeartbeats 4000000 in
theorem m_X6_setting (l : Launch) (g : GG) (ad : Nat → Nat) (μ : Nat → Nat → Int32) (σ : Nat → Nat → Int32) (x : Int32) (hR : RI σ (μ 0)) : MME (U := {μ' : Nat → Nat → Int32 // lk μ μ' (cO [iOE] (setO σ x))}) l g yX6_setting cX6_setting 2 (some .int) 7 0 0 [.ref (ad 0), .int (x)] [moC g ad μ] (some (.int (vO (setO σ x)))) (fun u => [moC g ad u.1]) := by
  refine mk_me (by decide +kernel) (Nat.le_of_ble_eq_true rfl) (fun p e s m below meth c A hA X => ?_)
  refine w_aload_n X 0 rfl dX6_setting_0 ?_
  refine w_iconst X (nI 0) dX6_setting_1 (by decide +kernel) ?_
  refine w_put X 0 0 rfl rfl rfl in_X6 tyX6 tyX6_ok nmX6 5 (by decide) fk_X6_35 rfl rfl rfl rfl (Nat.le_of_ble_eq_true rfl) (show _ = moC g ad (rw2 μ 5 (fun _ => nI (0))) from rfl) dX6_setting_2 ?_
  refine w_iload_n X 1 rfl dX6_setting_5 ?_
  refine w_iconst X (nI 0) dX6_setting_6 (by decide +kernel) ?_
  refine w_iconst X (nI 1) dX6_setting_7 (by decide +kernel) ?_
  refine w_roS X [] (m_X6_in l g (x) (nI (0)) (nI (1))) cs_X6_in mk_X6_39 rfl rfl ⟨Nat.le_of_ble_eq_true rfl, Nat.le_of_ble_eq_true rfl⟩ (Nat.le_of_ble_eq_true rfl) ⟨Nat.le_of_ble_eq_true rfl, Nat.le_of_ble_eq_true rfl⟩ dX6_setting_8 rfl ?_
  refine w_bf_eq X 25 dX6_setting_11 (by decide) (fun c11 => ?_) (fun c11 => ?_)
  · refine w_aload_n X 0 rfl dX6_setting_25 ?_
    refine w_iconst X (nI 1) dX6_setting_26 (by decide +kernel) ?_
    refine w_muV X hA (gr := []) (gs1 := [moC g ad (rw2 (rw2 μ 5 (fun _ => nI (0))) 5 (fun _ => nI 1))]) [0] [] 0 0 (m_X6_fails l g ad (rw2 μ 5 (fun _ => nI (0))) 1) cv_X6_fails mk_X6_50 rfl rfl rfl (ng := 1) rfl (by decide) rfl rfl rfl rfl rfl rfl ⟨Nat.le_of_ble_eq_true rfl, Nat.le_of_ble_eq_true rfl⟩ (Nat.le_of_ble_eq_true rfl) ⟨Nat.le_of_ble_eq_true rfl, Nat.le_of_ble_eq_true rfl⟩ dX6_setting_27 rfl ?_
    exact w_iret_me X ⟨rw2 (rw2 μ 5 (fun _ => nI (0))) 5 (fun _ => nI 1), by rw [setO, if_pos c11]; exact lk_1 _ _ _⟩ (by rw [setO, if_pos c11]; rfl) rfl (Nat.le_of_ble_eq_true rfl) (Nat.le_of_ble_eq_true rfl) dX6_setting_30
  · obtain ⟨x2, hx2, rfl⟩ := dig_ex (by decide) c11
    refine w_aload_n X 0 rfl dX6_setting_14 ?_
    refine w_get X 0 0 rfl rfl rfl in_X6 0 (by decide) fk_X6_7 rfl dX6_setting_15 ?_
    refine w_iconst X (nI 0) dX6_setting_18 (by decide +kernel) ?_
    refine w_iload_n X 1 rfl dX6_setting_19 ?_
    refine w_iadd_n X dX6_setting_20 ?_
    refine w_iald_n X 0 1 0 rfl rfl rfl (by omega) (by decide) dX6_setting_21 ?_
    refine w_st (st2 := [.int (μ 0 (0 + x2))]) rfl ?_
    refine w_goto X 30 dX6_setting_22 (by decide) ?_
    exact w_iret_me X ⟨rw2 μ 5 (fun _ => nI (0)), by rw [setO, if_neg (by rw [c11]; decide), nI_clamp (by omega)]; exact lk_0 _ _⟩ (by rw [setO, if_neg (by rw [c11]; decide), nI_clamp (by omega)]; rcases (show x2 = 0 ∨ x2 = 1 by omega) with h | h <;> subst h; (exact hR.2.1.1); (exact hR.2.1.2.1)) rfl (Nat.le_of_ble_eq_true rfl) (Nat.le_of_ble_eq_true rfl) dX6_setting_30
set_option maxRecDepth 100000 in
set_option maxHeartbeats 4000000 in
theorem m_X6_whyNot (l : Launch) (g : GG) (ad : Nat → Nat) (μ : Nat → Nat → Int32) (σ : Nat → Nat → Int32) (x : Int32) (y : Int32) (hR : RI σ (μ 0)) : MME (U := {μ' : Nat → Nat → Int32 // lk μ μ' (cO [iOE] (whyO σ x y))}) l g yX6_whyNot cX6_whyNot 3 (some .int) 7 0 0 [.ref (ad 0), .int (x), .int (y)] [moC g ad μ] (some (.int (vO (whyO σ x y)))) (fun u => [moC g ad u.1]) := by
  refine mk_me (by decide +kernel) (Nat.le_of_ble_eq_true rfl) (fun p e s m below meth c A hA X => ?_)
  refine w_aload_n X 0 rfl dX6_whyNot_0 ?_
  refine w_iconst X (nI 0) dX6_whyNot_1 (by decide +kernel) ?_
  refine w_put X 0 0 rfl rfl rfl in_X6 tyX6 tyX6_ok nmX6 5 (by decide) fk_X6_35 rfl rfl rfl rfl (Nat.le_of_ble_eq_true rfl) (show _ = moC g ad (rw2 μ 5 (fun _ => nI (0))) from rfl) dX6_whyNot_2 ?_
  refine w_iload_n X 1 rfl dX6_whyNot_5 ?_
  refine w_roS X [] (m_X6_isArena l g (x)) cs_X6_isArena mk_X6_103 rfl rfl ⟨Nat.le_of_ble_eq_true rfl, Nat.le_of_ble_eq_true rfl⟩ (Nat.le_of_ble_eq_true rfl) ⟨Nat.le_of_ble_eq_true rfl, Nat.le_of_ble_eq_true rfl⟩ dX6_whyNot_6 rfl ?_
  refine w_bf_eq X 28 dX6_whyNot_9 (by decide) (fun c9 => ?_) (fun c9 => ?_)
  · refine w_aload_n X 0 rfl dX6_whyNot_28 ?_
    refine w_iconst X (nI 1) dX6_whyNot_29 (by decide +kernel) ?_
    refine w_muV X hA (gr := []) (gs1 := [moC g ad (rw2 (rw2 μ 5 (fun _ => nI (0))) 5 (fun _ => nI 1))]) [0] [] 0 0 (m_X6_fails l g ad (rw2 μ 5 (fun _ => nI (0))) 1) cv_X6_fails mk_X6_50 rfl rfl rfl (ng := 1) rfl (by decide) rfl rfl rfl rfl rfl rfl ⟨Nat.le_of_ble_eq_true rfl, Nat.le_of_ble_eq_true rfl⟩ (Nat.le_of_ble_eq_true rfl) ⟨Nat.le_of_ble_eq_true rfl, Nat.le_of_ble_eq_true rfl⟩ dX6_whyNot_30 rfl ?_
    exact w_iret_me X ⟨rw2 (rw2 μ 5 (fun _ => nI (0))) 5 (fun _ => nI 1), by rw [whyO, if_pos c9]; exact lk_1 _ _ _⟩ (by rw [whyO, if_pos c9]; rfl) rfl (Nat.le_of_ble_eq_true rfl) (Nat.le_of_ble_eq_true rfl) dX6_whyNot_33
  · obtain ⟨a, ha, rfl⟩ := isArB_ex c9
    refine w_iload_n X 2 rfl dX6_whyNot_12 ?_
    refine w_roS X [] (m_X6_isArena l g (y)) cs_X6_isArena mk_X6_103 rfl rfl ⟨Nat.le_of_ble_eq_true rfl, Nat.le_of_ble_eq_true rfl⟩ (Nat.le_of_ble_eq_true rfl) ⟨Nat.le_of_ble_eq_true rfl, Nat.le_of_ble_eq_true rfl⟩ dX6_whyNot_13 rfl ?_
    refine w_bf_eq X 28 dX6_whyNot_16 (by decide) (fun c16 => ?_) (fun c16 => ?_)
    · refine w_aload_n X 0 rfl dX6_whyNot_28 ?_
      refine w_iconst X (nI 1) dX6_whyNot_29 (by decide +kernel) ?_
      refine w_muV X hA (gr := []) (gs1 := [moC g ad (rw2 (rw2 μ 5 (fun _ => nI (0))) 5 (fun _ => nI 1))]) [0] [] 0 0 (m_X6_fails l g ad (rw2 μ 5 (fun _ => nI (0))) 1) cv_X6_fails mk_X6_50 rfl rfl rfl (ng := 1) rfl (by decide) rfl rfl rfl rfl rfl rfl ⟨Nat.le_of_ble_eq_true rfl, Nat.le_of_ble_eq_true rfl⟩ (Nat.le_of_ble_eq_true rfl) ⟨Nat.le_of_ble_eq_true rfl, Nat.le_of_ble_eq_true rfl⟩ dX6_whyNot_30 rfl ?_
      exact w_iret_me X ⟨rw2 (rw2 μ 5 (fun _ => nI (0))) 5 (fun _ => nI 1), by rw [whyO, if_neg (by rw [c9]; decide), if_pos c16]; exact lk_1 _ _ _⟩ (by rw [whyO, if_neg (by rw [c9]; decide), if_pos c16]; rfl) rfl (Nat.le_of_ble_eq_true rfl) (Nat.le_of_ble_eq_true rfl) dX6_whyNot_33
    · obtain ⟨b, hb, rfl⟩ := isArB_ex c16
      refine w_aload_n X 0 rfl dX6_whyNot_19 ?_
      refine w_iload_n X 1 rfl dX6_whyNot_20 ?_
      refine w_iload_n X 2 rfl dX6_whyNot_21 ?_
      refine w_meV X hA (U := {μ' : Nat → Nat → Int32 // scr (rw2 μ 5 (fun _ => nI (0))) μ'}) (gr := []) (gs1 := fun u => [moC g ad u.1]) [0] [] 0 0 (m_X6_reason l g ad (rw2 μ 5 (fun _ => nI (0))) σ a b (hR) (by omega) (by omega)) cv_X6_reason mk_X6_125 rfl rfl rfl (ng := 1) rfl (by decide) (fun _ => rfl) (fun _ => rfl) (fun _ => rfl) rfl rfl rfl ⟨Nat.le_of_ble_eq_true rfl, Nat.le_of_ble_eq_true rfl⟩ (Nat.le_of_ble_eq_true rfl) ⟨Nat.le_of_ble_eq_true rfl, Nat.le_of_ble_eq_true rfl⟩ dX6_whyNot_22 rfl (fun u => ?_)
      obtain ⟨μ1, hμ1⟩ := u
      try dsimp only
      refine w_goto X 33 dX6_whyNot_25 (by decide) ?_
      exact w_iret_me X ⟨μ1, by rw [whyO, if_neg (by rw [c9]; decide), if_neg (by rw [c16]; decide)]; exact lk_s hμ1⟩ (by rw [whyO, if_neg (by rw [c9]; decide), if_neg (by rw [c16]; decide)]; rfl) rfl (Nat.le_of_ble_eq_true rfl) (Nat.le_of_ble_eq_true rfl) dX6_whyNot_33
set_option maxRecDepth 100000 in
set_option maxHeartbeats 4000000 in
theorem m_X6_ifGiven (l : Launch) (g : GG) (ad : Nat → Nat) (μ : Nat → Nat → Int32) (σ : Nat → Nat → Int32) (x : Int32) (y : Int32) (hR : RI σ (μ 0)) : MME (U := {μ' : Nat → Nat → Int32 // lk μ μ' (cO [iOE] (givO σ x y))}) l g yX6_ifGiven cX6_ifGiven 3 (some .int) 8 0 0 [.ref (ad 0), .int (x), .int (y)] [moC g ad μ] (some (.int (vO (givO σ x y)))) (fun u => [moC g ad u.1]) := by
  refine mk_me (by decide +kernel) (Nat.le_of_ble_eq_true rfl) (fun p e s m below meth c A hA X => ?_)
  refine w_aload_n X 0 rfl dX6_ifGiven_0 ?_
  refine w_iconst X (nI 0) dX6_ifGiven_1 (by decide +kernel) ?_
  refine w_put X 0 0 rfl rfl rfl in_X6 tyX6 tyX6_ok nmX6 5 (by decide) fk_X6_35 rfl rfl rfl rfl (Nat.le_of_ble_eq_true rfl) (show _ = moC g ad (rw2 μ 5 (fun _ => nI (0))) from rfl) dX6_ifGiven_2 ?_
  refine w_aload_n X 0 rfl dX6_ifGiven_5 ?_
  refine w_iload_n X 1 rfl dX6_ifGiven_6 ?_
  refine w_roV X [0] 0 0 (m_X6_isObject l g ad (rw2 μ 5 (fun _ => nI (0))) σ (x) (hR)) cv_X6_isObject mk_X6_112 rfl rfl rfl rfl rfl ⟨Nat.le_of_ble_eq_true rfl, Nat.le_of_ble_eq_true rfl⟩ (Nat.le_of_ble_eq_true rfl) ⟨Nat.le_of_ble_eq_true rfl, Nat.le_of_ble_eq_true rfl⟩ dX6_ifGiven_7 rfl ?_
  refine w_bf_eq X 29 dX6_ifGiven_10 (by decide) (fun c10 => ?_) (fun c10 => ?_)
  · refine w_aload_n X 0 rfl dX6_ifGiven_29 ?_
    refine w_iconst X (nI 1) dX6_ifGiven_30 (by decide +kernel) ?_
    refine w_muV X hA (gr := []) (gs1 := [moC g ad (rw2 (rw2 μ 5 (fun _ => nI (0))) 5 (fun _ => nI 1))]) [0] [] 0 0 (m_X6_fails l g ad (rw2 μ 5 (fun _ => nI (0))) 1) cv_X6_fails mk_X6_50 rfl rfl rfl (ng := 1) rfl (by decide) rfl rfl rfl rfl rfl rfl ⟨Nat.le_of_ble_eq_true rfl, Nat.le_of_ble_eq_true rfl⟩ (Nat.le_of_ble_eq_true rfl) ⟨Nat.le_of_ble_eq_true rfl, Nat.le_of_ble_eq_true rfl⟩ dX6_ifGiven_31 rfl ?_
    exact w_iret_me X ⟨rw2 (rw2 μ 5 (fun _ => nI (0))) 5 (fun _ => nI 1), by rw [givO, if_pos c10]; exact lk_1 _ _ _⟩ (by rw [givO, if_pos c10]; rfl) rfl (Nat.le_of_ble_eq_true rfl) (Nat.le_of_ble_eq_true rfl) dX6_ifGiven_34
  · obtain ⟨o, ho, rfl⟩ := vp_in_of (hasB_in c10) (by decide)
    refine w_iload_n X 2 rfl dX6_ifGiven_13 ?_
    refine w_roS X [] (m_X6_isArena l g (y)) cs_X6_isArena mk_X6_103 rfl rfl ⟨Nat.le_of_ble_eq_true rfl, Nat.le_of_ble_eq_true rfl⟩ (Nat.le_of_ble_eq_true rfl) ⟨Nat.le_of_ble_eq_true rfl, Nat.le_of_ble_eq_true rfl⟩ dX6_ifGiven_14 rfl ?_
    refine w_bf_eq X 29 dX6_ifGiven_17 (by decide) (fun c17 => ?_) (fun c17 => ?_)
    · refine w_aload_n X 0 rfl dX6_ifGiven_29 ?_
      refine w_iconst X (nI 1) dX6_ifGiven_30 (by decide +kernel) ?_
      refine w_muV X hA (gr := []) (gs1 := [moC g ad (rw2 (rw2 μ 5 (fun _ => nI (0))) 5 (fun _ => nI 1))]) [0] [] 0 0 (m_X6_fails l g ad (rw2 μ 5 (fun _ => nI (0))) 1) cv_X6_fails mk_X6_50 rfl rfl rfl (ng := 1) rfl (by decide) rfl rfl rfl rfl rfl rfl ⟨Nat.le_of_ble_eq_true rfl, Nat.le_of_ble_eq_true rfl⟩ (Nat.le_of_ble_eq_true rfl) ⟨Nat.le_of_ble_eq_true rfl, Nat.le_of_ble_eq_true rfl⟩ dX6_ifGiven_31 rfl ?_
      exact w_iret_me X ⟨rw2 (rw2 μ 5 (fun _ => nI (0))) 5 (fun _ => nI 1), by rw [givO, if_neg (by rw [c10]; decide), if_pos c17]; exact lk_1 _ _ _⟩ (by rw [givO, if_neg (by rw [c10]; decide), if_pos c17]; rfl) rfl (Nat.le_of_ble_eq_true rfl) (Nat.le_of_ble_eq_true rfl) dX6_ifGiven_34
    · obtain ⟨b, hb, rfl⟩ := isArB_ex c17
      refine w_aload_n X 0 rfl dX6_ifGiven_20 ?_
      refine w_iload_n X 1 rfl dX6_ifGiven_21 ?_
      refine w_iload_n X 2 rfl dX6_ifGiven_22 ?_
      refine w_meV X hA (U := {μ' : Nat → Nat → Int32 // scr (rw2 μ 5 (fun _ => nI (0))) μ'}) (gr := []) (gs1 := fun u => [moC g ad u.1]) [0] [] 0 0 (m_X6_given l g ad (rw2 μ 5 (fun _ => nI (0))) σ o b (hR) (by omega) (by omega) (has_used hR (by omega) c10)) cv_X6_given mk_X6_203 rfl rfl rfl (ng := 1) rfl (by decide) (fun _ => rfl) (fun _ => rfl) (fun _ => rfl) rfl rfl rfl ⟨Nat.le_of_ble_eq_true rfl, Nat.le_of_ble_eq_true rfl⟩ (Nat.le_of_ble_eq_true rfl) ⟨Nat.le_of_ble_eq_true rfl, Nat.le_of_ble_eq_true rfl⟩ dX6_ifGiven_23 rfl (fun u => ?_)
      obtain ⟨μ1, hμ1⟩ := u
      try dsimp only
      refine w_goto X 34 dX6_ifGiven_26 (by decide) ?_
      exact w_iret_me X ⟨μ1, by rw [givO, if_neg (by rw [c10]; decide), if_neg (by rw [c17]; decide)]; exact lk_s hμ1⟩ (by rw [givO, if_neg (by rw [c10]; decide), if_neg (by rw [c17]; decide)]; rfl) rfl (Nat.le_of_ble_eq_true rfl) (Nat.le_of_ble_eq_true rfl) dX6_ifGiven_34
set_option maxRecDepth 100000 in
set_option maxHeartbeats 4000000 in
theorem m_X6_ifLost (l : Launch) (g : GG) (ad : Nat → Nat) (μ : Nat → Nat → Int32) (σ : Nat → Nat → Int32) (x : Int32) (hR : RI σ (μ 0)) : MME (U := {μ' : Nat → Nat → Int32 // lk μ μ' (cO [iOE] (losO σ x))}) l g yX6_ifLost cX6_ifLost 2 (some .int) 8 0 0 [.ref (ad 0), .int (x)] [moC g ad μ] (some (.int (vO (losO σ x)))) (fun u => [moC g ad u.1]) := by
  refine mk_me (by decide +kernel) (Nat.le_of_ble_eq_true rfl) (fun p e s m below meth c A hA X => ?_)
  refine w_aload_n X 0 rfl dX6_ifLost_0 ?_
  refine w_iconst X (nI 0) dX6_ifLost_1 (by decide +kernel) ?_
  refine w_put X 0 0 rfl rfl rfl in_X6 tyX6 tyX6_ok nmX6 5 (by decide) fk_X6_35 rfl rfl rfl rfl (Nat.le_of_ble_eq_true rfl) (show _ = moC g ad (rw2 μ 5 (fun _ => nI (0))) from rfl) dX6_ifLost_2 ?_
  refine w_aload_n X 0 rfl dX6_ifLost_5 ?_
  refine w_iload_n X 1 rfl dX6_ifLost_6 ?_
  refine w_roV X [0] 0 0 (m_X6_isObject l g ad (rw2 μ 5 (fun _ => nI (0))) σ (x) (hR)) cv_X6_isObject mk_X6_112 rfl rfl rfl rfl rfl ⟨Nat.le_of_ble_eq_true rfl, Nat.le_of_ble_eq_true rfl⟩ (Nat.le_of_ble_eq_true rfl) ⟨Nat.le_of_ble_eq_true rfl, Nat.le_of_ble_eq_true rfl⟩ dX6_ifLost_7 rfl ?_
  refine w_bf_eq X 21 dX6_ifLost_10 (by decide) (fun c10 => ?_) (fun c10 => ?_)
  · refine w_aload_n X 0 rfl dX6_ifLost_21 ?_
    refine w_iconst X (nI 1) dX6_ifLost_22 (by decide +kernel) ?_
    refine w_muV X hA (gr := []) (gs1 := [moC g ad (rw2 (rw2 μ 5 (fun _ => nI (0))) 5 (fun _ => nI 1))]) [0] [] 0 0 (m_X6_fails l g ad (rw2 μ 5 (fun _ => nI (0))) 1) cv_X6_fails mk_X6_50 rfl rfl rfl (ng := 1) rfl (by decide) rfl rfl rfl rfl rfl rfl ⟨Nat.le_of_ble_eq_true rfl, Nat.le_of_ble_eq_true rfl⟩ (Nat.le_of_ble_eq_true rfl) ⟨Nat.le_of_ble_eq_true rfl, Nat.le_of_ble_eq_true rfl⟩ dX6_ifLost_23 rfl ?_
    exact w_iret_me X ⟨rw2 (rw2 μ 5 (fun _ => nI (0))) 5 (fun _ => nI 1), by rw [losO, if_pos c10]; exact lk_1 _ _ _⟩ (by rw [losO, if_pos c10]; rfl) rfl (Nat.le_of_ble_eq_true rfl) (Nat.le_of_ble_eq_true rfl) dX6_ifLost_26
  · obtain ⟨o, ho, rfl⟩ := vp_in_of (hasB_in c10) (by decide)
    refine w_aload_n X 0 rfl dX6_ifLost_13 ?_
    refine w_iload_n X 1 rfl dX6_ifLost_14 ?_
    refine w_meV X hA (U := {μ' : Nat → Nat → Int32 // scr (rw2 μ 5 (fun _ => nI (0))) μ'}) (gr := []) (gs1 := fun u => [moC g ad u.1]) [0] [] 0 0 (m_X6_lost l g ad (rw2 μ 5 (fun _ => nI (0))) σ o (hR)) cv_X6_lost mk_X6_206 rfl rfl rfl (ng := 1) rfl (by decide) (fun _ => rfl) (fun _ => rfl) (fun _ => rfl) rfl rfl rfl ⟨Nat.le_of_ble_eq_true rfl, Nat.le_of_ble_eq_true rfl⟩ (Nat.le_of_ble_eq_true rfl) ⟨Nat.le_of_ble_eq_true rfl, Nat.le_of_ble_eq_true rfl⟩ dX6_ifLost_15 rfl (fun u => ?_)
    obtain ⟨μ1, hμ1⟩ := u
    try dsimp only
    refine w_goto X 26 dX6_ifLost_18 (by decide) ?_
    exact w_iret_me X ⟨μ1, by rw [losO, if_neg (by rw [c10]; decide)]; exact lk_s hμ1⟩ (by rw [losO, if_neg (by rw [c10]; decide)]; rfl) rfl (Nat.le_of_ble_eq_true rfl) (Nat.le_of_ble_eq_true rfl) dX6_ifLost_26
set_option maxRecDepth 100000 in
set_option maxHeartbeats 4000000 in
theorem m_X6_best (l : Launch) (g : GG) (ad : Nat → Nat) (μ : Nat → Nat → Int32) (σ : Nat → Nat → Int32) (hR : RI σ (μ 0)) : MME (U := {μ' : Nat → Nat → Int32 // lk μ μ' 0}) l g yX6_best cX6_best 1 (some .int) 8 0 0 [.ref (ad 0)] [moC g ad μ] (some (.int ((bsO σ 6).1))) (fun u => [moC g ad u.1]) := by
  refine mk_me (by decide +kernel) (Nat.le_of_ble_eq_true rfl) (fun p e s m below meth c A hA X => ?_)
  refine w_aload_n X 0 rfl dX6_best_0 ?_
  refine w_iconst X (nI 0) dX6_best_1 (by decide +kernel) ?_
  refine w_put X 0 0 rfl rfl rfl in_X6 tyX6 tyX6_ok nmX6 5 (by decide) fk_X6_35 rfl rfl rfl rfl (Nat.le_of_ble_eq_true rfl) (show _ = moC g ad (rw2 μ 5 (fun _ => nI (0))) from rfl) dX6_best_2 ?_
  refine w_aload_n X 0 rfl dX6_best_5 ?_
  refine w_meV X hA (U := {μ' : Nat → Nat → Int32 // scr (rw2 μ 5 (fun _ => nI (0))) μ'}) (gr := []) (gs1 := fun u => [moC g ad u.1]) [0] [] 0 0 (m_X6_bestArena l g ad (rw2 μ 5 (fun _ => nI (0))) σ (hR)) cv_X6_bestArena mk_X6_212 rfl rfl rfl (ng := 1) rfl (by decide) (fun _ => rfl) (fun _ => rfl) (fun _ => rfl) rfl rfl rfl ⟨Nat.le_of_ble_eq_true rfl, Nat.le_of_ble_eq_true rfl⟩ (Nat.le_of_ble_eq_true rfl) ⟨Nat.le_of_ble_eq_true rfl, Nat.le_of_ble_eq_true rfl⟩ dX6_best_6 rfl (fun u => ?_)
  obtain ⟨μ1, hμ1⟩ := u
  try dsimp only
  exact w_iret_me X ⟨μ1, lk_s hμ1⟩ (by first | rfl | (subst he_i; rfl) | simp (decide := true) [bI]) rfl (Nat.le_of_ble_eq_true rfl) (Nat.le_of_ble_eq_true rfl) dX6_best_9
set_option maxRecDepth 100000 in
set_option maxHeartbeats 4000000 in
theorem m_X6_livingShare (l : Launch) (g : GG) (ad : Nat → Nat) (μ : Nat → Nat → Int32) (σ : Nat → Nat → Int32) (hR : RI σ (μ 0)) (hN : 0 < mkL σ 6 → vf_n64 (FP.ddiv (FP.i2d (cellsL σ (trC σ (-1)) 24)) (FP.i2d (mkL σ 6)))) : MME (U := {μ' : Nat → Nat → Int32 // lk μ μ' 0}) l g yX6_livingShare cX6_livingShare 1 (some .double) 8 0 0 [.ref (ad 0)] [moC g ad μ] (some (.double (shC σ))) (fun u => [moC g ad u.1]) := by
  refine mk_me (by decide +kernel) (Nat.le_of_ble_eq_true rfl) (fun p e s m below meth c A hA X => ?_)
  refine w_aload_n X 0 rfl dX6_livingShare_0 ?_
  refine w_iconst X (nI 0) dX6_livingShare_1 (by decide +kernel) ?_
  refine w_put X 0 0 rfl rfl rfl in_X6 tyX6 tyX6_ok nmX6 5 (by decide) fk_X6_35 rfl rfl rfl rfl (Nat.le_of_ble_eq_true rfl) (show _ = moC g ad (rw2 μ 5 (fun _ => nI (0))) from rfl) dX6_livingShare_2 ?_
  refine w_aload_n X 0 rfl dX6_livingShare_5 ?_
  refine w_meV X hA (U := {μ' : Nat → Nat → Int32 // scr (rw2 μ 5 (fun _ => nI (0))) μ'}) (gr := []) (gs1 := fun u => [moC g ad u.1]) [0] [] 0 0 (m_X6_share l g ad (rw2 μ 5 (fun _ => nI (0))) σ (hR) (hN)) cv_X6_share mk_X6_215 rfl rfl rfl (ng := 1) rfl (by decide) (fun _ => rfl) (fun _ => rfl) (fun _ => rfl) rfl rfl rfl ⟨Nat.le_of_ble_eq_true rfl, Nat.le_of_ble_eq_true rfl⟩ (Nat.le_of_ble_eq_true rfl) ⟨Nat.le_of_ble_eq_true rfl, Nat.le_of_ble_eq_true rfl⟩ dX6_livingShare_6 rfl (fun u => ?_)
  obtain ⟨μ1, hμ1⟩ := u
  try dsimp only
  exact w_dret_me X ⟨μ1, lk_s hμ1⟩ (by first | rfl | (subst he_i; rfl) | simp (decide := true) [bI]) rfl (Nat.le_of_ble_eq_true rfl) (Nat.le_of_ble_eq_true rfl) dX6_livingShare_9
