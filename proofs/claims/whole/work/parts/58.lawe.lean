/-! the law: the calls that are never refused; its switch; its loop -/
section LCC
variable {p : Program} {l : Launch} {e : Env} {s : State} {m : MethodId} {below : List Frame} {meth : Method} {c : Code} {g : GG} {b L : Nat} {xs : Nat → Int32} {Q : State → Prop} {u : Nat → Nat → Nat} {ad : Nat → Nat} {ao i : Nat}
set_option maxRecDepth 100000 in
set_option maxHeartbeats 4000000 in
theorem lc_clearBuffer (X : XL p l s m meth c g b L xs) (hi : i + 4 ≤ L) (f : Nat → Int64) (μ σ τ η : Nat → Nat → Int32) (ζ hσ : Nat → Nat → Nat → Int32) (nx sv : Nat) (cd : Nat → Nat) (t : Nat) (hR : REL σ τ η hσ μ nx sv cd t) (K : KE p l e s m below meth c g b Q u ad ao i) : LW p l e s m below meth c g b Q (200 + i) (5000 + 5 * i) (lvB b u ad ao i) [] (lW g u ad ao f μ σ τ η ζ hσ) 756 := by
  obtain ⟨hRI, hH, hT, hτ, hF⟩ := id hR
  obtain ⟨hnx, hsv, hnx1, hsv1, hv, -⟩ := id hH
  have hi8 : i ≤ 2048 := Nat.le_trans (by omega) (Nat.le_trans hi X.2.2.2)
  refine w_aload_n X.1.1 1 rfl dL_law_756 ?_
  refine w_muV X.1.1 X.1.2.2.2.2 (rest := []) (gr := [oC g ao f, moC g ad μ, stC g (u 1) σ, rtC g (u 2) (u 3 0) (u 4 0) (ζ 3), rcC g (u 3) (ζ 0), rcC g (u 4) (ζ 1), rcC g (u 5) (ζ 2), hiC g (u 7) (fun i => u (i + 8) 0) η, stC g (u 8) (hσ 0), stC g (u 9) (hσ 1), stC g (u 10) (hσ 2), stC g (u 11) (hσ 3), stC g (u 12) (hσ 4), stC g (u 13) (hσ 5)]) (gs1 := lW g u ad ao f μ σ (emptyT τ) η ζ hσ) [2, 8] [0, 1, 3, 4, 5, 6, 7, 9, 10, 11, 12, 13, 14, 15] 2 0 (m_X5_clearBuffer l g (am := u 0) (ast := u 1) (art := u 2) (alas := u 5) (atx := u 6) (ahi := u 7) (τ := τ)) cv_X5_clearBuffer mk_L_118 rfl rfl rfl (ng := 16) rfl (by decide) rfl rfl rfl rfl rfl rfl ⟨Nat.le_of_ble_eq_true rfl, Nat.le_of_ble_eq_true rfl⟩ (Nat.le_of_ble_eq_true rfl) ⟨show 200 + i + 0 ≤ 601024 by omega, show 5000 + 5 * i + 0 ≤ 7293034 by omega⟩ dL_law_757 rfl ?_
  refine w_aload_n X.1.1 2 rfl dL_law_760 ?_
  refine w_meV X.1.1 X.1.2.2.2.2 (rest := [.int (τ 1 0)]) (gr := [oC g ao f, maC g (u 0) (u 1 0) (u 2 0) (u 5 0) (u 6 0) (u 7 0), stC g (u 1) σ, rtC g (u 2) (u 3 0) (u 4 0) (ζ 3), rcC g (u 3) (ζ 0), rcC g (u 4) (ζ 1), rcC g (u 5) (ζ 2), txC g (u 6) (emptyT τ), hiC g (u 7) (fun i => u (i + 8) 0) η, stC g (u 8) (hσ 0), stC g (u 9) (hσ 1), stC g (u 10) (hσ 2), stC g (u 11) (hσ 3), stC g (u 12) (hσ 4), stC g (u 13) (hσ 5)]) (gs1 := fun w => lW g u ad ao f w.1 σ (emptyT τ) η ζ hσ) [1] [0, 2, 3, 4, 5, 6, 7, 8, 9, 10, 11, 12, 13, 14, 15] 1 0 (m_X6_clearBuffer l g (ad := ad) (μ := μ) (cd := cd) (t := t) (hT := hT)) cv_X6_clearBuffer mk_L_121 rfl rfl rfl (ng := 16) rfl (by decide) (fun _ => rfl) (fun _ => rfl) (fun _ => rfl) rfl rfl rfl ⟨Nat.le_of_ble_eq_true rfl, Nat.le_of_ble_eq_true rfl⟩ (Nat.le_of_ble_eq_true rfl) ⟨show 200 + i + 0 + 0 ≤ 601024 by omega, show 5000 + 5 * i + 0 + 0 ≤ 7293034 by omega⟩ dL_law_761 rfl (fun w => ?_)
  refine w_ic_eq X.1.1 1458 dL_law_764 (by decide) (fun _ => ?_) (fun c1 => absurd hτ.1 c1)
  exact w_widen (by omega) (by omega) (K _ _ _ _ _ _ _ _ _ _ _ (hR.cb w.2.1 w.2.2.2))
set_option maxRecDepth 100000 in
set_option maxHeartbeats 4000000 in
theorem lc_firstError (X : XL p l s m meth c g b L xs) (hi : i + 4 ≤ L) (f : Nat → Int64) (μ σ τ η : Nat → Nat → Int32) (ζ hσ : Nat → Nat → Nat → Int32) (nx sv : Nat) (cd : Nat → Nat) (t : Nat) (hR : REL σ τ η hσ μ nx sv cd t) (K : KE p l e s m below meth c g b Q u ad ao i) : LW p l e s m below meth c g b Q (200 + i) (5000 + 5 * i) (lvB b u ad ao i) [] (lW g u ad ao f μ σ τ η ζ hσ) 769 := by
  obtain ⟨hRI, hH, hT, hτ, hF⟩ := id hR
  obtain ⟨hnx, hsv, hnx1, hsv1, hv, -⟩ := id hH
  have hi8 : i ≤ 2048 := Nat.le_trans (by omega) (Nat.le_trans hi X.2.2.2)
  refine w_aload_n X.1.1 1 rfl dL_law_769 ?_
  refine w_roV X.1.1 (rest := []) [2, 8] 2 0 (m_X5_firstError l g (am := u 0) (ast := u 1) (art := u 2) (alas := u 5) (atx := u 6) (ahi := u 7) (τ := τ)) cv_X5_firstError mk_L_122 rfl rfl rfl rfl rfl ⟨Nat.le_of_ble_eq_true rfl, Nat.le_of_ble_eq_true rfl⟩ (Nat.le_of_ble_eq_true rfl) ⟨show 200 + i ≤ 601024 by omega, show 5000 + 5 * i ≤ 7293034 by omega⟩ dL_law_770 rfl ?_
  refine w_aload_n X.1.1 2 rfl dL_law_773 ?_
  refine w_meV X.1.1 X.1.2.2.2.2 (rest := [.int (errL τ 60 0 (nI 0))]) (gr := [oC g ao f, maC g (u 0) (u 1 0) (u 2 0) (u 5 0) (u 6 0) (u 7 0), stC g (u 1) σ, rtC g (u 2) (u 3 0) (u 4 0) (ζ 3), rcC g (u 3) (ζ 0), rcC g (u 4) (ζ 1), rcC g (u 5) (ζ 2), txC g (u 6) τ, hiC g (u 7) (fun i => u (i + 8) 0) η, stC g (u 8) (hσ 0), stC g (u 9) (hσ 1), stC g (u 10) (hσ 2), stC g (u 11) (hσ 3), stC g (u 12) (hσ 4), stC g (u 13) (hσ 5)]) (gs1 := fun w => lW g u ad ao f w.1 σ τ η ζ hσ) [1] [0, 2, 3, 4, 5, 6, 7, 8, 9, 10, 11, 12, 13, 14, 15] 1 0 (m_X6_firstError l g (ad := ad) (μ := μ) (cd := cd) (t := t) (τ := τ) (hT := hT) (hτ := hτ)) cv_X6_firstError mk_L_125 rfl rfl rfl (ng := 16) rfl (by decide) (fun _ => rfl) (fun _ => rfl) (fun _ => rfl) rfl rfl rfl ⟨Nat.le_of_ble_eq_true rfl, Nat.le_of_ble_eq_true rfl⟩ (Nat.le_of_ble_eq_true rfl) ⟨show 200 + i + 0 ≤ 601024 by omega, show 5000 + 5 * i + 0 ≤ 7293034 by omega⟩ dL_law_774 rfl (fun w => ?_)
  refine w_ic_eq X.1.1 1458 dL_law_777 (by decide) (fun _ => ?_) (fun c1 => absurd rfl c1)
  exact w_widen (by omega) (by omega) (K _ _ _ _ _ _ _ _ _ _ _ (hR.lk w.2.1))
set_option maxRecDepth 100000 in
set_option maxHeartbeats 4000000 in
theorem lc_best (X : XL p l s m meth c g b L xs) (hi : i + 4 ≤ L) (f : Nat → Int64) (μ σ τ η : Nat → Nat → Int32) (ζ hσ : Nat → Nat → Nat → Int32) (nx sv : Nat) (cd : Nat → Nat) (t : Nat) (hR : REL σ τ η hσ μ nx sv cd t) (K : KE p l e s m below meth c g b Q u ad ao i) : LW p l e s m below meth c g b Q (200 + i) (5000 + 5 * i) (lvB b u ad ao i) [] (lW g u ad ao f μ σ τ η ζ hσ) 1390 := by
  obtain ⟨hRI, hH, hT, hτ, hF⟩ := id hR
  obtain ⟨hnx, hsv, hnx1, hsv1, hv, -⟩ := id hH
  have hi8 : i ≤ 2048 := Nat.le_trans (by omega) (Nat.le_trans hi X.2.2.2)
  refine w_aload_n X.1.1 1 rfl dL_law_1390 ?_
  refine w_meV X.1.1 X.1.2.2.2.2 (rest := []) (gr := [oC g ao f, moC g ad μ, rcC g (u 5) (ζ 2), txC g (u 6) τ, hiC g (u 7) (fun i => u (i + 8) 0) η, stC g (u 8) (hσ 0), stC g (u 9) (hσ 1), stC g (u 10) (hσ 2), stC g (u 11) (hσ 3), stC g (u 12) (hσ 4), stC g (u 13) (hσ 5)]) (gs1 := fun (ζ' : Nat → Nat → Nat → Int32) => lW g u ad ao f μ σ τ η (rw2 ζ' 2 (ζ 2)) hσ) [2, 3, 4, 5, 6] [0, 1, 7, 8, 9, 10, 11, 12, 13, 14, 15] 2 0 (m_X5_best l g (am := u 0) (ast := u 1) (art := u 2) (aliv := u 3) (asur := u 4) (alas := u 5) (atx := u 6) (ahi := u 7) (σ := σ) (ζ := ζ)) cv_X5_best mk_L_156 rfl rfl rfl (ng := 16) rfl (by decide) (fun _ => rfl) (fun _ => rfl) (fun _ => rfl) rfl rfl rfl ⟨Nat.le_of_ble_eq_true rfl, Nat.le_of_ble_eq_true rfl⟩ (Nat.le_of_ble_eq_true rfl) ⟨show 200 + i + 0 ≤ 601024 by omega, show 5000 + 5 * i + 0 ≤ 7293034 by omega⟩ dL_law_1391 rfl (fun ζ' => ?_)
  refine w_aload_n X.1.1 2 rfl dL_law_1394 ?_
  refine w_meV X.1.1 X.1.2.2.2.2 (rest := [.int (bsO σ 6).1]) (gr := [oC g ao f, maC g (u 0) (u 1 0) (u 2 0) (u 5 0) (u 6 0) (u 7 0), stC g (u 1) σ, rtC g (u 2) (u 3 0) (u 4 0) ((rw2 ζ' 2 (ζ 2)) 3), rcC g (u 3) ((rw2 ζ' 2 (ζ 2)) 0), rcC g (u 4) ((rw2 ζ' 2 (ζ 2)) 1), rcC g (u 5) ((rw2 ζ' 2 (ζ 2)) 2), txC g (u 6) τ, hiC g (u 7) (fun i => u (i + 8) 0) η, stC g (u 8) (hσ 0), stC g (u 9) (hσ 1), stC g (u 10) (hσ 2), stC g (u 11) (hσ 3), stC g (u 12) (hσ 4), stC g (u 13) (hσ 5)]) (gs1 := fun w => lW g u ad ao f w.1 σ τ η (rw2 ζ' 2 (ζ 2)) hσ) [1] [0, 2, 3, 4, 5, 6, 7, 8, 9, 10, 11, 12, 13, 14, 15] 1 0 (m_X6_best l g (ad := ad) (μ := μ) (σ := σ) (hR := hRI)) cv_X6_best mk_L_159 rfl rfl rfl (ng := 16) rfl (by decide) (fun _ => rfl) (fun _ => rfl) (fun _ => rfl) rfl rfl rfl ⟨Nat.le_of_ble_eq_true rfl, Nat.le_of_ble_eq_true rfl⟩ (Nat.le_of_ble_eq_true rfl) ⟨show 200 + i + 0 + 0 ≤ 601024 by omega, show 5000 + 5 * i + 0 + 0 ≤ 7293034 by omega⟩ dL_law_1395 rfl (fun w => ?_)
  refine w_ic_eq X.1.1 1458 dL_law_1398 (by decide) (fun _ => ?_) (fun c1 => absurd rfl c1)
  exact w_widen (by omega) (by omega) (K _ _ _ _ _ _ _ _ _ _ _ (hR.lk w.2.1))
set_option maxRecDepth 100000 in
set_option maxHeartbeats 4000000 in
theorem lc_livingShare (X : XL p l s m meth c g b L xs) (hi : i + 4 ≤ L) (f : Nat → Int64) (μ σ τ η : Nat → Nat → Int32) (ζ hσ : Nat → Nat → Nat → Int32) (nx sv : Nat) (cd : Nat → Nat) (t : Nat) (hR : REL σ τ η hσ μ nx sv cd t) (K : KE p l e s m below meth c g b Q u ad ao i) : LW p l e s m below meth c g b Q (200 + i) (5000 + 5 * i) (lvB b u ad ao i) [] (lW g u ad ao f μ σ τ η ζ hσ) 1403 := by
  obtain ⟨hRI, hH, hT, hτ, hF⟩ := id hR
  obtain ⟨hnx, hsv, hnx1, hsv1, hv, -⟩ := id hH
  have hi8 : i ≤ 2048 := Nat.le_trans (by omega) (Nat.le_trans hi X.2.2.2)
  refine w_aload_n X.1.1 1 rfl dL_law_1403 ?_
  refine w_meV X.1.1 X.1.2.2.2.2 (rest := []) (gr := [oC g ao f, moC g ad μ, rtC g (u 2) (u 3 0) (u 4 0) (ζ 3), rcC g (u 3) (ζ 0), rcC g (u 4) (ζ 1), txC g (u 6) τ, hiC g (u 7) (fun i => u (i + 8) 0) η, stC g (u 8) (hσ 0), stC g (u 9) (hσ 1), stC g (u 10) (hσ 2), stC g (u 11) (hσ 3), stC g (u 12) (hσ 4), stC g (u 13) (hσ 5)]) (gs1 := fun (ζ' : Nat → Nat → Nat → Int32) => lW g u ad ao f μ σ τ η (rw2 ζ 2 (ζ' 2)) hσ) [2, 3, 7] [0, 1, 4, 5, 6, 8, 9, 10, 11, 12, 13, 14, 15] 2 0 (m_X5_livingShare l g (am := u 0) (ast := u 1) (art := u 2) (alas := u 5) (atx := u 6) (ahi := u 7) (σ := σ) (ζ := ζ) (hN := share_n hRI)) cv_X5_livingShare mk_L_160 rfl rfl rfl (ng := 16) rfl (by decide) (fun _ => rfl) (fun _ => rfl) (fun _ => rfl) rfl rfl rfl ⟨Nat.le_of_ble_eq_true rfl, Nat.le_of_ble_eq_true rfl⟩ (Nat.le_of_ble_eq_true rfl) ⟨show 200 + i + 0 ≤ 601024 by omega, show 5000 + 5 * i + 0 ≤ 7293034 by omega⟩ dL_law_1404 rfl (fun ζ' => ?_)
  refine w_dstore X.1.1 dL_law_1407 (by decide) ?_
  refine w_aload_n X.1.1 3 rfl dL_law_1409 ?_
  refine w_meV X.1.1 X.1.2.2.2.2 (rest := []) (gr := [oC g ao f, maC g (u 0) (u 1 0) (u 2 0) (u 5 0) (u 6 0) (u 7 0), stC g (u 1) σ, rtC g (u 2) (u 3 0) (u 4 0) ((rw2 ζ 2 (ζ' 2)) 3), rcC g (u 3) ((rw2 ζ 2 (ζ' 2)) 0), rcC g (u 4) ((rw2 ζ 2 (ζ' 2)) 1), rcC g (u 5) ((rw2 ζ 2 (ζ' 2)) 2), txC g (u 6) τ, hiC g (u 7) (fun i => u (i + 8) 0) η, stC g (u 8) (hσ 0), stC g (u 9) (hσ 1), stC g (u 10) (hσ 2), stC g (u 11) (hσ 3), stC g (u 12) (hσ 4), stC g (u 13) (hσ 5)]) (gs1 := fun w => lW g u ad ao f w.1 σ τ η (rw2 ζ 2 (ζ' 2)) hσ) [1] [0, 2, 3, 4, 5, 6, 7, 8, 9, 10, 11, 12, 13, 14, 15] 1 0 (m_X6_livingShare l g (ad := ad) (μ := μ) (σ := σ) (hR := hRI) (hN := share_n hRI)) cv_X6_livingShare mk_L_164 rfl rfl rfl (ng := 16) rfl (by decide) (fun _ => rfl) (fun _ => rfl) (fun _ => rfl) rfl rfl rfl ⟨Nat.le_of_ble_eq_true rfl, Nat.le_of_ble_eq_true rfl⟩ (Nat.le_of_ble_eq_true rfl) ⟨show 200 + i + 0 + 0 ≤ 601024 by omega, show 5000 + 5 * i + 0 + 0 ≤ 7293034 by omega⟩ dL_law_1410 rfl (fun w => ?_)
  refine w_dstore X.1.1 dL_law_1413 (by decide) ?_
  refine w_dload X.1.1 1 rfl dL_law_1415 ?_
  refine w_dload X.1.1 0 rfl dL_law_1417 ?_
  refine w_dcmp X.1.1 dL_law_1419 ?_
  refine w_if_eq X.1.1 1441 dL_law_1420 (by decide) (fun _ => ?_) (fun c1 => absurd (by rw [okD_self (share_okD hRI)]; rfl) c1)
  refine w_goto X.1.1 1458 dL_law_1441 (by decide) ?_
  refine w_lv [2, 3, 4, 5, 6] rfl ?_
  exact w_widen (by omega) (by omega) (K _ _ _ _ _ _ _ _ _ _ _ (hR.lk w.2.1))
set_option maxRecDepth 100000 in
set_option maxHeartbeats 4000000 in
theorem lc_digest (X : XL p l s m meth c g b L xs) (hi : i + 4 ≤ L) (f : Nat → Int64) (μ σ τ η : Nat → Nat → Int32) (ζ hσ : Nat → Nat → Nat → Int32) (nx sv : Nat) (cd : Nat → Nat) (t : Nat) (hR : REL σ τ η hσ μ nx sv cd t) (K : KE p l e s m below meth c g b Q u ad ao i) : LW p l e s m below meth c g b Q (200 + i) (5000 + 5 * i) (lvB b u ad ao i) [] (lW g u ad ao f μ σ τ η ζ hσ) 1444 := by
  obtain ⟨hRI, hH, hT, hτ, hF⟩ := id hR
  obtain ⟨hnx, hsv, hnx1, hsv1, hv, -⟩ := id hH
  have hi8 : i ≤ 2048 := Nat.le_trans (by omega) (Nat.le_trans hi X.2.2.2)
  refine w_aload_n X.1.1 1 rfl dL_law_1444 ?_
  refine w_meV X.1.1 X.1.2.2.2.2 (rest := []) (gr := [oC g ao f, moC g ad μ, stC g (u 8) (hσ 0), stC g (u 9) (hσ 1), stC g (u 10) (hσ 2), stC g (u 11) (hσ 3), stC g (u 12) (hσ 4), stC g (u 13) (hσ 5)]) (gs1 := fun (ζ' : Nat → Nat → Nat → Int32) => lW g u ad ao f μ σ τ η ζ' hσ) [2, 3, 4, 5, 6, 7, 8, 9] [0, 1, 10, 11, 12, 13, 14, 15] 2 0 (m_X5_digest l g (am := u 0) (ast := u 1) (art := u 2) (aliv := u 3) (asur := u 4) (alas := u 5) (atx := u 6) (ahi := u 7) (had := fun i => u (i + 8)) (σ := σ) (ζ := ζ) (τ := τ) (η := η) (hN := share_n hRI) (hD := share_okD hRI)) cv_X5_digest mk_L_165 rfl rfl rfl (ng := 16) rfl (by decide) (fun _ => rfl) (fun _ => rfl) (fun _ => rfl) rfl rfl rfl ⟨Nat.le_of_ble_eq_true rfl, Nat.le_of_ble_eq_true rfl⟩ (Nat.le_of_ble_eq_true rfl) ⟨show 200 + i + 0 ≤ 601024 by omega, show 5000 + 5 * i + 0 ≤ 7293034 by omega⟩ dL_law_1445 rfl (fun ζ' => ?_)
  refine w_aload_n X.1.1 2 rfl dL_law_1448 ?_
  refine w_meV X.1.1 X.1.2.2.2.2 (rest := [.long (dgC σ τ η)]) (gr := [oC g ao f, maC g (u 0) (u 1 0) (u 2 0) (u 5 0) (u 6 0) (u 7 0), stC g (u 1) σ, rtC g (u 2) (u 3 0) (u 4 0) (ζ' 3), rcC g (u 3) (ζ' 0), rcC g (u 4) (ζ' 1), rcC g (u 5) (ζ' 2), txC g (u 6) τ, hiC g (u 7) (fun i => u (i + 8) 0) η, stC g (u 8) (hσ 0), stC g (u 9) (hσ 1), stC g (u 10) (hσ 2), stC g (u 11) (hσ 3), stC g (u 12) (hσ 4), stC g (u 13) (hσ 5)]) (gs1 := fun w => lW g u ad ao f w.1 σ τ η ζ' hσ) [1] [0, 2, 3, 4, 5, 6, 7, 8, 9, 10, 11, 12, 13, 14, 15] 1 0 (m_X6_digest l g (ad := ad) (μ := μ) (σ := σ) (η := η) (τ := τ) (cd := cd) (t := t) (hR := hRI) (hN := share_n hRI) (hD := share_okD hRI) (hK := hv.trans hsv1.symm) (hT := hT) (hτ := hτ)) cv_X6_digest mk_L_169 rfl rfl rfl (ng := 16) rfl (by decide) (fun _ => rfl) (fun _ => rfl) (fun _ => rfl) rfl rfl rfl ⟨Nat.le_of_ble_eq_true rfl, Nat.le_of_ble_eq_true rfl⟩ (Nat.le_of_ble_eq_true rfl) ⟨show 200 + i + 0 + 0 ≤ 601024 by omega, show 5000 + 5 * i + 0 + 0 ≤ 7293034 by omega⟩ dL_law_1449 rfl (fun w => ?_)
  refine w_lcmp X.1.1 dL_law_1452 ?_
  refine w_if_eq X.1.1 1458 dL_law_1453 (by decide) (fun _ => ?_) (fun c1 => absurd ((lg_cmp_eq _ _).mpr rfl) c1)
  exact w_widen (by omega) (by omega) (K _ _ _ _ _ _ _ _ _ _ _ (hR.lk w.2.1))
theorem sub_4 {L i : Nat} (hL : L ≤ 2048) (hi : i ≤ 2048) (h : ¬ nI L - nI 4 < nI i) : i + 4 ≤ L := by
  rcases Nat.lt_or_ge L 4 with q | q
  · refine absurd ?_ h
    rw [Int32.lt_iff_toInt_lt, nI_toInt (show i < 2 ^ 31 by omega)]
    rcases (show L = 0 ∨ L = 1 ∨ L = 2 ∨ L = 3 by omega) with rfl | rfl | rfl | rfl
    · have : (nI 0 - nI 4).toInt = -4 := by decide
      omega
    · have : (nI 1 - nI 4).toInt = -3 := by decide
      omega
    · have : (nI 2 - nI 4).toInt = -2 := by decide
      omega
    · have : (nI 3 - nI 4).toInt = -1 := by decide
      omega
  · rw [pk_sub q, nI_ltI (by omega) (by omega)] at h
    omega
set_option maxRecDepth 100000 in
set_option maxHeartbeats 4000000 in
theorem l_step (X : XL p l s m meth c g b L xs) (hiL : i ≤ L) (f : Nat → Int64) (μ σ τ η : Nat → Nat → Int32) (ζ hσ : Nat → Nat → Nat → Int32) (nx sv : Nat) (cd : Nat → Nat) (t : Nat) (hR : REL σ τ η hσ μ nx sv cd t) (KX : LW p l e s m below meth c g b Q (200 + i) (5000 + 5 * i) (lvB b u ad ao i) [] (lW g u ad ao f μ σ τ η ζ hσ) 1464) (K : i + 4 ≤ L → KE p l e s m below meth c g b Q u ad ao i) : LW p l e s m below meth c g b Q (200 + i) (5000 + 5 * i) (lvB b u ad ao i) [] (lW g u ad ao f μ σ τ η ζ hσ) 23 := by
  have hL8 : L ≤ 2048 := X.2.2.2
  refine w_iload X.1.1 4 rfl dL_law_23 ?_
  refine w_aload_n X.1.1 0 rfl dL_law_25 ?_
  refine w_slen X.1.1 X.2.1 X.2.2.1 (Nat.not_le.mpr X.2.2.1) dL_law_26 ?_
  refine w_iconst X.1.1 (nI 4) dL_law_27 (by decide) ?_
  refine w_isub X.1.1 dL_law_28 ?_
  refine w_ic_gt X.1.1 1464 dL_law_29 (by decide) (fun c1 => KX) (fun c1 => ?_)
  have hi : i + 4 ≤ L := sub_4 hL8 (by omega) c1
  have K := K hi
  refine w_aload_n X.1.1 0 rfl dL_law_32 ?_
  refine w_iload X.1.1 4 rfl dL_law_33 ?_
  refine w_sld X.1.1 X.2.1 X.2.2.1 (Nat.not_le.mpr X.2.2.1) (by omega) (by omega) dL_law_35 ?_
  refine w_bipush X.1.1 (nI 31) dL_law_36 (by decide) ?_
  refine w_iand X.1.1 dL_law_38 ?_
  obtain ⟨k, hk, ek⟩ := pk_andE (xs i) (m := nI 31) 5 (by decide)
  rw [ek]
  rcases Nat.lt_or_ge k 24 with hk2 | hk2
  · rcases (show k = 0 ∨ k = 1 ∨ k = 2 ∨ k = 3 ∨ k = 4 ∨ k = 5 ∨ k = 6 ∨ k = 7 ∨ k = 8 ∨ k = 9 ∨ k = 10 ∨ k = 11 ∨ k = 12 ∨ k = 13 ∨ k = 14 ∨ k = 15 ∨ k = 16 ∨ k = 17 ∨ k = 18 ∨ k = 19 ∨ k = 20 ∨ k = 21 ∨ k = 22 ∨ k = 23 by omega) with rfl | rfl | rfl | rfl | rfl | rfl | rfl | rfl | rfl | rfl | rfl | rfl | rfl | rfl | rfl | rfl | rfl | rfl | rfl | rfl | rfl | rfl | rfl | rfl
    · refine w_tableIn X.1.1 (off := 109) 148 dL_law_39 (by decide) (by decide) (by decide) (by decide) ?_
      exact lc_open X hi f μ σ τ η ζ hσ nx sv cd t hR K
    · refine w_tableIn X.1.1 (off := 153) 192 dL_law_39 (by decide) (by decide) (by decide) (by decide) ?_
      exact lc_make X hi f μ σ τ η ζ hσ nx sv cd t hR K
    · refine w_tableIn X.1.1 (off := 221) 260 dL_law_39 (by decide) (by decide) (by decide) (by decide) ?_
      exact lc_link X hi f μ σ τ η ζ hσ nx sv cd t hR K
    · refine w_tableIn X.1.1 (off := 301) 340 dL_law_39 (by decide) (by decide) (by decide) (by decide) ?_
      exact lc_root X hi f μ σ τ η ζ hσ nx sv cd t hR K
    · refine w_tableIn X.1.1 (off := 385) 424 dL_law_39 (by decide) (by decide) (by decide) (by decide) ?_
      exact lc_pin X hi f μ σ τ η ζ hσ nx sv cd t hR K
    · refine w_tableIn X.1.1 (off := 469) 508 dL_law_39 (by decide) (by decide) (by decide) (by decide) ?_
      exact lc_giveBack X hi f μ σ τ η ζ hσ nx sv cd t hR K
    · refine w_tableIn X.1.1 (off := 537) 576 dL_law_39 (by decide) (by decide) (by decide) (by decide) ?_
      exact lc_close X hi f μ σ τ η ζ hσ nx sv cd t hR K
    · refine w_tableIn X.1.1 (off := 593) 632 dL_law_39 (by decide) (by decide) (by decide) (by decide) ?_
      exact lc_set X hi f μ σ τ η ζ hσ nx sv cd t hR K
    · refine w_tableIn X.1.1 (off := 661) 700 dL_law_39 (by decide) (by decide) (by decide) (by decide) ?_
      exact lc_append X hi f μ σ τ η ζ hσ nx sv cd t hR K
    · refine w_tableIn X.1.1 (off := 717) 756 dL_law_39 (by decide) (by decide) (by decide) (by decide) ?_
      exact lc_clearBuffer X hi f μ σ τ η ζ hσ nx sv cd t hR K
    · refine w_tableIn X.1.1 (off := 730) 769 dL_law_39 (by decide) (by decide) (by decide) (by decide) ?_
      exact lc_firstError X hi f μ σ τ η ζ hσ nx sv cd t hR K
    · refine w_tableIn X.1.1 (off := 743) 782 dL_law_39 (by decide) (by decide) (by decide) (by decide) ?_
      exact lc_makeAll X hi f μ σ τ η ζ hσ nx sv cd t hR K
    · refine w_tableIn X.1.1 (off := 799) 838 dL_law_39 (by decide) (by decide) (by decide) (by decide) ?_
      exact lc_undo X hi f μ σ τ η ζ hσ nx sv cd t hR K
    · refine w_tableIn X.1.1 (off := 843) 882 dL_law_39 (by decide) (by decide) (by decide) (by decide) ?_
      exact lc_object X hi f μ σ τ η ζ hσ nx sv cd t hR K
    · refine w_tableIn X.1.1 (off := 911) 950 dL_law_39 (by decide) (by decide) (by decide) (by decide) ?_
      exact lc_arena X hi f μ σ τ η ζ hσ nx sv cd t hR K
    · refine w_tableIn X.1.1 (off := 979) 1018 dL_law_39 (by decide) (by decide) (by decide) (by decide) ?_
      exact lc_at X hi f μ σ τ η ζ hσ nx sv cd t hR K
    · refine w_tableIn X.1.1 (off := 1047) 1086 dL_law_39 (by decide) (by decide) (by decide) (by decide) ?_
      exact lc_count X hi f μ σ τ η ζ hσ nx sv cd t hR K
    · refine w_tableIn X.1.1 (off := 1103) 1142 dL_law_39 (by decide) (by decide) (by decide) (by decide) ?_
      exact lc_setting X hi f μ σ τ η ζ hσ nx sv cd t hR K
    · refine w_tableIn X.1.1 (off := 1159) 1198 dL_law_39 (by decide) (by decide) (by decide) (by decide) ?_
      exact lc_whyNot X hi f μ σ τ η ζ hσ nx sv cd t hR K
    · refine w_tableIn X.1.1 (off := 1227) 1266 dL_law_39 (by decide) (by decide) (by decide) (by decide) ?_
      exact lc_ifGiven X hi f μ σ τ η ζ hσ nx sv cd t hR K
    · refine w_tableIn X.1.1 (off := 1295) 1334 dL_law_39 (by decide) (by decide) (by decide) (by decide) ?_
      exact lc_ifLost X hi f μ σ τ η ζ hσ nx sv cd t hR K
    · refine w_tableIn X.1.1 (off := 1351) 1390 dL_law_39 (by decide) (by decide) (by decide) (by decide) ?_
      exact lc_best X hi f μ σ τ η ζ hσ nx sv cd t hR K
    · refine w_tableIn X.1.1 (off := 1364) 1403 dL_law_39 (by decide) (by decide) (by decide) (by decide) ?_
      exact lc_livingShare X hi f μ σ τ η ζ hσ nx sv cd t hR K
    · refine w_tableIn X.1.1 (off := 1405) 1444 dL_law_39 (by decide) (by decide) (by decide) (by decide) ?_
      exact lc_digest X hi f μ σ τ η ζ hσ nx sv cd t hR K
  · refine w_tableOut X.1.1 1458 dL_law_39 (Or.inr (by rw [nI_toInt (by omega)]; omega)) (by decide) ?_
    exact w_widen (by omega) (by omega) (K _ _ _ _ _ _ _ _ _ _ _ hR)
set_option maxRecDepth 100000 in
set_option maxHeartbeats 4000000 in
theorem l_loop (X : XL p l s m meth c g b L xs) (KX : ∀ (i : Nat) (gs : List va_W), i ≤ 2048 → LW p l e s m below meth c g b Q (200 + i) (5000 + 5 * i) (lvB b u ad ao i) [] gs 1464) : ∀ (n i : Nat), i ≤ L → L < i + 4 * n → ∀ (f : Nat → Int64) (μ σ τ η : Nat → Nat → Int32) (ζ hσ : Nat → Nat → Nat → Int32) (nx sv : Nat) (cd : Nat → Nat) (t : Nat), REL σ τ η hσ μ nx sv cd t → LW p l e s m below meth c g b Q (200 + i) (5000 + 5 * i) (lvB b u ad ao i) [] (lW g u ad ao f μ σ τ η ζ hσ) 23 := by
  have hL8 : L ≤ 2048 := X.2.2.2
  intro n
  induction n with
  | zero =>
    intro i h1 h2
    exact absurd h2 (by omega)
  | succ n ih =>
    intro i h1 h2 f μ σ τ η ζ hσ nx sv cd t hR
    refine l_step X h1 f μ σ τ η ζ hσ nx sv cd t hR (KX i _ (by omega)) (fun hi => ?_)
    intro f μ σ τ η ζ hσ nx sv cd t hR
    refine w_iinc X.1.1 (nI (i + 4)) 4 rfl (by rw [show Int32.ofInt 4 = nI 4 from by decide, nI_add]) dL_law_1458 (by decide) ?_
    refine w_goto X.1.1 23 dL_law_1461 (by decide) ?_
    refine w_kc (kc' := 200 + (i + 4)) (ks' := 5000 + 5 * (i + 4)) (by omega) (by omega) ?_
    exact w_all [1, 2, 3, 4, 0] rfl rfl rfl (ih (i + 4) hi (by omega) f μ σ τ η ζ hσ nx sv cd t hR)
end LCC
