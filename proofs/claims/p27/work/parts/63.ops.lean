/-! one call of the law's act: what it leaves -/
theorem fit_of {f : Nat → Int32} {n : Nat} (h : ∀ i, i < n → f i = nI 0 ∨ f i = nI 1) : fit01 f n := fun i hi => by
  rcases h i hi with e | e <;> rw [e] <;> rfl
theorem ft0 {σ : Nat → Nat → Int32} (h : Inv σ) : fit01 (σ 0) 24 := fit_of fun i hi => (h.1 i hi).1
theorem ft5 {σ : Nat → Nat → Int32} (h : Inv σ) : fit01 (σ 5) 24 := fit_of fun i hi => (h.1 i hi).2.1
theorem ft6 {σ : Nat → Nat → Int32} (h : Inv σ) : fit01 (σ 6) 24 := fit_of fun i hi => (h.1 i hi).2.2
theorem ft8 {σ : Nat → Nat → Int32} (h : Inv σ) : fit01 (σ 8) 6 := fit_of fun i hi => (h.2.1 i hi).1
def R27 (B : Nat) (σ η : Nat → Nat → Int32) (hσ : Nat → Nat → Nat → Int32) (nx sv : Nat) : Prop := JJ B σ ∧ (∀ i, i < 6 → JJ B (hσ i)) ∧ nx < 6 ∧ sv ≤ 6 ∧ η 1 0 = nI nx ∧ η 2 0 = nI sv
section RR
variable {B : Nat} {σ η σ' : Nat → Nat → Int32} {hσ : Nat → Nat → Nat → Int32} {nx sv : Nat}
theorem R27.same (h : R27 B σ η hσ nx sv) : R27 (B + 25) σ η hσ nx sv := ⟨h.1.mono (by omega), fun i hi => (h.2.1 i hi).mono (by omega), h.2.2⟩
theorem R27.save (h : R27 B σ η hσ nx sv) (hJ : JJ (B + 25) σ') : R27 (B + 25) σ' (hiS η (nxN nx) (svN sv)) (rw2 hσ nx σ) (nxN nx) (svN sv) := by
  refine ⟨hJ, fun i hi => ?_, by unfold nxN; have := h.2.2.1; split <;> omega, by unfold svN; split <;> omega, rfl, rfl⟩
  rw [rw2_e]
  split
  · exact h.1.mono (by omega)
  · exact (h.2.1 i hi).mono (by omega)
theorem R27.back (h : R27 B σ η hσ nx sv) : R27 (B + 25) (hσ (ltN nx)) (hiS η (ltN nx) (sv - 1)) hσ (ltN nx) (sv - 1) :=
  ⟨(h.2.1 _ (ltN_lt h.2.2.1)).mono (by omega), fun i hi => (h.2.1 i hi).mono (by omega), ltN_lt h.2.2.1, by have := h.2.2.2.1; omega, rfl, rfl⟩
theorem R27.hsF (h : R27 B σ η hσ nx sv) : hsF hσ := fun i hi => ⟨ft0 (h.2.1 i hi).1, ft5 (h.2.1 i hi).1, ft6 (h.2.1 i hi).1, ft8 (h.2.1 i hi).1⟩
end RR
theorem low_f {p : Nat → Int32} {n k : Nat} (h : lowI (fun o => !nz (p o)) n = nI k) (hn : n < 1000) (hk : k < n) : p k = 0 := by
  rcases lowI_cases (fun o => !nz (p o)) n with ⟨e, _⟩ | ⟨j, hj, e, hp, _⟩
  · exact absurd (h.symm.trans e) (nI_ne (by omega))
  · have : k = j := (nI_eq (by omega) (by omega)).mp (h.symm.trans e)
    subst this
    rcases hz : nz (p k) with _ | _
    · unfold nz at hz
      split at hz
      · assumption
      · cases hz
    · have hp' : (!nz (p k)) = true := hp
      rw [hz] at hp'
      cases hp'
theorem ni_ng {n : Nat} (h : n < 2 ^ 31) {P : Prop} (c : nI n < 0) : P := absurd c (nI_pos h)
set_option maxHeartbeats 2000000 in
theorem c_L_open (l : Launch) (g : GG) (hfl : l.stackTraces = false) (am : Nat → Nat) (ast : Nat → Nat) (art : Nat → Nat) (alas : Nat → Nat) (atx : Nat → Nat) (ahi : Nat → Nat) (had : Nat → Nat → Nat) (σ : Nat → Nat → Int32) (η : Nat → Nat → Int32) (hσ : Nat → Nat → Nat → Int32) (nx sv B : Nat)  (h : R27 B σ η hσ nx sv) (hB : B < 900000) : ∃ (v : Int32) (σ' η' : Nat → Nat → Int32) (hσ' : Nat → Nat → Nat → Int32) (nx' sv' : Nat), R27 (B + 25) σ' η' hσ' nx' sv' ∧ (v < 0 → σ' = σ ∧ η' = η) ∧ MMH (U := (Nat → Nat → Nat → Int32)) l g yL_open cL_open 2 (some .int) [(0, 4, 5, 15)] 9 1 6 [.ref (am 0)] [maC g am (ast 0) (art 0) (alas 0) (atx 0) (ahi 0), stC g ast σ, hiC g ahi (fun i => had i 0) η, stC g (had 0) (hσ 0), stC g (had 1) (hσ 1), stC g (had 2) (hσ 2), stC g (had 3) (hσ 3), stC g (had 4) (hσ 4), stC g (had 5) (hσ 5)] (some (.int v)) (fun ζ' => [maC g am (ast 0) (art 0) (alas 0) (atx 0) (ahi 0), stC g ast σ', hiC g ahi (fun i => had i 0) η', stC g (had 0) (hσ' 0), stC g (had 1) (hσ' 1), stC g (had 2) (hσ' 2), stC g (had 3) (hσ' 3), stC g (had 4) (hσ' 4), stC g (had 5) (hσ' 5)]) := by
  obtain ⟨hJ, hH, hnx, hsv, e1, e2⟩ := id h
  have hI := hJ.1
  rcases lowI_cases (fun o => !nz (σ 8 o)) 6 with ⟨e, _⟩ | ⟨n, hn, e, _⟩
  · refine ⟨-3, σ, η, hσ, nx, sv, h.same, fun _ => ⟨rfl, rfl⟩, ?_⟩
    exact m_L_open l g hfl  rfl rfl (m_X5_open l g hfl am ast art alas atx ahi had σ η hσ  nx sv (.inr iSE) σ η hσ hnx e1 e2 hsv (ft0 hI) (ft5 hI) (ft6 hI) (ft8 hI) (fun _ => ⟨rfl, rfl, rfl, rfl⟩) (fun n hn en => absurd ((show lfA σ = -1 from e).symm.trans en).symm (nI_ne (by omega)))) (fun _ => by simp only [List.length_cons, List.length_nil]) (fun rv z => by cases z) (fun E z => by cases z; decide)
  · refine ⟨nI n, handS σ n, hiS η (nxN nx) (svN sv), rw2 hσ nx σ, nxN nx, svN sv, h.save ((jj_hand hJ (by omega) hn).mono (by omega)), fun z => ni_ng (by omega) z, ?_⟩
    exact m_L_open l g hfl  rfl rfl (m_X5_open l g hfl am ast art alas atx ahi had σ η hσ  nx sv (rI (nI n)) (handS σ n) (hiS η (nxN nx) (svN sv)) (rw2 hσ nx σ) hnx e1 e2 hsv (ft0 hI) (ft5 hI) (ft6 hI) (ft8 hI) (fun en => absurd ((show lfA σ = nI n from e).symm.trans en) (nI_ne (by omega))) (fun n' hn' en => by
      have q : n = n' := (nI_eq (by omega) (by omega)).mp ((show lfA σ = nI n from e).symm.trans en)
      subst q
      exact ⟨rfl, rfl, rfl, rfl⟩)) (fun _ => by simp only [List.length_cons, List.length_nil]) (fun rv z => by cases z; exact ⟨_, rfl⟩) (fun E z => by cases z)
set_option maxHeartbeats 2000000 in
theorem c_L_make (l : Launch) (g : GG) (hfl : l.stackTraces = false) (am : Nat → Nat) (ast : Nat → Nat) (art : Nat → Nat) (alas : Nat → Nat) (atx : Nat → Nat) (ahi : Nat → Nat) (had : Nat → Nat → Nat) (σ : Nat → Nat → Int32) (η : Nat → Nat → Int32) (hσ : Nat → Nat → Nat → Int32) (nx sv B : Nat) (a z : Nat) (h : R27 B σ η hσ nx sv) (hB : B < 900000) (ha : a < 6) (hz1 : 1 ≤ z) (hz : z ≤ 16) : ∃ (v : Int32) (σ' η' : Nat → Nat → Int32) (hσ' : Nat → Nat → Nat → Int32) (nx' sv' : Nat), R27 (B + 25) σ' η' hσ' nx' sv' ∧ (v < 0 → σ' = σ ∧ η' = η) ∧ MMH (U := (Nat → Nat → Nat → Int32)) l g yL_make cL_make 4 (some .int) [(0, 6, 7, 15)] 10 2 12 [.ref (am 0), .int (nI a), .int (nI z)] [maC g am (ast 0) (art 0) (alas 0) (atx 0) (ahi 0), stC g ast σ, hiC g ahi (fun i => had i 0) η, stC g (had 0) (hσ 0), stC g (had 1) (hσ 1), stC g (had 2) (hσ 2), stC g (had 3) (hσ 3), stC g (had 4) (hσ 4), stC g (had 5) (hσ 5)] (some (.int v)) (fun ζ' => [maC g am (ast 0) (art 0) (alas 0) (atx 0) (ahi 0), stC g ast σ', hiC g ahi (fun i => had i 0) η', stC g (had 0) (hσ' 0), stC g (had 1) (hσ' 1), stC g (had 2) (hσ' 2), stC g (had 3) (hσ' 3), stC g (had 4) (hσ' 4), stC g (had 5) (hσ' 5)]) := by
  obtain ⟨hJ, hH, hnx, hsv, e1, e2⟩ := id h
  have hI := hJ.1
  by_cases c : isOpB σ (nI a) = false ∨ roomB σ (nI a) (nI z) = false ∨ lfN σ = -1
  · refine ⟨-3, σ, η, hσ, nx, sv, h.same, fun _ => ⟨rfl, rfl⟩, ?_⟩
    exact m_L_make l g hfl (nI a) (nI z) rfl rfl (m_X5_make l g hfl am ast art alas atx ahi had σ η hσ (nI a) (nI z) nx sv (.inr iSE) σ η hσ hnx e1 e2 hsv (ft0 hI) (ft5 hI) (ft6 hI) (ft8 hI) (fun z0 => by rw [isArB_nI ha] at z0; cases z0) (fun _ z0 => z0.elim (fun z0 => absurd ((nI_ltI (by omega) (by decide)).mp z0) (by omega)) (fun z0 => absurd ((nI_leI (by omega) (by decide)).mpr hz) z0)) (fun _ _ _ _ => ⟨rfl, rfl, rfl, rfl⟩) (fun k n hk ek hn _ _ o1 o2 en => by
      exfalso
      rcases c with c | c | c
      · rw [c] at o1; cases o1
      · rw [c] at o2; cases o2
      · exact nI_ne (by omega) (en.symm.trans c))) (fun _ => by simp only [List.length_cons, List.length_nil]) (fun rv z => by cases z) (fun E z => by cases z; decide)
  · rcases lowI_cases (fun o => !nz (σ 0 o)) 24 with ⟨e, _⟩ | ⟨n, hn, e, _⟩
    · exact absurd (Or.inr (Or.inr e)) c
    · have o1 : isOpB σ (nI a) = true := by cases hb : isOpB σ (nI a) with
        | true => rfl
        | false => exact absurd (Or.inl hb) c
      have o2 : roomB σ (nI a) (nI z) = true := by cases hb : roomB σ (nI a) (nI z) with
        | true => rfl
        | false => exact absurd (Or.inr (Or.inl hb)) c
      have o8 : σ 8 a = nI 1 := by
        rw [isOp_nI σ ha] at o1
        rcases (hI.2.1 a ha).1 with q | q
        · rw [q, if_pos rfl] at o1; cases o1
        · exact q
      have u0 : σ 0 n = nI 0 := low_f e (by decide) hn
      refine ⟨nI n, addS σ n a (nI z), hiS η (nxN nx) (svN sv), rw2 hσ nx σ, nxN nx, svN sv, h.save ((jj_add hJ hn ha hz1 hz u0 o8 o2).mono (by omega)), fun z0 => ni_ng (by omega) z0, ?_⟩
      exact m_L_make l g hfl (nI a) (nI z) rfl rfl (m_X5_make l g hfl am ast art alas atx ahi had σ η hσ (nI a) (nI z) nx sv (rI (nI n)) (addS σ n a (nI z)) (hiS η (nxN nx) (svN sv)) (rw2 hσ nx σ) hnx e1 e2 hsv (ft0 hI) (ft5 hI) (ft6 hI) (ft8 hI) (fun z0 => by rw [isArB_nI ha] at z0; cases z0) (fun _ z0 => z0.elim (fun z0 => absurd ((nI_ltI (by omega) (by decide)).mp z0) (by omega)) (fun z0 => absurd ((nI_leI (by omega) (by decide)).mpr hz) z0)) (fun _ _ _ z0 => absurd z0 c) (fun k n' hk ek hn' _ _ _ _ en => by
        have q : n = n' := (nI_eq (by omega) (by omega)).mp ((show lfN σ = nI n from e).symm.trans en)
        have q2 : a = k := (nI_eq (by omega) (by omega)).mp ek
        subst q
        subst q2
        exact ⟨rfl, rfl, rfl, rfl⟩)) (fun _ => by simp only [List.length_cons, List.length_nil]) (fun rv z => by cases z; exact ⟨_, rfl⟩) (fun E z => by cases z)
set_option maxHeartbeats 2000000 in
theorem c_L_link (l : Launch) (g : GG) (hfl : l.stackTraces = false) (am : Nat → Nat) (ast : Nat → Nat) (art : Nat → Nat) (alas : Nat → Nat) (atx : Nat → Nat) (ahi : Nat → Nat) (had : Nat → Nat → Nat) (σ : Nat → Nat → Int32) (η : Nat → Nat → Int32) (hσ : Nat → Nat → Nat → Int32) (nx sv B : Nat) (j q : Nat) (t : Int32) (h : R27 B σ η hσ nx sv) (hB : B < 900000) (hj : j < 24) (hq : q < 2) (ht : t = -1 ∨ ∃ t0, t0 < 24 ∧ t = nI t0) : ∃ (v : Int32) (σ' η' : Nat → Nat → Int32) (hσ' : Nat → Nat → Nat → Int32) (nx' sv' : Nat), R27 (B + 25) σ' η' hσ' nx' sv' ∧ (v = -4 → σ' = σ ∧ η' = η) ∧ MMH (U := (Nat → Nat → Nat → Int32)) l g yL_link cL_link 5 (some .int) [(0, 7, 8, 30)] 10 2 12 [.ref (am 0), .int (nI j), .int (nI q), .int t] [maC g am (ast 0) (art 0) (alas 0) (atx 0) (ahi 0), stC g ast σ, hiC g ahi (fun i => had i 0) η, stC g (had 0) (hσ 0), stC g (had 1) (hσ 1), stC g (had 2) (hσ 2), stC g (had 3) (hσ 3), stC g (had 4) (hσ 4), stC g (had 5) (hσ 5)] (some (.int v)) (fun ζ' => [maC g am (ast 0) (art 0) (alas 0) (atx 0) (ahi 0), stC g ast σ', hiC g ahi (fun i => had i 0) η', stC g (had 0) (hσ' 0), stC g (had 1) (hσ' 1), stC g (had 2) (hσ' 2), stC g (had 3) (hσ' 3), stC g (had 4) (hσ' 4), stC g (had 5) (hσ' 5)]) := by
  obtain ⟨hJ, hH, hnx, hsv, e1, e2⟩ := id h
  have hI := hJ.1
  by_cases c : hasB σ (nI j) = true ∧ (t = -1 ∨ hasB σ t = true)
  · have hu := (has_us hI.1 hj).mp c.1
    have htt : t = -1 ∨ ∃ q, q < 24 ∧ t = nI q ∧ σ 0 q = nI 1 := by
      rcases c.2 with z | z
      · exact Or.inl z
      · rcases ht with y | ⟨t0, y1, y2⟩
        · exact Or.inl y
        · rw [y2] at z
          exact Or.inr ⟨t0, y1, y2, (has_us hI.1 y1).mp z⟩
    refine ⟨refI σ (nI j) (nI q), rfS σ j q t, hiS η (nxN nx) (svN sv), rw2 hσ nx σ, nxN nx, svN sv, h.save ((jj_link hJ hj hq hu htt).mono (by omega)), fun z => by
      exfalso
      rw [ref_nI σ hj hq] at z
      rcases hI.2.2.2.2.2.1 j q hj hq with y | ⟨t0, y1, y2, _⟩
      · rw [y] at z; exact absurd z (by decide)
      · rw [y2] at z
        have := nI_pos (n := t0) (by omega)
        rw [z] at this
        exact this (by decide), ?_⟩
    exact m_L_link l g hfl (nI j) (nI q) t rfl rfl (m_X5_link l g hfl am ast art alas atx ahi had σ η hσ (nI j) (nI q) t nx sv (rI (refI σ (nI j) (nI q))) (rfS σ j q t) (hiS η (nxN nx) (svN sv)) (rw2 hσ nx σ) hnx e1 e2 hsv (ft0 hI) (ft5 hI) (ft6 hI) (ft8 hI) (fun z => by rw [c.1] at z; cases z) (fun _ z => z.elim (fun z => absurd z (nI_pos (by omega))) (fun z => absurd ((nI_ltI (by omega) (by decide)).mpr hq) z)) (fun _ _ _ z y => by
      rcases c.2 with x | x
      · exact absurd x z
      · rw [x] at y; cases y) (fun j' q' hj' ej hq' eq _ _ => by
      have q1 : j = j' := (nI_eq (by omega) (by omega)).mp ej
      have q2 : q = q' := (nI_eq (by omega) (by omega)).mp eq
      subst q1
      subst q2
      exact ⟨rfl, rfl, rfl, rfl⟩)) (fun _ => by simp only [List.length_cons, List.length_nil]) (fun rv z => by cases z; exact ⟨_, rfl⟩) (fun E z => by cases z)
  · refine ⟨-4, σ, η, hσ, nx, sv, h.same, fun _ => ⟨rfl, rfl⟩, ?_⟩
    exact m_L_link l g hfl (nI j) (nI q) t rfl rfl (m_X5_link l g hfl am ast art alas atx ahi had σ η hσ (nI j) (nI q) t nx sv (.inr iOE) σ η hσ hnx e1 e2 hsv (ft0 hI) (ft5 hI) (ft6 hI) (ft8 hI) (fun _ => ⟨rfl, rfl, rfl, rfl⟩) (fun _ _ => ⟨rfl, rfl, rfl, rfl⟩) (fun _ _ _ _ _ => ⟨rfl, rfl, rfl, rfl⟩) (fun j' q' hj' ej hq' eq z y => absurd ⟨z, y⟩ c)) (fun _ => by simp only [List.length_cons, List.length_nil]) (fun rv z => by cases z) (fun E z => by cases z; decide)
set_option maxHeartbeats 2000000 in
theorem c_L_giveBack (l : Launch) (g : GG) (hfl : l.stackTraces = false) (am : Nat → Nat) (ast : Nat → Nat) (art : Nat → Nat) (aliv : Nat → Nat) (asur : Nat → Nat) (alas : Nat → Nat) (atx : Nat → Nat) (ahi : Nat → Nat) (had : Nat → Nat → Nat) (σ : Nat → Nat → Int32) (ζ : Nat → Nat → Nat → Int32) (η : Nat → Nat → Int32) (hσ : Nat → Nat → Nat → Int32) (nx sv B : Nat) (a b : Nat) (h : R27 B σ η hσ nx sv) (hB : B < 900000) (ha : a < 6) (hb : b < 6) : ∃ (v : Int32) (σ' η' : Nat → Nat → Int32) (hσ' : Nat → Nat → Nat → Int32) (nx' sv' : Nat), R27 (B + 25) σ' η' hσ' nx' sv' ∧ (v < 0 → σ' = σ ∧ η' = η) ∧ MMH (U := (Nat → Nat → Nat → Int32)) l g yL_giveBack cL_giveBack 4 (some .int) [(0, 6, 7, 24), (0, 6, 11, 15)] 10 3 18 [.ref (am 0), .int (nI a), .int (nI b)] [maC g am (ast 0) (art 0) (alas 0) (atx 0) (ahi 0), stC g ast σ, rtC g art (aliv 0) (asur 0) (ζ 3), rcC g aliv (ζ 0), rcC g asur (ζ 1), hiC g ahi (fun i => had i 0) η, stC g (had 0) (hσ 0), stC g (had 1) (hσ 1), stC g (had 2) (hσ 2), stC g (had 3) (hσ 3), stC g (had 4) (hσ 4), stC g (had 5) (hσ 5)] (some (.int v)) (fun ζ' => [maC g am (ast 0) (art 0) (alas 0) (atx 0) (ahi 0), stC g ast σ', rtC g art (aliv 0) (asur 0) (ζ' 3), rcC g aliv (ζ' 0), rcC g asur (ζ' 1), hiC g ahi (fun i => had i 0) η', stC g (had 0) (hσ' 0), stC g (had 1) (hσ' 1), stC g (had 2) (hσ' 2), stC g (had 3) (hσ' 3), stC g (had 4) (hσ' 4), stC g (had 5) (hσ' 5)]) := by
  obtain ⟨hJ, hH, hnx, hsv, e1, e2⟩ := id h
  have hI := hJ.1
  by_cases c : a = b
  · refine ⟨-2, σ, η, hσ, nx, sv, h.same, fun _ => ⟨rfl, rfl⟩, ?_⟩
    exact m_L_giveBack l g hfl (nI a) (nI b) rfl rfl (m_X5_giveBack l g hfl am ast art aliv asur alas atx ahi had σ ζ η hσ (nI a) (nI b) nx sv (.inr iAE) σ η hσ hnx e1 e2 hsv (ft0 hI) (ft5 hI) (ft6 hI) (ft8 hI) (fun z0 => by rw [isArB_nI ha] at z0; cases z0) (fun _ z0 => by rw [isArB_nI hb] at z0; cases z0) (fun _ _ _ _ => ⟨rfl, rfl, rfl, rfl⟩) (fun x y hx hy ex ey hne _ => absurd (((nI_eq (by omega) (by omega)).mp ex).symm.trans (c.trans ((nI_eq (by omega) (by omega)).mp ey))) hne) (fun x y hx hy ex ey hne _ => absurd (((nI_eq (by omega) (by omega)).mp ex).symm.trans (c.trans ((nI_eq (by omega) (by omega)).mp ey))) hne)) (fun _ => by simp only [List.length_cons, List.length_nil]) (fun rv z => by cases z) (fun E z => by cases z; decide)
  · by_cases c0 : rsC σ (nI a) (nI b) = 0
    · refine ⟨suC σ (nI a) 3 0, gbS σ a b, hiS η (nxN nx) (svN sv), rw2 hσ nx σ, nxN nx, svN sv, h.save ((jj_gb hJ ha hb c c0).mono (by omega)), fun z => by
        exfalso
        rw [su_cnt hI.2.2.2.2.2.1 (nI_ne (by omega))] at z
        exact ni_ng (by have := cn_le (plB (suC σ (nI a))) 24; omega) z, ?_⟩
      exact m_L_giveBack l g hfl (nI a) (nI b) rfl rfl (m_X5_giveBack l g hfl am ast art aliv asur alas atx ahi had σ ζ η hσ (nI a) (nI b) nx sv (rI (suC σ (nI a) 3 0)) (gbS σ a b) (hiS η (nxN nx) (svN sv)) (rw2 hσ nx σ) hnx e1 e2 hsv (ft0 hI) (ft5 hI) (ft6 hI) (ft8 hI) (fun z0 => by rw [isArB_nI ha] at z0; cases z0) (fun _ z0 => by rw [isArB_nI hb] at z0; cases z0) (fun x hx ex ey => absurd ((nI_eq (by omega) (by omega)).mp (ex.trans ey.symm)) c) (fun x y hx hy ex ey hne z => by
        exfalso
        rw [← ex, ← ey] at z
        exact z c0) (fun x y hx hy ex ey hne z => by
        have q1 : a = x := (nI_eq (by omega) (by omega)).mp ex
        have q2 : b = y := (nI_eq (by omega) (by omega)).mp ey
        subst q1
        subst q2
        exact ⟨rfl, rfl, rfl, rfl⟩)) (fun _ => by simp only [List.length_cons, List.length_nil]) (fun rv z => by cases z; exact ⟨_, rfl⟩) (fun E z => by cases z)
    · refine ⟨-3, σ, η, hσ, nx, sv, h.same, fun _ => ⟨rfl, rfl⟩, ?_⟩
      rw [show (-3 : Int32) = exV ef_giveBack (.inr iSE) from by decide +kernel]
      exact m_L_giveBack l g hfl (nI a) (nI b) rfl rfl (m_X5_giveBack l g hfl am ast art aliv asur alas atx ahi had σ ζ η hσ (nI a) (nI b) nx sv (.inr iSE) σ η hσ hnx e1 e2 hsv (ft0 hI) (ft5 hI) (ft6 hI) (ft8 hI) (fun z0 => by rw [isArB_nI ha] at z0; cases z0) (fun _ z0 => by rw [isArB_nI hb] at z0; cases z0) (fun x hx ex ey => absurd ((nI_eq (by omega) (by omega)).mp (ex.trans ey.symm)) c) (fun _ _ _ _ _ _ _ _ => ⟨rfl, rfl, rfl, rfl⟩) (fun x y hx hy ex ey hne z => by
        exfalso
        rw [← ex, ← ey] at z
        exact c0 z)) (fun _ => by simp only [List.length_cons, List.length_nil]) (fun rv z => by cases z) (fun E z => by cases z; decide)
set_option maxHeartbeats 2000000 in
theorem c_L_undo (l : Launch) (g : GG) (hfl : l.stackTraces = false) (am : Nat → Nat) (ast : Nat → Nat) (art : Nat → Nat) (alas : Nat → Nat) (atx : Nat → Nat) (ahi : Nat → Nat) (had : Nat → Nat → Nat) (σ : Nat → Nat → Int32) (η : Nat → Nat → Int32) (hσ : Nat → Nat → Nat → Int32) (nx sv B : Nat)  (h : R27 B σ η hσ nx sv) (hB : B < 900000) : ∃ (v : Int32) (σ' η' : Nat → Nat → Int32) (hσ' : Nat → Nat → Nat → Int32) (nx' sv' : Nat), R27 (B + 25) σ' η' hσ' nx' sv' ∧ (v < 0 → σ' = σ ∧ η' = η) ∧ MMH (U := (Nat → Nat → Nat → Int32)) l g yL_undo cL_undo 2 (some .int) [(0, 4, 5, 15)] 10 1 6 [.ref (am 0)] [maC g am (ast 0) (art 0) (alas 0) (atx 0) (ahi 0), stC g ast σ, hiC g ahi (fun i => had i 0) η, stC g (had 0) (hσ 0), stC g (had 1) (hσ 1), stC g (had 2) (hσ 2), stC g (had 3) (hσ 3), stC g (had 4) (hσ 4), stC g (had 5) (hσ 5)] (some (.int v)) (fun ζ' => [maC g am (ast 0) (art 0) (alas 0) (atx 0) (ahi 0), stC g ast σ', hiC g ahi (fun i => had i 0) η', stC g (had 0) (hσ' 0), stC g (had 1) (hσ' 1), stC g (had 2) (hσ' 2), stC g (had 3) (hσ' 3), stC g (had 4) (hσ' 4), stC g (had 5) (hσ' 5)]) := by
  obtain ⟨hJ, hH, hnx, hsv, e1, e2⟩ := id h
  have hI := hJ.1
  by_cases c : η 2 0 = 0
  · refine ⟨-3, σ, η, hσ, nx, sv, h.same, fun _ => ⟨rfl, rfl⟩, ?_⟩
    exact m_L_undo l g hfl  rfl rfl (m_X5_undo l g hfl am ast art alas atx ahi had σ η hσ  nx sv (.inr iSE) σ η hσ hnx e1 e2 hsv h.hsF (fun _ => ⟨rfl, rfl, rfl, rfl⟩) (fun z => absurd c z)) (fun _ => by simp only [List.length_cons, List.length_nil]) (fun rv z => by cases z) (fun E z => by cases z; decide)
  · refine ⟨nI (sv - 1), hσ (ltN nx), hiS η (ltN nx) (sv - 1), hσ, ltN nx, sv - 1, h.back, fun z => ni_ng (by omega) z, ?_⟩
    exact m_L_undo l g hfl  rfl rfl (m_X5_undo l g hfl am ast art alas atx ahi had σ η hσ  nx sv (rI (nI (sv - 1))) (hσ (ltN nx)) (hiS η (ltN nx) (sv - 1)) hσ hnx e1 e2 hsv h.hsF (fun z => absurd z c) (fun _ => ⟨rfl, rfl, rfl, rfl⟩)) (fun _ => by simp only [List.length_cons, List.length_nil]) (fun rv z => by cases z; exact ⟨_, rfl⟩) (fun E z => by cases z)
theorem t_of {t0 : Nat} (h : t0 < 15) : nI t0 - nI 1 = -1 ∨ ∃ t, t < 24 ∧ nI t0 - nI 1 = nI t := by
  rcases Nat.eq_zero_or_pos t0 with e | e
  · subst e
    exact Or.inl (by decide)
  · exact Or.inr ⟨t0 - 1, by omega, nI_sb e⟩
theorem set_ok {x v : Nat} (hx : x < 2) (hv : v ≤ (if x = 1 then 2 else 1)) : (x = 0 ∧ (nI v = nI 0 ∨ nI v = nI 1)) ∨ (x = 1 ∧ (nI v = nI 0 ∨ nI v = nI 1 ∨ nI v = nI 2)) := by
  rcases (show x = 0 ∨ x = 1 by omega) with rfl | rfl
  · rw [if_neg (by decide)] at hv
    rcases (show v = 0 ∨ v = 1 by omega) with rfl | rfl
    · exact Or.inl ⟨rfl, Or.inl rfl⟩
    · exact Or.inl ⟨rfl, Or.inr rfl⟩
  · rw [if_pos rfl] at hv
    rcases (show v = 0 ∨ v = 1 ∨ v = 2 by omega) with rfl | rfl | rfl
    · exact Or.inr ⟨rfl, Or.inl rfl⟩
    · exact Or.inr ⟨rfl, Or.inr (Or.inl rfl)⟩
    · exact Or.inr ⟨rfl, Or.inr (Or.inr rfl)⟩
theorem set_ng {σ : Nat → Nat → Int32} (h : Inv σ) {x : Nat} (hx : x < 2) (c : σ 11 x < 0) : False := by
  rcases (show x = 0 ∨ x = 1 by omega) with rfl | rfl
  · rcases h.2.2.1.1 with e | e <;> rw [e] at c <;> exact ni_ng (by decide) c
  · rcases h.2.2.1.2 with e | e | e <;> rw [e] at c <;> exact ni_ng (by decide) c
