/-! the law: what holds between two calls; the answers of both sides, case by case -/
def aft {α : Type} (o : OC) (a b : α) : α := match o with
  | .inl _ => a
  | .inr _ => b
def REL (σ τ η : Nat → Nat → Int32) (hσ : Nat → Nat → Nat → Int32) (μ : Nat → Nat → Int32) (nx sv : Nat) (cd : Nat → Nat) (t : Nat) : Prop := RI σ (μ 0) ∧ HRel η hσ μ nx sv ∧ TXM μ cd t ∧ RTX τ cd t ∧ hsF hσ
def oK (L : List String) (o : OC) : Prop := (∀ rv, o = .inl rv → ∃ v, rv = some (.int v)) ∧ ∀ E, o = .inr E → E ∈ L
theorem ok_r {L : List String} {E : String} (h : E ∈ L) : oK L (.inr E) := ⟨fun rv q => (by cases q), fun F q => (by cases q; exact h)⟩
theorem ok_l {L : List String} (v : Int32) : oK L (rI v) := ⟨fun rv q => (by cases q; exact ⟨v, rfl⟩), fun F q => (by cases q)⟩
theorem ok_i {L : List String} {c : Prop} [Decidable c] {a b : OC} (ha : oK L a) (hb : oK L b) : oK L (if c then a else b) := by
  split
  · exact ha
  · exact hb
theorem fit_of {f : Nat → Int32} {n : Nat} (h : ∀ i, i < n → f i = nI 0 ∨ f i = nI 1) : fit01 f n := fun i hi => by
  rcases h i hi with e | e <;> (rw [e]; decide +kernel)
section RELS
variable {σ τ η μ μ' : Nat → Nat → Int32} {hσ : Nat → Nat → Nat → Int32} {nx sv t : Nat} {cd : Nat → Nat} {N : Nat → Int32}
theorem RI.f0 (h : RI σ N) : fit01 (σ 0) 24 := fit_of fun i hi => (h.1.1 i hi).1
theorem RI.f5 (h : RI σ N) : fit01 (σ 5) 24 := fit_of fun i hi => (h.1.1 i hi).2.1
theorem RI.f6 (h : RI σ N) : fit01 (σ 6) 24 := fit_of fun i hi => (h.1.1 i hi).2.2
theorem RI.f8 (h : RI σ N) : fit01 (σ 8) 6 := fit_of fun i hi => (h.1.2.1 i hi).1
theorem hsF_s (h : hsF hσ) (hR : RI σ N) (nx : Nat) : hsF (rw2 hσ nx σ) := fun i hi => by
  by_cases e : i = nx
  · subst e
    rw [rw2_s]
    exact ⟨hR.f0, hR.f5, hR.f6, hR.f8⟩
  · rw [rw2_n _ _ e]
    exact h i hi
theorem HRel.keep (h : HRel η hσ μ nx sv) (h1 : μ' 1 = μ 1) (h2 : μ' 2 = μ 2) : HRel η hσ μ' nx sv := by
  obtain ⟨a, b, c, d, e, f⟩ := h
  exact ⟨a, b, c, d, by rw [h2]; exact e, fun k hk => by rw [h1]; exact f k hk⟩
theorem TXM.keep (h : TXM μ cd t) (h3 : μ' 3 = μ 3) (h4 : μ' 4 = μ 4) : TXM μ' cd t := ⟨by rw [h4]; exact h.1, h.2.1, fun i hi => by rw [h3]; exact h.2.2 i hi⟩
theorem REL.lk (h : REL σ τ η hσ μ nx sv cd t) (hm : ∀ j, j < 5 → μ' j = μ j) : REL σ τ η hσ μ' nx sv cd t := by
  obtain ⟨hR, hH, hT, hτ, hF⟩ := h
  exact ⟨by rw [hm 0 (by decide)]; exact hR, hH.keep (hm 1 (by decide)) (hm 2 (by decide)), hT.keep (hm 3 (by decide)) (hm 4 (by decide)), hτ, hF⟩
theorem REL.mc (h : REL σ τ η hσ μ nx sv cd t) {o : OC} {L : List String} {σ1 : Nat → Nat → Int32} (hm : MC σ1 o L sv μ μ') : REL (aft o σ1 σ) τ (aft o (hiS η (nxN nx) (svN sv)) η) (aft o (rw2 hσ nx σ) hσ) μ' (aft o (nxN nx) nx) (aft o (svN sv) sv) cd t := by
  obtain ⟨hR, hH, hT, hτ, hF⟩ := h
  obtain ⟨m3, m4, m5, mo⟩ := hm
  have hT' : TXM μ' cd t := hT.keep m3 m4
  cases o with
  | inl rv => exact ⟨mo.1, hH.saveQ hR mo.2, hT', hτ, hsF_s hF hR nx⟩
  | inr E =>
    refine ⟨?_, hH.keep (mo 1 (by decide)) (mo 2 (by decide)), hT', hτ, hF⟩
    show RI σ (μ' 0)
    rw [mo 0 (by decide)]
    exact hR
theorem REL.ma (h : REL σ τ η hσ μ nx sv cd t) {x : Int32} (hm : MA σ τ x sv μ μ') : REL (aft (mkaO σ τ x) (mkP x.toNatClampNeg 60 σ τ 0 0).1 σ) (aft (mkaO σ τ x) (emptyT (mkP x.toNatClampNeg 60 σ τ 0 0).2.1) τ) (aft (mkaO σ τ x) (hiS η (nxN nx) (svN sv)) η) (aft (mkaO σ τ x) (rw2 hσ nx σ) hσ) μ' (aft (mkaO σ τ x) (nxN nx) nx) (aft (mkaO σ τ x) (svN sv) sv) cd (aft (mkaO σ τ x) 0 t) := by
  obtain ⟨hR, hH, hT, hτ, hF⟩ := h
  obtain ⟨m5, mo⟩ := hm
  cases ho : mkaO σ τ x with
  | inl rv =>
    rw [ho] at mo
    obtain ⟨m1, m2, m3, m4⟩ := mo
    refine ⟨m1, hH.saveQ hR m2, ⟨m4, Nat.zero_le _, fun i hi => absurd hi (Nat.not_lt_zero _)⟩, ⟨?_, Nat.zero_le _, fun i hi => absurd hi (Nat.not_lt_zero _)⟩, hsF_s hF hR nx⟩
    show emptyT _ 1 0 = nI 0
    rw [emptyT, rw2_s]
    rfl
  | inr E =>
    rw [ho] at mo
    exact REL.lk ⟨hR, hH, hT, hτ, hF⟩ mo
theorem REL.un (h : REL σ τ η hσ μ nx sv cd t) (hm : UQ sv μ μ') : REL (aft (undO sv) (hσ (ltN nx)) σ) τ (aft (undO sv) (hiS η (ltN nx) (sv - 1)) η) hσ μ' (aft (undO sv) (ltN nx) nx) (aft (undO sv) (sv - 1) sv) cd t := by
  obtain ⟨hR, hH, hT, hτ, hF⟩ := h
  obtain ⟨m3, m4, m5, m6, m7⟩ := hm
  by_cases e : sv = 0
  · rw [undO, if_pos e]
    exact REL.lk ⟨hR, hH, hT, hτ, hF⟩ (m6 e)
  · rw [undO, if_neg e]
    obtain ⟨q1, q2, q3⟩ := m7 e
    obtain ⟨r1, r2⟩ := hH.undo (by omega) q1 q2
    exact ⟨r2.congr q3, r1, hT.keep m3 m4, hτ, hF⟩
theorem full_t (hτ : RTX τ cd t) : fullB τ = if t = 60 then true else false := by
  rw [fullB, hτ.1]
  have := hτ.2.1
  by_cases e : t = 60
  · rw [if_pos e, e]
    decide
  · rw [if_neg e, if_pos]
    exact nI_lt (by omega) (by omega)
theorem adt_t (hτ : RTX τ cd t) (ht : t < 60) (q : Int32) : addT τ q = rw2 (rw2 τ 0 (upd (τ 0) t q)) 1 (upd (τ 1) 0 (nI (t + 1))) := by
  rw [addT, hτ.1, if_neg (nI_pos (by omega)), if_neg (fun h => by have := (Int32.not_lt.mpr h); exact this (nI_lt (by omega) (by omega))), nI_clamp (by omega), nI_add]
theorem REL.ap (h : REL σ τ η hσ μ nx sv cd t) {q : Int32} (hm : AQ cd t q μ μ') : ∃ cd' t', REL σ (aft (appO t q) (addT τ q) τ) η hσ μ' nx sv cd' t' := by
  obtain ⟨hR, hH, hT, hτ, hF⟩ := h
  obtain ⟨m1, m5, mo⟩ := hm
  have hR' : RI σ (μ' 0) := by rw [m1 0 (by decide)]; exact hR
  have hH' := hH.keep (m1 1 (by decide)) (m1 2 (by decide))
  cases ho : appO t q with
  | inl rv =>
    rw [ho] at mo
    obtain ⟨y, hy, y1, y2, hT'⟩ := mo
    have ht : t < 60 := by have := hT'.2.1; omega
    refine ⟨_, _, hR', hH', hT', ⟨?_, by omega, fun i hi => ?_⟩, hF⟩
    · show addT τ q 1 0 = _
      rw [adt_t hτ ht, rw2_s]
      rfl
    · show addT τ q 0 i = _ ∧ _
      rw [adt_t hτ ht, rw2_n _ _ (by decide), rw2_s]
      dsimp only
      by_cases e : i = t
      · subst e
        rw [if_pos rfl, ← hy]
        exact ⟨by simp [upd], y1, y2⟩
      · rw [if_neg e]
        have := hτ.2.2 i (by omega)
        refine ⟨?_, this.2⟩
        rw [← this.1]
        simp [upd, e]
  | inr E =>
    rw [ho] at mo
    exact ⟨cd, t, hR', hH', hT.keep mo.1 mo.2, hτ, hF⟩
theorem REL.cb (h : REL σ τ η hσ μ nx sv cd t) (h4 : ∀ j, j < 4 → μ' j = μ j) (hT' : TXM μ' cd 0) : REL σ (emptyT τ) η hσ μ' nx sv cd 0 := by
  obtain ⟨hR, hH, hT, hτ, hF⟩ := h
  refine ⟨by rw [h4 0 (by decide)]; exact hR, hH.keep (h4 1 (by decide)) (h4 2 (by decide)), hT', ⟨?_, Nat.zero_le _, fun i hi => absurd hi (Nat.not_lt_zero _)⟩, hF⟩
  rw [emptyT, rw2_s]
  rfl
end RELS
/-! both sides' answers -/
section AFTS
variable {o : OC} {E : String} {v : Int32} {S σ H η T τ : Nat → Nat → Int32} {K hσ : Nat → Nat → Nat → Int32}
theorem aft_r (h : o = .inr E) : (.inr E : OC) = o ∧ σ = aft o S σ ∧ η = aft o H η ∧ hσ = aft o K hσ := by
  subst h
  exact ⟨rfl, rfl, rfl, rfl⟩
theorem aft_l {S' : Nat → Nat → Int32} (h : o = rI v) (hS : S' = S) : rI v = o ∧ S' = aft o S σ ∧ H = aft o H η ∧ K = aft o K hσ := by
  subst h
  subst hS
  exact ⟨rfl, rfl, rfl, rfl⟩
theorem aft_r5 (h : o = .inr E) : (.inr E : OC) = o ∧ σ = aft o S σ ∧ η = aft o H η ∧ hσ = aft o K hσ ∧ τ = aft o T τ := by
  subst h
  exact ⟨rfl, rfl, rfl, rfl, rfl⟩
theorem aft_l5 {S' T' : Nat → Nat → Int32} (h : o = rI v) (hS : S' = S) (hT : T' = T) : rI v = o ∧ S' = aft o S σ ∧ H = aft o H η ∧ K = aft o K hσ ∧ T' = aft o T τ := by
  subst h
  subst hS
  subst hT
  exact ⟨rfl, rfl, rfl, rfl, rfl⟩
end AFTS
theorem dig_le (w a b : Int32) : digB w a b = true ↔ ¬ w < a ∧ w ≤ b := by
  rw [digB]
  constructor
  · intro h
    split at h
    · cases h
    · rename_i c1
      split at h
      · cases h
      · rename_i c2
        exact ⟨c1, Int32.not_lt.mp c2⟩
  · rintro ⟨h1, h2⟩
    rw [if_neg h1, if_neg (Int32.not_lt.mpr h2)]
theorem dig_no {w a b : Int32} (h : w < a ∨ ¬ w ≤ b) : digB w a b = false := by
  cases e : digB w a b
  · rfl
  · obtain ⟨h1, h2⟩ := (dig_le w a b).mp e
    exact h.elim (fun q => absurd q h1) (fun q => absurd h2 q)
theorem le_lt {w : Int32} {n : Nat} (hn : n + 1 < 2 ^ 31) : w < nI (n + 1) ↔ w ≤ nI n := by
  have e1 := nI_toInt (show n < 2 ^ 31 by omega)
  have e2 := nI_toInt hn
  rw [Int32.lt_iff_toInt_lt, Int32.le_iff_toInt_le]
  omega
theorem dig_nl {w : Int32} {n : Nat} (hn : n + 1 < 2 ^ 31) (h : w < 0 ∨ ¬ w < nI (n + 1)) : digB w (nI 0) (nI n) = false := dig_no (h.elim (fun q => Or.inl (by rw [nI_0]; exact q)) (fun q => Or.inr (fun z => q ((le_lt hn).mpr z))))
theorem dig_yl {w : Int32} {n : Nat} (hn : n + 1 < 2 ^ 31) (h1 : ¬ w < 0) (h2 : w < nI (n + 1)) : digB w (nI 0) (nI n) = true := (dig_le _ _ _).mpr ⟨by rw [nI_0]; exact h1, (le_lt hn).mp h2⟩
theorem dg_nI {q n : Nat} (hq : q < n + 1) (hn : n + 1 < 2 ^ 31) : digB (nI q) (nI 0) (nI n) = true := dig_yl hn (nI_pos (by omega)) (nI_lt hq hn)
theorem iSe_dg (x : Int32) : isSeB x = digB x (nI 0) (nI 1) := by
  cases e : digB x (nI 0) (nI 1)
  · rw [isSeB]
    split
    · rfl
    · rename_i c
      rw [if_neg]
      intro q
      have := dig_yl (n := 1) (by decide) c q
      rw [e] at this
      cases this
  · obtain ⟨h1, h2⟩ := (dig_le _ _ _).mp e
    rw [isSeB, if_neg (by rw [← nI_0]; exact h1), if_pos ((le_lt (n := 1) (by decide)).mpr h2)]
section OLS
variable {σ τ η : Nat → Nat → Int32} {x y z f t v w q : Int32} {b : Bool} {nn sv : Nat} {cd : Nat → Nat}
theorem tf {a : Bool} (h : a = true) : ¬ a = false := by rw [h]; decide
theorem opn_ok : oK [iSE] (opnO σ) := ok_i (ok_r (by decide +kernel)) (ok_l _)
theorem opn_1 (h : lfA σ = -1) : opnO σ = .inr iSE := by rw [opnO, if_pos h]
theorem opn_2 {n : Nat} (hn : n < 6) (h : lfA σ = nI n) : opnO σ = rI (nI n) ∧ handS σ n = handS σ (lfA σ).toNatClampNeg := by
  rw [opnO, if_neg (by rw [h]; exact nI_ne (by omega)), h, nI_clamp (by omega)]
  exact ⟨rfl, rfl⟩
theorem mak_ok : oK [iOE, iAE, iSE] (makO σ x z) := ok_i (ok_r (by decide +kernel)) (ok_i (ok_r (by decide +kernel)) (ok_i (ok_r (by decide +kernel)) (ok_l _)))
theorem mak_1 (h : isArB x = false) : makO σ x z = .inr iOE := by rw [makO, if_pos h]
theorem mak_2 (h : isArB x = true) (hz : z < nI 1 ∨ ¬ z ≤ nI 16) : makO σ x z = .inr iAE := by rw [makO, if_neg (tf h), if_pos (dig_no hz)]
theorem mak_3 (h : isArB x = true) (h1 : ¬ z < nI 1) (h2 : z ≤ nI 16) (h3 : isOpB σ x = false ∨ roomB σ x z = false ∨ lfN σ = -1) : makO σ x z = .inr iSE := by
  obtain ⟨k, hk, rfl⟩ := isArB_ex h
  rw [makO, if_neg (tf h), if_neg (tf ((dig_le _ _ _).mpr ⟨h1, h2⟩)), if_pos]
  rw [nI_clamp (by omega), mmB]
  split
  · rfl
  · rename_i c1
    split
    · rfl
    · rename_i c2
      rw [if_pos]
      rcases h3 with e | e | e
      · exact absurd e c1
      · exact absurd e c2
      · have hle := fr_le σ
        rcases Nat.lt_or_ge (frN σ) 24 with g | g
        · rw [lfN_lt g] at e
          exact absurd e (nI_ne (by omega))
        · omega
theorem mak_4 {k n : Nat} (hk : k < 6) (hx : x = nI k) (hn : n < 24) (h1 : ¬ z < nI 1) (h2 : z ≤ nI 16) (h3 : isOpB σ x = true) (h4 : roomB σ x z = true) (h5 : lfN σ = nI n) : makO σ x z = rI (nI n) ∧ addS σ n k z = addS σ (frN σ) x.toNatClampNeg z := by
  subst hx
  have hf : frN σ = n := by
    rcases Nat.lt_or_ge (frN σ) 24 with g | g
    · rw [lfN_lt g] at h5
      exact (nI_eq (by omega) (by omega)).mp h5
    · have hle := fr_le σ
      rw [lfN_24 (by omega)] at h5
      exact absurd h5.symm (nI_ne (by omega))
  rw [makO, if_neg (tf (isArB_nI hk)), if_neg (tf ((dig_le _ _ _).mpr ⟨h1, h2⟩)), nI_clamp (by omega), hf, if_neg]
  · exact ⟨rfl, rfl⟩
  · rw [mmB, if_neg (tf h3), if_neg (tf h4), if_neg (by omega)]
    decide
theorem lin_ok : oK [iOE] (linO σ x f t) := ok_i (ok_r (by decide +kernel)) (ok_i (ok_r (by decide +kernel)) (ok_i (ok_l _) (ok_i (ok_r (by decide +kernel)) (ok_l _))))
theorem lin_1 (h : hasB σ x = false) : linO σ x f t = .inr iOE := by rw [linO, if_pos h]
theorem lin_2 (h : hasB σ x = true) (hf : f < 0 ∨ ¬ f < nI 2) : linO σ x f t = .inr iOE := by rw [linO, if_neg (tf h), if_pos (dig_nl (n := 1) (by decide) hf)]
theorem lin_3 (h : hasB σ x = true) (h1 : ¬ f < 0) (h2 : f < nI 2) (h3 : ¬ t = -1) (h4 : hasB σ t = false) : linO σ x f t = .inr iOE := by rw [linO, if_neg (tf h), if_neg (tf (dig_yl (n := 1) (by decide) h1 h2)), if_neg h3, if_pos h4]
theorem lin_4 {j q : Nat} (hj : j < 24) (hx : x = nI j) (hq : q < 2) (hf : f = nI q) (h : hasB σ x = true) (ht : t = -1 ∨ hasB σ t = true) : linO σ x f t = rI (refI σ (nI j) (nI q)) ∧ rfS σ j q t = rfS σ x.toNatClampNeg f.toNatClampNeg t := by
  subst hx
  subst hf
  rw [linO, if_neg (tf h), if_neg (tf (dg_nI (n := 1) hq (by decide))), nI_clamp (by omega), nI_clamp (by omega)]
  refine ⟨?_, rfl⟩
  by_cases e : t = -1
  · rw [if_pos e]
  · rw [if_neg e, if_neg (tf (ht.resolve_left e))]
theorem roo_ok : oK [iOE] (rooO σ x) := ok_i (ok_r (by decide +kernel)) (ok_l _)
theorem roo_1 (h : hasB σ x = false) : rooO σ x = .inr iOE := by rw [rooO, if_pos h]
theorem roo_2 {j : Nat} (hj : j < 24) (hx : x = nI j) (h : hasB σ x = true) : rooO σ x = rI (bI (nz (σ 5 j))) ∧ rtS σ j (bI b) = rtS σ x.toNatClampNeg (bI b) := by
  subst hx
  rw [rooO, if_neg (tf h), nI_clamp (by omega)]
  exact ⟨rfl, rfl⟩
theorem pin_ok : oK [iOE] (pinO σ x b) := ok_i (ok_r (by decide +kernel)) (ok_l _)
theorem pin_1 (h : hasB σ x = false) : pinO σ x b = .inr iOE := by rw [pinO, if_pos h]
theorem pin_2 {j : Nat} (hj : j < 24) (hx : x = nI j) (h : hasB σ x = true) : pinO σ x b = rI (pinC (pnS σ j (bI b)) (σ 1 j)) ∧ pnS σ j (bI b) = pnS σ x.toNatClampNeg (bI b) := by
  subst hx
  rw [pinO, if_neg (tf h), nI_clamp (by omega)]
  exact ⟨rfl, rfl⟩
theorem gib_ok : oK [iOE, iAE, iSE] (gibO σ x y) := ok_i (ok_r (by decide +kernel)) (ok_i (ok_r (by decide +kernel)) (ok_i (ok_r (by decide +kernel)) (ok_i (ok_l _) (ok_r (by decide +kernel)))))
theorem gib_1 (h : isArB x = false) : gibO σ x y = .inr iOE := by rw [gibO, if_pos h]
theorem gib_2 (h : isArB x = true) (h2 : isArB y = false) : gibO σ x y = .inr iOE := by rw [gibO, if_neg (tf h), if_pos h2]
theorem gib_3 {a : Nat} (ha : a < 6) (hx : x = nI a) (hy : y = nI a) : gibO σ x y = .inr iAE := by
  subst hx
  subst hy
  rw [gibO, if_neg (tf (isArB_nI ha)), if_neg (tf (isArB_nI ha)), if_pos rfl]
theorem gib_4 {a b : Nat} (ha : a < 6) (hb : b < 6) (hx : x = nI a) (hy : y = nI b) (hab : ¬ a = b) (hr : ¬ rsC σ (nI a) (nI b) = 0) : gibO σ x y = .inr iSE := by
  subst hx
  subst hy
  rw [gibO, if_neg (tf (isArB_nI ha)), if_neg (tf (isArB_nI hb)), if_neg (fun e => hab ((nI_eq (by omega) (by omega)).mp e)), if_neg hr]
theorem gib_5 {a b : Nat} (ha : a < 6) (hb : b < 6) (hx : x = nI a) (hy : y = nI b) (hab : ¬ a = b) (hr : rsC σ (nI a) (nI b) = 0) : gibO σ x y = rI (suC σ (nI a) 3 0) ∧ gbS σ a b = gbS σ x.toNatClampNeg y.toNatClampNeg := by
  subst hx
  subst hy
  rw [gibO, if_neg (tf (isArB_nI ha)), if_neg (tf (isArB_nI hb)), if_neg (fun e => hab ((nI_eq (by omega) (by omega)).mp e)), if_pos hr, nI_clamp (by omega), nI_clamp (by omega)]
  exact ⟨rfl, rfl⟩
theorem clo_ok : oK [iOE, iSE] (cloO σ x) := ok_i (ok_r (by decide +kernel)) (ok_i (ok_r (by decide +kernel)) (ok_i (ok_l _) (ok_r (by decide +kernel))))
theorem clo_1 (h : isArB x = false) : cloO σ x = .inr iOE := by rw [cloO, if_pos h]
theorem clo_2 {a : Nat} (ha : a < 6) (hx : x = nI a) (h : isOpB σ (nI a) = false ∨ ¬ suC σ (nI a) 3 0 ≤ 0) : cloO σ x = .inr iSE := by
  subst hx
  rw [cloO, if_neg (tf (isArB_nI ha))]
  split
  · rfl
  · rename_i c1
    rw [if_neg (h.resolve_left c1)]
theorem clo_3 {a : Nat} (ha : a < 6) (hx : x = nI a) (h1 : isOpB σ (nI a) = true) (h2 : suC σ (nI a) 3 0 ≤ 0) : cloO σ x = rI ((freeL σ (nI a) 24).2) ∧ freeS σ a = freeS σ x.toNatClampNeg := by
  subst hx
  rw [cloO, if_neg (tf (isArB_nI ha)), if_neg (tf h1), if_pos h2, nI_clamp (by omega)]
  exact ⟨rfl, rfl⟩
theorem stt_ok : oK [iOE, iAE] (sttO σ x v) := ok_i (ok_r (by decide +kernel)) (ok_i (ok_r (by decide +kernel)) (ok_l _))
theorem stt_1 (h : isSeB x = false) : sttO σ x v = .inr iOE := by rw [sttO, if_pos (by rw [← iSe_dg]; exact h)]
theorem stt_2 {i : Nat} (hi : i < 2) (hx : x = nI i) (hv : v < 0 ∨ ¬ v ≤ nI (if i = 1 then 2 else 1)) : sttO σ x v = .inr iAE := by
  subst hx
  rw [sttO, if_neg (tf (dg_nI (n := 1) hi (by decide))), nI_clamp (by omega), if_pos (dig_no (hv.elim (fun q => Or.inl (by rw [nI_0]; exact q)) (fun q => Or.inr (by
    rcases (show i = 0 ∨ i = 1 by omega) with rfl | rfl
    · exact q
    · exact q))))]
theorem stt_3 {i : Nat} (hi : i < 2) (hx : x = nI i) (h1 : ¬ v < 0) (h2 : v ≤ nI (if i = 1 then 2 else 1)) : sttO σ x v = rI (σ 11 i) ∧ seS σ i v = seS σ x.toNatClampNeg v := by
  subst hx
  rw [sttO, if_neg (tf (dg_nI (n := 1) hi (by decide))), nI_clamp (by omega), if_neg (tf ((dig_le _ _ _).mpr ⟨by rw [nI_0]; exact h1, by
    rcases (show i = 0 ∨ i = 1 by omega) with rfl | rfl
    · exact h2
    · exact h2⟩))]
  exact ⟨rfl, rfl⟩
theorem app_ok : oK [iAE, iSE] (appO nn q) := ok_i (ok_r (by decide +kernel)) (ok_i (ok_r (by decide +kernel)) (ok_l _))
theorem app_1 (h : q < nI 33 ∨ ¬ q ≤ nI 126) : appO nn q = .inr iAE := by rw [appO, if_pos (dig_no h)]
theorem app_2 (hτ : RTX τ cd nn) (h1 : ¬ q < nI 33) (h2 : q ≤ nI 126) (h3 : fullB τ = true) : appO nn q = .inr iSE := by
  rw [full_t hτ] at h3
  rw [appO, if_neg (tf ((dig_le _ _ _).mpr ⟨h1, h2⟩)), if_pos]
  split at h3
  · assumption
  · cases h3
theorem app_3 (hτ : RTX τ cd nn) (h1 : ¬ q < nI 33) (h2 : q ≤ nI 126) (h3 : fullB τ = false) : appO nn q = rI (addT τ q 1 0) := by
  rw [full_t hτ] at h3
  have hn : ¬ nn = 60 := by
    intro e
    rw [if_pos e] at h3
    cases h3
  have hle := hτ.2.1
  rw [appO, if_neg (tf ((dig_le _ _ _).mpr ⟨h1, h2⟩)), if_neg hn, adt_t hτ (by omega), rw2_s]
  rfl
theorem aft_r1 {o : OC} {E : String} {T : Nat → Nat → Int32} (h : o = .inr E) : (.inr E : OC) = o ∧ τ = aft o T τ := by
  subst h
  exact ⟨rfl, rfl⟩
theorem aft_l1 {o : OC} {T : Nat → Nat → Int32} (h : o = rI v) : rI v = o ∧ T = aft o T τ := by
  subst h
  exact ⟨rfl, rfl⟩
theorem mka_ok : oK [iOE, iAE, iSE] (mkaO σ τ x) := ok_i (ok_r (by decide +kernel)) (ok_i (ok_r (by decide +kernel)) (ok_i (ok_r (by decide +kernel)) (ok_l _)))
theorem mka_1 (h : isArB x = false) : mkaO σ τ x = .inr iOE := by rw [mkaO, if_pos h]
theorem mka_2 (h : isArB x = true) (h2 : okB (stL τ 60 0 (nI 0)) = false) : mkaO σ τ x = .inr iAE := by rw [mkaO, if_neg (tf h), if_pos h2]
theorem mka_3 (h : isArB x = true) (h2 : okB (stL τ 60 0 (nI 0)) = true) (h3 : isOpB σ x = false) : mkaO σ τ x = .inr iSE := by rw [mkaO, if_neg (tf h), if_neg (tf h2), if_pos h3]
theorem mka_4 {k : Nat} (hk : k < 6) (hx : x = nI k) (h2 : okB (stL τ 60 0 (nI 0)) = true) (h3 : isOpB σ x = true) : mkaO σ τ x = rI (nI (mkP k 60 σ τ 0 0).2.2) ∧ (mkP k 60 σ τ 0 0).1 = (mkP x.toNatClampNeg 60 σ τ 0 0).1 ∧ emptyT (mkP k 60 σ τ 0 0).2.1 = emptyT (mkP x.toNatClampNeg 60 σ τ 0 0).2.1 := by
  subst hx
  rw [mkaO, if_neg (tf (isArB_nI hk)), if_neg (tf h2), if_neg (tf h3), nI_clamp (by omega)]
  exact ⟨rfl, rfl, rfl⟩
theorem mka_S (hτ : RTX τ cd nn) : ∃ S : Nat → Prop, okB (stL τ 60 0 (nI 0)) = true → pkS τ S := by
  cases h : okB (stL τ 60 0 (nI 0))
  · exact ⟨fun _ => True, fun h => by cases h⟩
  · obtain ⟨k, hk⟩ := ct_ex hτ h
    exact ⟨_, fun _ => ct_pk hτ hk⟩
theorem und_ok : oK [iSE] (undO sv) := ok_i (ok_r (by decide +kernel)) (ok_l _)
theorem und_1 (hs : η 2 0 = nI sv) (h6 : sv ≤ 6) (h : η 2 0 = 0) : undO sv = .inr iSE := by rw [undO, if_pos ((nI_eq0 (by omega)).mp (hs.symm.trans h))]
theorem und_2 (hs : η 2 0 = nI sv) (h6 : sv ≤ 6) (h : ¬ η 2 0 = 0) : undO sv = rI (nI (sv - 1)) := by rw [undO, if_neg (fun e => h (hs.trans (by rw [e]; rfl)))]
theorem aft_r3 {o : OC} {E : String} {S H : Nat → Nat → Int32} {hσ : Nat → Nat → Nat → Int32} (h : o = .inr E) : (.inr E : OC) = o ∧ σ = aft o S σ ∧ η = aft o H η ∧ hσ = hσ := by
  subst h
  exact ⟨rfl, rfl, rfl, rfl⟩
theorem aft_l3 {o : OC} {S H : Nat → Nat → Int32} {hσ : Nat → Nat → Nat → Int32} (h : o = rI v) : rI v = o ∧ S = aft o S σ ∧ H = aft o H η ∧ hσ = hσ := by
  subst h
  exact ⟨rfl, rfl, rfl, rfl⟩
theorem obj_ok : oK [iOE, iAE] (objO σ x w) := ok_i (ok_r (by decide +kernel)) (ok_i (ok_r (by decide +kernel)) (ok_l _))
theorem obj_1 (h : hasB σ x = false) : objO σ x w = .inr iOE := by rw [objO, if_pos h]
theorem obj_2 (h : hasB σ x = true) (hw : w < 0 ∨ ¬ w < nI 12) : objO σ x w = .inr iAE := by rw [objO, if_neg (tf h), if_pos (dig_nl (n := 11) (by decide) hw)]
theorem obj_3 {j q : Nat} (hj : j < 24) (hx : x = nI j) (hq : q < 12) (hw : w = nI q) (h : hasB σ x = true) : objO σ x w = rI (opC σ j q) := by
  subst hx
  subst hw
  rw [objO, if_neg (tf h), if_neg (tf (dg_nI (n := 11) hq (by decide))), nI_clamp (by omega), nI_clamp (by omega)]
theorem are_ok : oK [iOE, iAE] (areO σ x w) := ok_i (ok_r (by decide +kernel)) (ok_i (ok_r (by decide +kernel)) (ok_l _))
theorem are_1 (h : isArB x = false) : areO σ x w = .inr iOE := by rw [areO, if_pos h]
theorem are_2 (h : isArB x = true) (hw : w < 0 ∨ ¬ w < nI 8) : areO σ x w = .inr iAE := by rw [areO, if_neg (tf h), if_pos (dig_nl (n := 7) (by decide) hw)]
theorem are_3 {k q : Nat} (hk : k < 6) (hx : x = nI k) (hq : q < 8) (hw : w = nI q) : areO σ x w = rI (apC σ k q) := by
  subst hx
  subst hw
  rw [areO, if_neg (tf (isArB_nI hk)), if_neg (tf (dg_nI (n := 7) hq (by decide))), nI_clamp (by omega), nI_clamp (by omega)]
theorem at_ok : oK [iOE] (atO σ x w) := ok_i (ok_r (by decide +kernel)) (ok_i (ok_r (by decide +kernel)) (ok_l _))
theorem at_1 (h : isArB x = false) : atO σ x w = .inr iOE := by rw [atO, if_pos h]
theorem at_2 (h : isArB x = true) (hw : w < 0 ∨ ¬ w < nI 64) : atO σ x w = .inr iOE := by rw [atO, if_neg (tf h), if_pos (dig_nl (n := 63) (by decide) hw)]
theorem at_3 (h : isArB x = true) (h1 : ¬ w < 0) (h2 : w < nI 64) : atO σ x w = rI (lowI (fun o => atP σ x w o) 24) := by rw [atO, if_neg (tf h), if_neg (tf (dig_yl (n := 63) (by decide) h1 h2))]
theorem cou_ok : oK [iAE] (couO σ η w) := ok_i (ok_r (by decide +kernel)) (ok_l _)
theorem cou_1 (hw : w < 0 ∨ ¬ w < nI 11) : couO σ η w = .inr iAE := by rw [couO, if_pos (dig_nl (n := 10) (by decide) hw)]
theorem cou_2 {q : Nat} (hq : q < 11) (hw : w = nI q) : couO σ η w = rI (ctC σ η q) := by
  subst hw
  rw [couO, if_neg (tf (dg_nI (n := 10) hq (by decide))), nI_clamp (by omega)]
theorem sg_ok : oK [iOE] (setO σ x) := ok_i (ok_r (by decide +kernel)) (ok_l _)
theorem sg_1 (h : isSeB x = false) : setO σ x = .inr iOE := by rw [setO, if_pos (by rw [← iSe_dg]; exact h)]
theorem sg_2 {i : Nat} (hi : i < 2) (hx : x = nI i) : setO σ x = rI (σ 11 i) := by
  subst hx
  rw [setO, if_neg (tf (dg_nI (n := 1) hi (by decide))), nI_clamp (by omega)]
theorem why_ok : oK [iOE] (whyO σ x y) := ok_i (ok_r (by decide +kernel)) (ok_i (ok_r (by decide +kernel)) (ok_l _))
theorem why_1 (h : isArB x = false) : whyO σ x y = .inr iOE := by rw [whyO, if_pos h]
theorem why_2 (h : isArB x = true) (h2 : isArB y = false) : whyO σ x y = .inr iOE := by rw [whyO, if_neg (tf h), if_pos h2]
theorem why_3 (h : isArB x = true) (h2 : isArB y = true) : whyO σ x y = rI (rsC σ x y) := by rw [whyO, if_neg (tf h), if_neg (tf h2)]
theorem giv_ok : oK [iOE] (givO σ x y) := ok_i (ok_r (by decide +kernel)) (ok_i (ok_r (by decide +kernel)) (ok_l _))
theorem giv_1 (h : hasB σ x = false) : givO σ x y = .inr iOE := by rw [givO, if_pos h]
theorem giv_2 (h : hasB σ x = true) (h2 : isArB y = false) : givO σ x y = .inr iOE := by rw [givO, if_neg (tf h), if_pos h2]
theorem giv_3 (h : hasB σ x = true) (h2 : isArB y = true) : givO σ x y = rI (gvC σ x y) := by rw [givO, if_neg (tf h), if_neg (tf h2)]
theorem los_ok : oK [iOE] (losO σ x) := ok_i (ok_r (by decide +kernel)) (ok_l _)
theorem los_1 (h : hasB σ x = false) : losO σ x = .inr iOE := by rw [losO, if_pos h]
theorem los_2 (h : hasB σ x = true) : losO σ x = rI (lostC σ x) := by rw [losO, if_neg (tf h)]
end OLS
/-! the share's doubles -/
def totS (σ : Nat → Nat → Int32) : Nat → Nat
  | 0 => 0
  | n + 1 => totS σ n + if σ 0 n = nI 1 then (σ 3 n).toNatClampNeg else 0
section SHR
variable {σ : Nat → Nat → Int32} {N : Nat → Int32}
theorem cells_tot (hR : RI σ N) (w : Int32) : ∀ n, n ≤ 24 → ∃ z, z ≤ totS σ n ∧ cellsL σ (trC σ w) n = nI z
  | 0, _ => ⟨0, Nat.le_refl _, rfl⟩
  | n + 1, hn => by
    obtain ⟨z, hz, e⟩ := cells_tot hR w n (by omega)
    rcases hp : plB (trC σ w) n with _ | _
    · exact ⟨z, by rw [totS]; omega, by rw [← cell_f (by omega) hp, e, add_0]⟩
    · have hu := has_used hR (by omega) (tr_used hR.1.2.2.2.2.2.1 w n (by omega) hp)
      obtain ⟨k, y, d, q, h1, h2, h3, h4, h5, e1, e2, e3, e4, e5⟩ := hR.1.2.2.2.2.1 n (by omega) hu
      refine ⟨z + y, ?_, by rw [← cell_t (by omega) hp, e, e3, nI_add]⟩
      rw [totS, if_pos hu, e3, nI_clamp (by omega)]
      omega
theorem tot_sz (hR : RI σ N) : ∀ n, n ≤ 24 → totS σ n = szS σ 0 n + szS σ 1 n + szS σ 2 n + szS σ 3 n + szS σ 4 n + szS σ 5 n
  | 0, _ => rfl
  | n + 1, hn => by
    have ih := tot_sz hR n (by omega)
    rcases hR.flag (o := n) (by omega) with e | e
    · have ne : ¬ σ 0 n = nI 1 := by rw [e]; decide
      simp only [totS, szS, ne, if_false, false_and]
      omega
    · obtain ⟨k, y, d, q, h1, h2, h3, h4, h5, e1, e2, e3, e4, e5⟩ := hR.1.2.2.2.2.1 n (by omega) e
      have hk : ∀ j, j < 6 → ((σ 0 n = nI 1 ∧ σ 1 n = nI j) ↔ j = k) := fun j hj => by
        rw [e1]
        constructor
        · rintro ⟨-, h⟩
          exact ((nI_eq (by omega) (by omega)).mp h).symm
        · rintro rfl
          exact ⟨e, rfl⟩
      simp only [totS, szS, if_pos e, hk 0 (by omega), hk 1 (by omega), hk 2 (by omega), hk 3 (by omega), hk 4 (by omega), hk 5 (by omega)]
      rcases (show k = 0 ∨ k = 1 ∨ k = 2 ∨ k = 3 ∨ k = 4 ∨ k = 5 by omega) with rfl | rfl | rfl | rfl | rfl | rfl <;> simp <;> omega
theorem mk_tot (hR : RI σ N) : ∃ M, totS σ 24 ≤ M ∧ M ≤ 384 ∧ mkL σ 6 = nI M := by
  have ht := tot_sz hR 24 (Nat.le_refl _)
  obtain ⟨-, q0, a0, b0, c0⟩ := hR.1.2.1 0 (by omega)
  obtain ⟨-, q1, a1, b1, c1⟩ := hR.1.2.1 1 (by omega)
  obtain ⟨-, q2, a2, b2, c2⟩ := hR.1.2.1 2 (by omega)
  obtain ⟨-, q3, a3, b3, c3⟩ := hR.1.2.1 3 (by omega)
  obtain ⟨-, q4, a4, b4, c4⟩ := hR.1.2.1 4 (by omega)
  obtain ⟨-, q5, a5, b5, c5⟩ := hR.1.2.1 5 (by omega)
  refine ⟨0 + q0 + q1 + q2 + q3 + q4 + q5, by omega, by omega, ?_⟩
  simp only [mkL]
  rw [b0, b1, b2, b3, b4, b5, nI_add, nI_add, nI_add, nI_add, nI_add, nI_add]
theorem share_okD (hR : RI σ N) : okD (shC σ) := by
  obtain ⟨z, hz, e⟩ := cells_tot hR (-1) 24 (Nat.le_refl _)
  obtain ⟨M, h1, h2, e2⟩ := mk_tot hR
  rw [shC]
  split
  · rename_i c
    have hM : 0 < M := by
      rcases Nat.eq_zero_or_pos M with q | q
      · rw [e2, q] at c
        exact absurd c (by decide)
      · exact q
    rw [e, e2]
    rcases Nat.eq_zero_or_pos z with q | q
    · rw [q]
      exact Or.inl (share_0 hM (by omega))
    · exact Or.inr (share_dB q (by omega) (by omega))
  · exact Or.inr ⟨0, 0, by decide, by decide, one_dB⟩
theorem n64_ok {d : UInt64} (h : okD d) : vf_n64 d := by
  rcases h with rfl | ⟨v, k, hv, hk, rfl⟩
  · unfold vf_n64
    decide
  · exact dB_nan hv
theorem share_n (hR : RI σ N) : 0 < mkL σ 6 → vf_n64 (FP.ddiv (FP.i2d (cellsL σ (trC σ (-1)) 24)) (FP.i2d (mkL σ 6))) := fun c => by
  have h := n64_ok (share_okD hR)
  rw [shC, if_pos c] at h
  exact h
end SHR
