/-! more that stands in every state: marks, cells apart, counts -/
def cuN (σ : Nat → Nat → Int32) : Nat := cn (fun o => nz (σ 0 o)) 24
def J1x (x : Nat) (σ : Nat → Nat → Int32) : Prop := ∀ c, c < 6 → c ≠ x → σ 9 c = nI (szS σ c 24)
def J2 (σ : Nat → Nat → Int32) : Prop := ∀ o j, o < 24 → j < 24 → o ≠ j → σ 0 o = nI 1 → σ 0 j = nI 1 → σ 1 o = σ 1 j → (σ 2 o).toNatClampNeg + (σ 3 o).toNatClampNeg ≤ (σ 2 j).toNatClampNeg ∨ (σ 2 j).toNatClampNeg + (σ 3 j).toNatClampNeg ≤ (σ 2 o).toNatClampNeg
def J3 (B : Nat) (σ : Nat → Nat → Int32) : Prop := ∃ L, L ≤ B ∧ σ 12 1 = nI L ∧ ∀ o, o < 24 → ∃ n, n ≤ L ∧ σ 7 o = nI n
def J4 (B g : Nat) (σ : Nat → Nat → Int32) : Prop := ∃ M G, M ≤ B ∧ σ 12 0 = nI M ∧ σ 12 2 = nI G ∧ M = cuN σ + G + g
def J5 (B : Nat) (σ : Nat → Nat → Int32) : Prop := ∀ a, a < 6 → ∃ P, P ≤ B ∧ σ 10 a = nI P ∧ (σ 8 a = nI 1 → 1 ≤ P)
def JJ (B : Nat) (σ : Nat → Nat → Int32) : Prop := Inv σ ∧ J1x 6 σ ∧ J2 σ ∧ J3 B σ ∧ J4 B 0 σ ∧ J5 B σ
theorem JJ.mono {B B' : Nat} {σ : Nat → Nat → Int32} (h : JJ B σ) (hb : B ≤ B') : JJ B' σ := by
  obtain ⟨h1, h2, h3, ⟨L, a1, a2⟩, ⟨M, G, b1, b2⟩, h6⟩ := h
  refine ⟨h1, h2, h3, ⟨L, by omega, a2⟩, ⟨M, G, by omega, b2⟩, fun a ha => ?_⟩
  obtain ⟨P, c1, c2⟩ := h6 a ha
  exact ⟨P, by omega, c2⟩
section JE
variable {σ σ' : Nat → Nat → Int32}
theorem j1_eq {x : Nat} (h : J1x x σ) (h0 : σ' 0 = σ 0) (h1 : σ' 1 = σ 1) (h3 : σ' 3 = σ 3) (h9 : σ' 9 = σ 9) : J1x x σ' := fun c hc hx => by rw [h9, szS_eq h0 h1 h3]; exact h c hc hx
theorem j2_eq (h : J2 σ) (h0 : σ' 0 = σ 0) (h1 : σ' 1 = σ 1) (h2 : σ' 2 = σ 2) (h3 : σ' 3 = σ 3) : J2 σ' := fun o j => by rw [h0, h1, h2, h3]; exact h o j
theorem j3_eq {B : Nat} (h : J3 B σ) (h7 : σ' 7 = σ 7) (h12 : σ' 12 = σ 12) : J3 B σ' := by rw [J3, h7, h12]; exact h
theorem j4_eq {B g : Nat} (h : J4 B g σ) (h0 : σ' 0 = σ 0) (h12 : σ' 12 = σ 12) : J4 B g σ' := by rw [J4, h12, cuN, h0]; exact h
theorem j5_eq {B : Nat} (h : J5 B σ) (h8 : σ' 8 = σ 8) (h10 : σ' 10 = σ 10) : J5 B σ' := by rw [J5, h8, h10]; exact h
theorem jj_row {B : Nat} (h : JJ B σ) (hI : Inv σ') (r : Nat) (hr : r = 4 ∨ r = 5 ∨ r = 6 ∨ r = 11) (e : ∀ k, k ≠ r → σ' k = σ k) : JJ B σ' := by
  obtain ⟨h1, h2, h3, h4, h5, h6⟩ := h
  have e0 := e 0 (by omega)
  have e1 := e 1 (by omega)
  have e2 := e 2 (by omega)
  have e3 := e 3 (by omega)
  exact ⟨hI, j1_eq h2 e0 e1 e3 (e 9 (by omega)), j2_eq h3 e0 e1 e2 e3, j3_eq h4 (e 7 (by omega)) (e 12 (by omega)), j4_eq h5 e0 (e 12 (by omega)), j5_eq h6 (e 8 (by omega)) (e 10 (by omega))⟩
end JE
theorem jj_root {B : Nat} {σ : Nat → Nat → Int32} (h : JJ B σ) {j : Nat} (hj : j < 24) (hu : σ 0 j = nI 1) (b : Bool) : JJ B (rtS σ j (bI b)) :=
  jj_row h (ri_root (ri_ex h.1) hj hu b).1 5 (by decide) (fun k hk => rw2_n _ _ hk)
theorem jj_pin {B : Nat} {σ : Nat → Nat → Int32} (h : JJ B σ) {j : Nat} (hj : j < 24) (hu : σ 0 j = nI 1) (b : Bool) : JJ B (pnS σ j (bI b)) :=
  jj_row h (ri_pin (ri_ex h.1) hj hu b).1 6 (by decide) (fun k hk => rw2_n _ _ hk)
theorem jj_link {B : Nat} {σ : Nat → Nat → Int32} (h : JJ B σ) {j f : Nat} (hj : j < 24) (hf : f < 2) (hu : σ 0 j = nI 1) {t : Int32} (ht : t = -1 ∨ ∃ q, q < 24 ∧ t = nI q ∧ σ 0 q = nI 1) : JJ B (rfS σ j f t) :=
  jj_row h (ri_link (ri_ex h.1) hj hf hu ht).1 4 (by decide) (fun k hk => rw2_n _ _ hk)
theorem jj_set {B : Nat} {σ : Nat → Nat → Int32} (h : JJ B σ) {i : Nat} (hi : i < 2) {v : Int32} (hv : (i = 0 ∧ (v = nI 0 ∨ v = nI 1)) ∨ (i = 1 ∧ (v = nI 0 ∨ v = nI 1 ∨ v = nI 2))) : JJ B (seS σ i v) :=
  jj_row h (ri_set (ri_ex h.1) hi hv).1 11 (by decide) (fun k hk => rw2_n _ _ hk)
theorem jj_hand {B : Nat} {σ : Nat → Nat → Int32} (h : JJ B σ) (hB : B < 1000000) {k : Nat} (hk : k < 6) : JJ (B + 1) (handS σ k) := by
  have r8 : ∀ i, handS σ k 8 i = if i = k then nI 1 else σ 8 i := fun i => by rw [handS, rw2_n _ _ (by decide), rw2_s, upd_e]
  have r10 : ∀ i, handS σ k 10 i = if i = k then σ 10 k + nI 1 else σ 10 i := fun i => by rw [handS, rw2_s, upd_e]
  have rn : ∀ r, r ≠ 8 → r ≠ 10 → handS σ k r = σ r := fun r h1 h2 => by rw [handS, rw2_n _ _ h2, rw2_n _ _ h1]
  have hI : Inv (handS σ k) := (ri_hand (N' := fun i => if i = 6 + 3 * k then nI 1 else if i = 6 + 3 * k + 2 then nOf σ (6 + 3 * k + 2) + nI 1 else nOf σ i) (ri_ex h.1) hk (if_pos rfl) (by rw [if_neg (by omega), if_neg (by omega)]) (by rw [if_neg (by omega), if_pos rfl]) (fun i _ hi => by rw [if_neg (by omega), if_neg (by omega)])).1
  obtain ⟨h1, h2, h3, h4, h5, h6⟩ := h.mono (show B ≤ B + 1 by omega)
  refine ⟨hI, j1_eq h2 (rn 0 (by decide) (by decide)) (rn 1 (by decide) (by decide)) (rn 3 (by decide) (by decide)) (rn 9 (by decide) (by decide)), j2_eq h3 (rn 0 (by decide) (by decide)) (rn 1 (by decide) (by decide)) (rn 2 (by decide) (by decide)) (rn 3 (by decide) (by decide)), j3_eq h4 (rn 7 (by decide) (by decide)) (rn 12 (by decide) (by decide)), j4_eq h5 (rn 0 (by decide) (by decide)) (rn 12 (by decide) (by decide)), fun a ha => ?_⟩
  obtain ⟨P, c1, c2, c3⟩ := h.2.2.2.2.2 a ha
  rw [r8, r10]
  by_cases e : a = k
  · subst e
    rw [if_pos rfl, if_pos rfl, c2, nI_add]
    exact ⟨P + 1, by omega, rfl, fun _ => by omega⟩
  · rw [if_neg e, if_neg e]
    exact ⟨P, by omega, c2, c3⟩
