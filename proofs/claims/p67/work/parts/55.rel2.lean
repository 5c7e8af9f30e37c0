/-! what a public method of the class leaves -/
def req2 (b c : Bool) (E F : String) : Ans := if b then reqA c F else .inr E
def ans2 (b c : Bool) (E F : String) (v : Value) : Ans := if b then ansA c F v else .inr E
theorem req2_inl {b c : Bool} {E F : String} {v : Option Value} (h : (.inl v : Ans) = req2 b c E F) : b = true ∧ c = true ∧ v = none := by
  cases b with
  | true => exact ⟨rfl, reqA_inl h⟩
  | false => cases h
theorem req2_inr {b c : Bool} {E F E2 : String} (h : (.inr E2 : Ans) = req2 b c E F) : (b && c) = false ∧ ∀ v, (.inr E2 : Ans) = ans2 b c E F v := by
  cases b with
  | true =>
    obtain ⟨g, e⟩ := reqA_inr h
    subst e
    subst g
    exact ⟨rfl, fun v => rfl⟩
  | false =>
    have e := Sum.inr.inj h
    subst e
    exact ⟨rfl, fun v => rfl⟩
theorem ans2_t {b c : Bool} {E F : String} {v w : Value} (h : b = true) (h2 : c = true) (e : w = v) : (.inl (some w) : Ans) = ans2 b c E F v := by rw [h, h2, e]; rfl
theorem ans2_f {b c : Bool} {E F : String} {v : Value} (h : b = false) : (.inr E : Ans) = ans2 b c E F v := by rw [h]; rfl
theorem ans2_n {b c : Bool} {E F : String} {v : Value} (h : b = true) (h2 : c = false) : (.inr F : Ans) = ans2 b c E F v := by rw [h, h2]; rfl
def FrCh (σ τ : St) : Prop := (∀ k j, ¬ (k = 0 ∧ (j = 3 ∨ j = 4)) → ¬ (1 ≤ k ∧ k < 15) → ¬ (24 ≤ k ∧ k < 80) → sF τ k j = sF σ k j) ∧ (∀ k, ¬ (1 ≤ k ∧ k < 15) → ¬ (24 ≤ k ∧ k < 80) → sA τ k = sA σ k) ∧ τ.2.2 = σ.2.2
theorem FrCh.rf {σ : St} : FrCh σ σ := ⟨fun _ _ _ _ _ => rfl, fun _ _ _ => rfl, rfl⟩
theorem FrCh.trans {σ τ υ : St} (h : FrCh σ τ) (h2 : FrCh τ υ) : FrCh σ υ := ⟨fun k j a b c => (h2.1 k j a b c).trans (h.1 k j a b c), fun k a b => (h2.2.1 k a b).trans (h.2.1 k a b), h2.2.2.trans h.2.2⟩
theorem FrS.ch {p : Nat} {σ τ : St} (h : FrS p σ τ) (hp : p = 1 ∨ p = 8) : FrCh σ τ := ⟨fun k j a b c => by rw [h.1 k (by omega)], fun k a b => h.2.1 k (by omega), h.2.2⟩
theorem FrRm.ch {σ τ : St} (h : FrRm σ τ) : FrCh σ τ := ⟨fun k j a b c => h.1 k j a c, fun k a b => h.2.1 k b, h.2.2⟩
theorem FrRm.RC {σ τ : St} {u : Vw} {qq : Nat → Nat} {p : Nat} (h : FrRm σ τ) (hp : p = 1 ∨ p = 8 ∨ p = 80 ∨ p = 87) (hR : RC σ p u qq) : RC τ p u qq :=
  hR.keep (funext (fun j => h.1 p j (by omega) (by omega))) (fun k a b => h.2.1 k (by omega))
theorem CH.frS {p : Nat} {σ τ : St} {r : Nat} {hv : Nat → Vw} (h : FrS p σ τ) (hp : p = 1 ∨ p = 8) (hH : CH σ r hv) : CH τ r hv := by
  obtain ⟨np, h1, h3, h4, h5, h6⟩ := hH
  refine ⟨np, h1, by rw [h.1 0 (by omega)]; exact h3, by rw [h.1 0 (by omega)]; exact h4, h5, fun i hi => ?_⟩
  obtain ⟨q2, hR⟩ := h6 i hi
  exact ⟨q2, hR.keep (h.1 _ (by omega)) (fun k a b => h.2.1 k (by omega))⟩
/-- a change: the state before is remembered, the state is v; or nothing happens -/
def CHG (g : Bool) (σ τ : St) (r : Nat) (hv : Nat → Vw) (u v : Vw) : Prop := FrCh σ τ ∧ (g = true → CH τ (pushN r) (pushV r hv u) ∧ ∃ qq, RC τ 1 v qq) ∧ (g = false → τ = σ)
theorem CHG.no {g : Bool} {σ : St} {r : Nat} {hv : Nat → Vw} {u v : Vw} (h : g = false) : CHG g σ σ r hv u v := ⟨FrCh.rf, fun z => by rw [h] at z; (cases z), fun _ => rfl⟩
theorem CHG.yes {g : Bool} {σ τ υ : St} {r : Nat} {hv : Nat → Vw} {u v : Vw} {qq : Nat → Nat} (h : g = true) (h1 : FrRm σ τ) (h2 : CH τ (pushN r) (pushV r hv u)) (h3 : FrS 1 τ υ) (h4 : RC υ 1 v qq) : CHG g σ υ r hv u v :=
  ⟨h1.ch.trans (h3.ch (Or.inl rfl)), fun _ => ⟨h2.frS h3 (Or.inl rfl), qq, h4⟩, fun z => by rw [h] at z; cases z⟩
/-- waits and rides are times -/
theorem i32_add {a b : Int32} (ha : 0 ≤ a.toInt ∧ a.toInt < 100000000) (hb : 0 ≤ b.toInt ∧ b.toInt ≤ a.toInt) : a - b = nI (a.toNatClampNeg - b.toNatClampNeg) := by
  have e1 := nI_back ha.1
  have e2 := nI_back hb.1
  have c1 := clamp_int ha.1
  have c2 := clamp_int hb.1
  exact (by rw [← e1, ← e2] : a - b = nI a.toNatClampNeg - nI b.toNatClampNeg).trans (pk_sub (by omega))
theorem nI_nn {a : Nat} (h : a < 100000000) : ¬ nI a < 0 := nlt0 h
theorem Iu.wt {u : Vw} (h : Iu u) {i : Nat} (hi : i < un u) : wtI u i = -1 ∨ ∃ a, a < 100000000 ∧ wtI u i = nI a := by
  obtain ⟨-, -, -, h2, h3, -⟩ := h.2.2.2.2.2.2.2.1 i hi
  unfold wtI
  by_cases e : ur u 3 i = -1
  · rw [if_pos e]; exact Or.inl rfl
  · rw [if_neg e]
    have h4 := h3.resolve_left e
    have ht := h.2.2.2.2.1.2
    have e1 := clamp_int (show 0 ≤ (ur u 3 i).toInt by omega)
    exact Or.inr ⟨_, by omega, i32_add ⟨by omega, by omega⟩ ⟨h2.1, h4.1⟩⟩
theorem Iu.rd {u : Vw} (h : Iu u) {i : Nat} (hi : i < un u) : rdI u i = -1 ∨ ∃ a, a < 100000000 ∧ rdI u i = nI a := by
  obtain ⟨-, -, -, h2, h3, h4⟩ := h.2.2.2.2.2.2.2.1 i hi
  unfold rdI
  by_cases e : ur u 4 i = -1
  · rw [if_pos e]; exact Or.inl rfl
  · rw [if_neg e]
    have h5 := h4.resolve_left e
    have h6 := h3.resolve_left h5.1
    have ht := h.2.2.2.2.1.2
    have e1 := clamp_int (show 0 ≤ (ur u 4 i).toInt by omega)
    exact Or.inr ⟨_, by omega, i32_add ⟨by omega, by omega⟩ ⟨by omega, h5.2.1⟩⟩
theorem nz_of {x : Int32} (h : x = -1 ∨ ∃ a, a < 100000000 ∧ x = nI a) : (if x < 0 then 0 else x) = nz x := by
  unfold nz
  rcases h with z | ⟨a, ha, z⟩
  · rw [z]; rfl
  · rw [z, if_neg (nI_nn ha), if_neg (nne1 ha)]
theorem Iu.hw {u : Vw} (h : Iu u) : ∀ i, i < un u → (if wtI u i < 0 then 0 else wtI u i) = nz (wtI u i) := fun _ hi => nz_of (h.wt hi)
theorem Iu.hr {u : Vw} (h : Iu u) : ∀ i, i < un u → (if rdI u i < 0 then 0 else rdI u i) = nz (rdI u i) := fun _ hi => nz_of (h.rd hi)
theorem Iu.own {u : Vw} (h : Iu u) : Iu (uS (uS u 2 (us u 2)) 1 (us u 1)) := h.pc h.2.2.2.1 h.2.2.1 h.2.2.2.2.2.2.2.2
theorem Iu.ownC {u : Vw} (h : Iu u) {x : Int32} (hx : okI 0 2 x = true) : Iu (uS (uS u 2 x) 1 (us u 1)) := h.pc (okI_2 hx) h.2.2.1 h.2.2.2.2.2.2.2.2
theorem Iu.ownP {u : Vw} (h : Iu u) {x : Int32} (hx : okI 1 8 x = true) (hm : decide (nI (many u 2) ≤ x) = true) : Iu (uS (uS u 2 (us u 2)) 1 x) := by
  unfold okI at hx
  simp only [Bool.and_eq_true, decide_eq_true_eq] at hx hm
  have h1 := Int32.le_iff_toInt_le.mp hx.1
  have h2 := Int32.le_iff_toInt_le.mp hx.2
  have h3 := Int32.le_iff_toInt_le.mp hm
  have h4 : many u 2 ≤ un u := cnt_le _ _
  have h5 := h.1
  rw [nI_int (by omega)] at h3
  exact h.pc h.2.2.2.1 ⟨h1, h2⟩ h3
/-- the policy of the least waits, as the class seeks it -/
def fcw (u : Vw) (p : Int32) : Int32 := wsum (fcu u p (us u 1))
def bpL (u : Vw) : Nat → Int32 × Int32
  | 0 => (0, fcw u 0)
  | k + 1 => if fcw u (nI (k + 1)) < (bpL u k).2 then (nI (k + 1), fcw u (nI (k + 1))) else bpL u k
