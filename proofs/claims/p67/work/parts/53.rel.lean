/-! the class's remembered states; forecasts -/
def Ok (u : Vw) : Prop := Iu u ∧ uT u ≤ 999
theorem rem8 {a : Nat} (h : a < 16) : nI a - (nI a / 8) * 8 = nI (a % 8) := by
  have key : ∀ b, b < 16 → nI b - (nI b / 8) * 8 = nI (b % 8) := by decide +kernel
  exact key a h
theorem min8 {r : Nat} (h : r ≤ 8) : (if (8 : Int32) < nI (r + 1) then (8 : Int32) else nI (r + 1)) = nI (pushN r) := by
  have key : ∀ b, b < 9 → (if (8 : Int32) < nI (b + 1) then (8 : Int32) else nI (b + 1)) = nI (pushN b) := by decide +kernel
  exact key r (by omega)
theorem kd_past {i : Nat} (h : i < 8) : kd (24 + 7 * i) = 1 := by
  have key : ∀ b, b < 8 → kd (24 + 7 * b) = 1 := by decide +kernel
  exact key i h
theorem kd_slot {i : Nat} (h : i < 2) : kd (80 + 7 * i) = 1 := by
  have key : ∀ b, b < 2 → kd (80 + 7 * b) = 1 := by decide +kernel
  exact key i h
/-- the ring of the class: r states, the newest before place np -/
def CH (σ : St) (r : Nat) (hv : Nat → Vw) : Prop := ∃ np, np < 8 ∧ sF σ 0 3 = nI np ∧ sF σ 0 4 = nI r ∧ r ≤ 8 ∧ ∀ i, i < r → ∃ qq, RC σ (24 + 7 * ((np + 8 - r + i) % 8)) (hv i) qq
def FrRm (σ τ : St) : Prop := (∀ k j, ¬ (k = 0 ∧ (j = 3 ∨ j = 4)) → ¬ (24 ≤ k ∧ k < 80) → sF τ k j = sF σ k j) ∧ (∀ k, ¬ (24 ≤ k ∧ k < 80) → sA τ k = sA σ k) ∧ τ.2.2 = σ.2.2
theorem RC.place {σ : St} {p r : Nat} {u : Vw} {qq : Nat → Nat} (h : RC σ p u qq) (e : r = p) : RC σ r u qq := by rw [e]; exact h
theorem RC.keep {σ τ : St} {p : Nat} {u : Vw} {qq : Nat → Nat} (h : RC σ p u qq) (e1 : sF τ p = sF σ p) (e2 : ∀ k, p + 1 ≤ k → k ≤ p + 6 → sA τ k = sA σ k) : RC τ p u qq := by
  obtain ⟨h1, h2, h3, h4, h5, h6, h7, h8⟩ := h
  exact ⟨h1, fun j hj => by rw [e1]; exact h2 j hj, by rw [e1]; exact h3, by rw [e1]; exact h4, by rw [e1]; exact h5, fun c i hc hi => by rw [e2 _ (by omega) (by omega)]; exact h6 c i hc hi, fun i hi => by rw [e2 _ (by omega) (by omega)]; exact h7 i hi, h8⟩
theorem RC.fld {σ : St} {p k j : Nat} {u : Vw} {qq : Nat → Nat} {x : Int32} (h : RC σ p u qq) (hk : p ≠ k) : RC (stF σ k j x) p u qq := h.keep (up2_ne hk) (fun _ _ _ => rfl)
theorem CH.push {σ τ υ : St} {r np : Nat} {hv : Nat → Vw} {u : Vw} {qq : Nat → Nat} (hnp : np < 8) (h4 : r ≤ 8) (h5 : ∀ i, i < r → ∃ qq, RC σ (24 + 7 * ((np + 8 - r + i) % 8)) (hv i) qq) (hf : FrS (24 + 7 * np) σ τ) (hR : RC τ (24 + 7 * np) u qq) (e3 : sF υ 0 3 = nI ((np + 1) % 8)) (e4 : sF υ 0 4 = nI (pushN r)) (eF : ∀ k, k ≠ 0 → sF υ k = sF τ k) (eA : sA υ = sA τ) : CH υ (pushN r) (pushV r hv u) := by
  have keep : ∀ p w q2, p ≠ 0 → RC τ p w q2 → RC υ p w q2 := fun p w q2 hp h => h.keep (eF p hp) (fun k _ _ => by rw [eA])
  have old : ∀ i, i < r → (np + 8 - r + i) % 8 ≠ np → ∃ q2, RC υ (24 + 7 * ((np + 8 - r + i) % 8)) (hv i) q2 := fun i hi hne => by
    obtain ⟨q2, h⟩ := h5 i hi
    exact ⟨q2, keep _ _ _ (by omega) (h.fr hf (by omega))⟩
  have new : RC υ (24 + 7 * np) u qq := keep _ _ _ (by omega) hR
  refine ⟨(np + 1) % 8, by omega, e3, e4, ?_, fun i hi => ?_⟩
  · unfold pushN; split <;> omega
  · unfold pushN pushV at *
    by_cases h8 : r = 8
    · rw [if_pos h8] at hi ⊢
      simp only [if_pos h8]
      by_cases h7 : i < 7
      · rw [if_pos h7]
        obtain ⟨q2, h⟩ := old (i + 1) (by omega) (by omega)
        exact ⟨q2, h.place (by omega)⟩
      · rw [if_neg h7]
        exact ⟨qq, new.place (by omega)⟩
    · rw [if_neg h8] at hi ⊢
      simp only [if_neg h8]
      by_cases hr : i < r
      · rw [if_pos hr]
        obtain ⟨q2, h⟩ := old i hr (by omega)
        exact ⟨q2, h.place (by omega)⟩
      · rw [if_neg hr]
        exact ⟨qq, new.place (by omega)⟩
theorem CH.pop {σ τ : St} {r np : Nat} {hv : Nat → Vw} (hr : 0 < r) (hnp : np < 8) (h4 : r ≤ 8) (h5 : ∀ i, i < r → ∃ qq, RC σ (24 + 7 * ((np + 8 - r + i) % 8)) (hv i) qq) (e3 : sF τ 0 3 = nI ((np + 7) % 8)) (e4 : sF τ 0 4 = nI (r - 1)) (eF : ∀ k, 24 ≤ k → sF τ k = sF σ k) (eA : ∀ k, 24 ≤ k → sA τ k = sA σ k) : CH τ (r - 1) hv := by
  refine ⟨(np + 7) % 8, by omega, e3, e4, by omega, fun i hi => ?_⟩
  obtain ⟨q2, h⟩ := h5 i (by omega)
  exact ⟨q2, (h.keep (eF _ (by omega)) (fun k _ _ => eA k (by omega))).place (by omega)⟩
/-- another policy, another capacity -/
theorem uS_own {u : Vw} {j : Nat} : uS u j (us u j) = u := by
  obtain ⟨a, b, c⟩ := u
  have e : upd b j (b j) = b := funext (fun i => by
    by_cases h : i = j
    · subst h; rw [upd_at]
    · rw [upd_in h])
  show (a, upd b j (b j), c) = (a, b, c)
  rw [e]
theorem Iu.pc {u : Vw} (h : Iu u) {p c : Int32} (hp : 0 ≤ p.toInt ∧ p.toInt ≤ 2) (hc : 1 ≤ c.toInt ∧ c.toInt ≤ 8) (hm : (many u 2 : Int) ≤ c.toInt) : Iu (uS (uS u 2 p) 1 c) := by
  obtain ⟨a1, a2, a3, a4, a5, a6, a7, a8, a9⟩ := h
  refine ⟨a1, a2, hc, hp, a5, a6, a7, a8, ?_⟩
  rw [many_sc2, many_sc2]
  exact hm
theorem okI_2 {x : Int32} (h : okI 0 2 x = true) : 0 ≤ x.toInt ∧ x.toInt ≤ 2 := by
  unfold okI at h
  simp only [Bool.and_eq_true, decide_eq_true_eq] at h
  exact ⟨i32_le0 h.1, Int32.le_iff_toInt_le.mp h.2⟩
theorem uT_sc {u : Vw} {j : Nat} {x : Int32} (h : j ≠ 3) : uT (uS u j x) = uT u := by
  unfold uT
  rw [uS_in (fun z => h z.symm)]
def fcu (u : Vw) (p c : Int32) : Vw := fzu 2699 (uS (uS u 2 p) 1 c)
def fcn (u : Vw) (p c : Int32) : Nat := fzn 2699 (uS (uS u 2 p) 1 c)
theorem fc_any {u : Vw} {p c : Int32} (hI : Iu (uS (uS u 2 p) 1 c)) (ht : uT u ≤ 999) {K : Nat} (hK : 2699 ≤ K) : fzu K (uS (uS u 2 p) 1 c) = fcu u p c ∧ fzn K (uS (uS u 2 p) 1 c) = fcn u p c :=
  fz_any hI (by rw [uT_sc (by decide), uT_sc (by decide)]; exact ht) hK
theorem fc_Iu {u : Vw} {p c : Int32} (hI : Iu (uS (uS u 2 p) 1 c)) (ht : uT u ≤ 999) : Iu (fcu u p c) := (fz_Iu 2699 _ hI (by rw [uT_sc (by decide), uT_sc (by decide)]; omega)).1
