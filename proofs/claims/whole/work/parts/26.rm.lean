/-! the model's array behind changes; answers that are truth values -/
def FrM (σ τ : St) : Prop := sF τ = sF σ ∧ (∀ k, k ≠ 95 → sA τ k = sA σ k) ∧ τ.2.2 = σ.2.2
theorem FrM.rf {σ : St} : FrM σ σ := ⟨rfl, fun _ _ => rfl, rfl⟩
theorem FrM.trans {σ τ υ : St} (h : FrM σ τ) (h2 : FrM τ υ) : FrM σ υ := ⟨h2.1.trans h.1, fun k hk => (h2.2.1 k hk).trans (h.2.1 k hk), h2.2.2.trans h.2.2⟩
theorem FrM.ar {σ τ : St} {j : Nat} {x : Int32} (h : FrM σ τ) : FrM σ (stA τ 95 j x) := ⟨h.1, fun a ha => (up2_ne ha).trans (h.2.1 a ha), h.2.2⟩
theorem RM.sc {σ : St} {u : Vw} (h : RM σ u) (j : Nat) (x : Int32) (hj : j < 10) : RM (stA σ 95 j x) (uS u j x) := by
  obtain ⟨h1, h2, h3, h4⟩ := h
  have e : ∀ b, b ≠ j → sA (stA σ 95 j x) 95 b = sA σ 95 b := fun b hb => (up2_in hb : up2 (sA σ) 95 j x 95 b = sA σ 95 b)
  refine ⟨h1, fun i hi => ?_, (e 10 (by omega)).trans h3, fun i hi => ?_⟩
  · show up2 (sA σ) 95 j x 95 i = upd (us u) j x i
    rw [up2_same]
    by_cases e : i = j
    · subst e; rw [upd_at, upd_at]
    · rw [upd_in e, upd_in e]; exact h2 i hi
  · obtain ⟨a, b, c, d, f⟩ := h4 i hi
    exact ⟨(e _ (by omega)).trans a, (e _ (by omega)).trans b, (e _ (by omega)).trans c, (e _ (by omega)).trans d, (e _ (by omega)).trans f⟩
theorem RM.row {σ : St} {u : Vw} (h : RM σ u) (c i : Nat) (x : Int32) (hc : c = 3 ∨ c = 4) (hi : i < un u) : RM (stA σ 95 (11 + 5 * i + c) x) (uR u c i x) := by
  obtain ⟨h1, h2, h3, h4⟩ := h
  have e : ∀ b, b ≠ 11 + 5 * i + c → sA (stA σ 95 (11 + 5 * i + c) x) 95 b = sA σ 95 b := fun b hb => (up2_in hb : up2 (sA σ) 95 (11 + 5 * i + c) x 95 b = sA σ 95 b)
  refine ⟨h1, fun j hj => (e j (by omega)).trans (h2 j hj), (e 10 (by omega)).trans h3, fun j hj => ?_⟩
  obtain ⟨a, b, c', d, f⟩ := h4 j hj
  have r : ∀ cc, ur (uR u c i x) cc j = if cc = c ∧ j = i then x else ur u cc j := fun cc => by
    show up2 (ur u) c i x cc j = _
    rw [up2_if]
  rw [r, r, r, r, r]
  by_cases ej : j = i
  · subst ej
    rcases hc with rfl | rfl
    · exact ⟨by simp; exact (e _ (by omega)).trans a, by simp; exact (e _ (by omega)).trans b, by simp; exact (e _ (by omega)).trans c', by simp; exact (up2_at : up2 (sA σ) 95 (11 + 5 * j + 3) x 95 (11 + 5 * j + 3) = x), by simp; exact (e _ (by omega)).trans f⟩
    · exact ⟨by simp; exact (e _ (by omega)).trans a, by simp; exact (e _ (by omega)).trans b, by simp; exact (e _ (by omega)).trans c', by simp; exact (e _ (by omega)).trans d, by simp; exact (up2_at : up2 (sA σ) 95 (11 + 5 * j + 4) x 95 (11 + 5 * j + 4) = x)⟩
  · simp only [ej, and_false, if_false]
    exact ⟨(e _ (by omega)).trans a, (e _ (by omega)).trans b, (e _ (by omega)).trans c', (e _ (by omega)).trans d, (e _ (by omega)).trans f⟩
theorem bI0 {b : Bool} : bI b = 0 ↔ b = false := by cases b <;> simp [bI]
theorem bI1 {b : Bool} : ¬ bI b = 0 ↔ b = true := by cases b <;> simp [bI]
theorem bI_t {c : Prop} [Decidable c] (h : c) : (1 : Int32) = bI (decide c) := by simp [bI, h]
theorem bI_f {c : Prop} [Decidable c] (h : ¬ c) : (0 : Int32) = bI (decide c) := by simp [bI, h]
theorem bI_z (b : Bool) : narrow .boolean (.int (bI b)) = .int (bI b) := by cases b <;> rfl
/-- those before k who wait: the model's and the class's eligible ones -/
theorem isWf_any {u : Vw} : isWf u (-1) = isW u := by
  funext i
  simp [isWf, isW]
theorem hasB_t {m g : Int32} (h : (m >>> (g &&& 31)) &&& 1 = 1) : hasB m g = true := by
  unfold hasB
  rw [h]
  decide
theorem hasB_f {m g : Int32} (h : ¬ (m >>> (g &&& 31)) &&& 1 = 1) : hasB m g = false := by
  unfold hasB
  rcases b01 (m >>> (g &&& 31)) with z | z
  · rw [z]; decide
  · exact absurd z h
