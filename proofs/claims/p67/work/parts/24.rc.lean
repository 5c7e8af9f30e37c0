/-! the simulation at p behind changes -/
def FrS (p : Nat) (σ τ : St) : Prop := (∀ k, k ≠ p → sF τ k = sF σ k) ∧ (∀ k, ¬ (p + 1 ≤ k ∧ k ≤ p + 6) → sA τ k = sA σ k) ∧ τ.2.2 = σ.2.2
theorem FrS.rf {p : Nat} {σ : St} : FrS p σ σ := ⟨fun _ _ => rfl, fun _ _ => rfl, rfl⟩
theorem FrS.trans {p : Nat} {σ τ υ : St} (h : FrS p σ τ) (h2 : FrS p τ υ) : FrS p σ υ := ⟨fun k hk => (h2.1 k hk).trans (h.1 k hk), fun k hk => (h2.2.1 k hk).trans (h.2.1 k hk), h2.2.2.trans h.2.2⟩
theorem FrS.sc {p : Nat} {σ τ : St} {j : Nat} {x : Int32} (h : FrS p σ τ) : FrS p σ (stF τ p j x) := ⟨fun k hk => (up2_ne hk).trans (h.1 k hk), h.2.1, h.2.2⟩
theorem FrS.ar {p : Nat} {σ τ : St} {k j : Nat} {x : Int32} (h : FrS p σ τ) (h1 : p + 1 ≤ k) (h2 : k ≤ p + 6) : FrS p σ (stA τ k j x) := ⟨h.1, fun a ha => (up2_ne (by omega)).trans (h.2.1 a ha), h.2.2⟩
theorem FrS.arr {p : Nat} {σ τ : St} {k : Nat} {f : Nat → Int32} (h : FrS p σ τ) (h1 : p + 1 ≤ k) (h2 : k ≤ p + 6) : FrS p σ (stAr τ k f) := ⟨h.1, fun a ha => by
  have e : a ≠ k := by omega
  have e2 : sA (stAr τ k f) a = sA τ a := by simp [stAr, sA, e]
  exact e2.trans (h.2.1 a ha), h.2.2⟩
theorem many_sc2 {u : Vw} {j : Nat} {x : Int32} : many (uS u j x) 2 = many u 2 := cnt_congr (fun i _ => by
  have e : (stat (uS u j x) i = 2) ↔ (stat u i = 2) := by rw [stat_eq2, stat_eq2]; exact Iff.rfl
  exact Bool.eq_iff_iff.mpr (by simp only [beq_iff_eq]; exact e))
theorem many_sc3 {u : Vw} {j : Nat} {x : Int32} : many (uS u j x) 3 = many u 3 := cnt_congr (fun i _ => by
  have e : (stat (uS u j x) i = 3) ↔ (stat u i = 3) := by rw [stat_eq3, stat_eq3]; exact Iff.rfl
  exact Bool.eq_iff_iff.mpr (by simp only [beq_iff_eq]; exact e))
theorem RC.sc {σ : St} {p : Nat} {u : Vw} {qq : Nat → Nat} (h : RC σ p u qq) (j : Nat) (x : Int32) (hj : j < 10) : RC (stF σ p j x) p (uS u j x) qq := by
  obtain ⟨h1, h2, h3, h4, h5, h6, h7, h8⟩ := h
  refine ⟨h1, fun i hi => ?_, ?_, ?_, ?_, h6, h7, h8⟩
  · show up2 (sF σ) p j x p i = upd (us u) j x i
    rw [up2_same]
    by_cases e : i = j
    · subst e; rw [upd_at, upd_at]
    · rw [upd_in e, upd_in e]; exact h2 i hi
  · exact (up2_in (by omega)).trans h3
  · rw [many_sc2]; exact (up2_in (by omega)).trans h4
  · rw [many_sc3]; exact (up2_in (by omega)).trans h5
/-- a row of nobody -/
theorem RC.out {σ : St} {p : Nat} {u : Vw} {qq : Nat → Nat} (h : RC σ p u qq) {k i : Nat} {x : Int32} (hi : un u ≤ i) : RC (stA σ k i x) p u qq := by
  obtain ⟨h1, h2, h3, h4, h5, h6, h7, h8⟩ := h
  have e : ∀ a b, b < un u → sA (stA σ k i x) a b = sA σ a b := fun a b hb => by
    show up2 (sA σ) k i x a b = _
    rw [up2_if, if_neg (by omega)]
  exact ⟨h1, h2, h3, h4, h5, fun c j hc hj => (e _ _ hj).trans (h6 c j hc hj), fun j hj => (e _ _ hj).trans (h7 j hj), h8⟩
theorem RC.leave {σ : St} {p : Nat} {u : Vw} {qq : Nat → Nat} (h : RC σ p u qq) {i : Nat} {t x y : Int32} (ht : ¬ t = -1) (hi : i < un u) (hs : stat u i = 2) (hx : x = nI (many u 2) - 1) (hy : y = nI (many u 3) + 1) : RC (stF (stF (stA σ (p + 5) i t) p 11 x) p 12 y) p (uR u 4 i t) qq := by
  obtain ⟨h1, h2, h3, h4, h5, h6, h7, h8⟩ := h
  obtain ⟨m2, m3⟩ := many_left ht hi hs
  refine ⟨h1, fun j hj => ?_, ?_, ?_, ?_, fun c j hc hj => ?_, fun j hj => ?_, h8.left⟩
  · exact ((up2_in (by omega)).trans (up2_in (by omega))).trans (h2 j hj)
  · exact ((up2_in (by omega)).trans (up2_in (by omega))).trans h3
  · refine ((up2_in (by omega)).trans up2_at).trans ?_
    rw [hx, ← m2, nI_pred]
  · refine up2_at.trans ?_
    rw [hy, m3, nI_1]
  · show up2 (sA σ) (p + 5) i t (p + 1 + c) j = up2 (ur u) 4 i t c j
    rw [up2_if, up2_if]
    by_cases e : c = 4 ∧ j = i
    · obtain ⟨rfl, rfl⟩ := e
      simp
    · have e2 : ¬ (p + 1 + c = p + 5 ∧ j = i) := fun z => e ⟨by omega, z.2⟩
      rw [if_neg e, if_neg e2]
      exact h6 c j hc hj
  · show up2 (sA σ) (p + 5) i t (p + 6) j = _
    rw [up2_if, if_neg (by omega)]
    exact h7 j hj
theorem RC.board {σ : St} {p : Nat} {u : Vw} {qq : Nat → Nat} (h : RC σ p u qq) {i : Nat} {t x : Int32} (ht : ¬ t = -1) (hi : i < un u) (hs : stat u i = 1) (hx : x = nI (many u 2) + 1) : RC (stF (stA σ (p + 4) i t) p 11 x) p (uR u 3 i t) qq := by
  obtain ⟨h1, h2, h3, h4, h5, h6, h7, h8⟩ := h
  obtain ⟨m2, m3⟩ := many_board ht hi hs
  refine ⟨h1, fun j hj => ?_, ?_, ?_, ?_, fun c j hc hj => ?_, fun j hj => ?_, h8.board⟩
  · exact (up2_in (by omega)).trans (h2 j hj)
  · exact (up2_in (by omega)).trans h3
  · refine up2_at.trans ?_
    rw [hx, m2, nI_1]
  · refine (up2_in (by omega)).trans ?_
    rw [m3]
    exact h5
  · show up2 (sA σ) (p + 4) i t (p + 1 + c) j = up2 (ur u) 3 i t c j
    rw [up2_if, up2_if]
    by_cases e : c = 3 ∧ j = i
    · obtain ⟨rfl, rfl⟩ := e
      simp
    · have e2 : ¬ (p + 1 + c = p + 4 ∧ j = i) := fun z => e ⟨by omega, z.2⟩
      rw [if_neg e, if_neg e2]
      exact h6 c j hc hj
  · show up2 (sA σ) (p + 4) i t (p + 6) j = _
    rw [up2_if, if_neg (by omega)]
    exact h7 j hj
theorem Lb.left {u : Vw} {i : Nat} {t : Int32} (h : Lb u) (hb : ¬ ur u 3 i = -1) : Lb (uR u 4 i t) := fun j hj hl => by
  have e3 : ur (uR u 4 i t) 3 j = ur u 3 j := by
    show up2 (ur u) 4 i t 3 j = _
    rw [up2_if]; simp
  rw [e3]
  by_cases e : j = i
  · subst e; exact hb
  · refine h j hj (fun z => hl ?_)
    show up2 (ur u) 4 i t 4 j = _
    rw [up2_if, if_neg (by omega)]; exact z
theorem Lb.board {u : Vw} {i : Nat} {t : Int32} (h : Lb u) (ht : ¬ t = -1) : Lb (uR u 3 i t) := fun j hj hl => by
  have e3 : ur (uR u 3 i t) 3 j = if j = i then t else ur u 3 j := by
    show up2 (ur u) 3 i t 3 j = _
    rw [up2_if]; simp
  have e4 : ur (uR u 3 i t) 4 j = ur u 4 j := by
    show up2 (ur u) 3 i t 4 j = _
    rw [up2_if]; simp
  rw [e3]
  rw [e4] at hl
  by_cases e : j = i
  · rw [if_pos e]; exact ht
  · rw [if_neg e]; exact h j hj hl
theorem Lb.lvS {u : Vw} (h : Lb u) (k : Nat) : Lb (lvS u k) := fun j hj hl => by
  rw [lvS_row (by decide)]
  by_cases e : j < k ∧ stat u j = 2 ∧ ur u 1 j = us u 4
  · exact (stat_eq2.mp e.2.1).2
  · refine h j hj (fun z => hl ?_)
    have e2 : ¬ (4 = 4 ∧ j < k ∧ stat u j = 2 ∧ u.2.2 1 j = u.2.1 4) := fun z2 => e z2.2
    show (if 4 = 4 ∧ j < k ∧ stat u j = 2 ∧ ur u 1 j = us u 4 then us u 3 else ur u 4 j) = -1
    rw [if_neg e2]; exact z
theorem Iu.t {u : Vw} (h : Iu u) : ¬ us u 3 = -1 := fun z => by
  have := h.2.2.2.2.1.1
  rw [z] at this
  exact absurd this (by decide)
theorem Iu.f {u : Vw} (h : Iu u) : ¬ us u 4 = -1 := fun z => by
  have := h.2.2.2.2.2.1.1
  rw [z] at this
  exact absurd this (by decide)
