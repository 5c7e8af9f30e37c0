/-! the model's answers and the class's -/
theorem st0 {u : Vw} (h : Iu u) {i : Nat} (hi : i < un u) : stat u i = 0 ↔ us u 3 < ur u 2 i := by
  obtain ⟨-, -, -, h2, h3, h4⟩ := h.2.2.2.2.2.2.2.1 i hi
  constructor
  · intro z
    exact Int32.not_le.mp (stat_eq0.mp z).2.2
  · intro z
    have z2 := Int32.lt_iff_toInt_lt.mp z
    have b : ur u 3 i = -1 := by
      rcases h3 with y | y
      · exact y
      · omega
    have l : ur u 4 i = -1 := by
      rcases h4 with y | y
      · exact y
      · exact absurd b y.1
    exact stat_eq0.mpr ⟨l, b, Int32.not_le.mpr z⟩
theorem ldN_lt {u : Vw} : ∀ {n g : Nat}, ldN u n = some g → g < n
  | 0, g, h => by cases h
  | n + 1, g, h => by
    simp only [ldN] at h
    cases e : ldN u n with
    | none =>
      rw [e] at h
      simp only at h
      by_cases z : ur u 4 n = -1
      · rw [if_pos z] at h; cases h
      · rw [if_neg z] at h
        have := Option.some.inj h
        omega
    | some k =>
      rw [e] at h
      simp only at h
      have hk := ldN_lt e
      by_cases z : ur u 4 k < ur u 4 n
      · rw [if_pos z] at h
        have := Option.some.inj h
        omega
      · rw [if_neg z] at h
        have := Option.some.inj h
        omega
theorem det_eq {u : Vw} (h : Iu u) {i : Nat} (hi : i < un u) : (if ur u 4 i = -1 then -1 else rdI u i - 1 - (if 0 ≤ ur u 1 i - ur u 0 i then ur u 1 i - ur u 0 i else -(ur u 1 i - ur u 0 i))) = dtI u i := by
  unfold dtI
  by_cases z : ur u 4 i = -1
  · rw [if_pos z, if_pos (show rdI u i = -1 from if_pos z)]
  · rw [if_neg z]
    have hr : ¬ rdI u i = -1 := by
      obtain ⟨-, -, -, h2, h3, h4⟩ := h.2.2.2.2.2.2.2.1 i hi
      have h5 := h4.resolve_left z
      have h6 := h3.resolve_left h5.1
      have ht := h.2.2.2.2.1.2
      unfold rdI
      rw [if_neg z]
      intro y
      have e1 := nI_back (show 0 ≤ (ur u 4 i).toInt by omega)
      have e2 := nI_back (show 0 ≤ (ur u 3 i).toInt by omega)
      have c1 := clamp_int (show 0 ≤ (ur u 4 i).toInt by omega)
      have c2 := clamp_int (show 0 ≤ (ur u 3 i).toInt by omega)
      rw [e1, e2, pk_sub (by omega)] at y
      exact nne1 (by omega) y
    rw [if_neg hr]
    obtain ⟨o1, o2⟩ := h.o hi
    obtain ⟨d1, d2⟩ := h.d hi
    obtain ⟨hF, hN, hFN, h20, -⟩ := h.F
    have key : ∀ a, a < 20 → ∀ b, b < 20 → (if 0 ≤ nI b - nI a then nI b - nI a else -(nI b - nI a)) = absI (nI a - nI b) := by decide +kernel
    rw [o1, d1, key (oN u i) (by omega) (dN u i) (by omega)]
def boM (u : Vw) : Nat → Nat
  | 0 => 0
  | k + 1 => if stN u (nI (boM u k)) < stN u (nI (k + 1)) then k + 1 else boM u k
theorem boM_le (u : Vw) : ∀ k, boM u k ≤ k
  | 0 => Nat.le_refl _
  | k + 1 => by
    have := boM_le u k
    simp only [boM]
    split <;> omega
theorem boM_max (u : Vw) : ∀ k j, j ≤ k → stN u (nI j) ≤ stN u (nI (boM u k))
  | 0, j, h => by rw [Nat.le_zero.mp h]; exact Nat.le_refl _
  | k + 1, j, h => by
    have h1 := boM_max u k
    simp only [boM]
    by_cases e : j = k + 1
    · subst e
      split
      · exact Nat.le_refl _
      · omega
    · have := h1 j (by omega)
      split
      · omega
      · exact this
theorem bo_rel (u : Vw) : ∀ k, (boC u (k + 1)).2 = stN u (nI (boM u k)) ∧ (boC u (k + 1)).1 = if stN u (nI (boM u k)) = 0 then none else some (boM u k)
  | 0 => by
    have e : boC u 1 = if 0 < stN u (nI 0) then (some 0, stN u (nI 0)) else (none, 0) := rfl
    rw [show (0 : Nat) + 1 = 1 from rfl, e]
    show _ = stN u (nI 0) ∧ _ = if stN u (nI 0) = 0 then none else some 0
    by_cases z : 0 < stN u (nI 0)
    · rw [if_pos z, if_neg (by omega)]; exact ⟨rfl, rfl⟩
    · rw [if_neg z, if_pos (by omega)]; exact ⟨by show 0 = _; omega, rfl⟩
  | k + 1 => by
    obtain ⟨h1, h2⟩ := bo_rel u k
    rw [show boC u (k + 1 + 1) = if (boC u (k + 1)).2 < stN u (nI (k + 1)) then (some (k + 1), stN u (nI (k + 1))) else boC u (k + 1) from rfl, show boM u (k + 1) = if stN u (nI (boM u k)) < stN u (nI (k + 1)) then k + 1 else boM u k from rfl, h1]
    by_cases z : stN u (nI (boM u k)) < stN u (nI (k + 1))
    · rw [if_pos z, if_pos z, if_neg (by omega)]; exact ⟨rfl, rfl⟩
    · rw [if_neg z, if_neg z]; exact ⟨h1, h2⟩
theorem bo_eq {u : Vw} (h : Iu u) : (if un u = 0 then -1 else nI (boM u (uN u - 1))) = oI (boC u (uN u)).1 := by
  obtain ⟨hF, hN, hFN, h20, h2⟩ := h.F
  have hr := (bo_rel u (uN u - 1)).2
  rw [show uN u - 1 + 1 = uN u by omega] at hr
  rw [hr]
  by_cases z : un u = 0
  · rw [if_pos z, if_pos (by unfold stN; rw [z]; rfl)]; rfl
  · rw [if_neg z]
    obtain ⟨o1, o2⟩ := h.o (show 0 < un u by omega)
    have h3 : 0 < stN u (nI (oN u 0)) := cnt_pos (i := 0) (by omega) (by rw [o1]; simp)
    have h4 := boM_max u (uN u - 1) (oN u 0) (by omega)
    rw [if_neg (by omega)]
    rfl
theorem Iu.h4 {u : Vw} (h : Iu u) : ∀ i, i < un u → ur u 4 i = -1 ∨ 0 ≤ ur u 4 i := fun i hi => by
  obtain ⟨-, -, -, h2, h3, h4⟩ := h.2.2.2.2.2.2.2.1 i hi
  rcases h4 with y | y
  · exact Or.inl y
  · have h6 := h3.resolve_left y.1
    refine Or.inr (Int32.le_iff_toInt_le.mpr ?_)
    have z : (0 : Int32).toInt = 0 := rfl
    omega
theorem ldN_m1 {u : Vw} {n : Nat} (h : ∀ i, i ≤ n → ur u 4 i = -1 ∨ 0 ≤ ur u 4 i) (e : ur u 4 n = -1) : ldN u (n + 1) = ldN u n := by
  simp only [ldN]
  cases hl : ldN u n with
  | none => simp only; rw [if_pos e]
  | some g =>
    simp only
    rw [e, if_neg (fun z => ?_)]
    have z2 := Int32.lt_iff_toInt_lt.mp z
    have b : (-1 : Int32).toInt = -1 := rfl
    rcases h g (Nat.le_of_lt (ldN_lt hl)) with y | y
    · rw [y] at z2; omega
    · have := i32_le0 y; omega
