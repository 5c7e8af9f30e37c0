/-! queue order -/
theorem ahd_asymm {u : Vw} {a b : Nat} (h : ahd u a b) : ¬ ahd u b a := by
  simp only [ahd, Int32.lt_iff_toInt_lt, ← Int32.toInt_inj] at *
  omega
theorem ahd_total {u : Vw} {a b : Nat} (h : a ≠ b) : ahd u a b ∨ ahd u b a := by
  simp only [ahd, Int32.lt_iff_toInt_lt, ← Int32.toInt_inj] at *
  omega
theorem ahd_trans {u : Vw} {a b c : Nat} (h : ahd u a b) (h2 : ahd u b c) : ahd u a c := by
  simp only [ahd, Int32.lt_iff_toInt_lt, ← Int32.toInt_inj] at *
  omega
theorem ahd_le {u : Vw} {a b : Nat} (h : ahd u a b) : ur u 2 a ≤ ur u 2 b := by
  simp only [ahd, Int32.lt_iff_toInt_lt, Int32.le_iff_toInt_le, ← Int32.toInt_inj] at *
  omega
theorem fw_none {u : Vw} {e : Nat → Bool} : ∀ {n : Nat}, fw u e n = none ↔ ∀ i, i < n → e i = false
  | 0 => by simp [fw]
  | n + 1 => by
    have ih := fw_none (u := u) (e := e) (n := n)
    simp only [fw]
    constructor
    · intro h i hi
      cases hf : fw u e n with
      | none =>
        rw [hf] at h
        rcases Nat.lt_or_ge i n with q | q
        · exact ih.mp hf i q
        · have e1 : i = n := by omega
          subst e1
          cases he : e i with
          | false => rfl
          | true => simp [he] at h
      | some g => rw [hf] at h; simp only at h; split at h <;> cases h
    · intro h
      rw [ih.mpr (fun i hi => h i (by omega))]
      simp [h n (by omega)]
theorem fw_some {u : Vw} {e : Nat → Bool} : ∀ {n g : Nat}, fw u e n = some g → g < n ∧ e g = true ∧ ∀ i, i < n → e i = true → i ≠ g → ahd u g i
  | 0, g, h => by simp [fw] at h
  | n + 1, g, h => by
    simp only [fw] at h
    cases hf : fw u e n with
    | none =>
      rw [hf] at h
      simp only at h
      split at h
      · rename_i he
        cases h
        refine ⟨by omega, he, fun i hi h2 h3 => ?_⟩
        have := fw_none.mp hf i (by omega)
        rw [this] at h2; cases h2
      · cases h
    | some k =>
      obtain ⟨h1, h2, h3⟩ := fw_some hf
      rw [hf] at h
      simp only at h
      split at h
      · rename_i he
        cases h
        simp only [Bool.and_eq_true] at he
        have ha := ahB_iff.mp he.2
        refine ⟨by omega, he.1, fun i hi h4 h5 => ?_⟩
        by_cases e1 : i = k
        · subst e1; exact ha
        · exact ahd_trans ha (h3 i (by omega) h4 e1)
      · rename_i he
        cases h
        refine ⟨by omega, h2, fun i hi h4 h5 => ?_⟩
        rcases Nat.lt_or_ge i n with q | q
        · exact h3 i q h4 h5
        · have e1 : i = n := by omega
          subst e1
          rcases ahd_total (u := u) h5 with z | z
          · exact absurd (by simp [h4, ahB_iff.mpr z]) he
          · exact z
theorem fw_is {u : Vw} {e : Nat → Bool} {n g : Nat} (h1 : g < n) (h2 : e g = true) (h3 : ∀ i, i < n → e i = true → i ≠ g → ahd u g i) : fw u e n = some g := by
  cases hf : fw u e n with
  | none => have := fw_none.mp hf g h1; rw [this] at h2; cases h2
  | some k =>
    obtain ⟨k1, k2, k3⟩ := fw_some hf
    by_cases e1 : k = g
    · rw [e1]
    · exact absurd (h3 k k1 k2 e1) (ahd_asymm (k3 g h1 h2 (fun z => e1 z.symm)))
theorem oI_none {x : Option Nat} (h : ∀ i, x = some i → i < 100000000) : oI x = -1 ↔ x = none := by
  cases x with
  | none => simp [oI]
  | some i => simp [oI, nne1 (h i rfl)]
theorem fst_some {p : Nat → Bool} : ∀ {m i g : Nat}, fst p i m = some g → i ≤ g ∧ g < i + m ∧ p g = true ∧ ∀ j, i ≤ j → j < g → p j = false
  | 0, i, g, h => by simp [fst] at h
  | m + 1, i, g, h => by
    simp only [fst] at h
    split at h
    · rename_i hp
      cases h
      exact ⟨Nat.le_refl _, by omega, hp, fun j h1 h2 => by omega⟩
    · rename_i hp
      obtain ⟨h1, h2, h3, h4⟩ := fst_some h
      refine ⟨by omega, by omega, h3, fun j h5 h6 => ?_⟩
      by_cases e : j = i
      · subst e; simpa using hp
      · exact h4 j (by omega) h6
theorem fst_none {p : Nat → Bool} : ∀ {m i : Nat}, fst p i m = none → ∀ j, i ≤ j → j < i + m → p j = false
  | 0, i, h, j, h1, h2 => by omega
  | m + 1, i, h, j, h1, h2 => by
    simp only [fst] at h
    split at h
    · cases h
    · rename_i hp
      by_cases e : j = i
      · subst e; simpa using hp
      · exact fst_none h j (by omega) (by omega)
/-- who has left has boarded -/
def Lb (u : Vw) : Prop := ∀ i, i < un u → ¬ ur u 4 i = -1 → ¬ ur u 3 i = -1
theorem Iu.lb {u : Vw} (h : Iu u) : Lb u := fun i hi hl => by
  rcases (h.2.2.2.2.2.2.2.1 i hi).2.2.2.2.2 with q | q
  · exact absurd q hl
  · exact q.1
/-- the queue's walk: the first who has not boarded -/
theorem fw_queue {u : Vw} {qq : Nat → Nat} {i : Nat} (hq : Qok u qq) (hl : Lb u) (hi : i < un u) (hb : ∀ j, j < i → ¬ ur u 3 (qq j) = -1) (h3 : ur u 3 (qq i) = -1) :
    (ur u 2 (qq i) ≤ us u 3 → fw u (isW u) (un u) = some (qq i)) ∧ (¬ ur u 2 (qq i) ≤ us u 3 → fw u (isW u) (un u) = none) := by
  have h4 : ur u 4 (qq i) = -1 := by
    by_cases z : ur u 4 (qq i) = -1
    · exact z
    · exact absurd h3 (hl _ (hq.1 i hi) z)
  have key : ∀ x, x < un u → isW u x = true → x ≠ qq i → ahd u (qq i) x := by
    intro x hx hw hne
    obtain ⟨j, hj, rfl⟩ := hq.2.2 x hx
    rcases Nat.lt_trichotomy j i with z | z | z
    · simp only [isW, beq_iff_eq, stat_eq1] at hw
      exact absurd hw.2.1 (hb j z)
    · subst z; exact absurd rfl hne
    · exact hq.2.1 i j z hj
  constructor
  · intro ha
    exact fw_is (hq.1 i hi) (by simp only [isW, beq_iff_eq, stat_eq1]; exact ⟨h4, h3, ha⟩) key
  · intro ha
    refine fw_none.mpr (fun x hx => ?_)
    cases hw : isW u x with
    | false => rfl
    | true =>
      exfalso
      simp only [isW, beq_iff_eq, stat_eq1] at hw
      by_cases e : x = qq i
      · subst e; exact ha hw.2.2
      · have h9 := ahd_le (key x hx (by simp only [isW, beq_iff_eq, stat_eq1]; exact hw) e)
        exact ha (Int32.le_trans h9 hw.2.2)
theorem fw_queue_end {u : Vw} {qq : Nat → Nat} (hq : Qok u qq) (hb : ∀ j, j < un u → ¬ ur u 3 (qq j) = -1) : fw u (isW u) (un u) = none := by
  refine fw_none.mpr (fun x hx => ?_)
  cases hw : isW u x with
  | false => rfl
  | true =>
    exfalso
    obtain ⟨j, hj, rfl⟩ := hq.2.2 x hx
    simp only [isW, beq_iff_eq, stat_eq1] at hw
    exact hb j hj hw.2.1
theorem nI_m1 (x : Int32) : x + Int32.ofInt (-1) = x - 1 := by
  rw [Int32.sub_eq_add_neg]; rfl
