/-! counting along a queue -/
def sumN (f : Nat → Nat) : Nat → Nat
  | 0 => 0
  | n + 1 => sumN f n + f n
theorem sumN_add (f g : Nat → Nat) : ∀ n, sumN (fun i => f i + g i) n = sumN f n + sumN g n
  | 0 => rfl
  | n + 1 => by
    simp only [sumN]
    rw [sumN_add f g n]
    omega
theorem sumN_congr {f g : Nat → Nat} : ∀ {n : Nat}, (∀ i, i < n → f i = g i) → sumN f n = sumN g n
  | 0, _ => rfl
  | n + 1, h => by
    simp only [sumN]
    rw [sumN_congr (fun i hi => h i (by omega)), h n (by omega)]
theorem cnt_sum (p : Nat → Bool) : ∀ n, cnt p n = sumN (fun i => if p i then 1 else 0) n
  | 0 => rfl
  | n + 1 => by
    simp only [cnt, sumN]
    rw [cnt_sum p n]
theorem sumN_zero : ∀ n, sumN (fun _ => 0) n = 0
  | 0 => rfl
  | n + 1 => by simp only [sumN]; rw [sumN_zero n]
theorem sumN_swap (r : Nat → Nat → Bool) (m : Nat) : ∀ n, sumN (fun i => cnt (fun j => r i j) m) n = sumN (fun j => cnt (fun i => r i j) n) m
  | 0 => by
    simp only [sumN, cnt]
    rw [sumN_zero]
  | n + 1 => by
    simp only [sumN, cnt]
    rw [sumN_swap r m n, sumN_add, cnt_sum (fun j => r n j) m]
theorem cnt_none {r : Nat → Bool} : ∀ {n : Nat}, (∀ j, j < n → r j = false) → cnt r n = 0
  | 0, _ => rfl
  | n + 1, h => by
    simp only [cnt]
    rw [cnt_none (fun i hi => h i (by omega)), h n (by omega)]
    rfl
theorem cnt_one {r : Nat → Bool} {j0 : Nat} : ∀ {n : Nat}, j0 < n → (∀ j, j < n → (r j = true ↔ j = j0)) → cnt r n = 1
  | 0, h, _ => absurd h (Nat.not_lt_zero _)
  | n + 1, h, hr => by
    simp only [cnt]
    by_cases e : j0 = n
    · subst e
      rw [if_pos ((hr j0 h).mpr rfl), cnt_none (fun j hj => by
        cases z : r j with
        | false => rfl
        | true => exact absurd ((hr j (by omega)).mp z) (by omega))]
    · rw [cnt_one (show j0 < n by omega) (fun j hj => hr j (by omega)), if_neg (fun z => e ((hr n (by omega)).mp z).symm)]
/-- a count does not depend on the order -/
theorem cnt_perm {qq : Nat → Nat} {n : Nat} {p : Nat → Bool} (h1 : ∀ i, i < n → qq i < n) (hinj : ∀ i j, i < n → j < n → qq i = qq j → i = j) (h2 : ∀ i, i < n → ∃ j, j < n ∧ qq j = i) : cnt p n = cnt (fun j => p (qq j)) n := by
  rw [cnt_sum p n, cnt_sum (fun j => p (qq j)) n]
  have a : sumN (fun i => if p i then 1 else 0) n = sumN (fun i => cnt (fun j => p i && decide (qq j = i)) n) n := sumN_congr (fun i hi => by
    cases e : p i with
    | false => rw [cnt_none (r := fun j => false && decide (qq j = i)) (fun j _ => rfl)]; rfl
    | true =>
      obtain ⟨j0, hj0, e0⟩ := h2 i hi
      rw [cnt_one hj0 (fun j hj => by
        simp only [Bool.true_and, decide_eq_true_eq]
        exact ⟨fun z => hinj j j0 hj hj0 (z.trans e0.symm), fun z => by rw [z]; exact e0⟩)]
      rfl)
  have b : sumN (fun j => cnt (fun i => p i && decide (qq j = i)) n) n = sumN (fun j => if p (qq j) then 1 else 0) n := sumN_congr (fun j hj => by
    cases e : p (qq j) with
    | false =>
      rw [cnt_none (fun i _ => by
        by_cases z : qq j = i
        · rw [← z, e]; rfl
        · simp [z])]
      rfl
    | true =>
      rw [cnt_one (h1 j hj) (fun i hi => by
        simp only [Bool.and_eq_true, decide_eq_true_eq]
        exact ⟨fun z => z.2.symm, fun z => by rw [z]; exact ⟨e, rfl⟩⟩)]
      rfl)
  rw [a, sumN_swap, b]
theorem Qok.inj {u : Vw} {qq : Nat → Nat} (h : Qok u qq) {i j : Nat} (hi : i < un u) (hj : j < un u) (e : qq i = qq j) : i = j := by
  rcases Nat.lt_trichotomy i j with z | z | z
  · have h1 := h.2.1 i j z hj
    rw [e] at h1
    exact absurd h1 (ahd_asymm h1)
  · exact z
  · have h1 := h.2.1 j i z hi
    rw [e] at h1
    exact absurd h1 (ahd_asymm h1)
theorem Qok.ord {u : Vw} {qq : Nat → Nat} (h : Qok u qq) {i j : Nat} (hi : i < un u) (hj : j < un u) : ahB u (qq j) (qq i) = decide (j < i) := by
  apply Bool.eq_iff_iff.mpr
  rw [ahB_iff, decide_eq_true_eq]
  constructor
  · intro z
    rcases Nat.lt_trichotomy i j with y | y | y
    · exact absurd z (ahd_asymm (h.2.1 i j y hj))
    · subst y; exact absurd z (ahd_asymm z)
    · exact y
  · intro z
    exact h.2.1 j i z hi
theorem cnt_cut {p : Nat → Bool} {i : Nat} : ∀ {n : Nat}, i ≤ n → cnt (fun j => p j && decide (j < i)) n = cnt p i
  | 0, h => by rw [Nat.le_zero.mp h]; rfl
  | n + 1, h => by
    by_cases e : i = n + 1
    · subst e
      exact cnt_congr (fun j hj => by simp [hj])
    · simp only [cnt]
      rw [cnt_cut (show i ≤ n by omega), if_neg (by simp; omega)]
      rfl
/-- those waiting at a floor -/
def wtB (u : Vw) (f : Int32) (p : Nat) : Bool := (stat u p == 1) && (ur u 0 p == f)
def ahN (u : Vw) (p : Nat) : Nat := cnt (fun q => wtB u (ur u 0 p) q && ahB u q p) (un u)
theorem ahN_le (u : Vw) (p : Nat) : ahN u p ≤ un u := cnt_le _ _
def qaB (u : Vw) (f pos : Int32) (p : Nat) : Bool := wtB u f p && (nI (ahN u p) == pos)
def qaI (u : Vw) (f pos : Int32) : Int32 := oI (fst (qaB u f pos) 0 (un u))
def qcB (u : Vw) (qq : Nat → Nat) (f pos : Int32) (j : Nat) : Bool := wtB u f (qq j) && (nI (cnt (fun i => wtB u f (qq i)) j) == pos)
theorem ahN_q {u : Vw} {qq : Nat → Nat} (h : Qok u qq) {i : Nat} (hi : i < un u) : ahN u (qq i) = cnt (fun j => wtB u (ur u 0 (qq i)) (qq j)) i := by
  unfold ahN
  rw [cnt_perm h.1 (fun i j a b => h.inj a b) h.2.2, ← cnt_cut (p := fun j => wtB u (ur u 0 (qq i)) (qq j)) (Nat.le_of_lt hi)]
  exact cnt_congr (fun j hj => by rw [h.ord hi hj])
theorem qcB_eq {u : Vw} {qq : Nat → Nat} (h : Qok u qq) {f pos : Int32} {i : Nat} (hi : i < un u) : qcB u qq f pos i = qaB u f pos (qq i) := by
  unfold qcB qaB
  rw [ahN_q h hi]
  by_cases e : wtB u f (qq i) = true
  · have e2 : ur u 0 (qq i) = f := by
      unfold wtB at e
      simp only [Bool.and_eq_true, beq_iff_eq] at e
      exact e.2
    rw [e2]
  · have e3 : wtB u f (qq i) = false := by simpa using e
    rw [e3]
    rfl
theorem cnt_lt {p : Nat → Bool} {i : Nat} (h : p i = true) : ∀ {j : Nat}, i < j → cnt p i < cnt p j
  | 0, h2 => absurd h2 (Nat.not_lt_zero _)
  | j + 1, h2 => by
    simp only [cnt]
    by_cases e : i = j
    · subst e; rw [if_pos h]; omega
    · have := cnt_lt h (show i < j by omega)
      omega
theorem qa_queue {u : Vw} {qq : Nat → Nat} (hn : un u ≤ 40) (h : Qok u qq) {f pos : Int32} : oI ((fst (qcB u qq f pos) 0 (un u)).map qq) = qaI u f pos := by
  unfold qaI
  have uniq : ∀ i j, i < un u → j < un u → qcB u qq f pos i = true → qcB u qq f pos j = true → i = j := by
    intro i j hi hj a b
    unfold qcB at a b
    simp only [Bool.and_eq_true, beq_iff_eq] at a b
    have c1 := cnt_le (fun i => wtB u f (qq i)) i
    have c2 := cnt_le (fun i => wtB u f (qq i)) j
    have e := neq (a.2.trans b.2.symm) (by omega) (by omega)
    rcases Nat.lt_trichotomy i j with z | z | z
    · have := cnt_lt (p := fun i => wtB u f (qq i)) a.1 z
      omega
    · exact z
    · have := cnt_lt (p := fun i => wtB u f (qq i)) b.1 z
      omega
  cases hA : fst (qcB u qq f pos) 0 (un u) with
  | some i =>
    obtain ⟨-, hi, hs, -⟩ := fst_some hA
    have hi : i < un u := by omega
    cases hB : fst (qaB u f pos) 0 (un u) with
    | some g =>
      obtain ⟨-, hg, hs2, -⟩ := fst_some hB
      obtain ⟨j, hj, ej⟩ := h.2.2 g (by omega)
      rw [← ej, ← qcB_eq h hj] at hs2
      have := uniq i j hi hj hs hs2
      subst this
      rw [← ej]
      rfl
    | none =>
      have := fst_none hB (qq i) (Nat.zero_le _) (by have := h.1 i hi; omega)
      rw [← qcB_eq h hi, hs] at this
      cases this
  | none =>
    cases hB : fst (qaB u f pos) 0 (un u) with
    | some g =>
      obtain ⟨-, hg, hs2, -⟩ := fst_some hB
      obtain ⟨j, hj, ej⟩ := h.2.2 g (by omega)
      rw [← ej, ← qcB_eq h hj] at hs2
      have := fst_none hA j (Nat.zero_le _) (by omega)
      rw [hs2] at this
      cases this
    | none => rfl
