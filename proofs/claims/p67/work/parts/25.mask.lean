/-! the mask of the stops, the nearest stops, the target -/
def oN (u : Vw) (i : Nat) : Nat := (ur u 0 i).toNatClampNeg
def dN (u : Vw) (i : Nat) : Nat := (ur u 1 i).toNatClampNeg
theorem Iu.o {u : Vw} (h : Iu u) {i : Nat} (hi : i < un u) : ur u 0 i = nI (oN u i) ∧ oN u i < uN u := by
  obtain ⟨h1, -⟩ := h.2.2.2.2.2.2.2.1 i hi
  have e := clamp_int h1.1
  have e2 := clamp_int (x := us u 0) (by have := h.2.1.1; omega)
  exact ⟨nI_back h1.1, by show (ur u 0 i).toNatClampNeg < (us u 0).toNatClampNeg; omega⟩
theorem Iu.d {u : Vw} (h : Iu u) {i : Nat} (hi : i < un u) : ur u 1 i = nI (dN u i) ∧ dN u i < uN u := by
  obtain ⟨-, h1, -⟩ := h.2.2.2.2.2.2.2.1 i hi
  have e := clamp_int h1.1
  have e2 := clamp_int (x := us u 0) (by have := h.2.1.1; omega)
  exact ⟨nI_back h1.1, by show (ur u 1 i).toNatClampNeg < (us u 0).toNatClampNeg; omega⟩
def msk (u : Vw) (r : Bool) : Nat → Nat
  | 0 => 0
  | n + 1 => if stat u n = 2 then msk u r n ||| 2 ^ dN u n else if stat u n = 1 ∧ r = true then msk u r n ||| 2 ^ oN u n else msk u r n
theorem sh1 {d : Nat} (hd : d < 20) : (1 : Int32) <<< (nI d &&& 31) = nI (2 ^ d) := by
  have e1 : nI d &&& 31 = nI d := by
    have h := pk_andN (n := d) (by omega) (m := 31) 5 (by decide)
    rw [h, Nat.mod_eq_of_lt (by omega)]
  have key : ∀ k, k < 20 → (1 : Int32) <<< (nI k) = nI (2 ^ k) := by decide +kernel
  rw [e1]
  exact key d hd
theorem nI_or (a b : Nat) : nI a ||| nI b = nI (a ||| b) := by
  apply Int32.toBitVec_inj.1
  show BitVec.ofNat 32 a ||| BitVec.ofNat 32 b = BitVec.ofNat 32 (a ||| b)
  apply BitVec.eq_of_getLsbD_eq
  intro i hi
  simp [hi]
/-- a remainder by a power of two, as a mask -/
theorem spF_msk {u : Vw} {r : Bool} (hI : Iu u) : ∀ n, n ≤ un u → spF u r n = nI (msk u r n)
  | 0, _ => rfl
  | n + 1, h => by
    have ih := spF_msk (r := r) hI n (by omega)
    have hd := hI.d (i := n) (by omega)
    have ho := hI.o (i := n) (by omega)
    have h20 := hI.F.2.2.2.1
    simp only [spF, msk]
    split
    · rw [ih, hd.1, sh1 (by omega), nI_or]
    · split
      · rw [ih, ho.1, sh1 (by omega), nI_or]
      · exact ih
theorem msk_bit {u : Vw} {r : Bool} {k : Nat} : ∀ n, (msk u r n).testBit k = true ↔ ∃ i, i < n ∧ ((stat u i = 2 ∧ dN u i = k) ∨ (stat u i = 1 ∧ r = true ∧ oN u i = k))
  | 0 => by simp [msk]
  | n + 1 => by
    have ih := msk_bit (u := u) (r := r) (k := k) n
    simp only [msk]
    have ex : (∃ i, i < n + 1 ∧ ((stat u i = 2 ∧ dN u i = k) ∨ (stat u i = 1 ∧ r = true ∧ oN u i = k))) ↔ (∃ i, i < n ∧ ((stat u i = 2 ∧ dN u i = k) ∨ (stat u i = 1 ∧ r = true ∧ oN u i = k))) ∨ ((stat u n = 2 ∧ dN u n = k) ∨ (stat u n = 1 ∧ r = true ∧ oN u n = k)) := by
      constructor
      · rintro ⟨i, hi, h⟩
        by_cases e : i = n
        · subst e; exact Or.inr h
        · exact Or.inl ⟨i, by omega, h⟩
      · rintro (⟨i, hi, h⟩ | h)
        · exact ⟨i, by omega, h⟩
        · exact ⟨n, by omega, h⟩
    rw [ex, ← ih]
    split
    · rename_i h2
      rw [Nat.testBit_or, Nat.testBit_two_pow, Bool.or_eq_true, decide_eq_true_iff]
      have h1 : ¬ stat u n = 1 := by rw [h2]; decide
      simp [h2]
    · rename_i h2
      split
      · rename_i h1
        rw [Nat.testBit_or, Nat.testBit_two_pow, Bool.or_eq_true, decide_eq_true_iff]
        simp [h1.1, h1.2]
      · rename_i h1
        have h3 : ¬ (stat u n = 1 ∧ r = true ∧ oN u n = k) := fun z => h1 ⟨z.1, z.2.1⟩
        simp only [h2, h3, false_and, or_false]
theorem msk_lt {u : Vw} {r : Bool} (hI : Iu u) : ∀ n, n ≤ un u → msk u r n < 2 ^ 20
  | 0, _ => by simp [msk]
  | n + 1, h => by
    have ih := msk_lt (r := r) hI n (by omega)
    have hd := hI.d (i := n) (by omega)
    have ho := hI.o (i := n) (by omega)
    have h20 := hI.F.2.2.2.1
    simp only [msk]
    split
    · exact Nat.or_lt_two_pow ih (Nat.pow_lt_pow_right (by omega) (by omega))
    · split
      · exact Nat.or_lt_two_pow ih (Nat.pow_lt_pow_right (by omega) (by omega))
      · exact ih
theorem hasB_bit {m k : Nat} (hm : m < 2 ^ 20) (hk : k < 20) : hasB (nI m) (nI k) = m.testBit k := by
  have e1 : nI k &&& 31 = nI k := by
    have h := pk_andN (n := k) (by omega) (m := 31) 5 (by decide)
    rw [h, Nat.mod_eq_of_lt (by omega)]
  have hs : ∀ j, j < 20 → ((nI j).toBitVec.smod 32).toNat = j := by decide +kernel
  have e2 := pk_shrN (n := m) (by omega) (nI k) k (hs k hk)
  have e3 := pk_andN (n := m / 2 ^ k) (by have := Nat.div_le_self m (2 ^ k); omega) (m := 1) 1 (by decide)
  unfold hasB
  rw [e1, e2, e3]
  have e4 : m.testBit k = decide (m / 2 ^ k % 2 = 1) := by rw [Nat.testBit_eq_decide_div_mod_eq]
  rw [e4]
  have h5 : m / 2 ^ k % 2 ^ 1 = m / 2 ^ k % 2 := by rw [Nat.pow_one]
  rw [h5]
  rcases Nat.mod_two_eq_zero_or_one (m / 2 ^ k) with h | h
  · rw [h]; rfl
  · rw [h]; rfl
def mk (u : Vw) : Nat := msk u (rmB u) (un u)
theorem stp_mk {u : Vw} (hI : Iu u) : stp u = nI (mk u) ∧ mk u < 2 ^ 20 := ⟨spF_msk hI _ (Nat.le_refl _), msk_lt hI _ (Nat.le_refl _)⟩
theorem stp_bit {u : Vw} (hI : Iu u) {k : Nat} (hk : k < 20) : hasB (stp u) (nI k) = true ↔ ∃ i, i < un u ∧ ((stat u i = 2 ∧ dN u i = k) ∨ (stat u i = 1 ∧ rmB u = true ∧ oN u i = k)) := by
  obtain ⟨e, h⟩ := stp_mk hI
  rw [e, hasB_bit h hk]
  exact msk_bit _
theorem stp_zero {u : Vw} (hI : Iu u) : stp u = 0 ↔ ∀ i, i < un u → ¬ (stat u i = 2 ∨ (stat u i = 1 ∧ rmB u = true)) := by
  obtain ⟨e, h⟩ := stp_mk hI
  have h20 := hI.F.2.2.2.1
  constructor
  · intro z i hi hs
    have hz : mk u = 0 := by
      rw [e] at z
      exact neq (b := 0) z (by omega) (by decide)
    have key : ∃ k, (mk u).testBit k = true := by
      rcases hs with h2 | ⟨h1, hr⟩
      · exact ⟨dN u i, (msk_bit _).mpr ⟨i, hi, Or.inl ⟨h2, rfl⟩⟩⟩
      · exact ⟨oN u i, (msk_bit _).mpr ⟨i, hi, Or.inr ⟨h1, hr, rfl⟩⟩⟩
    obtain ⟨k, hk⟩ := key
    rw [hz, Nat.zero_testBit] at hk
    cases hk
  · intro z
    have hz : mk u = 0 := by
      apply Nat.eq_of_testBit_eq
      intro k
      rw [Nat.zero_testBit]
      cases hb : (mk u).testBit k with
      | false => rfl
      | true =>
        obtain ⟨i, hi, hs⟩ := (msk_bit _).mp hb
        exact absurd (hs.elim (fun h => Or.inl h.1) (fun h => Or.inr ⟨h.1, h.2.1⟩)) (z i hi)
    rw [e, hz]; rfl
theorem dnI_spec (m : Int32) : ∀ F, (dnI m F = -1 ∧ ∀ k, k < F → hasB m (nI k) = false) ∨ ∃ k, k < F ∧ dnI m F = nI k ∧ hasB m (nI k) = true ∧ ∀ j, k < j → j < F → hasB m (nI j) = false
  | 0 => Or.inl ⟨rfl, fun k hk => absurd hk (Nat.not_lt_zero k)⟩
  | F + 1 => by
    simp only [dnI]
    by_cases hb : hasB m (nI F) = true
    · rw [if_pos hb]
      exact Or.inr ⟨F, by omega, rfl, hb, fun j h1 h2 => by omega⟩
    · rw [if_neg hb]
      have hf : hasB m (nI F) = false := by simpa using hb
      rcases dnI_spec m F with ⟨h1, h2⟩ | ⟨k, h1, h2, h3, h4⟩
      · refine Or.inl ⟨h1, fun k hk => ?_⟩
        by_cases e : k = F
        · subst e; exact hf
        · exact h2 k (by omega)
      · refine Or.inr ⟨k, by omega, h2, h3, fun j h5 h6 => ?_⟩
        by_cases e : j = F
        · subst e; exact hf
        · exact h4 j h5 (by omega)
theorem upI_spec (m : Int32) : ∀ k f, (upI m f k = -1 ∧ ∀ j, f ≤ j → j < f + k → hasB m (nI j) = false) ∨ ∃ g, f ≤ g ∧ g < f + k ∧ upI m f k = nI g ∧ hasB m (nI g) = true ∧ ∀ j, f ≤ j → j < g → hasB m (nI j) = false
  | 0, f => Or.inl ⟨rfl, fun j h1 h2 => by omega⟩
  | k + 1, f => by
    simp only [upI]
    by_cases hb : hasB m (nI f) = true
    · rw [if_pos hb]
      exact Or.inr ⟨f, by omega, by omega, rfl, hb, fun j h1 h2 => by omega⟩
    · rw [if_neg hb]
      have hf : hasB m (nI f) = false := by simpa using hb
      rcases upI_spec m k (f + 1) with ⟨h1, h2⟩ | ⟨g, h1, h2, h3, h4, h5⟩
      · refine Or.inl ⟨h1, fun j h3 h4 => ?_⟩
        by_cases e : j = f
        · subst e; exact hf
        · exact h2 j (by omega) (by omega)
      · refine Or.inr ⟨g, by omega, by omega, h3, h4, fun j h6 h7 => ?_⟩
        by_cases e : j = f
        · subst e; exact hf
        · exact h5 j (by omega) h7
def dnU (u : Vw) : Int32 := dnI (stp u) (uF u)
def upU (u : Vw) : Int32 := upI (stp u) (uF u + 1) (uN u - (uF u + 1))
/-- a stop that isn't here is above or below -/
theorem away {u : Vw} (hI : Iu u) (h0 : ¬ stp u = 0) (hf : ¬ hasB (stp u) (us u 4) = true) : ¬ (dnU u = -1 ∧ upU u = -1) := by
  intro ⟨h1, h2⟩
  obtain ⟨hF, hN, hFN, h20, -⟩ := hI.F
  have hd : ∀ k, k < uF u → hasB (stp u) (nI k) = false := by
    rcases dnI_spec (stp u) (uF u) with ⟨-, h⟩ | ⟨k, hk, e, -⟩
    · exact h
    · exact absurd (e.symm.trans h1) (nne1 (by omega))
  have hu : ∀ j, uF u + 1 ≤ j → j < uN u → hasB (stp u) (nI j) = false := by
    rcases upI_spec (stp u) (uN u - (uF u + 1)) (uF u + 1) with ⟨-, h⟩ | ⟨g, hg, hg2, e, -⟩
    · exact fun j h3 h4 => h j h3 (by omega)
    · exact absurd (e.symm.trans h2) (nne1 (by omega))
  refine h0 ((stp_zero hI).mpr (fun i hi hs => ?_))
  have key : ∃ k, k < uN u ∧ hasB (stp u) (nI k) = true := by
    rcases hs with h3 | ⟨h3, hr⟩
    · have := hI.d hi
      exact ⟨dN u i, this.2, (stp_bit hI (by omega)).mpr ⟨i, hi, Or.inl ⟨h3, rfl⟩⟩⟩
    · have := hI.o hi
      exact ⟨oN u i, this.2, (stp_bit hI (by omega)).mpr ⟨i, hi, Or.inr ⟨h3, hr, rfl⟩⟩⟩
  obtain ⟨k, hk, hb⟩ := key
  rcases Nat.lt_trichotomy k (uF u) with z | z | z
  · rw [hd k z] at hb; cases hb
  · subst z; rw [← hF] at hb; exact hf hb
  · rw [hu k (by omega) hk] at hb; cases hb
theorem dnU_cases {u : Vw} (hI : Iu u) : dnU u = -1 ∨ ∃ k, k < uF u ∧ dnU u = nI k ∧ hasB (stp u) (nI k) = true := by
  rcases dnI_spec (stp u) (uF u) with ⟨h, -⟩ | ⟨k, hk, e, hb, -⟩
  · exact Or.inl h
  · exact Or.inr ⟨k, hk, e, hb⟩
theorem upU_cases {u : Vw} (hI : Iu u) : upU u = -1 ∨ ∃ k, uF u < k ∧ k < uN u ∧ upU u = nI k ∧ hasB (stp u) (nI k) = true := by
  rcases upI_spec (stp u) (uN u - (uF u + 1)) (uF u + 1) with ⟨h, -⟩ | ⟨k, hk, hk2, e, hb, -⟩
  · exact Or.inl h
  · exact Or.inr ⟨k, by omega, by omega, e, hb⟩
theorem many0 {u : Vw} {k : Int32} : many u k = 0 ↔ ∀ i, i < un u → ¬ stat u i = k := by
  constructor
  · intro h i hi hs
    have := cnt_zero h i hi
    simp [hs] at this
  · intro h
    have : many u k = cnt (fun _ => false) (un u) := cnt_congr (fun i hi => by simp [h i hi])
    rw [this]
    have z : ∀ n, cnt (fun _ => false) n = 0 := fun n => by
      induction n with
      | zero => rfl
      | succ n ih => simp [cnt, ih]
    exact z _
theorem rmB_iff {u : Vw} (hI : Iu u) : rmB u = true ↔ (many u 2 : Int) < (us u 1).toInt := by
  unfold rmB
  rw [decide_eq_true_iff, Int32.lt_iff_toInt_lt, nI_toInt (by have := cnt_le (fun i => stat u i == 2) (un u); have := hI.1; unfold many; omega)]
/-- the target when the lift has to move: a stop elsewhere -/
theorem tgt_away {u : Vw} (hI : Iu u) (pol : Int32) (h0 : ¬ stp u = 0) (hf : ¬ hasB (stp u) (us u 4) = true) : ∃ g, g < uN u ∧ g ≠ uF u ∧ tgt u pol = nI g ∧ hasB (stp u) (nI g) = true := by
  obtain ⟨hF, hN, hFN, h20, -⟩ := hI.F
  have hne : ∀ g, hasB (stp u) (nI g) = true → g ≠ uF u := fun g hg e => hf (by rw [hF, ← e]; exact hg)
  unfold tgt
  rw [if_neg h0, if_neg hf]
  split
  · unfold pfc
    cases hr : fst (isR u) 0 (un u) with
    | some i =>
      obtain ⟨-, hi, hs, -⟩ := fst_some hr
      have hi : i < un u := by omega
      have hd := hI.d hi
      have hb : hasB (stp u) (nI (dN u i)) = true := (stp_bit hI (by omega)).mpr ⟨i, hi, Or.inl ⟨by simpa [isR] using hs, rfl⟩⟩
      exact ⟨dN u i, hd.2, hne _ hb, hd.1, hb⟩
    | none =>
      have hno := fst_none hr
      have hm2 : many u 2 = 0 := many0.mpr (fun i hi hs => by
        have := hno i (Nat.zero_le _) (by omega)
        simp [isR, hs] at this)
      have hrm : rmB u = true := (rmB_iff hI).mpr (by rw [hm2]; have := hI.2.2.1.1; omega)
      cases hw : fw u (isW u) (un u) with
      | some i =>
        obtain ⟨hi, hs, -⟩ := fw_some hw
        have ho := hI.o hi
        have hb : hasB (stp u) (nI (oN u i)) = true := (stp_bit hI (by omega)).mpr ⟨i, hi, Or.inr ⟨by simpa [isW] using hs, hrm, rfl⟩⟩
        exact ⟨oN u i, ho.2, hne _ hb, ho.1, hb⟩
      | none =>
        exfalso
        refine h0 ((stp_zero hI).mpr (fun i hi hs => ?_))
        rcases hs with h2 | ⟨h1, -⟩
        · have := hno i (Nat.zero_le _) (by omega)
          simp [isR, h2] at this
        · have := fw_none.mp hw i hi
          simp [isW, h1] at this
  · have ha := away hI h0 hf
    have hd := dnU_cases hI
    have hu := upU_cases hI
    have pick : ∀ x, (x = dnU u ∧ ¬ dnU u = -1) ∨ (x = upU u ∧ ¬ upU u = -1) → ∃ g, g < uN u ∧ g ≠ uF u ∧ x = nI g ∧ hasB (stp u) (nI g) = true := by
      intro x hx
      rcases hx with ⟨rfl, h⟩ | ⟨rfl, h⟩
      · rcases hd with z | ⟨k, h1, h2, h3⟩
        · exact absurd z h
        · exact ⟨k, by omega, by omega, h2, h3⟩
      · rcases hu with z | ⟨k, h1, h2, h3, h4⟩
        · exact absurd z h
        · exact ⟨k, h2, by omega, h3, h4⟩
    apply pick
    show ((if dnU u = -1 then upU u else if upU u = -1 then dnU u else if pol = 2 then (if us u 5 = 0 then dnU u else upU u) else if us u 4 - dnU u ≤ upU u - us u 4 then dnU u else upU u) = dnU u ∧ _) ∨ ((if dnU u = -1 then upU u else if upU u = -1 then dnU u else if pol = 2 then (if us u 5 = 0 then dnU u else upU u) else if us u 4 - dnU u ≤ upU u - us u 4 then dnU u else upU u) = upU u ∧ _)
    by_cases h1 : dnU u = -1
    · rw [if_pos h1]
      exact Or.inr ⟨rfl, fun z => ha ⟨h1, z⟩⟩
    · rw [if_neg h1]
      by_cases h2 : upU u = -1
      · rw [if_pos h2]; exact Or.inl ⟨rfl, h1⟩
      · rw [if_neg h2]
        split
        · split
          · exact Or.inl ⟨rfl, h1⟩
          · exact Or.inr ⟨rfl, h2⟩
        · split
          · exact Or.inl ⟨rfl, h1⟩
          · exact Or.inr ⟨rfl, h2⟩
