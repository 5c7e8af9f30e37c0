/-! answers' conditions -/
theorem bI_z (b : Bool) : narrow .boolean (.int (bI b)) = .int (bI b) := by cases b <;> rfl
def okP (u : Vw) (x : Int32) : Bool := decide (0 ≤ x) && decide (x < nI (un u))
def okF (u : Vw) (x : Int32) : Bool := decide (0 ≤ x) && decide (x < us u 0)
def okI (a b x : Int32) : Bool := decide (a ≤ x) && decide (x ≤ b)
theorem i32_le0 {x : Int32} (h : 0 ≤ x) : 0 ≤ x.toInt := by
  have := Int32.le_iff_toInt_le.mp h
  exact this
theorem okP_i {u : Vw} {x : Int32} (hn : un u ≤ 40) (g : okP u x = true) : x = nI x.toNatClampNeg ∧ x.toNatClampNeg < un u := by
  unfold okP at g
  simp only [Bool.and_eq_true, decide_eq_true_eq] at g
  have e := nI_back (i32_le0 g.1)
  refine ⟨e, ?_⟩
  have h2 := g.2
  rw [e] at h2
  have h3 := Int32.lt_iff_toInt_lt.mp h2
  have h4 := clamp_int (i32_le0 g.1)
  rw [← e, nI_int (by omega)] at h3
  omega
theorem okT {p q : Bool} (h : p = true) (h2 : q = true) : (p && q) = true := by rw [h, h2]; rfl
theorem okN1 {p q : Bool} (h : p = false) : (p && q) = false := by rw [h]; rfl
theorem okN2 {p q : Bool} (h : q = false) : (p && q) = false := by rw [h]; cases p <;> rfl
theorem ge0 {x : Int32} (h : ¬ x < 0) : decide (0 ≤ x) = true := decide_eq_true (Int32.not_lt.mp h)
theorem nge {a x : Int32} (h : x < a) : decide (a ≤ x) = false := decide_eq_false (Int32.not_le.mpr h)
theorem ltt {a x : Int32} (h : x < a) : decide (x < a) = true := decide_eq_true h
theorem nltt {a x : Int32} (h : ¬ x < a) : decide (x < a) = false := decide_eq_false h
theorem geT {a x : Int32} (h : ¬ x < a) : decide (a ≤ x) = true := decide_eq_true (Int32.not_lt.mp h)
theorem leT {a x : Int32} (h : x ≤ a) : decide (x ≤ a) = true := decide_eq_true h
theorem nleT {a x : Int32} (h : ¬ x ≤ a) : decide (x ≤ a) = false := decide_eq_false h
theorem okP_m {u : Vw} {x : Int32} (hn : un u ≤ 40) : (decide (0 ≤ x) && decide (x ≤ nI (un u) - 1)) = okP u x := by
  unfold okP
  apply Bool.eq_iff_iff.mpr
  simp only [Bool.and_eq_true, decide_eq_true_eq]
  refine and_congr_right (fun h0 => ?_)
  have h1 := i32_le0 h0
  have e := nI_back h1
  have c := clamp_int h1
  rcases Nat.eq_zero_or_pos (un u) with z | z
  · rw [z, Int32.le_iff_toInt_le, Int32.lt_iff_toInt_lt]
    have e1 : (nI 0 - 1).toInt = -1 := rfl
    have e2 : (nI 0).toInt = 0 := rfl
    omega
  · rw [show nI (un u) - 1 = nI (un u - 1) from pk_sub (b := 1) (by omega), Int32.le_iff_toInt_le, Int32.lt_iff_toInt_lt, nI_int (by omega), nI_int (by omega)]
    omega
theorem okF_m {u : Vw} {x : Int32} (hI : Iu u) : (decide (0 ≤ x) && decide (x ≤ us u 0 - 1)) = okF u x := by
  obtain ⟨hF, hN, hFN, h20, h2⟩ := hI.F
  unfold okF
  apply Bool.eq_iff_iff.mpr
  simp only [Bool.and_eq_true, decide_eq_true_eq]
  refine and_congr_right (fun h0 => ?_)
  rw [hN, show nI (uN u) - 1 = nI (uN u - 1) from pk_sub (b := 1) (by omega), Int32.le_iff_toInt_le, Int32.lt_iff_toInt_lt, nI_int (by omega), nI_int (by omega)]
  omega
