/-! forecasts of the model and of the class -/
theorem fc_own {u : Vw} (hI : Iu u) (ht : uT u ≤ 999) : fzu (99999 - uT u) u = fcu u (us u 2) (us u 1) ∧ fzn (99999 - uT u) u = fcn u (us u 2) (us u 1) := by
  have e : uS (uS u 2 (us u 2)) 1 (us u 1) = u := by
    rw [uS_own]
    exact uS_own
  unfold fcu fcn
  rw [e]
  exact fz_any hI ht (by omega)
theorem uS_pol {u : Vw} {x : Int32} : uS (uS u 2 x) 1 (us u 1) = uS u 2 x := by
  have e : us (uS u 2 x) 1 = us u 1 := uS_in (by decide)
  rw [← e]
  exact uS_own
theorem uS_cap {u : Vw} {x : Int32} : uS (uS u 2 (us u 2)) 1 x = uS u 1 x := by rw [uS_own]
theorem fc_pol {u : Vw} {x : Int32} (hI : Iu (uS (uS u 2 x) 1 (us u 1))) (ht : uT u ≤ 999) : fzu (99999 - uT u) (uS u 2 x) = fcu u x (us u 1) ∧ fzn (99999 - uT u) (uS u 2 x) = fcn u x (us u 1) := by
  unfold fcu fcn
  rw [uS_pol] at hI ⊢
  exact fz_any hI (by rw [uT_sc (by decide)]; exact ht) (by omega)
theorem fc_cap {u : Vw} {x : Int32} (hI : Iu (uS (uS u 2 (us u 2)) 1 x)) (ht : uT u ≤ 999) : fzu (99999 - uT u) (uS u 1 x) = fcu u (us u 2) x ∧ fzn (99999 - uT u) (uS u 1 x) = fcn u (us u 2) x := by
  unfold fcu fcn
  rw [uS_cap] at hI ⊢
  exact fz_any hI (by rw [uT_sc (by decide)]; exact ht) (by omega)
theorem bp_eq (u : Vw) : (bpL u 2).1 = if fcw u 0 ≤ fcw u 1 ∧ fcw u 0 ≤ fcw u 2 then 0 else if fcw u 1 ≤ fcw u 2 then 1 else 2 := by
  have e1 : bpL u 1 = if fcw u 1 < fcw u 0 then (1, fcw u 1) else (0, fcw u 0) := rfl
  have e2 : bpL u 2 = if fcw u 2 < (bpL u 1).2 then (2, fcw u 2) else bpL u 1 := rfl
  rw [e2, e1]
  generalize fcw u 0 = a
  generalize fcw u 1 = b
  generalize fcw u 2 = c
  simp only [Int32.lt_iff_toInt_lt, Int32.le_iff_toInt_le]
  by_cases h1 : b.toInt < a.toInt
  · rw [if_pos h1, if_neg (show ¬ (a.toInt ≤ b.toInt ∧ a.toInt ≤ c.toInt) by omega)]
    by_cases h2 : c.toInt < b.toInt
    · rw [if_pos h2, if_neg (by omega)]
    · rw [if_neg h2, if_pos (by omega)]
  · rw [if_neg h1]
    by_cases h2 : c.toInt < a.toInt
    · rw [if_pos h2, if_neg (by omega), if_neg (by omega)]
    · rw [if_neg h2, if_pos (by omega)]
