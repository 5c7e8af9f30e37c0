/-! a tick keeps the building in order -/
theorem rmB_lt {u : Vw} (hn : un u ≤ 40) (h : rmB u = true) : (many u 2 : Int) < (us u 1).toInt := by
  unfold rmB at h
  rw [decide_eq_true_iff, Int32.lt_iff_toInt_lt, nI_toInt (by have := cnt_le (fun i => stat u i == 2) (un u); unfold many; omega)] at h
  exact h
theorem many_lvS {u : Vw} (ht : ¬ us u 3 = -1) : ∀ k, k ≤ un u → many (lvS u k) 2 ≤ many u 2
  | 0, _ => by rw [lvS_0]; exact Nat.le_refl _
  | k + 1, h => by
    have ih := many_lvS ht k (by omega)
    by_cases hc : stat u k = 2 ∧ ur u 1 k = us u 4
    · rw [← lvS_yes hc.1 hc.2]
      have := (many_left (u := lvS u k) (i := k) ht (by show k < un u; omega) (by rw [lvS_stat (Nat.le_refl _)]; exact hc.1)).1
      omega
    · rw [lvS_no hc]; exact ih
theorem many_brd : ∀ (k : Nat) (u : Vw), un u ≤ 40 → ¬ us u 3 = -1 → ¬ us u 4 = -1 → (many u 2 : Int) ≤ (us u 1).toInt → (many (brd k u) 2 : Int) ≤ (us u 1).toInt
  | 0, u, _, _, _, h => h
  | k + 1, u, hn, ht, hf, h => by
    simp only [brd]
    cases hw : fw u (isWf u (us u 4)) (un u) with
    | none => exact h
    | some g =>
      simp only
      split
      · rename_i hr
        obtain ⟨h1, h2, -⟩ := fw_some hw
        have h3 := (many_board (u := u) ht h1 ((isWf_iff hf).mp h2).1).1
        have h4 := rmB_lt hn hr
        exact many_brd k (uR u 3 g (us u 3)) hn ht hf (by rw [h3]; show ((many u 2 + 1 : Nat) : Int) ≤ (us u 1).toInt; omega)
      · exact h
/-- what the rows of a passenger must keep, at a time -/
def Row (t N : Int) (o d a b l : Int32) : Prop := (0 ≤ o.toInt ∧ o.toInt < N) ∧ (0 ≤ d.toInt ∧ d.toInt < N) ∧ o ≠ d ∧ (0 ≤ a.toInt ∧ a.toInt ≤ 999) ∧ (b = -1 ∨ (a.toInt ≤ b.toInt ∧ b.toInt < t)) ∧ (l = -1 ∨ (b ≠ -1 ∧ b.toInt ≤ l.toInt ∧ l.toInt < t))
def Rows (t : Int) (u : Vw) : Prop := ∀ i, i < un u → Row t (us u 0).toInt (ur u 0 i) (ur u 1 i) (ur u 2 i) (ur u 3 i) (ur u 4 i)
theorem Iu.rows {u : Vw} (h : Iu u) : Rows (us u 3).toInt u := h.2.2.2.2.2.2.2.1
theorem Rows_mono {t t2 : Int} {u : Vw} (h : Rows t u) (ht : t ≤ t2) : Rows t2 u := fun i hi => by
  obtain ⟨h1, h2, h3, h4, h5, h6⟩ := h i hi
  exact ⟨h1, h2, h3, h4, h5.elim Or.inl (fun z => Or.inr ⟨z.1, by omega⟩), h6.elim Or.inl (fun z => Or.inr ⟨z.1, z.2.1, by omega⟩)⟩
theorem Rows_left {t : Int} {u : Vw} (h : Rows t u) (h2 : (us u 3).toInt < t) {i : Nat} (hs : stat u i = 2) (hb : ∀ j, j < un u → ur u 3 j = -1 ∨ (ur u 3 j).toInt ≤ (us u 3).toInt) : Rows t (uR u 4 i (us u 3)) := fun j hj => by
  have r : ∀ c, ur (uR u 4 i (us u 3)) c j = if c = 4 ∧ j = i then us u 3 else ur u c j := fun c => by
    show up2 (ur u) 4 i (us u 3) c j = _
    rw [up2_if]
  obtain ⟨h1, h2', h3, h4, h5, h6⟩ := h j hj
  by_cases e : j = i
  · subst e
    rw [r, r, r, r, r]
    have h7 := (stat_eq2.mp hs).2
    simp only [if_pos (show 4 = 4 ∧ j = j from ⟨rfl, rfl⟩), show (0 = 4 ∧ j = j) = False by simp, show (1 = 4 ∧ j = j) = False by simp, show (2 = 4 ∧ j = j) = False by simp, show (3 = 4 ∧ j = j) = False by simp, if_false]
    exact ⟨h1, h2', h3, h4, h5, Or.inr ⟨h7, (hb j hj).resolve_left h7, h2⟩⟩
  · rw [r, r, r, r, r]
    simp only [e, and_false, if_false]
    exact ⟨h1, h2', h3, h4, h5, h6⟩
theorem Rows_board {t : Int} {u : Vw} (h : Rows t u) (h2 : (us u 3).toInt < t) {i : Nat} (hs : stat u i = 1) : Rows t (uR u 3 i (us u 3)) := fun j hj => by
  have r : ∀ c, ur (uR u 3 i (us u 3)) c j = if c = 3 ∧ j = i then us u 3 else ur u c j := fun c => by
    show up2 (ur u) 3 i (us u 3) c j = _
    rw [up2_if]
  obtain ⟨h1, h2', h3, h4, h5, h6⟩ := h j hj
  by_cases e : j = i
  · subst e
    rw [r, r, r, r, r]
    obtain ⟨k1, k2, k3⟩ := stat_eq1.mp hs
    simp only [if_pos (show 3 = 3 ∧ j = j from ⟨rfl, rfl⟩), show (0 = 3 ∧ j = j) = False by simp, show (1 = 3 ∧ j = j) = False by simp, show (2 = 3 ∧ j = j) = False by simp, show (4 = 3 ∧ j = j) = False by simp, if_false]
    exact ⟨h1, h2', h3, h4, Or.inr ⟨Int32.le_iff_toInt_le.mp k3, h2⟩, Or.inl k1⟩
  · rw [r, r, r, r, r]
    simp only [e, and_false, if_false]
    exact ⟨h1, h2', h3, h4, h5, h6⟩
theorem Rows_lvS {t : Int} {u : Vw} (h : Rows t u) (h2 : (us u 3).toInt < t) (hb : ∀ j, j < un u → ur u 3 j = -1 ∨ (ur u 3 j).toInt ≤ (us u 3).toInt) : ∀ k, k ≤ un u → Rows t (lvS u k)
  | 0, _ => by rw [lvS_0]; exact h
  | k + 1, hk => by
    have ih := Rows_lvS h h2 hb k (by omega)
    by_cases hc : stat u k = 2 ∧ ur u 1 k = us u 4
    · rw [← lvS_yes hc.1 hc.2]
      exact Rows_left (u := lvS u k) ih h2 (by rw [lvS_stat (Nat.le_refl _)]; exact hc.1) (fun j hj => by rw [lvS_row (by decide)]; exact hb j hj)
    · rw [lvS_no hc]; exact ih
theorem Rows_brd {t : Int} : ∀ (k : Nat) (u : Vw), Rows t u → (us u 3).toInt < t → ¬ us u 4 = -1 → Rows t (brd k u)
  | 0, u, h, _, _ => h
  | k + 1, u, h, h2, hf => by
    simp only [brd]
    cases hw : fw u (isWf u (us u 4)) (un u) with
    | none => exact h
    | some g =>
      simp only
      split
      · obtain ⟨-, h3, -⟩ := fw_some hw
        exact Rows_brd k _ (Rows_board h h2 ((isWf_iff hf).mp h3).1) h2 hf
      · exact h
theorem Rows_sc {t : Int} {u : Vw} (h : Rows t u) {j : Nat} {x : Int32} (hj : j ≠ 0) : Rows t (uS u j x) := fun i hi => by
  have e : us (uS u j x) 0 = us u 0 := upd_in (fun z => hj z.symm)
  rw [e]
  exact h i hi
theorem add1 {x : Int32} (h : x.toInt < 100000000) (h0 : 0 ≤ x.toInt) : (x + 1).toInt = x.toInt + 1 := by
  have e := nI_back h0
  have e2 := clamp_int h0
  rw [e, nI_1, nI_toInt (by omega), nI_toInt (by omega)]
  omega
theorem Iu.pol {u : Vw} (h : Iu u) : us u 2 = 0 ∨ us u 2 = 1 ∨ us u 2 = 2 := by
  obtain ⟨h1, h2⟩ := h.2.2.2.1
  have e := nI_back h1
  have e2 := clamp_int h1
  have h3 : (us u 2).toNatClampNeg = 0 ∨ (us u 2).toNatClampNeg = 1 ∨ (us u 2).toNatClampNeg = 2 := by omega
  rcases h3 with z | z | z
  · exact Or.inl (by rw [e, z]; rfl)
  · exact Or.inr (Or.inl (by rw [e, z]; rfl))
  · exact Or.inr (Or.inr (by rw [e, z]; rfl))
/-- the road of a tick -/
theorem tk0_cases {u : Vw} (hI : Iu u) : (stp u = 0 ∧ ¬ hasB (stp u) (us u 4) = true ∧ tk0 u = uS u 8 (us u 8 + 1)) ∨ (¬ stp u = 0 ∧ hasB (stp u) (us u 4) = true ∧ tk0 u = opn u) ∨ (¬ stp u = 0 ∧ ¬ hasB (stp u) (us u 4) = true ∧ tk0 u = mv u (tgt u (us u 2)) ∧ ∃ g, g < uN u ∧ g ≠ uF u ∧ tgt u (us u 2) = nI g ∧ hasB (stp u) (nI g) = true) := by
  obtain ⟨hF, hN, hFN, h20, -⟩ := hI.F
  by_cases h0 : stp u = 0
  · refine Or.inl ⟨h0, fun hb => ?_, ?_⟩
    · rw [hF] at hb
      obtain ⟨i, hi, hs⟩ := (stp_bit hI (by omega)).mp hb
      exact (stp_zero hI).mp h0 i hi (hs.elim (fun z => Or.inl z.1) (fun z => Or.inr ⟨z.1, z.2.1⟩))
    · have e : tgt u (us u 2) = -1 := by unfold tgt; rw [if_pos h0]
      unfold tk0
      rw [if_pos e]
  · by_cases hb : hasB (stp u) (us u 4) = true
    · have e : tgt u (us u 2) = us u 4 := by unfold tgt; rw [if_neg h0, if_pos hb]
      refine Or.inr (Or.inl ⟨h0, hb, ?_⟩)
      unfold tk0
      rw [e, if_neg hI.f, if_pos rfl]
    · obtain ⟨g, h1, h2, h3, h4⟩ := tgt_away hI (us u 2) h0 hb
      refine Or.inr (Or.inr ⟨h0, hb, ?_, g, h1, h2, h3, h4⟩)
      unfold tk0
      rw [if_neg (by rw [h3]; exact nne1 (by omega)), if_neg (by rw [h3, hF]; exact fun z => h2 (neq z (by omega) (by omega)))]
theorem Iu_of {u v : Vw} (hI : Iu u) (h1 : un v = un u) (h0 : us v 0 = us u 0) (hc : us v 1 = us u 1) (hp : us v 2 = us u 2) (h3 : (us v 3).toInt = (us u 3).toInt + 1) (h3' : (us u 3).toInt < 10000000) (h4 : 0 ≤ (us v 4).toInt ∧ (us v 4).toInt < (us u 0).toInt) (h5 : us v 5 = 0 ∨ us v 5 = 1) (hr : Rows ((us u 3).toInt + 1) v) (hm : (many v 2 : Int) ≤ (us u 1).toInt) : Iu v := by
  obtain ⟨a1, a2, a3, a4, a5, a6, a7, a8, a9⟩ := hI
  refine ⟨by rw [h1]; exact a1, by rw [h0]; exact a2, by rw [hc]; exact a3, by rw [hp]; exact a4, by rw [h3]; omega, by rw [h0]; exact h4, h5, ?_, by rw [hc]; exact hm⟩
  have := hr
  unfold Rows at this
  rw [← h3] at this
  exact this
theorem Iu_tk {u : Vw} (hI : Iu u) (ht : (us u 3).toInt < 10000000) : Iu (tk u) := by
  obtain ⟨hF, hN, hFN, h20, -⟩ := hI.F
  obtain ⟨b1, b2⟩ := hI.2.2.2.2.1
  obtain ⟨c1, c2⟩ := hI.2.2.2.2.2.1
  have hr := Rows_mono hI.rows (show (us u 3).toInt ≤ (us u 3).toInt + 1 by omega)
  have e3 : us (tk u) 3 = us u 3 + 1 := (upd_at : upd (us (tk0 u)) 3 (us u 3 + 1) 3 = us u 3 + 1)
  have e3' : (us (tk u) 3).toInt = (us u 3).toInt + 1 := by rw [e3, add1 (by omega) b1]
  rcases tk0_cases hI with ⟨-, -, e⟩ | ⟨-, -, e⟩ | ⟨-, -, e, g, g1, g2, g3, -⟩
  · have et : tk u = uS (uS u 8 (us u 8 + 1)) 3 (us u 3 + 1) := by unfold tk; rw [e]
    rw [et] at e3' ⊢
    refine Iu_of hI rfl rfl rfl rfl e3' ht ⟨c1, c2⟩ hI.2.2.2.2.2.2.1 (Rows_sc (Rows_sc hr (by decide)) (by decide)) ?_
    rw [many_sc2, many_sc2]
    exact hI.2.2.2.2.2.2.2.2
  · have et : tk u = uS (opn u) 3 (us u 3 + 1) := by unfold tk; rw [e]
    have eu : us (brd (un u) (lvS u (un u))) = us u := by rw [brd_us]; rfl
    rw [et] at e3' ⊢
    have hb : ∀ j, j < un u → ur u 3 j = -1 ∨ (ur u 3 j).toInt ≤ (us u 3).toInt := fun j hj => by
      rcases (hI.rows j hj).2.2.2.2.1 with z | z
      · exact Or.inl z
      · exact Or.inr (by omega)
    have f0 : us (uS (opn u) 3 (us u 3 + 1)) 0 = us u 0 := congrFun eu 0
    have f1 : us (uS (opn u) 3 (us u 3 + 1)) 1 = us u 1 := congrFun eu 1
    have f2 : us (uS (opn u) 3 (us u 3 + 1)) 2 = us u 2 := congrFun eu 2
    have f4 : us (uS (opn u) 3 (us u 3 + 1)) 4 = us u 4 := congrFun eu 4
    have f5 : us (uS (opn u) 3 (us u 3 + 1)) 5 = us u 5 := congrFun eu 5
    refine Iu_of hI (show un (brd (un u) (lvS u (un u))) = un u by rw [brd_un]; rfl) f0 f1 f2 e3' ht (by rw [f4]; exact ⟨c1, c2⟩) (by rw [f5]; exact hI.2.2.2.2.2.2.1) (Rows_sc (Rows_sc ?_ (by decide)) (by decide)) ?_
    · refine Rows_brd _ _ (Rows_lvS hr (by omega) hb _ (Nat.le_refl _)) ?_ hI.f
      show (us u 3).toInt < _
      omega
    · rw [many_sc2]
      show (many (uS _ 7 _) 2 : Int) ≤ _
      rw [many_sc2]
      refine many_brd (un u) (lvS u (un u)) hI.1 hI.t hI.f ?_
      have := many_lvS hI.t (un u) (Nat.le_refl _)
      have h9 := hI.2.2.2.2.2.2.2.2
      show ((many (lvS u (un u)) 2 : Nat) : Int) ≤ (us u 1).toInt
      omega
  · have et : tk u = uS (mv u (nI g)) 3 (us u 3 + 1) := by unfold tk; rw [e, g3]
    rw [et] at e3' ⊢
    have hlt : us u 4 < nI g ↔ uF u < g := by rw [hF]; exact nI_ltI (by omega) (by omega)
    have hfl : us (mv u (nI g)) 4 = us u 4 + (if us u 4 < nI g then 1 else -1) := by
      show upd (upd (us (mvd u (nI g))) 4 (us u 4 + (if us u 4 < nI g then 1 else -1))) 6 (us u 6 + 1) 4 = us u 4 + (if us u 4 < nI g then 1 else -1)
      rw [upd_in (by decide), upd_at]
    have hsame : ∀ j, j ≠ 4 → j ≠ 5 → j ≠ 6 → j ≠ 9 → us (mv u (nI g)) j = us u j := fun j k4 k5 k6 k9 => by
      show upd (upd (us (mvd u (nI g))) 4 _) 6 _ j = _
      rw [upd_in k6, upd_in k4]
      unfold mvd
      split
      · show upd (upd (us u) 5 _) 9 _ j = _
        rw [upd_in k9, upd_in k5]
      · rfl
    have h5 : us (mv u (nI g)) 5 = 0 ∨ us (mv u (nI g)) 5 = 1 := by
      have e5 : us (mv u (nI g)) 5 = us (mvd u (nI g)) 5 := by
        show upd (upd (us (mvd u (nI g))) 4 (us u 4 + (if us u 4 < nI g then 1 else -1))) 6 (us u 6 + 1) 5 = us (mvd u (nI g)) 5
        rw [upd_in (by decide), upd_in (by decide)]
      rw [e5]
      unfold mvd
      split
      · have e6 : us (uS (uS u 5 (bI (decide (us u 4 < nI g)))) 9 (us u 9 + 1)) 5 = bI (decide (us u 4 < nI g)) := by
          show upd (upd (us u) 5 (bI (decide (us u 4 < nI g)))) 9 (us u 9 + 1) 5 = bI (decide (us u 4 < nI g))
          rw [upd_in (by decide), upd_at]
        rw [e6]
        unfold bI
        split
        · exact Or.inr rfl
        · exact Or.inl rfl
      · exact hI.2.2.2.2.2.2.1
    have h4 : 0 ≤ (us (mv u (nI g)) 4).toInt ∧ (us (mv u (nI g)) 4).toInt < (us u 0).toInt := by
      have eN : (us u 0).toInt = uN u := by rw [hN, nI_toInt (by omega)]
      rw [hfl, eN]
      by_cases z : us u 4 < nI g
      · rw [if_pos z, hF, nI_1, nI_toInt (by omega)]
        have := hlt.mp z
        omega
      · rw [if_neg z]
        have h6 : g < uF u := by
          rcases Nat.lt_or_ge g (uF u) with q | q
          · exact q
          · exact absurd (hlt.mpr (by omega)) z
        rw [hF, show uF u = (uF u - 1) + 1 by omega, pk_m1, nI_toInt (by omega)]
        omega
    have hun : un (mv u (nI g)) = un u := by
      show un (mvd u (nI g)) = un u
      unfold mvd
      split <;> rfl
    have hur : ur (mv u (nI g)) = ur u := by
      show ur (mvd u (nI g)) = ur u
      unfold mvd
      split <;> rfl
    have hmm : many (mv u (nI g)) 2 = many u 2 := by
      show many (uS (uS (mvd u (nI g)) 4 _) 6 _) 2 = _
      rw [many_sc2, many_sc2]
      unfold mvd
      split
      · rw [many_sc2, many_sc2]
      · rfl
    refine Iu_of hI hun (hsame 0 (by decide) (by decide) (by decide) (by decide)) (hsame 1 (by decide) (by decide) (by decide) (by decide)) (hsame 2 (by decide) (by decide) (by decide) (by decide)) e3' ht h4 h5 (Rows_sc (fun i hi => ?_) (by decide)) ?_
    · rw [hur, hsame 0 (by decide) (by decide) (by decide) (by decide)]
      exact hr i (by rw [hun] at hi; exact hi)
    · rw [many_sc2, hmm]
      exact hI.2.2.2.2.2.2.2.2
/-- sweeping: the direction -/
theorem sweep {u : Vw} (hI : Iu u) (h0 : ¬ stp u = 0) (hf : ¬ hasB (stp u) (us u 4) = true) (hp : us u 2 = 2) :
    ((if us u 5 = 1 then upU u else dnU u) = -1 → bI (decide (us u 4 < tgt u (us u 2))) = 1 - us u 5 ∧ ¬ bI (decide (us u 4 < tgt u (us u 2))) = us u 5) ∧ (¬ (if us u 5 = 1 then upU u else dnU u) = -1 → bI (decide (us u 4 < tgt u (us u 2))) = us u 5) := by
  obtain ⟨hF, hN, hFN, h20, -⟩ := hI.F
  have ha := away hI h0 hf
  have e : tgt u (us u 2) = (if dnU u = -1 then upU u else if upU u = -1 then dnU u else if us u 5 = 0 then dnU u else upU u) := by
    rw [hp]
    unfold tgt
    rw [if_neg h0, if_neg hf, if_neg (by decide), if_pos rfl]
    rfl
  rw [e]
  have hd : dnU u = -1 ∨ ¬ us u 4 < dnU u := by
    rcases dnU_cases hI with z | ⟨k, h1, h2, -⟩
    · exact Or.inl z
    · refine Or.inr ?_
      rw [h2, hF]
      exact nI_nlt (by omega) (by omega)
  have hu : upU u = -1 ∨ us u 4 < upU u := by
    rcases upU_cases hI with z | ⟨k, h1, h2, h3, -⟩
    · exact Or.inl z
    · refine Or.inr ?_
      rw [h3, hF]
      exact nI_lt (by omega) (by omega)
  have b1 : bI true = 1 := rfl
  have b0 : bI false = 0 := rfl
  rcases hI.2.2.2.2.2.2.1 with h5 | h5
  · have n1 : ¬ us u 5 = 1 := by rw [h5]; decide
    rw [if_neg n1]
    constructor
    · intro z
      rw [if_pos z]
      have hlt := hu.resolve_left (fun y => ha ⟨z, y⟩)
      rw [decide_eq_true hlt, b1, h5]
      exact ⟨rfl, by decide⟩
    · intro z
      rw [if_neg z]
      have hnl := hd.resolve_left z
      have e2 : (if upU u = -1 then dnU u else if us u 5 = 0 then dnU u else upU u) = dnU u := by
        by_cases y : upU u = -1
        · rw [if_pos y]
        · rw [if_neg y, if_pos h5]
      rw [e2, decide_eq_false hnl, b0, h5]
  · rw [if_pos h5]
    have n0 : ¬ us u 5 = 0 := by rw [h5]; decide
    constructor
    · intro z
      have hdn : ¬ dnU u = -1 := fun y => ha ⟨y, z⟩
      rw [if_neg hdn, if_pos z, decide_eq_false (hd.resolve_left hdn), b0, h5]
      exact ⟨rfl, by decide⟩
    · intro z
      have e2 : (if dnU u = -1 then upU u else if upU u = -1 then dnU u else if us u 5 = 0 then dnU u else upU u) = upU u := by
        by_cases y : dnU u = -1
        · rw [if_pos y]
        · rw [if_neg y, if_neg z, if_neg n0]
      rw [e2, decide_eq_true (hu.resolve_left z), b1, h5]
