/-! what the law asks, as facts of a building -/
theorem stat_in (u : Vw) (i : Nat) : stat u i = 0 ∨ stat u i = 1 ∨ stat u i = 2 ∨ stat u i = 3 := by
  unfold stat
  split
  · exact Or.inr (Or.inr (Or.inr rfl))
  · split
    · exact Or.inr (Or.inr (Or.inl rfl))
    · split
      · exact Or.inr (Or.inl rfl)
      · exact Or.inl rfl
theorem cnt4 (f : Nat → Int32) (h : ∀ i, f i = 0 ∨ f i = 1 ∨ f i = 2 ∨ f i = 3) : ∀ n, cnt (fun i => f i == 0) n + cnt (fun i => f i == 1) n + cnt (fun i => f i == 2) n + cnt (fun i => f i == 3) n = n
  | 0 => rfl
  | n + 1 => by
    have ih := cnt4 f h n
    simp only [cnt]
    generalize cnt (fun i => f i == 0) n = a at *
    generalize cnt (fun i => f i == 1) n = b at *
    generalize cnt (fun i => f i == 2) n = c at *
    generalize cnt (fun i => f i == 3) n = d at *
    rcases h n with e | e | e | e
    · have z : ∀ x : Int32, x ≠ 0 → ¬ (f n == x) = true := fun x hx hh => hx (by rw [← e]; exact (beq_iff_eq.mp hh).symm)
      have y : (f n == 0) = true := beq_iff_eq.mpr e
      rw [if_pos y, if_neg (z 1 (by decide)), if_neg (z 2 (by decide)), if_neg (z 3 (by decide))]; omega
    · have z : ∀ x : Int32, x ≠ 1 → ¬ (f n == x) = true := fun x hx hh => hx (by rw [← e]; exact (beq_iff_eq.mp hh).symm)
      have y : (f n == 1) = true := beq_iff_eq.mpr e
      rw [if_neg (z 0 (by decide)), if_pos y, if_neg (z 2 (by decide)), if_neg (z 3 (by decide))]; omega
    · have z : ∀ x : Int32, x ≠ 2 → ¬ (f n == x) = true := fun x hx hh => hx (by rw [← e]; exact (beq_iff_eq.mp hh).symm)
      have y : (f n == 2) = true := beq_iff_eq.mpr e
      rw [if_neg (z 0 (by decide)), if_neg (z 1 (by decide)), if_pos y, if_neg (z 3 (by decide))]; omega
    · have z : ∀ x : Int32, x ≠ 3 → ¬ (f n == x) = true := fun x hx hh => hx (by rw [← e]; exact (beq_iff_eq.mp hh).symm)
      have y : (f n == 3) = true := beq_iff_eq.mpr e
      rw [if_neg (z 0 (by decide)), if_neg (z 1 (by decide)), if_neg (z 2 (by decide)), if_pos y]; omega
theorem many_sum (u : Vw) : many u 0 + many u 1 + many u 2 + many u 3 = un u := cnt4 (stat u) (stat_in u) (un u)
theorem nI_plus {a b : Nat} : nI a + nI b = nI (a + b) := nI_add a b
theorem law_sum (u : Vw) : nI (many u 0) + nI (many u 1) + nI (many u 2) + nI (many u 3) = nI (un u) := by
  rw [nI_plus, nI_plus, nI_plus, many_sum]
theorem law_cap {u : Vw} (hI : Iu u) : ¬ us u 1 < nI (many u 2) := by
  have h1 := hI.2.2.2.2.2.2.2.2
  have h2 : many u 2 ≤ un u := cnt_le _ _
  have h3 := hI.1
  intro z
  have := Int32.lt_iff_toInt_lt.mp z
  rw [nI_int (by omega)] at this
  omega
theorem law_fin {u : Vw} {n : Nat} (hI : Iu u) (hn : un u = n) : many u 3 = un u ↔ nI (many u 3) = nI n := by
  have h2 : many u 3 ≤ un u := cnt_le _ _
  have h3 := hI.1
  rw [← hn]
  exact ⟨fun e => by rw [e], fun e => neq e (by omega) (by omega)⟩
/-! one passenger -/
theorem wt_step {u : Vw} {p : Nat} : sumI (fun j => nz (wtI u j)) (p + 1) = sumI (fun j => nz (wtI u j)) p + nz (wtI u p) := rfl
theorem i32_add0 (x : Int32) : x + 0 = x := Int32.add_zero x
def P0 (u : Vw) (p : Nat) : Prop := stat u p = 0 ∧ ur u 3 p = -1 ∧ ur u 4 p = -1 ∧ us u 3 < ur u 2 p
def P1 (u : Vw) (p : Nat) : Prop := stat u p = 1 ∧ ur u 3 p = -1 ∧ ur u 4 p = -1 ∧ ¬ us u 3 < ur u 2 p
def P2 (u : Vw) (p : Nat) : Prop := stat u p = 2 ∧ ¬ ur u 3 p = -1 ∧ ur u 4 p = -1 ∧ ¬ us u 3 < ur u 2 p ∧ ¬ ur u 3 p < ur u 2 p ∧ wtI u p = ur u 3 p - ur u 2 p
def P3 (u : Vw) (p : Nat) : Prop := stat u p = 3 ∧ ¬ ur u 3 p = -1 ∧ ¬ ur u 4 p = -1 ∧ ¬ us u 3 < ur u 2 p ∧ ¬ ur u 3 p < ur u 2 p ∧ wtI u p = ur u 3 p - ur u 2 p ∧ ¬ ur u 4 p ≤ ur u 3 p ∧ rdI u p = ur u 4 p - ur u 3 p ∧ 0 ≤ dtI u p
theorem pcase {u : Vw} (h : WJ u) {p : Nat} (hp : p < un u) : P0 u p ∨ P1 u p ∨ P2 u p ∨ P3 u p := by
  have hW := h
  obtain ⟨hI, -, hJ, -⟩ := h
  obtain ⟨-, -, -, ha, hb, hl⟩ := hI.rows p hp
  have ht := hI.2.2.2.2.1
  rcases stat_in u p with e | e | e | e
  · obtain ⟨k1, k2, k3⟩ := stat_eq0.mp e
    exact Or.inl ⟨e, k2, k1, Int32.not_le.mp k3⟩
  · obtain ⟨k1, k2, k3⟩ := stat_eq1.mp e
    exact Or.inr (Or.inl ⟨e, k2, k1, Int32.not_lt.mpr k3⟩)
  · obtain ⟨k1, k2⟩ := stat_eq2.mp e
    have hb2 := hb.resolve_left k2
    refine Or.inr (Or.inr (Or.inl ⟨e, k2, k1, fun z => ?_, fun z => ?_, if_neg k2⟩))
    · have := Int32.lt_iff_toInt_lt.mp z; omega
    · have := Int32.lt_iff_toInt_lt.mp z; omega
  · have k1 := stat_eq3.mp e
    have hl2 := hl.resolve_left k1
    have hb2 := hb.resolve_left hl2.1
    have hj := (hJ p hp).1 k1
    refine Or.inr (Or.inr (Or.inr ⟨e, hl2.1, k1, fun z => ?_, fun z => ?_, if_neg hl2.1, fun z => ?_, if_neg k1, ?_⟩))
    · have := Int32.lt_iff_toInt_lt.mp z; omega
    · have := Int32.lt_iff_toInt_lt.mp z; omega
    · have := Int32.le_iff_toInt_le.mp z; omega
    · obtain ⟨k, hk, ek⟩ := dtI_pos hW hp k1
      rw [ek]
      exact Int32.not_lt.mp (nlt0 hk)
theorem nz_m1 {u : Vw} {p : Nat} (h : ur u 3 p = -1) : nz (wtI u p) = 0 := by
  unfold wtI
  rw [if_pos h]
  rfl
theorem nz_b {u : Vw} (h : WJ u) {p : Nat} (hp : p < un u) (hb : ¬ ur u 3 p = -1) : nz (wtI u p) = ur u 3 p - ur u 2 p := by
  have e : wtI u p = ur u 3 p - ur u 2 p := if_neg hb
  rcases h.1.wt hp with z | ⟨a, h1, h2⟩
  · exfalso
    obtain ⟨-, -, -, ha, hb2, -⟩ := h.1.rows p hp
    have hb3 := hb2.resolve_left hb
    have ht := h.1.2.2.2.2.1
    rw [e, i32_add (by omega) (by omega)] at z
    exact nne1 (by have := clamp_int (x := ur u 3 p) (by omega); omega) z
  · rw [← e, h2]
    exact if_neg (nne1 h1)
theorem sp_0 {u : Vw} {p : Nat} {r : Bool} (h : stat u p = 0 ∨ stat u p = 3) : spF u r (p + 1) = spF u r p := by
  show (if stat u p = 2 then _ else if stat u p = 1 ∧ r = true then _ else spF u r p) = _
  rcases h with h | h
  · rw [h, if_neg (by decide), if_neg (fun z => absurd z.1 (by decide))]
  · rw [h, if_neg (by decide), if_neg (fun z => absurd z.1 (by decide))]
theorem sp_2 {u : Vw} {p : Nat} {r : Bool} (h : stat u p = 2) : spF u r (p + 1) = spF u r p ||| (1 <<< (ur u 1 p &&& 31)) := by
  show (if stat u p = 2 then _ else if stat u p = 1 ∧ r = true then _ else spF u r p) = _
  rw [if_pos h]
theorem sp_1f {u : Vw} {p : Nat} (hI : Iu u) (h : stat u p = 1) (hf : nI (many u 2) = us u 1) : spF u (rmB u) (p + 1) = spF u (rmB u) p := by
  show (if stat u p = 2 then _ else if stat u p = 1 ∧ rmB u = true then _ else spF u (rmB u) p) = _
  have hr : rmB u = false := by
    unfold rmB
    rw [hf]
    exact decide_eq_false Int32.lt_irrefl
  rw [h, if_neg (by decide), if_neg (fun z => by rw [hr] at z; exact absurd z.2 (by decide))]
theorem sp_1r {u : Vw} {p : Nat} (hI : Iu u) (h : stat u p = 1) (hf : ¬ nI (many u 2) = us u 1) : spF u (rmB u) (p + 1) = spF u (rmB u) p ||| (1 <<< (ur u 0 p &&& 31)) := by
  show (if stat u p = 2 then _ else if stat u p = 1 ∧ rmB u = true then _ else spF u (rmB u) p) = _
  have hr : rmB u = true := by
    unfold rmB
    refine decide_eq_true (Int32.lt_of_le_of_ne (Int32.not_lt.mp (law_cap hI)) hf)
  rw [if_neg (by rw [h]; decide), if_pos ⟨h, hr⟩]
/-! two passengers -/
theorem law_q {u : Vw} (h : WJ u) {p q : Nat} (hp : p < un u) (hq : q < un u) (ha : ahB u p q = true) (ho : ur u 0 p = ur u 0 q) (hb : ¬ ur u 3 q = -1) : ¬ ur u 3 p = -1 ∧ ur u 3 p ≤ ur u 3 q := by
  obtain ⟨h1, h2⟩ := h.2.2.2 p q hp hq (ahB_iff.mp ha) ho hb
  exact ⟨h1, Int32.le_iff_toInt_le.mpr h2⟩
theorem ah_lt {u : Vw} {p q : Nat} (h : ur u 2 p < ur u 2 q) : bI (ahB u p q) = 1 := by
  unfold ahB
  rw [decide_eq_true h]
  rfl
theorem ah_eq {u : Vw} {p q : Nat} (h : ur u 2 p = ur u 2 q) (h2 : p < q) : bI (ahB u p q) = 1 := by
  unfold ahB
  rw [decide_eq_true h, decide_eq_true h2, Bool.and_true, Bool.or_true]
  rfl
theorem ah_no1 {u : Vw} {p q : Nat} (h : ¬ ur u 2 p < ur u 2 q) (h2 : ¬ ur u 2 p = ur u 2 q) : bI (ahB u p q) = 0 := by
  unfold ahB
  rw [decide_eq_false h, decide_eq_false h2]
  rfl
theorem ah_no2 {u : Vw} {p q : Nat} (h : ¬ ur u 2 p < ur u 2 q) (h2 : q ≤ p) : bI (ahB u p q) = 0 := by
  unfold ahB
  rw [decide_eq_false h, decide_eq_false (show ¬ p < q by omega), Bool.and_false]
  rfl
/-! one floor -/
def wc (u : Vw) (f : Nat) : Nat := cnt (fun j => (ur u 0 j == nI f) && (stat u j == 1)) (un u)
def wN (u : Vw) : Nat → Nat
  | 0 => 0
  | f + 1 => wN u f + wc u f
theorem wc_le (u : Vw) (f : Nat) : wc u f ≤ un u := cnt_le _ _
theorem wc_wt (u : Vw) (f : Nat) : wc u f = cnt (wtB u (nI f)) (un u) := cnt_congr (fun j _ => Bool.and_comm _ _)
theorem cnt_less {p q : Nat → Bool} {g : Nat} : ∀ {n : Nat}, (∀ i, i < n → p i = true → q i = true) → g < n → q g = true → p g = false → cnt p n < cnt q n
  | 0, _, h, _, _ => absurd h (Nat.not_lt_zero _)
  | n + 1, h, hg, h1, h2 => by
    have le : ∀ m, m ≤ n → cnt p m ≤ cnt q m := fun m => by
      induction m with
      | zero => intro _; exact Nat.le_refl _
      | succ m ih =>
        intro hm
        have := ih (by omega)
        simp only [cnt]
        by_cases e : p m = true
        · rw [if_pos e, if_pos (h m (by omega) e)]; omega
        · rw [if_neg e]
          split <;> omega
    simp only [cnt]
    by_cases e : g = n
    · subst e
      rw [if_neg (by rw [h2]; decide), if_pos h1]
      have := le g (Nat.le_refl _)
      omega
    · have ih := cnt_less (n := n) (fun i hi => h i (by omega)) (by omega) h1 h2
      by_cases e2 : p n = true
      · rw [if_pos e2, if_pos (h n (by omega) e2)]; omega
      · rw [if_neg e2]
        split <;> omega
theorem ahB_irr {u : Vw} {p : Nat} : ahB u p p = false := by
  cases e : ahB u p p with
  | false => rfl
  | true => exact absurd (ahB_iff.mp e) (ahd_asymm (ahB_iff.mp e))
theorem fst_no {p : Nat → Bool} {n : Nat} (h : ∀ j, j < n → p j = false) : fst p 0 n = none := by
  cases e : fst p 0 n with
  | none => rfl
  | some g =>
    obtain ⟨-, h1, h2, -⟩ := fst_some e
    rw [h g (by omega)] at h2
    cases h2
theorem qa_end {u : Vw} (hI : Iu u) (f : Nat) : qaI u (nI f) (nI (wc u f)) = -1 := by
  unfold qaI
  rw [fst_no (fun p hp => ?_)]
  · rfl
  · unfold qaB
    cases e : wtB u (nI f) p with
    | false => rfl
    | true =>
      rw [Bool.true_and]
      have hn := hI.1
      have h1 := ahN_le u p
      have h2 := wc_le u f
      have e0 : ur u 0 p = nI f := by
        have := e
        unfold wtB at this
        simp only [Bool.and_eq_true, beq_iff_eq] at this
        exact this.2
      have h3 : ahN u p < wc u f := by
        rw [wc_wt]
        unfold ahN
        rw [e0]
        refine cnt_less (g := p) (fun i hi z => ?_) hp e ?_
        · rw [Bool.and_eq_true] at z
          exact z.1
        · show (wtB u (nI f) p && ahB u p p) = false
          rw [ahB_irr, Bool.and_false]
      rw [beq_eq_false_iff_ne]
      exact fun z => by have := neq z (by omega) (by omega); omega
theorem qa_m1 {u : Vw} (hI : Iu u) (f : Nat) : qaI u (nI f) (-1) = -1 := by
  unfold qaI
  rw [fst_no (fun p hp => ?_)]
  · rfl
  · unfold qaB
    have h1 := ahN_le u p
    have hn := hI.1
    rw [show (nI (ahN u p) == (-1 : Int32)) = false from beq_eq_false_iff_ne.mpr (nne1 (by omega)), Bool.and_false]
theorem qa_first {u : Vw} (hI : Iu u) {f : Nat} (h : 0 < wc u f) : ∃ g, g < un u ∧ qaI u (nI f) 0 = nI g ∧ ur u 0 g = nI f := by
  have hq : ∃ g, g < un u ∧ qaB u (nI f) 0 g = true := by
    cases e : fw u (wtB u (nI f)) (un u) with
    | none =>
      have := fw_none.mp e
      rw [wc_wt, cnt_none this] at h
      exact absurd h (Nat.lt_irrefl _)
    | some g =>
      obtain ⟨h1, h2, h3⟩ := fw_some e
      refine ⟨g, h1, ?_⟩
      have e0 : ur u 0 g = nI f := by
        have := h2
        unfold wtB at this
        simp only [Bool.and_eq_true, beq_iff_eq] at this
        exact this.2
      have ez : ahN u g = 0 := by
        unfold ahN
        rw [e0]
        refine cnt_none (fun j hj => ?_)
        cases e4 : wtB u (nI f) j with
        | false => rfl
        | true =>
          rw [Bool.true_and]
          by_cases ej : j = g
          · rw [ej, ahB_irr]
          · cases e5 : ahB u j g with
            | false => rfl
            | true => exact absurd (h3 j hj e4 ej) (ahd_asymm (ahB_iff.mp e5))
      unfold qaB
      rw [h2, ez]
      rfl
  obtain ⟨g0, h1, h2⟩ := hq
  unfold qaI
  cases e : fst (qaB u (nI f) 0) 0 (un u) with
  | none =>
    have := fst_none e g0 (Nat.zero_le _) (by omega)
    rw [h2] at this
    cases this
  | some g =>
    obtain ⟨-, h3, h4, -⟩ := fst_some e
    refine ⟨g, by omega, rfl, ?_⟩
    unfold qaB wtB at h4
    simp only [Bool.and_eq_true, beq_iff_eq] at h4
    exact h4.1.2
theorem cnt_plus {p q r : Nat → Bool} : ∀ {n : Nat}, (∀ j, j < n → (if p j then 1 else 0) + (if q j then 1 else 0) = (if r j then 1 else 0 : Nat)) → cnt p n + cnt q n = cnt r n
  | 0, _ => rfl
  | n + 1, h => by
    have ih := cnt_plus (n := n) (fun j hj => h j (by omega))
    have h2 := h n (by omega)
    simp only [cnt]
    omega
theorem wN_cnt {u : Vw} (hI : Iu u) : ∀ F, F ≤ 100 → wN u F = cnt (fun j => decide (oN u j < F) && (stat u j == 1)) (un u)
  | 0, _ => by
    refine (cnt_none (fun j hj => ?_)).symm
    rw [decide_eq_false (Nat.not_lt_zero _), Bool.false_and]
  | F + 1, hF => by
    show wN u F + wc u F = _
    rw [wN_cnt hI F (by omega)]
    refine cnt_plus (fun j hj => ?_)
    obtain ⟨o1, o2⟩ := hI.o hj
    have h20 := hI.F.2.2.2.1
    by_cases es : stat u j = 1
    · rw [es, o1]
      by_cases e : oN u j = F
      · rw [e, decide_eq_false (Nat.lt_irrefl _), decide_eq_true (Nat.lt_succ_self _)]
        rw [show (nI F == nI F) = true from beq_self_eq_true _]
        rfl
      · rw [show (nI (oN u j) == nI F) = false from beq_eq_false_iff_ne.mpr (fun z => e (neq z (by omega) (by omega)))]
        by_cases e2 : oN u j < F
        · rw [decide_eq_true e2, decide_eq_true (show oN u j < F + 1 by omega)]; rfl
        · rw [decide_eq_false e2, decide_eq_false (show ¬ oN u j < F + 1 by omega)]; rfl
    · rw [show (stat u j == 1) = false from beq_eq_false_iff_ne.mpr es, Bool.and_false, Bool.and_false, Bool.and_false]
      rfl
theorem wN_all {u : Vw} (hI : Iu u) : wN u (uN u) = many u 1 := by
  have h20 := hI.F.2.2.2.1
  rw [wN_cnt hI _ (by omega)]
  refine cnt_congr (fun j hj => ?_)
  rw [decide_eq_true (hI.o hj).2, Bool.true_and]
theorem wN_le {u : Vw} (hI : Iu u) {F : Nat} (hF : F ≤ 100) : wN u F ≤ un u := by
  rw [wN_cnt hI F hF]
  exact cnt_le _ _
theorem first_w {u : Vw} (hI : Iu u) : oI (fw u (isW u) (un u)) = -1 ↔ many u 1 = 0 := by
  have hn := hI.1
  rw [oI_none (fun i e => by have := (fw_some e).1; omega), fw_none]
  constructor
  · intro h
    exact cnt_none h
  · intro h
    exact cnt_zero h
/-! one tick -/
theorem law_has {u : Vw} : (stp u >>> (us u 4 &&& 31)) &&& 1 = bI (hasB (stp u) (us u 4)) := by
  unfold hasB
  rcases b01 (stp u >>> (us u 4 &&& 31)) with e | e
  · rw [e]; rfl
  · rw [e]; rfl
theorem tgt_0 {u : Vw} {pol : Int32} (h : stp u = 0) : tgt u pol = -1 := by
  unfold tgt
  rw [if_pos h]
theorem tgt_h {u : Vw} {pol : Int32} (h : ¬ stp u = 0) (h2 : hasB (stp u) (us u 4) = true) : tgt u pol = us u 4 := by
  unfold tgt
  rw [if_neg h, if_pos h2]
def T0 (u : Vw) : Prop := hasB (stp u) (us u 4) = true ∧ us (tk u) 4 = us u 4 ∧ us (tk u) 7 = us u 7 + 1 ∧ tgt u (us u 2) = us u 4
def T1 (u : Vw) : Prop := hasB (stp u) (us u 4) = false ∧ stp u = 0 ∧ us (tk u) 4 = us u 4 ∧ us (tk u) 8 = us u 8 + 1 ∧ tgt u (us u 2) = -1
def T2 (u : Vw) : Prop := hasB (stp u) (us u 4) = false ∧ ¬ stp u = 0 ∧ (if 0 ≤ us (tk u) 4 - us u 4 then us (tk u) 4 - us u 4 else 0 - (us (tk u) 4 - us u 4)) = 1 ∧ (us u 4 < tgt u (us u 2) ↔ us u 4 < us (tk u) 4)
theorem tcase {u : Vw} (hI : Iu u) : T0 u ∨ T1 u ∨ T2 u := by
  obtain ⟨hF, hN, hFN, h20, -⟩ := hI.F
  rcases tk0_cases hI with ⟨e0, eb, e⟩ | ⟨e0, eb, e⟩ | ⟨e0, eb, e, g, g1, g2, g3, -⟩
  · have et : tk u = uS (uS u 8 (us u 8 + 1)) 3 (us u 3 + 1) := by unfold tk; rw [e]
    refine Or.inr (Or.inl ⟨Bool.eq_false_iff.mpr eb, e0, ?_, ?_, tgt_0 e0⟩)
    · rw [et, uS_in (by decide), uS_in (by decide)]
    · rw [et, uS_in (by decide), uS_at]
  · have et : tk u = uS (opn u) 3 (us u 3 + 1) := by unfold tk; rw [e]
    have eu : us (brd (un u) (lvS u (un u))) = us u := by rw [brd_us]; rfl
    refine Or.inl ⟨eb, ?_, ?_, tgt_h e0 eb⟩
    · rw [et, uS_in (by decide)]
      show us (uS (brd (un u) (lvS u (un u))) 7 (us u 7 + 1)) 4 = _
      rw [uS_in (by decide), eu]
    · rw [et, uS_in (by decide)]
      show us (uS (brd (un u) (lvS u (un u))) 7 (us u 7 + 1)) 7 = _
      rw [uS_at]
  · have et : tk u = uS (mv u (nI g)) 3 (us u 3 + 1) := by unfold tk; rw [e, g3]
    have e4 : us (tk u) 4 = us (mv u (nI g)) 4 := by rw [et, uS_in (by decide)]
    have kU : ∀ F, F < 20 → (if 0 ≤ nI (F + 1) - nI F then nI (F + 1) - nI F else 0 - (nI (F + 1) - nI F)) = (1 : Int32) ∧ nI F < nI (F + 1) := by decide +kernel
    have kD : ∀ F, F < 20 → 0 < F → (if 0 ≤ nI (F - 1) - nI F then nI (F - 1) - nI F else 0 - (nI (F - 1) - nI F)) = (1 : Int32) ∧ ¬ nI F < nI (F - 1) := by decide +kernel
    refine Or.inr (Or.inr ⟨Bool.eq_false_iff.mpr eb, e0, ?_, ?_⟩)
    · rw [e4, hF]
      rcases mv_step hI g1 g2 with ⟨q1, q2⟩ | ⟨q1, q2⟩
      · rw [q2]; exact (kU _ (by omega)).1
      · rw [q2]; exact (kD _ (by omega) (by omega)).1
    · rw [e4, g3, hF]
      rcases mv_step hI g1 g2 with ⟨q1, q2⟩ | ⟨q1, q2⟩
      · rw [q2]
        exact ⟨fun _ => (kU _ (by omega)).2, fun _ => nI_lt q1 (by omega)⟩
      · rw [q2]
        exact ⟨fun z => absurd (nlt z (by omega) (by omega)) (by omega), fun z => absurd z (kD _ (by omega) (by omega)).2⟩
/-! arguments in range -/
theorem okP_nI {u : Vw} {p : Nat} (hI : Iu u) (hp : p < un u) : okP u (nI p) = true := by
  have hn := hI.1
  unfold okP
  rw [decide_eq_true (Int32.not_lt.mp (nlt0 (by omega))), decide_eq_true (nI_lt hp (by omega))]
  rfl
theorem okF_nI {u : Vw} {f : Nat} (hI : Iu u) (hf : f < uN u) : okF u (nI f) = true := by
  obtain ⟨-, hN, -, h20, -⟩ := hI.F
  unfold okF
  rw [hN, decide_eq_true (Int32.not_lt.mp (nlt0 (by omega))), decide_eq_true (nI_lt hf (by omega))]
  rfl
theorem okY_pol {u : Vw} (hI : Iu u) : okI 0 2 (us u 2) = true := by
  rcases hI.pol with e | e | e <;> rw [e] <;> decide
theorem okI_8 {a : Nat} (h1 : 1 ≤ a) (h8 : a ≤ 8) : okI 1 8 (nI a) = true := by
  have key : ∀ a, a < 9 → 1 ≤ a → okI 1 8 (nI a) = true := by decide +kernel
  exact key a (by omega) h1
