/-! what the law asks of a building, kept by every step -/
def RJ (T F : Int) (o d b l : Int32) : Prop := (l ≠ -1 → b.toInt + 1 + (o.toInt - d.toInt) ≤ l.toInt ∧ b.toInt + 1 + (d.toInt - o.toInt) ≤ l.toInt) ∧ (l = -1 → b ≠ -1 → b.toInt + 1 + (F - o.toInt) ≤ T ∧ b.toInt + 1 + (o.toInt - F) ≤ T)
def RJs (T F : Int) (u : Vw) : Prop := ∀ i, i < un u → RJ T F (ur u 0 i) (ur u 1 i) (ur u 3 i) (ur u 4 i)
def QO (u : Vw) : Prop := ∀ p q, p < un u → q < un u → ahd u p q → ur u 0 p = ur u 0 q → ur u 3 q ≠ -1 → ur u 3 p ≠ -1 ∧ (ur u 3 p).toInt ≤ (ur u 3 q).toInt
def TS (u : Vw) : Prop := us u 3 = us u 6 + us u 7 + us u 8
def WJ (u : Vw) : Prop := Iu u ∧ TS u ∧ RJs (us u 3).toInt (us u 4).toInt u ∧ QO u
theorem RJs_mono {T F T2 F2 : Int} {u : Vw} (h : RJs T F u) (h1 : T + (F2 - F) ≤ T2) (h2 : T + (F - F2) ≤ T2) : RJs T2 F2 u := fun i hi => by
  obtain ⟨a1, a2⟩ := h i hi
  refine ⟨a1, fun z1 z2 => ?_⟩
  obtain ⟨b1, b2⟩ := a2 z1 z2
  exact ⟨by omega, by omega⟩
theorem RJs_same {T F : Int} {u v : Vw} (h : RJs T F u) (h1 : un v = un u) (h2 : ur v = ur u) : RJs T F v := fun i hi => by
  rw [h2]
  exact h i (by rw [← h1]; exact hi)
theorem RJs_left {u : Vw} (h : RJs (us u 3).toInt (us u 4).toInt u) (ht : ¬ us u 3 = -1) {i : Nat} (hs : stat u i = 2) (hd : ur u 1 i = us u 4) : RJs (us u 3).toInt (us u 4).toInt (uR u 4 i (us u 3)) := fun j hj => by
  have r : ∀ c, ur (uR u 4 i (us u 3)) c j = if c = 4 ∧ j = i then us u 3 else ur u c j := fun c => by
    show up2 (ur u) 4 i (us u 3) c j = _
    rw [up2_if]
  have r0 : ∀ c, c ≠ 4 → ur (uR u 4 i (us u 3)) c j = ur u c j := fun c hc => (r c).trans (if_neg (fun z => hc z.1))
  obtain ⟨h1, h2⟩ := h j hj
  rw [r0 0 (by decide), r0 1 (by decide), r0 3 (by decide)]
  by_cases e : j = i
  · subst e
    obtain ⟨k1, k2⟩ := stat_eq2.mp hs
    have h3 := h2 k1 k2
    rw [show ur (uR u 4 j (us u 3)) 4 j = us u 3 from (r 4).trans (if_pos ⟨rfl, rfl⟩), hd]
    exact ⟨fun _ => ⟨by omega, by omega⟩, fun z => absurd z ht⟩
  · rw [show ur (uR u 4 i (us u 3)) 4 j = ur u 4 j from (r 4).trans (if_neg (fun z => e z.2))]
    exact ⟨h1, h2⟩
theorem RJs_board {T : Int} {u : Vw} (h : RJs T (us u 4).toInt u) (hT : (us u 3).toInt + 1 ≤ T) {i : Nat} (hs : stat u i = 1) (ho : ur u 0 i = us u 4) : RJs T (us u 4).toInt (uR u 3 i (us u 3)) := fun j hj => by
  have r : ∀ c, ur (uR u 3 i (us u 3)) c j = if c = 3 ∧ j = i then us u 3 else ur u c j := fun c => by
    show up2 (ur u) 3 i (us u 3) c j = _
    rw [up2_if]
  have r0 : ∀ c, c ≠ 3 → ur (uR u 3 i (us u 3)) c j = ur u c j := fun c hc => (r c).trans (if_neg (fun z => hc z.1))
  obtain ⟨h1, h2⟩ := h j hj
  rw [r0 0 (by decide), r0 1 (by decide), r0 4 (by decide)]
  by_cases e : j = i
  · subst e
    obtain ⟨k1, k2, k3⟩ := stat_eq1.mp hs
    rw [show ur (uR u 3 j (us u 3)) 3 j = us u 3 from (r 3).trans (if_pos ⟨rfl, rfl⟩), ho]
    exact ⟨fun z => absurd k1 z, fun _ _ => ⟨by omega, by omega⟩⟩
  · rw [show ur (uR u 3 i (us u 3)) 3 j = ur u 3 j from (r 3).trans (if_neg (fun z => e z.2))]
    exact ⟨h1, h2⟩
theorem RJs_lvS {u : Vw} (h : RJs (us u 3).toInt (us u 4).toInt u) (ht : ¬ us u 3 = -1) : ∀ k, k ≤ un u → RJs (us u 3).toInt (us u 4).toInt (lvS u k)
  | 0, _ => by rw [lvS_0]; exact h
  | k + 1, hk => by
    have ih := RJs_lvS h ht k (by omega)
    by_cases hc : stat u k = 2 ∧ ur u 1 k = us u 4
    · rw [← lvS_yes hc.1 hc.2]
      exact RJs_left (u := lvS u k) ih ht (by rw [lvS_stat (Nat.le_refl _)]; exact hc.1) (by rw [lvS_row (by decide)]; exact hc.2)
    · rw [lvS_no hc]; exact ih
theorem RJs_brd {T : Int} : ∀ (k : Nat) (u : Vw), RJs T (us u 4).toInt u → (us u 3).toInt + 1 ≤ T → ¬ us u 4 = -1 → RJs T (us u 4).toInt (brd k u)
  | 0, u, h, _, _ => h
  | k + 1, u, h, h2, hf => by
    simp only [brd]
    cases hw : fw u (isWf u (us u 4)) (un u) with
    | none => exact h
    | some g =>
      simp only
      split
      · obtain ⟨-, h3, -⟩ := fw_some hw
        obtain ⟨h4, h5⟩ := (isWf_iff hf).mp h3
        exact RJs_brd k (uR u 3 g (us u 3)) (RJs_board h h2 h4 h5) h2 hf
      · exact h
theorem QO_same {u v : Vw} (h : QO u) (h1 : un v = un u) (h2 : ∀ c i, c ≠ 4 → ur v c i = ur u c i) : QO v := fun p q hp hq ha ho hb => by
  unfold ahd at ha
  rw [h2 _ _ (by decide), h2 _ _ (by decide)] at ha
  rw [h2 _ _ (by decide), h2 _ _ (by decide)] at ho
  rw [h2 _ _ (by decide)] at hb
  rw [h2 _ _ (by decide), h2 _ _ (by decide)]
  exact h p q (by rw [← h1]; exact hp) (by rw [← h1]; exact hq) ha ho hb
theorem QO_board {u : Vw} (h : QO u) (hr : Rows ((us u 3).toInt + 1) u) (hf : ¬ us u 4 = -1) {g : Nat} (hw : fw u (isWf u (us u 4)) (un u) = some g) : QO (uR u 3 g (us u 3)) := fun p q hp hq ha ho hb => by
  have r : ∀ c j, ur (uR u 3 g (us u 3)) c j = if c = 3 ∧ j = g then us u 3 else ur u c j := fun c j => by
    show up2 (ur u) 3 g (us u 3) c j = _
    rw [up2_if]
  have r0 : ∀ j, ur (uR u 3 g (us u 3)) 0 j = ur u 0 j := fun j => by rw [r]; simp
  obtain ⟨w1, w2, w3⟩ := fw_some hw
  obtain ⟨w4, w5⟩ := (isWf_iff hf).mp w2
  obtain ⟨k1, k2, k3⟩ := stat_eq1.mp w4
  rw [ahd_board] at ha
  rw [r0, r0] at ho
  by_cases e : q = g
  · subst e
    have hpg : ¬ p = q := fun z => by rw [z] at ha; exact ahd_asymm ha ha
    have hp' : p < un u := hp
    have e3 : ur (uR u 3 q (us u 3)) 3 p = ur u 3 p := by rw [r, if_neg (fun z => hpg z.2)]
    have e4 : ur (uR u 3 q (us u 3)) 3 q = us u 3 := by rw [r, if_pos ⟨rfl, rfl⟩]
    have hnw : ¬ isWf u (us u 4) p = true := fun z => ahd_asymm ha (w3 p hp' z hpg)
    have har : ur u 2 p ≤ us u 3 := Int32.le_trans (ahd_le ha) k3
    obtain ⟨-, -, -, -, h5, h6⟩ := hr p hp'
    have hne : ur u 3 p ≠ -1 := fun z => by
      rcases h6 with z6 | z6
      · exact hnw ((isWf_iff hf).mpr ⟨stat_eq1.mpr ⟨z6, z, har⟩, by rw [ho]; exact w5⟩)
      · exact z6.1 z
    rw [e3, e4]
    refine ⟨hne, ?_⟩
    have := h5.resolve_left hne
    omega
  · have e3 : ur (uR u 3 g (us u 3)) 3 q = ur u 3 q := by rw [r, if_neg (fun z => e z.2)]
    rw [e3] at hb ⊢
    obtain ⟨h7, h8⟩ := h p q hp hq ha ho hb
    have hpg : ¬ p = g := fun z => h7 (by rw [z]; exact k2)
    have e5 : ur (uR u 3 g (us u 3)) 3 p = ur u 3 p := by rw [r, if_neg (fun z => hpg z.2)]
    rw [e5]
    exact ⟨h7, h8⟩
theorem QO_brd : ∀ (k : Nat) (u : Vw), QO u → Rows ((us u 3).toInt + 1) u → ¬ us u 4 = -1 → QO (brd k u)
  | 0, u, h, _, _ => h
  | k + 1, u, h, hr, hf => by
    simp only [brd]
    cases hw : fw u (isWf u (us u 4)) (un u) with
    | none => exact h
    | some g =>
      simp only
      split
      · obtain ⟨-, h3, -⟩ := fw_some hw
        exact QO_brd k (uR u 3 g (us u 3)) (QO_board h hr hf hw) (Rows_board hr (by omega) ((isWf_iff hf).mp h3).1) hf
      · exact h
theorem mv_step {u : Vw} (hI : Iu u) {g : Nat} (h1 : g < uN u) (h2 : g ≠ uF u) : (uF u < g ∧ us (mv u (nI g)) 4 = nI (uF u + 1)) ∨ (g < uF u ∧ us (mv u (nI g)) 4 = nI (uF u - 1)) := by
  obtain ⟨hF, hN, hFN, h20, -⟩ := hI.F
  have hlt : us u 4 < nI g ↔ uF u < g := by rw [hF]; exact nI_ltI (by omega) (by omega)
  rw [mv_4]
  by_cases z : us u 4 < nI g
  · refine Or.inl ⟨hlt.mp z, ?_⟩
    rw [if_pos z, hF, nI_1]
  · have h6 : g < uF u := by
      rcases Nat.lt_or_ge g (uF u) with q | q
      · exact q
      · exact absurd (hlt.mpr (by omega)) z
    refine Or.inr ⟨h6, ?_⟩
    rw [if_neg z, hF]
    obtain ⟨m, hm⟩ : ∃ m, uF u = m + 1 := ⟨uF u - 1, by omega⟩
    rw [hm, pk_m1, Nat.add_sub_cancel]
theorem i3a {a b c : Int32} : a + b + c + 1 = a + 1 + b + c := by
  rw [Int32.add_assoc (a + b) c 1, Int32.add_comm c 1, ← Int32.add_assoc, Int32.add_assoc a b 1, Int32.add_comm b 1, ← Int32.add_assoc]
theorem i3b {a b c : Int32} : a + b + c + 1 = a + (b + 1) + c := by
  rw [Int32.add_assoc (a + b) c 1, Int32.add_comm c 1, ← Int32.add_assoc, Int32.add_assoc a b 1]
theorem i3c {a b c : Int32} : a + b + c + 1 = a + b + (c + 1) := Int32.add_assoc _ _ _
theorem WJ_tk {u : Vw} (h : WJ u) (ht : (us u 3).toInt < 10000000) : WJ (tk u) := by
  obtain ⟨hI, hS, hJ, hQ⟩ := h
  obtain ⟨b1, b2⟩ := hI.2.2.2.2.1
  have e3 : us (tk u) 3 = us u 3 + 1 := tk_3 u
  have e3' : (us (tk u) 3).toInt = (us u 3).toInt + 1 := by rw [e3, add1 (by omega) b1]
  refine ⟨Iu_tk hI ht, ?_⟩
  unfold TS at hS ⊢
  rw [e3', e3]
  obtain ⟨hF, hN, hFN, h20, -⟩ := hI.F
  rcases tk0_cases hI with ⟨-, -, e⟩ | ⟨-, -, e⟩ | ⟨-, -, e, g, g1, g2, g3, -⟩
  · have et : tk u = uS (uS u 8 (us u 8 + 1)) 3 (us u 3 + 1) := by unfold tk; rw [e]
    rw [et]
    have f6 : us (uS (uS u 8 (us u 8 + 1)) 3 (us u 3 + 1)) 6 = us u 6 := by rw [uS_in (by decide), uS_in (by decide)]
    have f7 : us (uS (uS u 8 (us u 8 + 1)) 3 (us u 3 + 1)) 7 = us u 7 := by rw [uS_in (by decide), uS_in (by decide)]
    have f8 : us (uS (uS u 8 (us u 8 + 1)) 3 (us u 3 + 1)) 8 = us u 8 + 1 := by rw [uS_in (by decide), uS_at]
    have f4 : us (uS (uS u 8 (us u 8 + 1)) 3 (us u 3 + 1)) 4 = us u 4 := by rw [uS_in (by decide), uS_in (by decide)]
    rw [f6, f7, f8, f4]
    refine ⟨?_, RJs_same (RJs_mono hJ (by omega) (by omega)) rfl rfl, QO_same hQ rfl (fun _ _ _ => rfl)⟩
    rw [hS]
    exact i3c
  · have et : tk u = uS (opn u) 3 (us u 3 + 1) := by unfold tk; rw [e]
    have eu : us (brd (un u) (lvS u (un u))) = us u := by rw [brd_us]; rfl
    rw [et]
    have f6 : us (uS (opn u) 3 (us u 3 + 1)) 6 = us u 6 := by
      rw [uS_in (by decide)]; show us (uS (brd (un u) (lvS u (un u))) 7 (us u 7 + 1)) 6 = _
      rw [uS_in (by decide), eu]
    have f7 : us (uS (opn u) 3 (us u 3 + 1)) 7 = us u 7 + 1 := by
      rw [uS_in (by decide)]; show us (uS (brd (un u) (lvS u (un u))) 7 (us u 7 + 1)) 7 = _
      rw [uS_at]
    have f8 : us (uS (opn u) 3 (us u 3 + 1)) 8 = us u 8 := by
      rw [uS_in (by decide)]; show us (uS (brd (un u) (lvS u (un u))) 7 (us u 7 + 1)) 8 = _
      rw [uS_in (by decide), eu]
    have f4 : us (uS (opn u) 3 (us u 3 + 1)) 4 = us u 4 := by
      rw [uS_in (by decide)]; show us (uS (brd (un u) (lvS u (un u))) 7 (us u 7 + 1)) 4 = _
      rw [uS_in (by decide), eu]
    rw [f6, f7, f8, f4]
    have hb : ∀ j, j < un u → ur u 3 j = -1 ∨ (ur u 3 j).toInt ≤ (us u 3).toInt := fun j hj => by
      rcases (hI.rows j hj).2.2.2.2.1 with z | z
      · exact Or.inl z
      · exact Or.inr (by omega)
    have hr := Rows_mono hI.rows (show (us u 3).toInt ≤ (us u 3).toInt + 1 by omega)
    refine ⟨?_, ?_, ?_⟩
    · rw [hS]
      exact i3b
    · have h1 : RJs ((us u 3).toInt + 1) (us u 4).toInt (lvS u (un u)) := RJs_mono (RJs_lvS hJ hI.t (un u) (Nat.le_refl _)) (by omega) (by omega)
      have h2 := RJs_brd (un u) (lvS u (un u)) h1 (Int.le_refl _) hI.f
      exact RJs_same h2 rfl rfl
    · have h1 : QO (lvS u (un u)) := QO_same hQ rfl (fun c i hc => lvS_row hc)
      have h2 := QO_brd (un u) (lvS u (un u)) h1 (Rows_lvS hr (by omega) hb _ (Nat.le_refl _)) hI.f
      exact QO_same h2 rfl (fun _ _ _ => rfl)
  · have et : tk u = uS (mv u (nI g)) 3 (us u 3 + 1) := by unfold tk; rw [e, g3]
    rw [et]
    have f6 : us (uS (mv u (nI g)) 3 (us u 3 + 1)) 6 = us u 6 + 1 := by
      rw [uS_in (by decide)]; show us (uS (uS (mvd u (nI g)) 4 _) 6 (us u 6 + 1)) 6 = _
      rw [uS_at]
    have f7 : us (uS (mv u (nI g)) 3 (us u 3 + 1)) 7 = us u 7 := by rw [uS_in (by decide), mv_us (by decide) (by decide) (by decide) (by decide)]
    have f8 : us (uS (mv u (nI g)) 3 (us u 3 + 1)) 8 = us u 8 := by rw [uS_in (by decide), mv_us (by decide) (by decide) (by decide) (by decide)]
    have f4 : us (uS (mv u (nI g)) 3 (us u 3 + 1)) 4 = us (mv u (nI g)) 4 := by rw [uS_in (by decide)]
    rw [f6, f7, f8, f4]
    refine ⟨?_, RJs_same (u := u) ?_ mv_un mv_ur, QO_same hQ mv_un (fun c i _ => by rw [show ur (uS (mv u (nI g)) 3 (us u 3 + 1)) = ur u from mv_ur])⟩
    · rw [hS]
      exact i3a
    · have hFi : (us u 4).toInt = uF u := by rw [hF, nI_int (by omega)]
      rcases mv_step hI g1 g2 with ⟨q1, q2⟩ | ⟨q1, q2⟩
      · rw [q2, nI_int (by omega)]
        exact RJs_mono hJ (by omega) (by omega)
      · rw [q2, nI_int (by omega)]
        exact RJs_mono hJ (by omega) (by omega)
theorem WJ_cap {u : Vw} (h : WJ u) {a : Nat} (h1 : 1 ≤ a) (h8 : a ≤ 8) (hm : many u 2 ≤ a) (ht : uT u ≤ 999) : WJ (uS u 1 (nI a)) := by
  obtain ⟨hI, hS, hJ, hQ⟩ := h
  refine ⟨(Ok.cap ⟨hI, ht⟩ h1 h8 (by omega)).1, ?_, ?_, QO_same hQ rfl (fun _ _ _ => rfl)⟩
  · unfold TS at hS ⊢
    rw [uS_in (by decide), uS_in (by decide), uS_in (by decide), uS_in (by decide)]
    exact hS
  · rw [uS_in (by decide), uS_in (by decide)]
    exact RJs_same hJ rfl rfl
/-- nobody has boarded -/
def NB (u : Vw) : Prop := us u 3 = 0 ∧ us u 6 = 0 ∧ us u 7 = 0 ∧ us u 8 = 0 ∧ ∀ i, i < un u → ur u 3 i = -1 ∧ ur u 4 i = -1
theorem NB.w {u : Vw} (h : NB u) (hI : Iu u) : WJ u := by
  obtain ⟨h3, h6, h7, h8, hr⟩ := h
  refine ⟨hI, ?_, fun i hi => ⟨fun z => absurd (hr i hi).2 z, fun _ z => absurd (hr i hi).1 z⟩, fun p q _ hq _ _ hb => absurd (hr q hq).1 hb⟩
  unfold TS
  rw [h3, h6, h7, h8]
  rfl
theorem NB.beg {f c p : Int32} : NB (begu f c p) := ⟨rfl, rfl, rfl, rfl, fun i hi => absurd hi (Nat.not_lt_zero i)⟩
theorem NB.add {u : Vw} {a b t : Int32} (h : NB u) : NB (addu u a b t) := by
  obtain ⟨h3, h6, h7, h8, hr⟩ := h
  refine ⟨h3, h6, h7, h8, fun i hi => ?_⟩
  rw [addu_un] at hi
  by_cases e : i = un u
  · subst e
    rw [addu_at, addu_at]
    exact ⟨rfl, rfl⟩
  · rw [addu_in (by omega), addu_in (by omega)]
    exact hr i (by omega)
/-- the detour is not negative -/
theorem absI_nI {a b : Nat} (ha : a < 100) (hb : b < 100) : absI (nI a - nI b) = nI (if a ≤ b then b - a else a - b) := by
  have key : ∀ x, x < 100 → ∀ y, y < 100 → absI (nI x - nI y) = nI (if x ≤ y then y - x else x - y) := by decide +kernel
  exact key a ha b hb
theorem nI_sub {a b : Nat} (h : b ≤ a) (ha : a < 100000000) : nI a - nI b = nI (a - b) := by
  have e : nI a = nI (a - b) + nI b := by
    rw [← Int32.toInt_inj, Int32.toInt_add, nI_int ha, nI_int (by omega), nI_int (by omega)]
    have : ((a - b : Nat) : Int) + (b : Int) = (a : Int) := by omega
    rw [this, Int.bmod_eq_of_le (by omega) (by omega)]
  rw [e]
  exact Int32.add_sub_cancel _ _
theorem dtI_pos {u : Vw} (h : WJ u) {i : Nat} (hi : i < un u) (hl : ¬ ur u 4 i = -1) : ∃ k, k < 100000000 ∧ dtI u i = nI k := by
  obtain ⟨hI, -, hJ, -⟩ := h
  obtain ⟨h20, h2N⟩ := hI.F.2.2.2
  obtain ⟨o1, o2⟩ := hI.o hi
  obtain ⟨d1, d2⟩ := hI.d hi
  obtain ⟨-, -, -, ha, hb, hle⟩ := hI.rows i hi
  have hl2 := hle.resolve_left hl
  have hb2 := hb.resolve_left hl2.1
  have hj := (hJ i hi).1 hl
  have ht := hI.2.2.2.2.1
  have eb := nI_back (x := ur u 3 i) (by omega)
  have ebi := clamp_int (x := ur u 3 i) (by omega)
  have el := nI_back (x := ur u 4 i) (by omega)
  have eli := clamp_int (x := ur u 4 i) (by omega)
  have oi : (ur u 0 i).toInt = oN u i := by rw [o1, nI_int (by omega)]
  have di : (ur u 1 i).toInt = dN u i := by rw [d1, nI_int (by omega)]
  generalize hB : (ur u 3 i).toNatClampNeg = B at *
  generalize hLv : (ur u 4 i).toNatClampNeg = L at *
  have hr : rdI u i = nI (L - B) := by
    unfold rdI
    rw [if_neg hl, eb, el]
    exact nI_sub (by omega) (by omega)
  refine ⟨L - B - 1 - (if oN u i ≤ dN u i then dN u i - oN u i else oN u i - dN u i), by omega, ?_⟩
  unfold dtI
  rw [hr, if_neg (nne1 (by omega)), o1, d1, absI_nI (by omega) (by omega)]
  rw [show (1 : Int32) = nI 1 from rfl, nI_sub (by omega) (by omega), nI_sub ?_ (by omega)]
  split <;> omega
