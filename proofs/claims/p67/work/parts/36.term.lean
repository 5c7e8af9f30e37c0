/-! every run ends -/
def prog (u : Vw) : Nat := 2 * many u 3 + many u 2
theorem cnt_add {p q : Nat → Bool} (h : ∀ i, p i = true → q i = true → False) : ∀ n, cnt p n + cnt q n ≤ n
  | 0 => Nat.le_refl _
  | n + 1 => by
    have := cnt_add h n
    simp only [cnt]
    by_cases e : p n = true
    · by_cases f : q n = true
      · exact absurd (h n e f) id
      · rw [if_pos e, if_neg f]; omega
    · rw [if_neg e]
      split <;> omega
theorem cnt_all {p : Nat → Bool} : ∀ {n : Nat}, (∀ i, i < n → p i = true) → cnt p n = n
  | 0, _ => rfl
  | n + 1, h => by
    simp only [cnt]
    rw [cnt_all (fun i hi => h i (by omega)), if_pos (h n (by omega))]
theorem prog_le {u : Vw} (hn : un u ≤ 40) : prog u ≤ 80 := by
  have h1 := cnt_add (p := fun i => stat u i == 3) (q := fun i => stat u i == 2) (fun i a b => by
    simp only [beq_iff_eq] at a b
    rw [a] at b
    exact absurd b (by decide)) (un u)
  have h2 : many u 3 + many u 2 ≤ un u := h1
  have h3 := cnt_le (fun i => stat u i == 3) (un u)
  have h4 : many u 3 ≤ un u := h3
  unfold prog
  omega
theorem prog_sc {u : Vw} {j : Nat} {x : Int32} : prog (uS u j x) = prog u := by unfold prog; rw [many_sc2, many_sc3]
theorem prog_lvS {u : Vw} (ht : ¬ us u 3 = -1) : ∀ k, k ≤ un u → prog u ≤ prog (lvS u k) ∧ ((∃ i, i < k ∧ stat u i = 2 ∧ ur u 1 i = us u 4) → prog u < prog (lvS u k))
  | 0, _ => ⟨by rw [lvS_0]; exact Nat.le_refl _, fun ⟨i, hi, _⟩ => absurd hi (Nat.not_lt_zero i)⟩
  | k + 1, hk => by
    obtain ⟨h1, h2⟩ := prog_lvS ht k (by omega)
    by_cases e : stat u k = 2 ∧ ur u 1 k = us u 4
    · rw [← lvS_yes e.1 e.2]
      have hm := many_left (u := lvS u k) (i := k) ht (show k < un u by omega) (by rw [lvS_stat (Nat.le_refl _)]; exact e.1)
      have h3 : prog (uR (lvS u k) 4 k (us u 3)) = prog (lvS u k) + 1 := by unfold prog; omega
      rw [h3]
      exact ⟨by omega, fun _ => by omega⟩
    · rw [lvS_no e]
      refine ⟨h1, fun ⟨i, hi, hs⟩ => h2 ⟨i, ?_, hs⟩⟩
      by_cases f : i = k
      · subst f; exact absurd hs e
      · omega
theorem prog_brd : ∀ (k : Nat) (v : Vw), ¬ us v 3 = -1 → ¬ us v 4 = -1 → prog v ≤ prog (brd k v) ∧ (0 < k → ¬ fw v (isWf v (us v 4)) (un v) = none → rmB v = true → prog v < prog (brd k v))
  | 0, v, _, _ => ⟨Nat.le_refl _, fun h => absurd h (Nat.lt_irrefl _)⟩
  | k + 1, v, ht, hf => by
    simp only [brd]
    cases hw : fw v (isWf v (us v 4)) (un v) with
    | none => exact ⟨Nat.le_refl _, fun _ h _ => absurd rfl h⟩
    | some g =>
      by_cases hr : rmB v = true
      · simp only [if_pos hr]
        obtain ⟨hg, hs, -⟩ := fw_some hw
        have hm := many_board (u := v) (i := g) ht hg ((isWf_iff hf).mp hs).1
        have h3 : prog (uR v 3 g (us v 3)) = prog v + 1 := by unfold prog; omega
        have h4 := (prog_brd k (uR v 3 g (us v 3)) ht hf).1
        exact ⟨by omega, fun _ _ _ => by omega⟩
      · simp only [if_neg hr]
        exact ⟨Nat.le_refl _, fun _ _ h => absurd h hr⟩
theorem lvS_none {u : Vw} (h : ∀ i, i < un u → ¬ (stat u i = 2 ∧ ur u 1 i = us u 4)) : ∀ k, k ≤ un u → lvS u k = u
  | 0, _ => lvS_0 u
  | k + 1, hk => by rw [lvS_no (h k (by omega))]; exact lvS_none h k (by omega)
theorem prog_opn {u : Vw} (hI : Iu u) (hb : hasB (stp u) (us u 4) = true) : prog u < prog (opn u) := by
  obtain ⟨hF, hN, hFN, h20, -⟩ := hI.F
  have h1 := prog_lvS hI.t (un u) (Nat.le_refl _)
  have h2 := prog_brd (un u) (lvS u (un u)) hI.t hI.f
  unfold opn
  rw [prog_sc]
  by_cases hl : ∃ i, i < un u ∧ stat u i = 2 ∧ ur u 1 i = us u 4
  · have := h1.2 hl
    have := h2.1
    omega
  · have hno := lvS_none (u := u) (fun i hi hs => hl ⟨i, hi, hs⟩) (un u) (Nat.le_refl _)
    rw [hno] at h2 ⊢
    rw [hF] at hb
    obtain ⟨i, hi, hs⟩ := (stp_bit hI (by omega)).mp hb
    rcases hs with ⟨s2, hd⟩ | ⟨s1, hr, ho⟩
    · exact absurd ⟨i, hi, s2, by rw [hF, (hI.d hi).1, hd]⟩ hl
    · refine h2.2 (by omega) (fun hw => ?_) hr
      have h9 := fw_none.mp hw i hi
      rw [(isWf_iff hI.f).mpr ⟨s1, by rw [hF, (hI.o hi).1, ho]⟩] at h9
      cases h9
/-- what a move leaves -/
theorem mv_ur {u : Vw} {t : Int32} : ur (mv u t) = ur u := by unfold mv mvd; split <;> rfl
theorem mv_un {u : Vw} {t : Int32} : un (mv u t) = un u := by unfold mv mvd; split <;> rfl
theorem mv_prog {u : Vw} {t : Int32} : prog (mv u t) = prog u := by
  unfold mv mvd
  split
  · rw [prog_sc, prog_sc, prog_sc, prog_sc]
  · rw [prog_sc, prog_sc]
theorem uS_in {u : Vw} {i j : Nat} {x : Int32} (h : i ≠ j) : us (uS u j x) i = us u i := upd_in h
theorem uS_at {u : Vw} {j : Nat} {x : Int32} : us (uS u j x) j = x := upd_at
theorem mv_us {u : Vw} {t : Int32} {j : Nat} (h : j ≠ 4) (h5 : j ≠ 5) (h6 : j ≠ 6) (h9 : j ≠ 9) : us (mv u t) j = us u j := by
  unfold mv mvd
  split
  · rw [uS_in h6, uS_in h, uS_in h9, uS_in h5]
  · rw [uS_in h6, uS_in h]
theorem mv_4 {u : Vw} {t : Int32} : us (mv u t) 4 = us u 4 + (if us u 4 < t then 1 else -1) := by
  unfold mv
  rw [uS_in (by decide), uS_at]
theorem mv_5 {u : Vw} {t : Int32} (hp : us u 2 = 2) : us (mv u t) 5 = bI (decide (us u 4 < t)) := by
  unfold mv mvd
  split
  · rw [uS_in (by decide), uS_in (by decide), uS_in (by decide), uS_at]
  · rename_i h
    rw [uS_in (by decide), uS_in (by decide)]
    exact Eq.symm (Classical.byContradiction (fun z => h ⟨hp, z⟩))
section SM
variable {u v : Vw}
theorem stp_same (hun : un v = un u) (hur : ur v = ur u) (hst : ∀ i, i < un u → stat v i = stat u i) (h1 : us v 1 = us u 1) : stp v = stp u := by
  have hm : many v 2 = many u 2 := by
    unfold many
    rw [hun]
    exact cnt_congr (fun i hi => by rw [hst i hi])
  have hr : rmB v = rmB u := by unfold rmB; rw [hm, h1]
  have hsp : ∀ n, n ≤ un u → spF v (rmB u) n = spF u (rmB u) n := by
    intro n
    induction n with
    | zero => intro _; rfl
    | succ n ih =>
      intro hn
      simp only [spF]
      rw [ih (by omega), hst n (by omega), hur]
  unfold stp
  rw [hr, hun, hsp _ (Nat.le_refl _)]
theorem fw_same (hur : ur v = ur u) (e : Nat → Bool) : ∀ n, fw v e n = fw u e n
  | 0 => rfl
  | n + 1 => by
    simp only [fw]
    rw [fw_same hur e n]
    unfold ahB
    rw [hur]
theorem fst_congr {p q : Nat → Bool} : ∀ {m i : Nat}, (∀ j, i ≤ j → j < i + m → p j = q j) → fst p i m = fst q i m
  | 0, _, _ => rfl
  | m + 1, i, h => by
    simp only [fst]
    rw [h i (Nat.le_refl _) (by omega), fst_congr (fun j h1 h2 => h j (by omega) (by omega))]
theorem fw_congr {e f : Nat → Bool} : ∀ {n : Nat}, (∀ i, i < n → e i = f i) → fw u e n = fw u f n
  | 0, _ => rfl
  | n + 1, h => by
    simp only [fw]
    rw [fw_congr (fun i hi => h i (by omega)), h n (by omega)]
theorem pfc_same (hun : un v = un u) (hur : ur v = ur u) (hst : ∀ i, i < un u → stat v i = stat u i) : pfc v = pfc u := by
  unfold pfc
  rw [hun, hur, fw_same hur, fst_congr (p := isR v) (q := isR u) (fun j _ h => by unfold isR; rw [hst j (by omega)]), fw_congr (e := isW v) (f := isW u) (fun i hi => by unfold isW; rw [hst i hi])]
end SM
def ds (u : Vw) : Nat := ((tgt u (us u 2)).toInt - (us u 4).toInt).natAbs
theorem nI_int {a : Nat} (h : a < 100000000) : (nI a).toInt = a := by
  have h0 : 0 ≤ (nI a).toInt := by
    have := nI_pos (n := a) (by omega)
    rw [Int32.lt_iff_toInt_lt] at this
    have z : (0 : Int32).toInt = 0 := rfl
    omega
  have := clamp_int h0
  rw [nI_clamp (by omega)] at this
  omega
theorem ds_le {u : Vw} (hI : Iu u) : ds u ≤ 20 := by
  obtain ⟨hF, hN, hFN, h20, -⟩ := hI.F
  unfold ds
  rw [hF, nI_int (by omega)]
  by_cases h0 : stp u = 0
  · have e : tgt u (us u 2) = -1 := by unfold tgt; rw [if_pos h0]
    rw [e, show (-1 : Int32).toInt = -1 from rfl]
    omega
  · by_cases hb : hasB (stp u) (us u 4) = true
    · have e : tgt u (us u 2) = us u 4 := by unfold tgt; rw [if_neg h0, if_pos hb]
      rw [e, hF, nI_int (by omega)]
      omega
    · obtain ⟨g, h1, h2, h3, h4⟩ := tgt_away hI (us u 2) h0 hb
      rw [h3, nI_int (by omega)]
      omega
/-- all have arrived: a time later nobody's status is another -/
theorem stat_late {u v : Vw} (hI : Iu u) (ht : 999 ≤ uT u) (hur : ur v = ur u) (h3 : us v 3 = nI (uT u + 1)) (hT : uT u < 10000000) : ∀ i, i < un u → stat v i = stat u i := fun i hi => by
  have ha := (hI.2.2.2.2.2.2.2.1 i hi).2.2.2.1
  have e := nI_back ha.1
  have e2 := clamp_int ha.1
  unfold stat
  rw [hur, h3, hI.T.1, e, if_pos (nI_le (by omega) (by omega)), if_pos (nI_le (by omega) (by omega))]
theorem late_busy {u : Vw} (hI : Iu u) (ht : 999 ≤ uT u) (hT : uT u < 10000000) (hf : ¬ many u 3 = un u) : ¬ stp u = 0 := fun h0 => by
  have hz := (stp_zero hI).mp h0
  have hm2 : many u 2 = 0 := many0.mpr (fun i hi hs => hz i hi (Or.inl hs))
  have hrm : rmB u = true := (rmB_iff hI).mpr (by rw [hm2]; have := hI.2.2.1.1; omega)
  refine hf (cnt_all (fun i hi => ?_))
  have ha := (hI.2.2.2.2.2.2.2.1 i hi).2.2.2.1
  have e := nI_back ha.1
  have e2 := clamp_int ha.1
  have hle : ur u 2 i ≤ us u 3 := by rw [hI.T.1, e]; exact nI_le (by omega) (by omega)
  have h3 : stat u i = 3 := by
    by_cases x4 : ur u 4 i = -1
    · by_cases x3 : ur u 3 i = -1
      · exact absurd (Or.inr ⟨stat_eq1.mpr ⟨x4, x3, hle⟩, hrm⟩) (hz i hi)
      · exact absurd (Or.inl (stat_eq2.mpr ⟨x4, x3⟩)) (hz i hi)
    · exact stat_eq3.mpr x4
  simp [h3]
/-- a move with all arrived brings the target nearer -/
theorem mv_near {u : Vw} (hI : Iu u) (ht : 999 ≤ uT u) (hT : uT u < 10000000) (h0 : ¬ stp u = 0) (hf : ¬ hasB (stp u) (us u 4) = true) : ds (uS (mv u (tgt u (us u 2))) 3 (us u 3 + 1)) < ds u := by
  obtain ⟨hF, hN, hFN, h20, -⟩ := hI.F
  obtain ⟨g, g1, g2, g3, g4⟩ := tgt_away hI (us u 2) h0 hf
  obtain ⟨v, hv⟩ : ∃ v, v = uS (mv u (tgt u (us u 2))) 3 (us u 3 + 1) := ⟨_, rfl⟩
  rw [← hv]
  have vur : ur v = ur u := by rw [hv]; exact mv_ur
  have vun : un v = un u := by rw [hv]; exact mv_un
  have v3 : us v 3 = nI (uT u + 1) := by rw [hv, uS_at, hI.T.1]; exact nI_1 _
  have vst := stat_late hI ht vur v3 hT
  have v1 : us v 1 = us u 1 := by rw [hv, uS_in (by decide)]; exact mv_us (by decide) (by decide) (by decide) (by decide)
  have v0 : us v 0 = us u 0 := by rw [hv, uS_in (by decide)]; exact mv_us (by decide) (by decide) (by decide) (by decide)
  have v2 : us v 2 = us u 2 := by rw [hv, uS_in (by decide)]; exact mv_us (by decide) (by decide) (by decide) (by decide)
  have v4 : us v 4 = us u 4 + (if us u 4 < tgt u (us u 2) then 1 else -1) := by rw [hv, uS_in (by decide)]; exact mv_4
  have v5 : us u 2 = 2 → us v 5 = bI (decide (us u 4 < tgt u (us u 2))) := fun hp => by rw [hv, uS_in (by decide)]; exact mv_5 hp
  have vm : stp v = stp u := stp_same vun vur vst v1
  have vpf : pfc v = pfc u := pfc_same vun vur vst
  have vN : uN v = uN u := by unfold uN; rw [v0]
  have dsu : ds u = (if uF u < g then g - uF u else uF u - g) := by
    unfold ds
    rw [g3, hF, nI_int (by omega), nI_int (by omega)]
    split <;> omega
  clear hv
  obtain ⟨F2, hF2, e2⟩ : ∃ F2, us v 4 = nI F2 ∧ ((uF u < g ∧ F2 = uF u + 1) ∨ (g < uF u ∧ F2 + 1 = uF u)) := by
    rcases Nat.lt_or_gt_of_ne g2 with q | q
    · refine ⟨uF u - 1, ?_, Or.inr ⟨q, by omega⟩⟩
      rw [v4, g3, hF, if_neg (nI_nlt (by omega) (by omega)), ← Int32.sub_eq_add_neg]
      exact pk_sub (b := 1) (by omega)
    · refine ⟨uF u + 1, ?_, Or.inl ⟨q, rfl⟩⟩
      rw [v4, g3, hF, if_pos (nI_lt q (by omega))]
      exact nI_1 _
  have vF : uF v = F2 := by unfold uF; rw [hF2, nI_clamp (by omega)]
  by_cases hb : hasB (stp v) (us v 4) = true
  · have e : tgt v (us v 2) = us v 4 := by unfold tgt; rw [if_neg (by rw [vm]; exact h0), if_pos hb]
    have z : ds v = 0 := by unfold ds; rw [e]; omega
    rw [z, dsu]
    split <;> omega
  · have hb' : hasB (stp u) (nI F2) = false := by rw [← hF2, ← vm]; simpa using hb
    have hf' : hasB (stp u) (nI (uF u)) = false := by rw [← hF]; simpa using hf
    have eD : dnI (stp u) F2 = dnI (stp u) (uF u) := by
      rcases e2 with ⟨q, e⟩ | ⟨q, e⟩
      · rw [e]; simp only [dnI]; rw [hf']; rfl
      · rw [← e]; simp only [dnI]; rw [hb']; rfl
    have eU : upI (stp u) (F2 + 1) (uN u - (F2 + 1)) = upI (stp u) (uF u + 1) (uN u - (uF u + 1)) := by
      rcases e2 with ⟨q, e⟩ | ⟨q, e⟩
      · rw [show uN u - (uF u + 1) = (uN u - (F2 + 1)) + 1 by omega, ← e]; simp only [upI]; rw [hb']; rfl
      · rw [show uN u - (F2 + 1) = (uN u - (uF u + 1)) + 1 by omega, e]; simp only [upI]; rw [hf']; rfl
    have key : tgt v (us v 2) = tgt u (us u 2) := by
      have e4 : us u 2 = 2 → us v 5 = bI (decide (us u 4 < tgt u (us u 2))) := v5
      rw [v2]
      have ev : tgt v (us u 2) = if us u 2 = 0 then pfc u else if dnU u = -1 then upU u else if upU u = -1 then dnU u else if us u 2 = 2 then (if us v 5 = 0 then dnU u else upU u) else if us v 4 - dnU u ≤ upU u - us v 4 then dnU u else upU u := by
        unfold tgt
        rw [if_neg (by rw [vm]; exact h0), if_neg hb, vpf, vF, vN, vm, eD, eU]
        rfl
      have eu : tgt u (us u 2) = if us u 2 = 0 then pfc u else if dnU u = -1 then upU u else if upU u = -1 then dnU u else if us u 2 = 2 then (if us u 5 = 0 then dnU u else upU u) else if us u 4 - dnU u ≤ upU u - us u 4 then dnU u else upU u := by
        unfold tgt
        rw [if_neg h0, if_neg hf]
        rfl
      rw [ev]
      by_cases p0 : us u 2 = 0
      · rw [if_pos p0, eu, if_pos p0]
      · rw [if_neg p0]
        rw [if_neg p0] at eu
        by_cases d1 : dnU u = -1
        · rw [if_pos d1] at eu ⊢; exact eu.symm
        · rw [if_neg d1] at eu ⊢
          by_cases d2 : upU u = -1
          · rw [if_pos d2] at eu ⊢; exact eu.symm
          · rw [if_neg d2] at eu ⊢
            obtain ⟨k, k1, k2, -⟩ := (dnU_cases hI).resolve_left d1
            obtain ⟨j, j1, j2, j3, -⟩ := (upU_cases hI).resolve_left d2
            by_cases p2 : us u 2 = 2
            · rw [if_pos p2] at eu ⊢
              have e5 := e4 p2
              by_cases x5 : us u 5 = 0
              · rw [if_pos x5] at eu
                rw [eu, k2, hF, decide_eq_false (nI_nlt (by omega) (by omega))] at e5
                rw [if_pos (show us v 5 = 0 from e5), eu]
              · rw [if_neg x5] at eu
                rw [eu, j3, hF, decide_eq_true (nI_lt (by omega) (by omega))] at e5
                rw [if_neg (show ¬ us v 5 = 0 by rw [e5]; decide), eu]
            · rw [if_neg p2] at eu ⊢
              rw [eu, hF2, hF, k2, j3, pk_sub (by omega), pk_sub (by omega), pk_sub (by omega), pk_sub (by omega)]
              have hg : nI g = if nI (uF u - k) ≤ nI (j - uF u) then nI k else nI j := by rw [← g3, eu, hF, k2, j3, pk_sub (by omega), pk_sub (by omega)]
              by_cases c : nI (uF u - k) ≤ nI (j - uF u)
              · rw [if_pos c] at hg ⊢
                have c2 := nle c (by omega) (by omega)
                have eg := neq hg (by omega) (by omega)
                have hF3 : F2 + 1 = uF u := by omega
                have hk3 : k ≠ F2 := fun z => by
                  have h9 : hasB (stp u) (nI g) = true := g4
                  rw [eg, z, hb'] at h9
                  cases h9
                rw [if_pos (nI_le (by omega) (by omega))]
              · rw [if_neg c] at hg ⊢
                have c2 := nnle (a := uF u - k) (b := j - uF u) c (by omega) (by omega)
                have eg := neq hg (by omega) (by omega)
                have hF3 : F2 = uF u + 1 := by omega
                have hk3 : j ≠ F2 := fun z => by
                  have h9 : hasB (stp u) (nI g) = true := g4
                  rw [eg, z, hb'] at h9
                  cases h9
                rw [if_neg (fun z => by have := nle z (by omega) (by omega); omega)]
    have e9 : ds v = (if F2 < g then g - F2 else F2 - g) := by
      unfold ds
      rw [key, g3, hF2, nI_int (by omega), nI_int (by omega)]
      split <;> omega
    rw [e9, dsu]
    rcases e2 with ⟨q, e⟩ | ⟨q, e⟩
    · rw [if_pos q]; split <;> omega
    · rw [if_neg (by omega)]; split <;> omega
def tms (u : Vw) : Nat := 21 * (80 - prog u) + ds u
theorem tms_tk {u : Vw} (hI : Iu u) (ht : 999 ≤ uT u) (hT : uT u < 10000000) (hf : ¬ many u 3 = un u) : tms (tk u) < tms u := by
  have h0 := late_busy hI ht hT hf
  have hI2 := Iu_tkN hI hT
  have hp2 := prog_le hI2.1
  have hp1 := prog_le hI.1
  have hd2 := ds_le hI2
  rcases tk0_cases hI with ⟨z, -⟩ | ⟨-, hb, e⟩ | ⟨-, hb, e, -⟩
  · exact absurd z h0
  · have h3 := prog_opn hI hb
    have h4 : prog (tk u) = prog (opn u) := by unfold tk; rw [prog_sc, e]
    unfold tms
    omega
  · have h4 : prog (tk u) = prog u := by unfold tk; rw [prog_sc, e, mv_prog]
    have h5 : ds (tk u) < ds u := by
      unfold tk
      rw [e]
      exact mv_near hI ht hT h0 hb
    unfold tms
    omega
theorem tms_le {u : Vw} (hI : Iu u) : tms u ≤ 1700 := by
  have := ds_le hI
  unfold tms
  omega
theorem late_ends : ∀ (m : Nat) (u : Vw), Iu u → 999 ≤ uT u → tms u ≤ m → uT u + m < 10000000 → ∃ k, k ≤ m ∧ many (fzu k u) 3 = un (fzu k u)
  | 0, u, hI, ht, hm, hT => ⟨0, Nat.le_refl _, by
    by_cases hf : many u 3 = un u
    · exact hf
    · have := tms_tk hI ht (by omega) hf
      omega⟩
  | m + 1, u, hI, ht, hm, hT => by
    by_cases hf : many u 3 = un u
    · exact ⟨0, Nat.zero_le _, hf⟩
    · have h1 := tms_tk hI ht (by omega) hf
      have h2 := (tk_T hI).1
      obtain ⟨k, hk, h3⟩ := late_ends m (tk u) (Iu_tkN hI (by omega)) (by omega) (by omega) (by omega)
      exact ⟨k + 1, by omega, by rw [fzu_step hf]; exact h3⟩
theorem all_ends : ∀ (m : Nat) (u : Vw), Iu u → uT u + m = 999 → ∃ k, k ≤ m + 1700 ∧ many (fzu k u) 3 = un (fzu k u)
  | 0, u, hI, h => by
    obtain ⟨k, hk, h3⟩ := late_ends 1700 u hI (by omega) (tms_le hI) (by omega)
    exact ⟨k, by omega, h3⟩
  | m + 1, u, hI, h => by
    by_cases hf : many u 3 = un u
    · exact ⟨0, Nat.zero_le _, hf⟩
    · have h2 := (tk_T hI).1
      obtain ⟨k, hk, h3⟩ := all_ends m (tk u) (Iu_tkN hI (by omega)) (by omega)
      exact ⟨k + 1, by omega, by rw [fzu_step hf]; exact h3⟩
theorem fz_more : ∀ (k j : Nat) (u : Vw), many (fzu k u) 3 = un (fzu k u) → fzu (k + j) u = fzu k u ∧ fzn (k + j) u = fzn k u
  | 0, j, u, h => by
    have h : many u 3 = un u := h
    rw [fzu_fin h, fzn_fin h]
    exact ⟨rfl, rfl⟩
  | k + 1, j, u, h => by
    by_cases hf : many u 3 = un u
    · rw [fzu_fin hf, fzu_fin hf, fzn_fin hf, fzn_fin hf]
      exact ⟨rfl, rfl⟩
    · rw [fzu_step hf] at h
      rw [show k + 1 + j = (k + j) + 1 by omega, fzu_step hf, fzu_step hf, fzn_step hf, fzn_step hf, (fz_more k j (tk u) h).1, (fz_more k j (tk u) h).2]
      exact ⟨rfl, rfl⟩
/-- all ticks until the end: any great bound gives the same -/
theorem fz_any {u : Vw} (hI : Iu u) (ht : uT u ≤ 999) {K : Nat} (hK : 2699 ≤ K) : fzu K u = fzu 2699 u ∧ fzn K u = fzn 2699 u := by
  obtain ⟨k, hk, h3⟩ := all_ends (999 - uT u) u hI (by omega)
  have h1 := fz_more k (K - k) u h3
  have h2 := fz_more k (2699 - k) u h3
  rw [show k + (K - k) = K by omega] at h1
  rw [show k + (2699 - k) = 2699 by omega] at h2
  exact ⟨h1.1.trans h2.1.symm, h1.2.trans h2.2.symm⟩
