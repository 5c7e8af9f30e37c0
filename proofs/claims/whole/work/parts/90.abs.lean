/-! the steps of the abstract state -/
def LR (σ : St) (a : Ab) : Prop := CL σ a ∧ ML σ a
def abW (a : Ab) (r : Nat) (hv : Nat → Vw) (v : Vw) : Ab := (v, (r, hv), a.2.2)
def abC (g : Bool) (a : Ab) (v : Vw) : Ab := if g = true then abW a (pushN (aR a)) (pushV (aR a) (aH a) (aU a)) v else a
def abUn (a : Ab) : Ab := if 0 < aR a then abW a (aR a - 1) (aH a) (aH a (aR a - 1)) else a
def abRs (a : Ab) (x : Int32) : Ab := if (okS x && aB a x.toNatClampNeg) = true then abW a 0 (aH a) (aV a x.toNatClampNeg) else a
def abS2 (a : Ab) (b : Nat → Bool) (v : Nat → Vw) : Ab := (aU a, a.2.1, (b, v), a.2.2.2)
def abSv (a : Ab) (x : Int32) : Ab := if okS x = true then abS2 a (slB (aB a) x.toNatClampNeg) (slV (aV a) x.toNatClampNeg (aU a)) else a
def abI (a : Ab) (o : Txt) : Ab := (aU a, a.2.1, a.2.2.1, o, a.2.2.2.2)
def abO (a : Ab) (o : Txt) : Ab := (aU a, a.2.1, a.2.2.1, aI a, (aE a, aP a), o)
section AS
variable {σ τ : St} {a : Ab} {r : Nat} {hv : Nat → Vw} {v : Vw} {g : Bool} {b : Nat → Bool} {sv : Nat → Vw} {o : Txt} {x : Int32}
theorem CL.ch (h : CL σ a) (hf : FrCh σ τ) (hH : CH τ r hv) (hR : ∃ qq, RC τ 1 v qq) : CL τ (abW a r hv v) := by
  obtain ⟨-, -, h3, h4, h5, h6⟩ := h
  refine ⟨hR, hH, fun s hs => ⟨by rw [hf.2.1 17 (by decide) (by decide)]; exact (h3 s hs).1, fun hb => ?_⟩, ⟨(hf.1 0 8 (by decide) (by decide) (by decide)).trans h4.1, fun i hi => by rw [hf.2.1 18 (by decide) (by decide)]; exact h4.2 i hi⟩, ⟨(hf.1 19 7 (by decide) (by decide) (by decide)).trans h5.1, (hf.1 19 8 (by decide) (by decide) (by decide)).trans h5.2⟩, ⟨(hf.1 0 11 (by decide) (by decide) (by decide)).trans h6.1, fun i hi => by rw [hf.2.1 23 (by decide) (by decide)]; exact h6.2 i hi⟩⟩
  obtain ⟨q2, hr⟩ := (h3 s hs).2 hb
  exact ⟨q2, hr.keep (funext fun j => hf.1 _ j (by omega) (by omega) (by omega)) (fun k _ _ => hf.2.1 k (by omega) (by omega))⟩
theorem CL.chg (h : CL σ a) (hc : CHG g σ τ (aR a) (aH a) (aU a) v) : CL τ (abC g a v) := by
  unfold abC
  cases g with
  | true =>
    rw [if_pos rfl]
    obtain ⟨h1, h2⟩ := hc.2.1 rfl
    exact h.ch hc.1 h1 h2
  | false =>
    rw [if_neg (by decide), hc.2.2 rfl]
    exact h
theorem CL.keep (h : CL σ a) (hf : ∀ k, k < 94 → ¬ (8 ≤ k ∧ k < 15) → sF τ k = sF σ k ∧ sA τ k = sA σ k) : CL τ a := by
  obtain ⟨⟨q1, h1⟩, ⟨np, n1, n2, n3, n4, n5⟩, h3, h4, h5, h6⟩ := h
  have k : ∀ p w q2, p + 6 < 94 → (p + 6 < 8 ∨ 15 ≤ p) → RC σ p w q2 → RC τ p w q2 := fun p w q2 hp hp2 hr => hr.keep (hf p (by omega) (by omega)).1 (fun j _ _ => (hf j (by omega) (by omega)).2)
  have e0 := (hf 0 (by decide) (by decide)).1
  refine ⟨⟨q1, k _ _ _ (by decide) (by decide) h1⟩, ⟨np, n1, by rw [e0]; exact n2, by rw [e0]; exact n3, n4, fun i hi => ?_⟩, fun s hs => ⟨by rw [(hf 17 (by decide) (by decide)).2]; exact (h3 s hs).1, fun hb => ?_⟩, ⟨by rw [e0]; exact h4.1, fun i hi => by rw [(hf 18 (by decide) (by decide)).2]; exact h4.2 i hi⟩, ⟨by rw [(hf 19 (by decide) (by decide)).1]; exact h5.1, by rw [(hf 19 (by decide) (by decide)).1]; exact h5.2⟩, ⟨by rw [e0]; exact h6.1, fun i hi => by rw [(hf 23 (by decide) (by decide)).2]; exact h6.2 i hi⟩⟩
  · obtain ⟨q2, hr⟩ := n5 i hi
    exact ⟨q2, k _ _ _ (by omega) (by omega) hr⟩
  · obtain ⟨q2, hr⟩ := (h3 s hs).2 hb
    exact ⟨q2, k _ _ _ (by omega) (by omega) hr⟩
theorem CL.s8 (h : CL σ a) (hf : FrS 8 σ τ) : CL τ a := h.keep (fun k _ h8 => ⟨hf.1 k (by omega), hf.2.1 k (by omega)⟩)
theorem CL.svS (h : CL σ a) (hf : FrSv σ τ) (hS : CSl τ b sv) : CL τ (abS2 a b sv) := by
  obtain ⟨⟨q1, h1⟩, ⟨np, n1, n2, n3, n4, n5⟩, h3, h4, h5, h6⟩ := h
  have k : ∀ p w q2, p + 6 < 80 → (p + 6 < 17 ∨ 17 < p) → RC σ p w q2 → RC τ p w q2 := fun p w q2 hp hp2 hr => hr.keep (hf.1 p (by omega)) (fun j _ _ => hf.2.1 j (by omega) (by omega))
  have e0 := hf.1 0 (by decide)
  refine ⟨⟨q1, k _ _ _ (by decide) (by decide) h1⟩, ⟨np, n1, by rw [e0]; exact n2, by rw [e0]; exact n3, n4, fun i hi => ?_⟩, hS, ⟨by rw [e0]; exact h4.1, fun i hi => by rw [hf.2.1 18 (by decide) (by decide)]; exact h4.2 i hi⟩, ⟨by rw [hf.1 19 (by decide)]; exact h5.1, by rw [hf.1 19 (by decide)]; exact h5.2⟩, ⟨by rw [e0]; exact h6.1, fun i hi => by rw [hf.2.1 23 (by decide) (by decide)]; exact h6.2 i hi⟩⟩
  obtain ⟨q2, hr⟩ := n5 i hi
  exact ⟨q2, k _ _ _ (by omega) (by omega) hr⟩
theorem CL.out (h : CL σ a) (hf : FrO σ τ) (hO : CO τ o) : CL τ (abO a o) := by
  obtain ⟨⟨q1, h1⟩, ⟨np, n1, n2, n3, n4, n5⟩, h3, h4, h5, h6⟩ := h
  have k : ∀ p w q2, 0 < p → (p + 6 < 23 ∨ 23 < p) → RC σ p w q2 → RC τ p w q2 := fun p w q2 hp hp2 hr => hr.keep (funext fun j => hf.1 p j (by omega)) (fun j _ _ => hf.2.1 j (by omega))
  refine ⟨⟨q1, k _ _ _ (by decide) (by decide) h1⟩, ⟨np, n1, (hf.1 0 3 (by decide)).trans n2, (hf.1 0 4 (by decide)).trans n3, n4, fun i hi => ?_⟩, fun s hs => ⟨by rw [hf.2.1 17 (by decide)]; exact (h3 s hs).1, fun hb => ?_⟩, ⟨(hf.1 0 8 (by decide)).trans h4.1, fun i hi => by rw [hf.2.1 18 (by decide)]; exact h4.2 i hi⟩, ⟨(hf.1 19 7 (by decide)).trans h5.1, (hf.1 19 8 (by decide)).trans h5.2⟩, hO⟩
  · obtain ⟨q2, hr⟩ := n5 i hi
    exact ⟨q2, k _ _ _ (by omega) (by omega) hr⟩
  · obtain ⟨q2, hr⟩ := (h3 s hs).2 hb
    exact ⟨q2, k _ _ _ (by omega) (by omega) hr⟩
theorem CL.i (h : CL σ a) (hf : FrI σ τ) (hO : CI τ o) : CL τ (abI a o) := by
  obtain ⟨⟨q1, h1⟩, ⟨np, n1, n2, n3, n4, n5⟩, h3, h4, h5, h6⟩ := h
  have k : ∀ p w q2, 0 < p → (p + 6 < 18 ∨ 18 < p) → RC σ p w q2 → RC τ p w q2 := fun p w q2 hp hp2 hr => hr.keep (funext fun j => hf.1 p j (by omega)) (fun j _ _ => hf.2.1 j (by omega))
  refine ⟨⟨q1, k _ _ _ (by decide) (by decide) h1⟩, ⟨np, n1, (hf.1 0 3 (by decide)).trans n2, (hf.1 0 4 (by decide)).trans n3, n4, fun i hi => ?_⟩, fun s hs => ⟨by rw [hf.2.1 17 (by decide)]; exact (h3 s hs).1, fun hb => ?_⟩, hO, ⟨(hf.1 19 7 (by decide)).trans h5.1, (hf.1 19 8 (by decide)).trans h5.2⟩, ⟨(hf.1 0 11 (by decide)).trans h6.1, fun i hi => by rw [hf.2.1 23 (by decide)]; exact h6.2 i hi⟩⟩
  · obtain ⟨q2, hr⟩ := n5 i hi
    exact ⟨q2, k _ _ _ (by omega) (by omega) hr⟩
  · obtain ⟨q2, hr⟩ := (h3 s hs).2 hb
    exact ⟨q2, k _ _ _ (by omega) (by omega) hr⟩
/-! the model -/
theorem ML.mc (h : ML σ a) (hf : FrMC σ τ) (hH : Hist τ r hv) (hR : RM τ v) : ML τ (abW a r hv v) := by
  obtain ⟨-, -, h3, h4, h5, h6⟩ := h
  exact ⟨hR, hH, hf.MS h3, ⟨(hf.1 94 7 (by decide)).trans h4.1, fun i hi => by rw [hf.2.1 97 (by decide) (by decide)]; exact h4.2 i hi⟩, ⟨(hf.1 94 11 (by decide)).trans h5.1, (hf.1 94 10 (by decide)).trans h5.2⟩, ⟨(hf.1 94 15 (by decide)).trans h6.1, fun i hi => by rw [hf.2.1 98 (by decide) (by decide)]; exact h6.2 i hi⟩⟩
theorem ML.rd (h : ML σ a) (hf : FrX σ τ) (hR : RM τ (aU a)) : ML τ a := h.mc hf.mc ⟨(hf.1 94 3 (by decide)).trans h.2.1.1, h.2.1.2.1, fun i hi => RMg.congr (h.2.1.2.2 i hi) (fun j hj => hf.2.2.1 _ (by have h8 : aR a ≤ 8 := h.2.1.2.1; have h9 : i < aR a := hi; omega))⟩ hR
theorem ML.chg (h : ML σ a) (hc : MHG g σ τ (aR a) (aH a) (aU a) v) : ML τ (abC g a v) := by
  unfold abC
  cases g with
  | true =>
    rw [if_pos rfl]
    obtain ⟨h1, h2⟩ := hc.2.1 rfl
    exact h.mc hc.1 h1 h2
  | false =>
    rw [if_neg (by decide)]
    obtain ⟨h1, h2⟩ := hc.2.2 rfl
    exact h.mc hc.1 h1 h2
theorem ML.ms (h : ML σ a) (hf : FrMS σ τ) (hS : MS τ b sv) : ML τ (abS2 a b sv) := by
  obtain ⟨h1, h2, h3, h4, h5, h6⟩ := h
  exact ⟨hf.RM h1, hf.Hist h2, hS, ⟨(hf.1 94 7 (by decide)).trans h4.1, fun i hi => by rw [hf.2.1 97 (by decide)]; exact h4.2 i hi⟩, ⟨(hf.1 94 11 (by decide)).trans h5.1, (hf.1 94 10 (by decide)).trans h5.2⟩, ⟨(hf.1 94 15 (by decide)).trans h6.1, fun i hi => by rw [hf.2.1 98 (by decide)]; exact h6.2 i hi⟩⟩
theorem ML.out (h : ML σ a) (hf : FrMO σ τ) (hO : MO τ o) : ML τ (abO a o) := by
  obtain ⟨h1, h2, h3, h4, h5, h6⟩ := h
  have km : ∀ p w, KM σ p w → KM τ p w := fun p w hk => RMg.congr hk (fun i _ => by rw [hf.2.1 96 (by decide)])
  exact ⟨RMg.congr h1.g (fun i _ => by rw [hf.2.1 95 (by decide)]), ⟨(hf.1 94 3 (by decide)).trans h2.1, h2.2.1, fun i hi => km _ _ (h2.2.2 i hi)⟩, ⟨(hf.1 94 4 (by decide)).trans h3.1, (hf.1 94 5 (by decide)).trans h3.2.1, fun s hs hb => km _ _ (h3.2.2 s hs hb)⟩, ⟨(hf.1 94 7 (by decide)).trans h4.1, fun i hi => by rw [hf.2.1 97 (by decide)]; exact h4.2 i hi⟩, ⟨(hf.1 94 11 (by decide)).trans h5.1, (hf.1 94 10 (by decide)).trans h5.2⟩, hO⟩
theorem ML.i (h : ML σ a) (hf : FrMI σ τ) (hO : MI τ o) : ML τ (abI a o) := by
  obtain ⟨h1, h2, h3, h4, h5, h6⟩ := h
  have km : ∀ p w, KM σ p w → KM τ p w := fun p w hk => RMg.congr hk (fun i _ => by rw [hf.2.1 96 (by decide)])
  exact ⟨RMg.congr h1.g (fun i _ => by rw [hf.2.1 95 (by decide)]), ⟨(hf.1 94 3 (by decide)).trans h2.1, h2.2.1, fun i hi => km _ _ (h2.2.2 i hi)⟩, ⟨(hf.1 94 4 (by decide)).trans h3.1, (hf.1 94 5 (by decide)).trans h3.2.1, fun s hs hb => km _ _ (h3.2.2 s hs hb)⟩, hO, ⟨(hf.1 94 11 (by decide)).trans h5.1, (hf.1 94 10 (by decide)).trans h5.2⟩, ⟨(hf.1 94 15 (by decide)).trans h6.1, fun i hi => by rw [hf.2.1 98 (by decide)]; exact h6.2 i hi⟩⟩
theorem sO_x (hf : FrX σ τ) : sO τ = sO σ := congrArg (fun z : Option Nat × (Nat → Option Nat) × (Nat → Int64) => z.2.2) hf.2.2.2
theorem sO_mc (hf : FrMC σ τ) : sO τ = sO σ := congrArg (fun z : Option Nat × (Nat → Option Nat) × (Nat → Int64) => z.2.2) hf.2.2.2
theorem sO_ms (hf : FrMS σ τ) : sO τ = sO σ := congrArg (fun z : Option Nat × (Nat → Option Nat) × (Nat → Int64) => z.2.2) hf.2.2.2
/-! what always holds -/
theorem pushV_ok {u : Vw} (hu : Ok u) (hh : ∀ i, i < r → Ok (hv i)) (h8 : r ≤ 8) : ∀ i, i < pushN r → Ok (pushV r hv u i) := by
  intro i hi
  unfold pushN at hi
  unfold pushV
  by_cases e : r = 8
  · rw [if_pos e] at hi ⊢
    show Ok (if i < 7 then hv (i + 1) else u)
    by_cases e2 : i < 7
    · rw [if_pos e2]; exact hh _ (by omega)
    · rw [if_neg e2]; exact hu
  · rw [if_neg e] at hi ⊢
    show Ok (if i < r then hv i else u)
    by_cases e2 : i < r
    · rw [if_pos e2]; exact hh _ e2
    · rw [if_neg e2]; exact hu
/-- the whole invariant -/
def AK (a : Ab) : Prop := AOk a ∧ byT (aI a) ∧ aR a ≤ 8
theorem AK.w (h : AK a) (hv9 : Ok v) (hr : r ≤ 8) (hh : ∀ i, i < r → Ok (hv i)) : AK (abW a r hv v) := ⟨⟨hv9, hh, h.1.2.2⟩, h.2.1, hr⟩
theorem AK.c (h : AK a) (hv9 : g = true → Ok v) : AK (abC g a v) := by
  unfold abC
  cases g with
  | true =>
    rw [if_pos rfl]
    exact h.w (hv9 rfl) (by unfold pushN; have := h.2.2; split <;> omega) (pushV_ok h.1.1 h.1.2.1 h.2.2)
  | false =>
    rw [if_neg (by decide)]
    exact h
theorem AK.und (h : AK a) : AK (abUn a) := by
  unfold abUn
  split
  · rename_i g
    exact h.w (h.1.2.1 _ (by omega)) (by have := h.2.2; omega) (fun i hi => h.1.2.1 i (by omega))
  · exact h
theorem AK.rs (h : AK a) : AK (abRs a x) := by
  unfold abRs
  split
  · rename_i g
    simp only [Bool.and_eq_true] at g
    exact h.w (h.1.2.2.1 _ (okS_i g.1).2 g.2) (Nat.zero_le _) (fun i hi => absurd hi (Nat.not_lt_zero i))
  · exact h
theorem AK.svS (h : AK a) : AK (abSv a x) := by
  unfold abSv
  split
  · rename_i g
    refine ⟨⟨h.1.1, h.1.2.1, fun s hs hb => ?_, h.1.2.2.2⟩, h.2⟩
    show Ok (if s = x.toNatClampNeg then aU a else aV a s)
    by_cases e : s = x.toNatClampNeg
    · rw [if_pos e]; exact h.1.1
    · rw [if_neg e]
      refine h.1.2.2.1 s hs ?_
      have hb2 : (if s = x.toNatClampNeg then true else aB a s) = true := hb
      rw [if_neg e] at hb2
      exact hb2
  · exact h
theorem AK.out (h : AK a) (ho : o.1 ≤ 64) (ha : AscT o) : AK (abO a o) := ⟨⟨h.1.1, h.1.2.1, h.1.2.2.1, h.1.2.2.2.1, ho, ha⟩, h.2⟩
theorem AK.i (h : AK a) (ho : o.1 ≤ 500) (hb : byT o) : AK (abI a o) := ⟨⟨h.1.1, h.1.2.1, h.1.2.2.1, ho, h.1.2.2.2.2⟩, hb, h.2.2⟩
theorem byT_wr {k : Int32} (h : byT o) (hk : ∃ y : Int8, k = y.toInt32) : byT (wr o k) := fun i hi => by
  have hi : i < o.1 + 1 := hi
  show ∃ y : Int8, (if i = o.1 then k else o.2 i) = y.toInt32
  by_cases e : i = o.1
  · rw [if_pos e]; exact hk
  · rw [if_neg e]; exact h i (by omega)
theorem sb_by {k s : Int32} : ∃ y : Int8, sb k s = y.toInt32 := ⟨_, rfl⟩
theorem byT_4 {k : Int32} (h : byT o) : byT (ap4 o k) := byT_wr (byT_wr (byT_wr (byT_wr h sb_by) sb_by) sb_by) sb_by
theorem AK.ap (h : AK a) {p q s t w : Int32} : AK (abI a (if (aI a).1 + 20 ≤ 500 then ap20 (aI a) p q s t w else aI a)) := by
  split
  · rename_i g
    exact h.i g (byT_4 (byT_4 (byT_4 (byT_4 (byT_4 h.2.1)))))
  · exact h.i h.1.2.2.2.1 h.2.1
theorem AK.tr (h : AK a) : AK (abI a (if trB (aI a) x = true then (x.toNatClampNeg, (aI a).2) else aI a)) := by
  split
  · rename_i g
    have h9 := (trB_i h.1.2.2.2.1 g).2
    exact h.i (by have h8 := h.1.2.2.2.1; show x.toNatClampNeg ≤ 500; omega) (fun i hi => h.2.1 i (Nat.lt_of_lt_of_le hi h9))
  · exact h.i h.1.2.2.2.1 h.2.1
theorem AK.pol (h : AK a) : AK (abC (okI 0 2 x) a (uS (aU a) 2 x)) := h.c (fun g => by
  rcases okI_3 g with e | e | e <;> rw [e]
  · exact h.1.1.pol (a := 0) (by decide)
  · exact h.1.1.pol (a := 1) (by decide)
  · exact h.1.1.pol (a := 2) (by decide))
theorem AK.cap (h : AK a) : AK (abC (okI 1 8 x && decide (nI (many (aU a) 2) ≤ x)) a (uS (aU a) 1 x)) := h.c (fun g => by
  simp only [Bool.and_eq_true, decide_eq_true_eq] at g
  obtain ⟨e, h1, h8⟩ := okI_n (b := 8) (by decide) g.1
  have h2 := g.2
  rw [e] at h2 ⊢
  have h3 : many (aU a) 2 ≤ un (aU a) := cnt_le _ _
  have h4 : un (aU a) ≤ 40 := h.1.1.1.1
  exact h.1.1.cap h1 h8 (fun z => by have := nle h2 (by omega) (by omega); omega))
theorem AK.run (h : AK a) : AK (abC (okI 1 999 x && decide (us (aU a) 3 + x ≤ 999)) a (tks x.toNatClampNeg (aU a))) := h.c (fun g => by
  simp only [Bool.and_eq_true, decide_eq_true_eq] at g
  obtain ⟨e, h1, h8⟩ := okI_n (b := 999) (by decide) g.1
  have h2 := g.2
  rw [e, h.1.1.1.T.1, nI_add] at h2
  have h3 := nle (b := 999) h2 (by have := h.1.1.2; omega) (by decide)
  have h4 := tks_Iu h.1.1.1 x.toNatClampNeg (by omega)
  exact ⟨h4.1, by rw [h4.2]; exact h3⟩)
theorem AK.fz (h : AK a) : AK (abC true a (fzu (999 - uT (aU a)) (aU a))) := h.c (fun _ => h.1.1.fz)
theorem AK.add (h : AK a) {y t : Int32} : AK (abC ((okF (aU a) x && okF (aU a) y) && ((apC (aU a) x y t) && (decide (nI (un (aU a)) < 40)))) a (addu (aU a) x y t)) := h.c (fun g => by
  unfold okF apC okI at g
  simp only [Bool.and_eq_true, decide_eq_true_eq] at g
  obtain ⟨⟨⟨x0, x1⟩, y0, y1⟩, ⟨hxy, t0, t9⟩, hn⟩ := g
  have hI := h.1.1.1
  have hn2 := nlt (b := 40) hn (by have := hI.1; omega) (by decide)
  refine ⟨hI.addu hn2 ⟨i32_le0 x0, Int32.lt_iff_toInt_lt.mp x1⟩ ⟨i32_le0 y0, Int32.lt_iff_toInt_lt.mp y1⟩ (fun e => hxy e.symm) ⟨?_, ?_⟩, h.1.1.2⟩
  · have h1 := Int32.le_iff_toInt_le.mp t0
    have h2 := hI.2.2.2.2.1.1
    omega
  · exact Int32.le_iff_toInt_le.mp t9)
theorem cmds_ok {s t : PSt} (hO : Ok s.2.1) (h : cmds o s = .inr t) : Ok t.2.1 := cmdsF_ok _ s t hO h
theorem AK.er (h : AK a) {p q : Int32} : AK (abE a p q) := ⟨⟨h.1.1, h.1.2.1, h.1.2.2.1, Nat.zero_le _, h.1.2.2.2.2⟩, fun i hi => absurd hi (Nat.not_lt_zero i), h.2.2⟩
theorem AK.ld (h : AK a) : AK (ldA a (loadR (aI a))) := by
  cases hr : loadR (aI a) with
  | inl e => exact h.er
  | inr s =>
    obtain ⟨y, h1, h2⟩ := bnd_r hr
    have h3 := cmds_ok (s := (y.1, y.2, 0)) (hdrS_ok h1).1 h2
    exact ⟨⟨h3, fun i hi => absurd hi (Nat.not_lt_zero i), fun s hs hb => (by cases hb), Nat.zero_le _, h.1.2.2.2.2⟩, fun i hi => absurd hi (Nat.not_lt_zero i), Nat.zero_le _⟩
theorem AK.pl (h : AK a) : AK (plA a (playR (aI a) (aU a))) := by
  cases hr : playR (aI a) (aU a) with
  | inl e => exact h.er
  | inr s =>
    have h3 := cmds_ok (s := (spE (aI a) 0, aU a, 0)) h.1.1 hr
    exact ⟨⟨h3, pushV_ok h.1.1 h.1.2.1 h.2.2, h.1.2.2.1, Nat.zero_le _, h.1.2.2.2.2⟩, fun i hi => absurd hi (Nat.not_lt_zero i), by show pushN (aR a) ≤ 8; unfold pushN; have := h.2.2; split <;> omega⟩
end AS
