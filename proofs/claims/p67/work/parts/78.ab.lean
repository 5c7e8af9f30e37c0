/-! one abstract state for the class and for the model -/
abbrev Ab : Type := Vw × (Nat × (Nat → Vw)) × ((Nat → Bool) × (Nat → Vw)) × Txt × (Int32 × Int32) × Txt
abbrev aU (a : Ab) : Vw := a.1
abbrev aR (a : Ab) : Nat := a.2.1.1
abbrev aH (a : Ab) : Nat → Vw := a.2.1.2
abbrev aB (a : Ab) : Nat → Bool := a.2.2.1.1
abbrev aV (a : Ab) : Nat → Vw := a.2.2.1.2
abbrev aI (a : Ab) : Txt := a.2.2.2.1
abbrev aE (a : Ab) : Int32 := a.2.2.2.2.1.1
abbrev aP (a : Ab) : Int32 := a.2.2.2.2.1.2
abbrev aO (a : Ab) : Txt := a.2.2.2.2.2
/-- what always holds of it -/
def AOk (a : Ab) : Prop := Ok (aU a) ∧ (∀ i, i < aR a → Ok (aH a i)) ∧ (∀ s, s < 2 → aB a s = true → Ok (aV a s)) ∧ (aI a).1 ≤ 500 ∧ ((aO a).1 ≤ 64 ∧ AscT (aO a))
/-- the class's places stand for a -/
def CL (σ : St) (a : Ab) : Prop := (∃ qq, RC σ 1 (aU a) qq) ∧ CH σ (aR a) (aH a) ∧ CSl σ (aB a) (aV a) ∧ CI σ (aI a) ∧ (sF σ 19 7 = aE a ∧ sF σ 19 8 = aP a) ∧ CO σ (aO a)
/-- the class's methods leave the model's places, and the model's the class's -/
def FrA1 (σ τ : St) : Prop := (∀ k, 94 ≤ k → k < 99 → sF τ k = sF σ k ∧ sA τ k = sA σ k)
def FrA2 (σ τ : St) : Prop := (∀ k, k < 94 → sF τ k = sF σ k ∧ sA τ k = sA σ k)
theorem CL.fr {σ τ : St} {a : Ab} (h : CL σ a) (hf : FrA2 σ τ) : CL τ a := by
  obtain ⟨⟨q1, h1⟩, ⟨np, n1, n2, n3, n4, n5⟩, h3, h4, h5, h6⟩ := h
  have k : ∀ p w q2, p + 6 < 94 → RC σ p w q2 → RC τ p w q2 := fun p w q2 hp hr => hr.keep (hf p (by omega)).1 (fun j _ _ => (hf j (by omega)).2)
  have e0 := (hf 0 (by decide)).1
  refine ⟨⟨q1, k _ _ _ (by decide) h1⟩, ⟨np, n1, by rw [e0]; exact n2, by rw [e0]; exact n3, n4, fun i hi => ?_⟩, fun s hs => ⟨by rw [(hf 17 (by decide)).2]; exact (h3 s hs).1, fun hb => ?_⟩, ⟨by rw [e0]; exact h4.1, fun i hi => by rw [(hf 18 (by decide)).2]; exact h4.2 i hi⟩, ⟨by rw [(hf 19 (by decide)).1]; exact h5.1, by rw [(hf 19 (by decide)).1]; exact h5.2⟩, ⟨by rw [e0]; exact h6.1, fun i hi => by rw [(hf 23 (by decide)).2]; exact h6.2 i hi⟩⟩
  · obtain ⟨q2, hr⟩ := n5 i hi
    exact ⟨q2, k _ _ _ (by omega) hr⟩
  · obtain ⟨q2, hr⟩ := (h3 s hs).2 hb
    exact ⟨q2, k _ _ _ (by omega) hr⟩
