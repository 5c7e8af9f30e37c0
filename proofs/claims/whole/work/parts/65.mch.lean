/-! changes of the model -/
def FrMC (σ τ : St) : Prop := (∀ k j, ¬ (k = 94 ∧ (j = 0 ∨ j = 3)) → sF τ k j = sF σ k j) ∧ (∀ k, k ≠ 95 → k ≠ 96 → sA τ k = sA σ k) ∧ (∀ i, 1688 ≤ i → i < 2321 → sA τ 96 i = sA σ 96 i) ∧ τ.2.2 = σ.2.2
theorem FrMC.rf {σ : St} : FrMC σ σ := ⟨fun _ _ _ => rfl, fun _ _ _ => rfl, fun _ _ _ => rfl, rfl⟩
theorem FrMC.trans {σ τ υ : St} (h : FrMC σ τ) (h2 : FrMC τ υ) : FrMC σ υ := ⟨fun k j a => (h2.1 k j a).trans (h.1 k j a), fun k a b => (h2.2.1 k a b).trans (h.2.1 k a b), fun i hi hj => (h2.2.2.1 i hi hj).trans (h.2.2.1 i hi hj), h2.2.2.2.trans h.2.2.2⟩
theorem FrX.mc {σ τ : St} (h : FrX σ τ) : FrMC σ τ := ⟨fun k j a => h.1 k j (fun z => a ⟨z.1, Or.inl z.2⟩), h.2.1, fun i _ hi => h.2.2.1 i hi, h.2.2.2⟩
theorem FrM.mc {σ τ : St} (h : FrM σ τ) : FrMC σ τ := h.x.mc
theorem FrH.mc {σ τ : St} (h : FrH σ τ) : FrMC σ τ := ⟨fun k j a => h.1 k j (fun z => a ⟨z.1, Or.inr z.2⟩), fun k _ b => h.2.1 k b, fun i hi _ => h.2.2.2 i hi, h.2.2.1⟩
theorem FrH.thr {σ τ : St} (h : FrH σ τ) : thr τ = thr σ := h.1 94 0 (by decide)
theorem FrMC.len {σ : St} {x : Int32} : FrMC σ (stF σ 94 3 x) := ⟨fun k j a => by
  show up2 (sF σ) 94 3 x k j = _
  rw [up2_if, if_neg (fun z => a ⟨z.1, Or.inr z.2⟩)], fun _ _ _ => rfl, fun _ _ _ => rfl, rfl⟩
theorem Hist.z {σ : St} {r : Nat} {hv : Nat → Vw} {x : Int32} (h : Hist σ r hv) : Hist (stF σ 94 0 x) r hv := ⟨(up2_in (by decide) : up2 (sF σ) 94 0 x 94 3 = sF σ 94 3).trans h.1, h.2.1, h.2.2⟩
theorem FrM.Hist {σ τ : St} {r : Nat} {hv : Nat → Vw} (h : FrM σ τ) (hH : Hist σ r hv) : Hist τ r hv := ⟨by rw [h.1]; exact hH.1, hH.2.1, fun i hi => h.KM (hH.2.2 i hi)⟩
/-- a change of the model; or nothing happens -/
def MHG (g : Bool) (σ τ : St) (r : Nat) (hv : Nat → Vw) (u w : Vw) : Prop := FrMC σ τ ∧ (g = true → Hist τ (pushN r) (pushV r hv u) ∧ RM τ w) ∧ (g = false → Hist τ r hv ∧ RM τ u)
theorem MHG.no {g : Bool} {σ τ : St} {r : Nat} {hv : Nat → Vw} {u w : Vw} (h : g = false) (h1 : FrMC σ τ) (h2 : Hist τ r hv) (h3 : RM τ u) : MHG g σ τ r hv u w := ⟨h1, fun z => by (rw [h] at z; cases z), fun _ => ⟨h2, h3⟩⟩
theorem MHG.yes {g : Bool} {σ τ : St} {r : Nat} {hv : Nat → Vw} {u w : Vw} (h : g = true) (h1 : FrMC σ τ) (h2 : Hist τ (pushN r) (pushV r hv u)) (h3 : RM τ w) : MHG g σ τ r hv u w := ⟨h1, fun _ => ⟨h2, h3⟩, fun z => by rw [h] at z; cases z⟩
