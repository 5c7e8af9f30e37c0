/-! the model's slots -/
def MS (σ : St) (b : Nat → Bool) (v : Nat → Vw) : Prop := sF σ 94 4 = bI (b 0) ∧ sF σ 94 5 = bI (b 1) ∧ ∀ s, s < 2 → b s = true → KM σ (8 + s) (v s)
def FrMS (σ τ : St) : Prop := (∀ k j, ¬ (k = 94 ∧ (j = 0 ∨ j = 4 ∨ j = 5)) → sF τ k j = sF σ k j) ∧ (∀ k, k ≠ 96 → sA τ k = sA σ k) ∧ (∀ i, i < 1688 → sA τ 96 i = sA σ 96 i) ∧ τ.2.2 = σ.2.2
theorem MS.z {σ : St} {b : Nat → Bool} {v : Nat → Vw} {x : Int32} (h : MS σ b v) : MS (stF σ 94 0 x) b v := ⟨(up2_in (by decide) : up2 (sF σ) 94 0 x 94 4 = sF σ 94 4).trans h.1, (up2_in (by decide) : up2 (sF σ) 94 0 x 94 5 = sF σ 94 5).trans h.2.1, h.2.2⟩
theorem FrMC.MS {σ τ : St} {b : Nat → Bool} {v : Nat → Vw} (h : FrMC σ τ) (hS : MS σ b v) : MS τ b v := ⟨(h.1 94 4 (by decide)).trans hS.1, (h.1 94 5 (by decide)).trans hS.2.1, fun s hs hb => RMg.congr (hS.2.2 s hs hb) (fun i hi => h.2.2.1 _ (by omega) (by omega))⟩
theorem FrMS.z {σ : St} {x : Int32} : FrMS σ (stF σ 94 0 x) := ⟨fun k j a => by
  show up2 (sF σ) 94 0 x k j = _
  rw [up2_if, if_neg (fun z => a ⟨z.1, Or.inl z.2⟩)], fun _ _ => rfl, fun _ _ => rfl, rfl⟩
theorem FrMS.trans {σ τ υ : St} (h : FrMS σ τ) (h2 : FrMS τ υ) : FrMS σ υ := ⟨fun k j a => (h2.1 k j a).trans (h.1 k j a), fun k a => (h2.2.1 k a).trans (h.2.1 k a), fun i hi => (h2.2.2.1 i hi).trans (h.2.2.1 i hi), h2.2.2.2.trans h.2.2.2⟩
theorem FrMS.fl {σ : St} {x y : Int32} : FrMS σ (stF (stF σ 94 4 x) 94 5 y) := ⟨fun k j a => by
  show up2 (up2 (sF σ) 94 4 x) 94 5 y k j = _
  rw [up2_if, up2_if, if_neg (fun z => a ⟨z.1, Or.inr (Or.inr z.2)⟩), if_neg (fun z => a ⟨z.1, Or.inr (Or.inl z.2)⟩)], fun _ _ => rfl, fun _ _ => rfl, rfl⟩
theorem KeepP.ms {σ τ : St} {s : Nat} (h : KeepP σ τ (8 + s)) : FrMS σ τ := ⟨fun k j _ => by rw [h.1.1], h.1.2.1, fun i hi => h.2.2 i (by omega), h.1.2.2⟩
theorem FrMS.RM {σ τ : St} {u : Vw} (h : FrMS σ τ) (hM : RM σ u) : RM τ u := RMg.congr hM.g (fun i _ => by rw [h.2.1 95 (by decide)])
theorem FrMS.Hist {σ τ : St} {r : Nat} {hv : Nat → Vw} (h : FrMS σ τ) (hH : Hist σ r hv) : Hist τ r hv := ⟨(h.1 94 3 (by decide)).trans hH.1, hH.2.1, fun i hi => RMg.congr (hH.2.2 i hi) (fun j hj => h.2.2.1 _ (by have := hH.2.1; omega))⟩
theorem MS.save {σ τ υ : St} {b : Nat → Bool} {v : Nat → Vw} {s : Nat} {u : Vw} (hS : MS σ b v) (hM : RM σ u) (hs : s < 2) (hK : KeepP σ τ (8 + s)) (hA : sF υ 94 4 = bI (slB b s 0)) (hB : sF υ 94 5 = bI (slB b s 1)) (eA : sA υ = sA τ) : MS υ (slB b s) (slV v s u) := ⟨hA, hB, fun i hi hb => by
  unfold slB at hb
  unfold slV
  by_cases e : i = s
  · subst e
    rw [if_pos rfl]
    exact RMg.congr (hK.at hM) (fun j _ => by rw [eA])
  · rw [if_neg e] at hb ⊢
    exact RMg.congr (hK.other (p2 := 8 + i) (by omega) (hS.2.2 i hi hb)) (fun j _ => by rw [eA])⟩
