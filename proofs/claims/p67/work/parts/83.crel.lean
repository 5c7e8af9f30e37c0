/-! the class's parser: its places -/
theorem st_lt {o : Txt} {i : Nat} : st o i < st o (i + 1) := nx_gt
theorem st_le {o : Txt} {i : Nat} : ∀ {j : Nat}, i ≤ j → st o i ≤ st o j
  | 0, h => by rw [Nat.le_zero.mp h]; exact Nat.le_refl _
  | j + 1, h => by
    rcases Nat.eq_or_lt_of_le h with e | e
    · rw [e]; exact Nat.le_refl _
    · have h1 := st_le (o := o) (i := i) (j := j) (by omega)
      have h2 := st_lt (o := o) (i := j)
      omega
theorem st_ltt {o : Txt} {i j : Nat} (h : i < j) : st o i < st o j := by
  have h1 := st_lt (o := o) (i := i)
  have h2 := st_le (o := o) (i := i + 1) (j := j) h
  omega
theorem st_inj {o : Txt} {i j : Nat} (h : st o i = st o j) : i = j := by
  rcases Nat.lt_trichotomy i j with z | z | z
  · have := st_ltt (o := o) z; omega
  · exact z
  · have := st_ltt (o := o) z; omega
/-- the tokens that the class has cut -/
def TK (G : GG) (σ : St) (o : Txt) (n : Nat) : Prop := n ≤ 500 ∧ st o n = o.1 ∧ (∀ i, i ≤ n → sA σ 21 i = nI (st o i) ∧ sA σ 22 i = nI (vl o (st o i)) ∧ sK σ i = some (gA G (kn o (st o i)))) ∧ sF σ 19 3 = nI (n + 1)
def CAt (σ : St) (o : Txt) (n P : Nat) : Prop := ∃ i, i ≤ n ∧ sF σ 19 4 = nI i ∧ st o i = P
def CA (σ : St) (o : Txt) (n P : Nat) : Prop := CAt σ o n P ∧ sF σ 19 7 = 0 ∧ sF σ 19 8 = -1
def CP (σ : St) (o : Txt) (n : Nat) (s : PSt) : Prop := CA σ o n s.1 ∧ sF σ 19 6 = nI s.2.2 ∧ ∃ qq, RC σ 8 s.2.1 qq
def CE (σ : St) (e : Er) : Prop := sF σ 19 7 = nI e.1 ∧ sF σ 19 8 = nI e.2
def FrT (σ τ : St) : Prop := (∀ k j, ¬ (k = 19 ∧ (j = 4 ∨ j = 7 ∨ j = 8)) → sF τ k j = sF σ k j) ∧ sA τ = sA σ ∧ τ.2.2 = σ.2.2
def FrP (σ τ : St) : Prop := (∀ k j, ¬ (k = 19 ∧ (j = 4 ∨ j = 6 ∨ j = 7 ∨ j = 8)) → k ≠ 8 → sF τ k j = sF σ k j) ∧ (∀ k, ¬ (9 ≤ k ∧ k ≤ 14) → sA τ k = sA σ k) ∧ τ.2.2 = σ.2.2
theorem FrT.rf {σ : St} : FrT σ σ := ⟨fun _ _ _ => rfl, rfl, rfl⟩
theorem FrT.trans {σ τ υ : St} (h : FrT σ τ) (h2 : FrT τ υ) : FrT σ υ := ⟨fun k j a => (h2.1 k j a).trans (h.1 k j a), h2.2.1.trans h.2.1, h2.2.2.trans h.2.2⟩
theorem FrT.f {σ : St} {j : Nat} {x : Int32} (hj : j = 4 ∨ j = 7 ∨ j = 8) : FrT σ (stF σ 19 j x) := ⟨fun k i a => by
  show up2 (sF σ) 19 j x k i = _
  rw [up2_if, if_neg (fun z => a ⟨z.1, by rw [z.2]; exact hj⟩)], rfl, rfl⟩
theorem FrT.P {σ τ : St} (h : FrT σ τ) : FrP σ τ := ⟨fun k j a _ => h.1 k j (fun z => a ⟨z.1, by rcases z.2 with z | z | z <;> simp [z]⟩), fun k _ => by rw [h.2.1], h.2.2⟩
theorem FrP.rf {σ : St} : FrP σ σ := FrT.rf.P
theorem FrP.trans {σ τ υ : St} (h : FrP σ τ) (h2 : FrP τ υ) : FrP σ υ := ⟨fun k j a b => (h2.1 k j a b).trans (h.1 k j a b), fun k a => (h2.2.1 k a).trans (h.2.1 k a), h2.2.2.trans h.2.2⟩
theorem FrP.f {σ : St} {j : Nat} {x : Int32} (hj : j = 4 ∨ j = 6 ∨ j = 7 ∨ j = 8) : FrP σ (stF σ 19 j x) := ⟨fun k i a _ => by
  show up2 (sF σ) 19 j x k i = _
  rw [up2_if, if_neg (fun z => a ⟨z.1, by rw [z.2]; exact hj⟩)], fun _ _ => rfl, rfl⟩
theorem FrS.P8 {σ τ : St} (h : FrS 8 σ τ) : FrP σ τ := ⟨fun k j _ b => by rw [h.1 k b], fun k a => h.2.1 k (by omega), h.2.2⟩
section CR
variable {G : GG} {σ τ : St} {o : Txt} {n P : Nat} {s : PSt} {e : Er}
theorem TK.of (h : TK G σ o n) (h21 : sA τ 21 = sA σ 21) (h22 : sA τ 22 = sA σ 22) (hK : sK τ = sK σ) (h3 : sF τ 19 3 = sF σ 19 3) : TK G τ o n := ⟨h.1, h.2.1, fun i hi => by rw [h21, h22, hK]; exact h.2.2.1 i hi, h3.trans h.2.2.2⟩
theorem TK.frP (h : TK G σ o n) (hf : FrP σ τ) : TK G τ o n := h.of (hf.2.1 21 (by decide)) (hf.2.1 22 (by decide)) (by show τ.2.2.2.1 = σ.2.2.2.1; rw [hf.2.2]) (hf.1 19 3 (by decide) (by decide))
theorem TK.frT (h : TK G σ o n) (hf : FrT σ τ) : TK G τ o n := h.frP hf.P
theorem FrP.sS (hf : FrP σ τ) {a : Option Nat} (h : sS σ = a) : sS τ = a := by
  show τ.2.2.1 = a
  rw [hf.2.2]; exact h
theorem FrT.sS (hf : FrT σ τ) {a : Option Nat} (h : sS σ = a) : sS τ = a := hf.P.sS h
theorem FrT.RC (hf : FrT σ τ) {u : Vw} (h : ∃ qq, RC σ 8 u qq) : ∃ qq, RC τ 8 u qq := by
  obtain ⟨qq, h⟩ := h
  exact ⟨qq, h.keep (funext fun j => hf.1 8 j (by omega)) (fun k _ _ => by rw [hf.2.1])⟩
theorem FrT.ex (hf : FrT σ τ) {e : Nat} (h : sF σ 19 6 = nI e) : sF τ 19 6 = nI e := (hf.1 19 6 (by omega)).trans h
theorem CP.fr (h : CP σ o n s) (hf : FrT σ τ) {p : Nat} (hA : CA τ o n p) : CP τ o n (p, s.2) := ⟨hA, hf.ex h.2.1, hf.RC h.2.2⟩
theorem TK.lt (h : TK G σ o n) {i : Nat} (hi : i ≤ n) (hk : kn o (st o i) ≠ 25) : i < n := by
  rcases Nat.lt_or_ge i n with z | z
  · exact z
  · have e : i = n := Nat.le_antisymm hi z
    rw [e, h.2.1] at hk
    exact absurd (kn_end.mpr (Nat.lt_irrefl _)) hk
/-- the next token -/
theorem CA.next (h : TK G σ o n) {i : Nat} (hi : i ≤ n) (hk : kn o (st o i) ≠ 25) (h7 : sF σ 19 7 = 0) (h8 : sF σ 19 8 = -1) {x : Int32} (hx : x = nI i + 1) : CA (stF σ 19 4 x) o n (nx o (st o i)) := by
  have hl := h.lt hi hk
  refine ⟨⟨i + 1, hl, (up2_at : up2 (sF σ) 19 4 x 19 4 = x).trans (by rw [hx, nI_1]), rfl⟩, (up2_in (by decide) : up2 (sF σ) 19 4 x 19 7 = sF σ 19 7).trans h7, (up2_in (by decide) : up2 (sF σ) 19 4 x 19 8 = sF σ 19 8).trans h8⟩
theorem CE.of {i : Nat} {c x : Int32} {k : Nat} (hc : c = nI k) (hx : x = nI (st o i)) : CE (stF (stF σ 19 7 c) 19 8 x) (k, st o i) := ⟨((up2_in (by decide) : up2 (up2 (sF σ) 19 7 c) 19 8 x 19 7 = up2 (sF σ) 19 7 c 19 7).trans up2_at).trans hc, (up2_at : up2 (up2 (sF σ) 19 7 c) 19 8 x 19 8 = x).trans hx⟩
end CR
/-- answers -/
def cB {α : Type} (r : Er ⊕ α) : Bool := match r with
  | .inl _ => false
  | .inr _ => true
def cV {α : Type} (f : α → Nat) (r : Er ⊕ α) : Int32 := match r with
  | .inl _ => -1
  | .inr y => nI (f y)
def CT {α : Type} (f : α → Nat) (τ : St) (o : Txt) (n : Nat) (r : Er ⊕ α) : Prop := match r with
  | .inl e => CE τ e
  | .inr y => CA τ o n (f y)
def CW (τ : St) (o : Txt) (n : Nat) (r : Er ⊕ PSt) : Prop := match r with
  | .inl e => CE τ e
  | .inr s => CP τ o n s
/-- a command's end, before its semicolon -/
def CC (τ : St) (o : Txt) (n e : Nat) (r : Er ⊕ (Nat × Vw)) : Prop := match r with
  | .inl x => CE τ x
  | .inr y => CP τ o n (y.1, y.2, e)
