/-! adding, running, slots -/
def ans3 (b c d : Bool) (E F H : String) (v : Value) : Ans := if b then ans2 c d F H v else .inr E
theorem ans3_t {b c d : Bool} {E F H : String} {v w : Value} (h : b = true) (h2 : c = true) (h3 : d = true) (e : w = v) : (.inl (some w) : Ans) = ans3 b c d E F H v := by rw [h, h2, h3, e]; rfl
theorem ans3_1 {b c d : Bool} {E F H : String} {v : Value} (h : b = false) : (.inr E : Ans) = ans3 b c d E F H v := by rw [h]; rfl
theorem ans3_2 {b c d : Bool} {E F H : String} {v : Value} (h : b = true) (h2 : c = false) : (.inr F : Ans) = ans3 b c d E F H v := by rw [h, h2]; rfl
theorem ans3_3 {b c d : Bool} {E F H : String} {v : Value} (h : b = true) (h2 : c = true) (h3 : d = false) : (.inr H : Ans) = ans3 b c d E F H v := by rw [h, h2, h3]; rfl
def apC (u : Vw) (x y t : Int32) : Bool := decide (¬ y = x) && okI (us u 3) 999 t
def tks : Nat → Vw → Vw
  | 0, u => u
  | k + 1, u => tk (tks k u)
theorem tks_Iu {u : Vw} (h : Iu u) : ∀ k, uT u + k ≤ 10000000 → Iu (tks k u) ∧ uT (tks k u) = uT u + k
  | 0, _ => ⟨h, rfl⟩
  | k + 1, hk => by
    obtain ⟨h1, h2⟩ := tks_Iu h k (by omega)
    exact ⟨Iu_tkN h1 (by omega), (tk_T h1).1.trans (by omega)⟩
theorem okI_n {b : Nat} {x : Int32} (hb : b < 100000000) (h : okI 1 (nI b) x = true) : x = nI x.toNatClampNeg ∧ 1 ≤ x.toNatClampNeg ∧ x.toNatClampNeg ≤ b := by
  unfold okI at h
  simp only [Bool.and_eq_true, decide_eq_true_eq] at h
  have h1 : (1 : Int32).toInt ≤ x.toInt := Int32.le_iff_toInt_le.mp h.1
  have h2 := Int32.le_iff_toInt_le.mp h.2
  rw [nI_int hb] at h2
  have z : (1 : Int32).toInt = 1 := rfl
  have e := nI_back (show 0 ≤ x.toInt by omega)
  have c := clamp_int (show 0 ≤ x.toInt by omega)
  exact ⟨e, by omega, by omega⟩
/-- the class's slots -/
def CSl (σ : St) (b : Nat → Bool) (v : Nat → Vw) : Prop := ∀ s, s < 2 → sA σ 17 s = bI (b s) ∧ (b s = true → ∃ qq, RC σ (80 + 7 * s) (v s) qq)
def slB (b : Nat → Bool) (s : Nat) : Nat → Bool := fun i => if i = s then true else b i
def slV (v : Nat → Vw) (s : Nat) (u : Vw) : Nat → Vw := fun i => if i = s then u else v i
def FrSv (σ τ : St) : Prop := (∀ k, ¬ (80 ≤ k ∧ k < 94) → sF τ k = sF σ k) ∧ (∀ k, k ≠ 17 → ¬ (80 ≤ k ∧ k < 94) → sA τ k = sA σ k) ∧ τ.2.2 = σ.2.2
theorem FrSv.rf {σ : St} : FrSv σ σ := ⟨fun _ _ => rfl, fun _ _ _ => rfl, rfl⟩
def okS (x : Int32) : Bool := decide (0 ≤ x) && decide (x < 2)
theorem okS_i {x : Int32} (h : okS x = true) : x = nI x.toNatClampNeg ∧ x.toNatClampNeg < 2 := by
  unfold okS at h
  simp only [Bool.and_eq_true, decide_eq_true_eq] at h
  have h1 := i32_le0 h.1
  have h2 : x.toInt < (2 : Int32).toInt := Int32.lt_iff_toInt_lt.mp h.2
  have z : (2 : Int32).toInt = 2 := rfl
  have c := clamp_int h1
  exact ⟨nI_back h1, by omega⟩
theorem CSl.save {σ τ : St} {b : Nat → Bool} {v : Nat → Vw} {s : Nat} {u : Vw} {qq : Nat → Nat} {x : Int32} (h : CSl σ b v) (hs : s < 2) (hf : FrS (80 + 7 * s) σ τ) (hR : RC τ (80 + 7 * s) u qq) (hx : x = 1) : CSl (stA τ 17 s x) (slB b s) (slV v s u) := fun i hi => by
  have e17 : sA τ 17 = sA σ 17 := hf.2.1 17 (by omega)
  have keep : ∀ p w q2, 24 ≤ p → RC τ p w q2 → RC (stA τ 17 s x) p w q2 := fun p w q2 hp hr => hr.keep rfl (fun k a b => by
    show up2 (sA τ) 17 s x k = _
    exact up2_ne (by omega))
  have ev : sA (stA τ 17 s x) 17 i = if i = s then x else sA τ 17 i := by
    show up2 (sA τ) 17 s x 17 i = _
    rw [up2_if]
    simp
  unfold slB slV
  by_cases e : i = s
  · subst e
    rw [if_pos rfl] at ev
    refine ⟨by rw [ev, if_pos rfl, hx]; rfl, fun _ => ⟨qq, ?_⟩⟩
    rw [if_pos rfl]
    exact keep _ _ _ (by omega) hR
  · rw [if_neg e] at ev
    refine ⟨by rw [ev, if_neg e, e17]; exact (h i hi).1, fun hb => ?_⟩
    rw [if_neg e] at hb
    obtain ⟨q2, hr⟩ := (h i hi).2 hb
    rw [if_neg e]
    exact ⟨q2, keep _ _ _ (by omega) (hr.fr hf (by omega))⟩
