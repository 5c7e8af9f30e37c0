/-! input texts -/
def sb (v s : Int32) : Int32 := byt (v >>> (s &&& 31))
theorem sb_u {v s : Int32} (hs : s = 24 ∨ s = 16 ∨ s = 8 ∨ s = 0) : vp_nar .byte ((v.toUInt32 >>> (s.toUInt32 &&& Int32.toUInt32 31)).toInt32).toInt8.toInt32 = sb v s := by
  unfold sb byt
  congr 2
  rcases hs with rfl | rfl | rfl | rfl
  all_goals
    apply Int8.toBitVec_inj.mp
    ext i hi
    first
      | (simp; done)
      | (simp [BitVec.getElem_signExtend, BitVec.getElem_ushiftRight, BitVec.getElem_sshiftRight, BitVec.getLsbD_ushiftRight, BitVec.getLsbD_sshiftRight, show i < 32 by omega, show 24 + i < 32 by omega, show 16 + i < 32 by omega, show 8 + i < 32 by omega]; done)
def ap4 (t : Txt) (v : Int32) : Txt := wr (wr (wr (wr t (sb v 24)) (sb v 16)) (sb v 8)) (sb v 0)
def ap20 (t : Txt) (a b c d e : Int32) : Txt := ap4 (ap4 (ap4 (ap4 (ap4 t a) b) c) d) e
theorem ap4_len {t : Txt} {v : Int32} : (ap4 t v).1 = t.1 + 4 := rfl
/-- the class's input -/
def CI (σ : St) (o : Txt) : Prop := sF σ 0 8 = nI o.1 ∧ ∀ i, i < o.1 → sA σ 18 i = o.2 i
def FrI (σ τ : St) : Prop := (∀ k j, ¬ (k = 0 ∧ j = 8) → sF τ k j = sF σ k j) ∧ (∀ k, k ≠ 18 → sA τ k = sA σ k) ∧ τ.2.2 = σ.2.2
theorem FrI.rf {σ : St} : FrI σ σ := ⟨fun _ _ _ => rfl, fun _ _ => rfl, rfl⟩
theorem FrI.trans {σ τ υ : St} (h : FrI σ τ) (h2 : FrI τ υ) : FrI σ υ := ⟨fun k j a => (h2.1 k j a).trans (h.1 k j a), fun k a => (h2.2.1 k a).trans (h.2.1 k a), h2.2.2.trans h.2.2⟩
theorem FrI.len {σ : St} {x : Int32} : FrI σ (stF σ 0 8 x) := ⟨fun k j a => by
  show up2 (sF σ) 0 8 x k j = _
  rw [up2_if, if_neg a], fun _ _ => rfl, rfl⟩
theorem FrI.ar {σ : St} {i : Nat} {x : Int32} : FrI σ (stA σ 18 i x) := ⟨fun _ _ _ => rfl, fun k a => (up2_ne a), rfl⟩
theorem CI_wr {σ : St} {o : Txt} {x z : Int32} (h : CI σ o) (hz : z = nI (o.1 + 1)) : CI (stF (stA σ 18 o.1 x) 0 8 z) (wr o x) := ⟨(up2_at : up2 (sF σ) 0 8 z 0 8 = z).trans hz, fun i hi => by
  show up2 (sA σ) 18 o.1 x 18 i = if i = o.1 then x else o.2 i
  rw [up2_if]
  by_cases e : i = o.1
  · rw [if_pos ⟨rfl, e⟩, if_pos e]
  · rw [if_neg (fun w => e w.2), if_neg e]
    exact h.2 i (by have hi : i < o.1 + 1 := hi; omega)⟩
theorem CI_cut {σ : St} {o : Txt} {x : Int32} (h : CI σ o) (h1 : 0 ≤ x.toInt) (hx : x.toNatClampNeg ≤ o.1) : CI (stF σ 0 8 x) (x.toNatClampNeg, o.2) := ⟨(up2_at : up2 (sF σ) 0 8 x 0 8 = x).trans (nI_back h1), fun i hi => h.2 i (by have hi : i < x.toNatClampNeg := hi; omega)⟩
def trB (o : Txt) (x : Int32) : Bool := decide (0 ≤ x) && decide (x ≤ nI o.1)
theorem trB_i {o : Txt} {x : Int32} (ho : o.1 ≤ 500) (h : trB o x = true) : 0 ≤ x.toInt ∧ x.toNatClampNeg ≤ o.1 := by
  unfold trB at h
  simp only [Bool.and_eq_true, decide_eq_true_eq] at h
  have h1 := i32_le0 h.1
  have h2 := Int32.le_iff_toInt_le.mp h.2
  rw [nI_int (by omega)] at h2
  have := clamp_int h1
  exact ⟨h1, by omega⟩
