/-! quotients that are no NaN -/
def fnn (f : FP.Core.Fmt) (D : FP.Core.Datum) : Prop := (∃ s, D = .inf s) ∨ ∃ s c q, D = .fin s c q ∧ c < 2 ^ f.p ∧ q ≤ f.qmax
theorem fnn_bound {f : FP.Core.Fmt} {s : Bool} {c : Nat} {q : Int} (h : c < 2 ^ f.p) : fnn f (FP.Core.bound f s c q) := by
  unfold FP.Core.bound
  split
  · rename_i hq
    exact Or.inr ⟨s, c, q, rfl, h, hq⟩
  · exact Or.inl ⟨s, rfl⟩
theorem fnn_settle {f : FP.Core.Fmt} {s : Bool} {c : Nat} {q : Int} (hp : f.tails < 2 ^ f.p) : fnn f (FP.Core.settle f s c q) := by
  unfold FP.Core.settle
  split
  · rename_i h
    exact fnn_bound h
  · exact fnn_bound hp
theorem fnn_ratio {f : FP.Core.Fmt} {s : Bool} {n d : Nat} {e : Int} (hp : f.tails < 2 ^ f.p) (hq : f.qmin ≤ f.qmax) : fnn f (FP.Core.roundRatio f s n d e) := by
  unfold FP.Core.roundRatio
  split
  · exact Or.inr ⟨s, 0, f.qmin, rfl, Nat.two_pow_pos _, hq⟩
  · exact fnn_settle hp
theorem fnn_round {f : FP.Core.Fmt} {D : FP.Core.Datum} (hp : f.tails < 2 ^ f.p) (hq : f.qmin ≤ f.qmax) (hD : D ≠ .nan) : fnn f (FP.Core.round f D) := by
  cases D with
  | nan => exact absurd rfl hD
  | inf s => exact Or.inl ⟨s, rfl⟩
  | fin s c q => exact fnn_ratio hp hq
theorem fnn_quot {f : FP.Core.Fmt} {D : FP.Core.Datum} {t : Bool} {d : Nat} {r : Int} (hp : f.tails < 2 ^ f.p) (hq : f.qmin ≤ f.qmax) (hD : D ≠ .nan) (hd : ¬ d = 0) : fnn f (FP.Core.quotient f D (.fin t d r)) := by
  cases D with
  | nan => exact absurd rfl hD
  | inf s => exact Or.inl ⟨_, rfl⟩
  | fin s c q =>
    unfold FP.Core.quotient
    simp only
    rw [if_neg hd]
    exact fnn_ratio hp hq
theorem fnn_enc {f : FP.Core.Fmt} {D : FP.Core.Datum} (h : fnn f D) (h2 : 2 ^ f.p = 2 * f.tails) (h3 : (f.qmax - f.qmin).toNat + 2 < f.exps) : ∃ s e t, FP.Core.encode f D = FP.Core.assemble f s e t ∧ ((e = f.exps - 1 ∧ t = 0) ∨ (e < f.exps - 1 ∧ t < f.tails)) := by
  rcases h with ⟨s, rfl⟩ | ⟨s, c, q, rfl, hc, hq⟩
  · exact ⟨s, f.exps - 1, 0, rfl, Or.inl ⟨rfl, rfl⟩⟩
  · unfold FP.Core.encode
    simp only
    split
    · rename_i hlt
      exact ⟨s, 0, c, rfl, Or.inr ⟨by omega, hlt⟩⟩
    · rename_i hge
      exact ⟨s, _, _, rfl, Or.inr ⟨by omega, by omega⟩⟩
theorem b32_n {D : FP.Core.Datum} (h : fnn FP.Core.b32 D) : vf_n32 (UInt32.ofNat (FP.Core.encode FP.Core.b32 D)) := by
  obtain ⟨s, e, t, he, ht⟩ := fnn_enc h (by decide) (by decide)
  have e1 : FP.Core.Fmt.exps FP.Core.b32 = 256 := by decide
  have e2 : FP.Core.Fmt.tails FP.Core.b32 = 8388608 := by decide
  rw [e1, e2] at ht
  unfold FP.Core.assemble at he
  rw [e1, e2] at he
  unfold vf_n32
  rw [he, UInt32.le_iff_toNat_le, UInt32.toNat_and]
  have e3 : UInt32.toNat 0x7fffffff = 2 ^ 31 - 1 := by decide
  have e4 : UInt32.toNat 0x7f800000 = 2139095040 := by decide
  rw [e3, e4, Nat.and_two_pow_sub_one_eq_mod, UInt32.toNat_ofNat']
  cases s <;> simp only [Bool.toNat_false, Bool.toNat_true] <;> omega
