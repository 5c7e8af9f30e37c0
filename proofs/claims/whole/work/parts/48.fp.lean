/-! quotients that are no NaN -/
def fnn (f : FP.Core.Fmt) (D : FP.Core.Datum) : Prop := (∃ s, D = .inf s) ∨ ∃ s c q, D = .fin s c q ∧ c < 2 ^ f.p ∧ q ≤ f.qmax
theorem fnn_bound {f : FP.Core.Fmt} {s : Bool} {c : Nat} {q : Int} (h : c < 2 ^ f.p) : fnn f (FP.Core.bound f s c q) := by
  unfold FP.Core.bound
  split
  · rename_i hq
    exact Or.inr ⟨s, c, q, rfl, h, hq⟩
  · exact Or.inl ⟨s, rfl⟩
theorem fnn_settle {f : FP.Core.Fmt} {s : Bool} {c : Nat} {q : Int} (hp : f.tails < 2 ^ f.p) : fnn f (FP.Core.settle f s c q) := by
  unfold FP.Core.settle
  split
  · rename_i h
    exact fnn_bound h
  · exact fnn_bound hp
theorem fnn_ratio {f : FP.Core.Fmt} {s : Bool} {n d : Nat} {e : Int} (hp : f.tails < 2 ^ f.p) (hq : f.qmin ≤ f.qmax) : fnn f (FP.Core.roundRatio f s n d e) := by
  unfold FP.Core.roundRatio
  split
  · exact Or.inr ⟨s, 0, f.qmin, rfl, Nat.two_pow_pos _, hq⟩
  · exact fnn_settle hp
theorem fnn_round {f : FP.Core.Fmt} {D : FP.Core.Datum} (hp : f.tails < 2 ^ f.p) (hq : f.qmin ≤ f.qmax) (hD : D ≠ .nan) : fnn f (FP.Core.round f D) := by
  cases D with
  | nan => exact absurd rfl hD
  | inf s => exact Or.inl ⟨s, rfl⟩
  | fin s c q => exact fnn_ratio hp hq
theorem fnn_quot {f : FP.Core.Fmt} {D : FP.Core.Datum} {t : Bool} {d : Nat} {r : Int} (hp : f.tails < 2 ^ f.p) (hq : f.qmin ≤ f.qmax) (hD : D ≠ .nan) (hd : ¬ d = 0) : fnn f (FP.Core.quotient f D (.fin t d r)) := by
  cases D with
  | nan => exact absurd rfl hD
  | inf s => exact Or.inl ⟨_, rfl⟩
  | fin s c q =>
    unfold FP.Core.quotient
    simp only
    rw [if_neg hd]
    exact fnn_ratio hp hq
theorem fnn_enc {f : FP.Core.Fmt} {D : FP.Core.Datum} (h : fnn f D) (h2 : 2 ^ f.p = 2 * f.tails) (h3 : (f.qmax - f.qmin).toNat + 2 < f.exps) : ∃ s e t, FP.Core.encode f D = FP.Core.assemble f s e t ∧ ((e = f.exps - 1 ∧ t = 0) ∨ (e < f.exps - 1 ∧ t < f.tails)) := by
  rcases h with ⟨s, rfl⟩ | ⟨s, c, q, rfl, hc, hq⟩
  · exact ⟨s, f.exps - 1, 0, rfl, Or.inl ⟨rfl, rfl⟩⟩
  · unfold FP.Core.encode
    simp only
    split
    · rename_i hlt
      exact ⟨s, 0, c, rfl, Or.inr ⟨by omega, hlt⟩⟩
    · rename_i hge
      exact ⟨s, _, _, rfl, Or.inr ⟨by omega, by omega⟩⟩
theorem b32_n {D : FP.Core.Datum} (h : fnn FP.Core.b32 D) : vf_n32 (UInt32.ofNat (FP.Core.encode FP.Core.b32 D)) := by
  obtain ⟨s, e, t, he, ht⟩ := fnn_enc h (by decide) (by decide)
  have e1 : FP.Core.Fmt.exps FP.Core.b32 = 256 := by decide
  have e2 : FP.Core.Fmt.tails FP.Core.b32 = 8388608 := by decide
  rw [e1, e2] at ht
  unfold FP.Core.assemble at he
  rw [e1, e2] at he
  unfold vf_n32
  rw [he, UInt32.le_iff_toNat_le, UInt32.toNat_and]
  have e3 : UInt32.toNat 0x7fffffff = 2 ^ 31 - 1 := by decide
  have e4 : UInt32.toNat 0x7f800000 = 2139095040 := by decide
  rw [e3, e4, Nat.and_two_pow_sub_one_eq_mod, UInt32.toNat_ofNat']
  cases s <;> simp only [Bool.toNat_false, Bool.toNat_true] <;> omega
theorem b64_n {D : FP.Core.Datum} (h : fnn FP.Core.b64 D) : vf_n64 (UInt64.ofNat (FP.Core.encode FP.Core.b64 D)) := by
  obtain ⟨s, e, t, he, ht⟩ := fnn_enc h (by decide) (by decide)
  have e1 : FP.Core.Fmt.exps FP.Core.b64 = 2048 := by decide
  have e2 : FP.Core.Fmt.tails FP.Core.b64 = 4503599627370496 := by decide
  rw [e1, e2] at ht
  unfold FP.Core.assemble at he
  rw [e1, e2] at he
  unfold vf_n64
  rw [he, UInt64.le_iff_toNat_le, UInt64.toNat_and]
  have e3 : UInt64.toNat 0x7fffffffffffffff = 2 ^ 63 - 1 := by decide
  have e4 : UInt64.toNat 0x7ff0000000000000 = 9218868437227405312 := by decide
  rw [e3, e4, Nat.and_two_pow_sub_one_eq_mod, UInt64.toNat_ofNat']
  cases s <;> simp only [Bool.toNat_false, Bool.toNat_true] <;> omega
theorem b32_d {D : FP.Core.Datum} (h : fnn FP.Core.b32 D) : FP.Core.decode FP.Core.b32 (UInt32.ofNat (FP.Core.encode FP.Core.b32 D)).toNat ≠ .nan := by
  obtain ⟨s, e, t, he, ht⟩ := fnn_enc h (by decide) (by decide)
  have e1 : FP.Core.Fmt.exps FP.Core.b32 = 256 := by decide
  have e2 : FP.Core.Fmt.tails FP.Core.b32 = 8388608 := by decide
  rw [e1, e2] at ht
  unfold FP.Core.assemble at he
  rw [e1, e2] at he
  rw [he, UInt32.toNat_ofNat']
  intro hd
  unfold FP.Core.decode FP.Core.fieldE FP.Core.fieldT at hd
  rw [e1, e2] at hd
  split at hd
  · rename_i hE
    split at hd
    · cases hd
    · rename_i hT
      cases s <;> simp only [Bool.toNat_false, Bool.toNat_true] at hE hT <;> omega
  · split at hd <;> cases hd
theorem b64_d {D : FP.Core.Datum} (h : fnn FP.Core.b64 D) : FP.Core.decode FP.Core.b64 (UInt64.ofNat (FP.Core.encode FP.Core.b64 D)).toNat ≠ .nan := by
  obtain ⟨s, e, t, he, ht⟩ := fnn_enc h (by decide) (by decide)
  have e1 : FP.Core.Fmt.exps FP.Core.b64 = 2048 := by decide
  have e2 : FP.Core.Fmt.tails FP.Core.b64 = 4503599627370496 := by decide
  rw [e1, e2] at ht
  unfold FP.Core.assemble at he
  rw [e1, e2] at he
  rw [he, UInt64.toNat_ofNat']
  intro hd
  unfold FP.Core.decode FP.Core.fieldE FP.Core.fieldT at hd
  rw [e1, e2] at hd
  split at hd
  · rename_i hE
    split at hd
    · cases hd
    · rename_i hT
      cases s <;> simp only [Bool.toNat_false, Bool.toNat_true] at hE hT <;> omega
  · split at hd <;> cases hd
theorem b32_pq : FP.Core.b32.tails < 2 ^ FP.Core.b32.p ∧ FP.Core.b32.qmin ≤ FP.Core.b32.qmax := by decide
theorem b64_pq : FP.Core.b64.tails < 2 ^ FP.Core.b64.p ∧ FP.Core.b64.qmin ≤ FP.Core.b64.qmax := by decide
def finB (D : FP.Core.Datum) : Bool := match D with
  | .fin _ c _ => !decide (c = 0)
  | _ => false
theorem finB_e {D : FP.Core.Datum} (h : finB D = true) : ∃ s c q, D = .fin s c q ∧ ¬ c = 0 := by
  cases D with
  | nan => cases h
  | inf s => cases h
  | fin s c q => exact ⟨s, c, q, rfl, by simpa [finB] using h⟩
theorem i2f_d (x : Int32) : FP.Core.decode FP.Core.b32 (FP.i2f x).toNat ≠ .nan := b32_d (fnn_round b32_pq.1 b32_pq.2 (by unfold FP.Core.ofInt; intro h; cases h))
theorem i2d_d (x : Int32) : FP.Core.decode FP.Core.b64 (FP.i2d x).toNat ≠ .nan := b64_d (fnn_round b64_pq.1 b64_pq.2 (by unfold FP.Core.ofInt; intro h; cases h))
theorem i2f_f {n : Nat} (h : n < 1000) (h0 : 0 < n) : finB (FP.Core.decode FP.Core.b32 (FP.i2f (nI n)).toNat) = true := by
  have key : ∀ b, b < 1000 → 0 < b → finB (FP.Core.decode FP.Core.b32 (FP.i2f (nI b)).toNat) = true := by decide +kernel
  exact key n h h0
theorem i2d_f {n : Nat} (h : n < 100) (h0 : 0 < n) : finB (FP.Core.decode FP.Core.b64 (FP.i2d (nI n)).toNat) = true := by
  have key : ∀ b, b < 100 → 0 < b → finB (FP.Core.decode FP.Core.b64 (FP.i2d (nI b)).toNat) = true := by decide +kernel
  exact key n h h0
theorem fdiv_q {x y : Int32} (h : finB (FP.Core.decode FP.Core.b32 (FP.i2f y).toNat) = true) : fnn FP.Core.b32 (FP.Core.quotient FP.Core.b32 (FP.Core.decode FP.Core.b32 (FP.i2f x).toNat) (FP.Core.decode FP.Core.b32 (FP.i2f y).toNat)) := by
  obtain ⟨s, c, q, e, hc⟩ := finB_e h
  rw [e]
  exact fnn_quot b32_pq.1 b32_pq.2 (i2f_d x) hc
theorem ddiv_q {x y : Int32} (h : finB (FP.Core.decode FP.Core.b64 (FP.i2d y).toNat) = true) : fnn FP.Core.b64 (FP.Core.quotient FP.Core.b64 (FP.Core.decode FP.Core.b64 (FP.i2d x).toNat) (FP.Core.decode FP.Core.b64 (FP.i2d y).toNat)) := by
  obtain ⟨s, c, q, e, hc⟩ := finB_e h
  rw [e]
  exact fnn_quot b64_pq.1 b64_pq.2 (i2d_d x) hc
theorem fdiv_n {x : Int32} {n : Nat} (h : n < 1000) (h0 : 0 < n) : vf_n32 (FP.fdiv (FP.i2f x) (FP.i2f (nI n))) := b32_n (fdiv_q (i2f_f h h0))
theorem ddiv_n {x : Int32} {n : Nat} (h : n < 100) (h0 : 0 < n) : vf_n64 (FP.ddiv (FP.i2d x) (FP.i2d (nI n))) := b64_n (ddiv_q (i2d_f h h0))
theorem f2d_n {r : UInt32} (h : FP.Core.decode FP.Core.b32 r.toNat ≠ .nan) : vf_n64 (FP.f2d r) := by
  unfold FP.f2d
  have e : FP.Core.fIsNaN r = false := decide_eq_false h
  rw [e]
  exact b64_n (fnn_round b64_pq.1 b64_pq.2 h)
theorem fdiv_d {x : Int32} {n : Nat} (h : n < 1000) (h0 : 0 < n) : FP.Core.decode FP.Core.b32 (FP.fdiv (FP.i2f x) (FP.i2f (nI n))).toNat ≠ .nan := b32_d (fdiv_q (i2f_f h h0))
