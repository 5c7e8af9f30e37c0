/-! twenty letters in five words -/
def lt (t : Nat → Nat) (k c i j : Nat) : Nat := if j < i ∧ k + j < c then t (k + j) else 0
def pkN (t : Nat → Nat) (k c i m : Nat) : Nat := lt t k c i (4 * m) * 16777216 + lt t k c i (4 * m + 1) * 65536 + lt t k c i (4 * m + 2) * 256 + lt t k c i (4 * m + 3)
section PK
variable {t : Nat → Nat} {k c i j m : Nat}
theorem lt_b (ht : ∀ i, i < c → t i < 128) : lt t k c i j < 128 := by
  unfold lt
  split
  · rename_i h
    exact ht _ h.2
  · decide
theorem pkN_lt (ht : ∀ i, i < c → t i < 128) : pkN t k c i m < 2147483648 := by
  have h0 := lt_b (k := k) (i := i) (j := 4 * m) ht
  have h1 := lt_b (k := k) (i := i) (j := 4 * m + 1) ht
  have h2 := lt_b (k := k) (i := i) (j := 4 * m + 2) ht
  have h3 := lt_b (k := k) (i := i) (j := 4 * m + 3) ht
  unfold pkN
  omega
theorem lt_same (h : ¬ j = i) : lt t k c (i + 1) j = lt t k c i j := by
  unfold lt
  by_cases z : j < i ∧ k + j < c
  · rw [if_pos z, if_pos ⟨by omega, z.2⟩]
  · rw [if_neg z, if_neg (fun y => z ⟨by omega, y.2⟩)]
theorem lt_new (h : k + i < c) : lt t k c (i + 1) i = t (k + i) := if_pos ⟨Nat.lt_succ_self _, h⟩
theorem lt_old (h : i ≤ j) : lt t k c i j = 0 := if_neg (fun z => by omega)
theorem lt_end (h : c ≤ k + j) : lt t k c i j = 0 := if_neg (fun z => by omega)
theorem pk_other (h : ¬ m = i / 4) : pkN t k c (i + 1) m = pkN t k c i m := by
  unfold pkN
  rw [lt_same (by omega), lt_same (by omega), lt_same (by omega), lt_same (by omega)]
theorem shl_tab : ∀ r, r < 4 → ∀ ch, ch < 128 → nI ch <<< (((24 : Int32) - 8 * nI r) &&& 31) = nI (ch * 2 ^ (24 - 8 * r)) := by decide +kernel
theorem or_add {a b s : Nat} (h : b < 2 ^ s) : nI (2 ^ s * a) ||| nI b = nI (2 ^ s * a + b) := by
  rw [nI_or, Nat.two_pow_add_eq_or_of_lt h]
theorem pk_step (ht : ∀ i, i < c → t i < 128) (h : k + i < c) : nI (pkN t k c i (i / 4)) ||| (nI (t (k + i)) <<< (((24 : Int32) - 8 * nI (i % 4)) &&& 31)) = nI (pkN t k c (i + 1) (i / 4)) := by
  have hc := ht _ h
  rw [shl_tab _ (Nat.mod_lt _ (by decide)) _ hc]
  have hi := Nat.div_add_mod i 4
  have hr : i % 4 = 0 ∨ i % 4 = 1 ∨ i % 4 = 2 ∨ i % 4 = 3 := by omega
  generalize hm : i / 4 = m at *
  have hnew := lt_new (t := t) h
  rcases hr with hr | hr | hr | hr
  · have e0 : 4 * m = i := by omega
    have a1 : pkN t k c i m = 2 ^ 32 * 0 := by
      unfold pkN
      rw [lt_old (by omega), lt_old (by omega), lt_old (by omega), lt_old (by omega)]
    have a2 : pkN t k c (i + 1) m = 2 ^ 32 * 0 + t (k + i) * 2 ^ 24 := by
      unfold pkN
      rw [lt_same (j := 4 * m + 1) (by omega), lt_same (j := 4 * m + 2) (by omega), lt_same (j := 4 * m + 3) (by omega), e0, hnew, lt_old (by omega), lt_old (by omega), lt_old (by omega)]
      omega
    rw [a1, a2, hr]
    exact or_add (by omega)
  · have e0 : 4 * m + 1 = i := by omega
    have a1 : pkN t k c i m = 2 ^ 24 * lt t k c i (4 * m) := by
      unfold pkN
      rw [lt_old (j := 4 * m + 1) (by omega), lt_old (j := 4 * m + 2) (by omega), lt_old (j := 4 * m + 3) (by omega)]
      omega
    have a2 : pkN t k c (i + 1) m = 2 ^ 24 * lt t k c i (4 * m) + t (k + i) * 2 ^ 16 := by
      unfold pkN
      rw [lt_same (j := 4 * m) (by omega), lt_same (j := 4 * m + 2) (by omega), lt_same (j := 4 * m + 3) (by omega), e0, hnew, lt_old (j := 4 * m + 2) (by omega), lt_old (j := 4 * m + 3) (by omega)]
      omega
    rw [a1, a2, hr]
    exact or_add (by omega)
  · have e0 : 4 * m + 2 = i := by omega
    have a1 : pkN t k c i m = 2 ^ 16 * (lt t k c i (4 * m) * 256 + lt t k c i (4 * m + 1)) := by
      unfold pkN
      rw [lt_old (j := 4 * m + 2) (by omega), lt_old (j := 4 * m + 3) (by omega)]
      omega
    have a2 : pkN t k c (i + 1) m = 2 ^ 16 * (lt t k c i (4 * m) * 256 + lt t k c i (4 * m + 1)) + t (k + i) * 2 ^ 8 := by
      unfold pkN
      rw [lt_same (j := 4 * m) (by omega), lt_same (j := 4 * m + 1) (by omega), lt_same (j := 4 * m + 3) (by omega), e0, hnew, lt_old (j := 4 * m + 3) (by omega)]
      omega
    rw [a1, a2, hr]
    exact or_add (by omega)
  · have e0 : 4 * m + 3 = i := by omega
    have a1 : pkN t k c i m = 2 ^ 8 * (lt t k c i (4 * m) * 65536 + lt t k c i (4 * m + 1) * 256 + lt t k c i (4 * m + 2)) := by
      unfold pkN
      rw [lt_old (j := 4 * m + 3) (by omega)]
      omega
    have a2 : pkN t k c (i + 1) m = 2 ^ 8 * (lt t k c i (4 * m) * 65536 + lt t k c i (4 * m + 1) * 256 + lt t k c i (4 * m + 2)) + t (k + i) * 2 ^ 0 := by
      unfold pkN
      rw [lt_same (j := 4 * m) (by omega), lt_same (j := 4 * m + 1) (by omega), lt_same (j := 4 * m + 2) (by omega), e0, hnew]
      omega
    rw [a1, a2, hr]
    exact or_add (by omega)
theorem byt_mod {y : Nat} (hb : y % 256 < 128) : byt (nI y) = nI (y % 256) := by
  have e : (nI y).toInt8 = (nI (y % 256)).toInt8 := by
    have c8 : ∀ z : Nat, (nI z).toInt8 = Int8.ofNat z := fun z => by
      first
        | exact Int32.toInt8_ofNat' (n := z)
        | exact Int32.toInt8_ofNat'
        | (apply Int8.toBitVec_inj.mp
           show (BitVec.ofNat 32 z).signExtend 8 = BitVec.ofNat 8 z
           apply BitVec.eq_of_toNat_eq
           simp [BitVec.signExtend_eq_setWidth_of_le])
    rw [c8, c8]
    apply Int8.toBitVec_inj.mp
    apply BitVec.eq_of_toNat_eq
    show (BitVec.ofNat 8 y).toNat = (BitVec.ofNat 8 (y % 256)).toNat
    rw [BitVec.toNat_ofNat, BitVec.toNat_ofNat]
    omega
  have key : ∀ b, b < 128 → byt (nI b) = nI b := by decide +kernel
  have e2 : byt (nI y) = byt (nI (y % 256)) := by
    unfold byt
    rw [e]
  rw [e2, key _ hb]
theorem sb_n {x s : Nat} {v : Int32} (hx : x < 2147483648) (hs : ((v &&& 31).toBitVec.smod 32).toNat = s) (hb : x / 2 ^ s % 256 < 128) : sb (nI x) v = nI (x / 2 ^ s % 256) := by
  unfold sb
  rw [pk_shrN hx (v &&& 31) s hs]
  exact byt_mod hb
theorem pk_get (ht : ∀ i, i < c → t i < 128) : sb (nI (pkN t k c i m)) 24 = nI (lt t k c i (4 * m)) ∧ sb (nI (pkN t k c i m)) 16 = nI (lt t k c i (4 * m + 1)) ∧ sb (nI (pkN t k c i m)) 8 = nI (lt t k c i (4 * m + 2)) ∧ sb (nI (pkN t k c i m)) 0 = nI (lt t k c i (4 * m + 3)) := by
  have h := pkN_lt (k := k) (i := i) (m := m) ht
  have h0 := lt_b (k := k) (i := i) (j := 4 * m) ht
  have h1 := lt_b (k := k) (i := i) (j := 4 * m + 1) ht
  have h2 := lt_b (k := k) (i := i) (j := 4 * m + 2) ht
  have h3 := lt_b (k := k) (i := i) (j := 4 * m + 3) ht
  have hd : pkN t k c i m = lt t k c i (4 * m) * 16777216 + lt t k c i (4 * m + 1) * 65536 + lt t k c i (4 * m + 2) * 256 + lt t k c i (4 * m + 3) := rfl
  have e24 : pkN t k c i m / 2 ^ 24 % 256 = lt t k c i (4 * m) := by omega
  have e16 : pkN t k c i m / 2 ^ 16 % 256 = lt t k c i (4 * m + 1) := by omega
  have e8 : pkN t k c i m / 2 ^ 8 % 256 = lt t k c i (4 * m + 2) := by omega
  have e0 : pkN t k c i m / 2 ^ 0 % 256 = lt t k c i (4 * m + 3) := by omega
  refine ⟨?_, ?_, ?_, ?_⟩
  · rw [sb_n (s := 24) h (by decide) (by omega), e24]
  · rw [sb_n (s := 16) h (by decide) (by omega), e16]
  · rw [sb_n (s := 8) h (by decide) (by omega), e8]
  · rw [sb_n (s := 0) h (by decide) (by omega), e0]
end PK
/-! four letters appended, twenty letters appended -/
theorem wr_at {o : Txt} {x : Int32} : (wr o x).2 o.1 = x := if_pos rfl
theorem wr_in {o : Txt} {x : Int32} {i : Nat} (h : i < o.1) : (wr o x).2 i = o.2 i := if_neg (by omega)
theorem wr_l {o : Txt} {x : Int32} : (wr o x).1 = o.1 + 1 := rfl
theorem ap4_in {o : Txt} {v : Int32} {i : Nat} (h : i < o.1) : (ap4 o v).2 i = o.2 i := by
  unfold ap4
  rw [wr_in (by rw [wr_l, wr_l, wr_l]; omega), wr_in (by rw [wr_l, wr_l]; omega), wr_in (by rw [wr_l]; omega), wr_in h]
theorem ap4_0 {o : Txt} {v : Int32} : (ap4 o v).2 o.1 = sb v 24 := by
  unfold ap4
  rw [wr_in (by rw [wr_l, wr_l, wr_l]; omega), wr_in (by rw [wr_l, wr_l]; omega), wr_in (by rw [wr_l]; omega), wr_at]
theorem ap4_1 {o : Txt} {v : Int32} : (ap4 o v).2 (o.1 + 1) = sb v 16 := by
  unfold ap4
  rw [wr_in (by rw [wr_l, wr_l, wr_l]; omega), wr_in (by rw [wr_l, wr_l]; omega)]
  exact wr_at (o := wr o (sb v 24))
theorem ap4_2 {o : Txt} {v : Int32} : (ap4 o v).2 (o.1 + 2) = sb v 8 := by
  unfold ap4
  rw [wr_in (by rw [wr_l, wr_l, wr_l]; omega)]
  exact wr_at (o := wr (wr o (sb v 24)) (sb v 16))
theorem ap4_3 {o : Txt} {v : Int32} : (ap4 o v).2 (o.1 + 3) = sb v 0 := wr_at (o := wr (wr (wr o (sb v 24)) (sb v 16)) (sb v 8))
/-- a text whose first p letters stand as the builder's from place k on -/
def HasL (o : Txt) (t : Nat → Nat) (k c B p : Nat) : Prop := o.1 = B + p ∧ ∀ j, j < p → o.2 (B + j) = nI (lt t k c 20 j)
theorem HasL.step {o : Txt} {t : Nat → Nat} {k c B m : Nat} (ht : ∀ i, i < c → t i < 128) (h : HasL o t k c B (4 * m)) : HasL (ap4 o (nI (pkN t k c 20 m))) t k c B (4 * (m + 1)) := by
  obtain ⟨h1, h2⟩ := h
  obtain ⟨g0, g1, g2, g3⟩ := pk_get (k := k) (i := 20) (m := m) ht
  refine ⟨by rw [ap4_len, h1]; omega, fun j hj => ?_⟩
  rcases Nat.lt_or_ge j (4 * m) with z | z
  · rw [ap4_in (by omega)]
    exact h2 j z
  · rcases (show j = 4 * m ∨ j = 4 * m + 1 ∨ j = 4 * m + 2 ∨ j = 4 * m + 3 by omega) with rfl | rfl | rfl | rfl
    · rw [show B + 4 * m = o.1 by omega, ap4_0, g0]
    · rw [show B + (4 * m + 1) = o.1 + 1 by omega, ap4_1, g1]
    · rw [show B + (4 * m + 2) = o.1 + 2 by omega, ap4_2, g2]
    · rw [show B + (4 * m + 3) = o.1 + 3 by omega, ap4_3, g3]
theorem HasL.all {o : Txt} {t : Nat → Nat} {k c : Nat} (ht : ∀ i, i < c → t i < 128) : HasL (ap20 o (nI (pkN t k c 20 0)) (nI (pkN t k c 20 1)) (nI (pkN t k c 20 2)) (nI (pkN t k c 20 3)) (nI (pkN t k c 20 4))) t k c o.1 20 := by
  have h0 : HasL o t k c o.1 (4 * 0) := ⟨rfl, fun j hj => absurd hj (Nat.not_lt_zero j)⟩
  exact ((((h0.step ht).step ht).step ht).step ht).step ht
theorem ap20_in {o : Txt} {a b c d e : Int32} {i : Nat} (h : i < o.1) : (ap20 o a b c d e).2 i = o.2 i := by
  unfold ap20
  rw [ap4_in (by rw [ap4_len, ap4_len, ap4_len, ap4_len]; omega), ap4_in (by rw [ap4_len, ap4_len, ap4_len]; omega), ap4_in (by rw [ap4_len, ap4_len]; omega), ap4_in (by rw [ap4_len]; omega), ap4_in h]
/-- the input after k letters (a multiple of 20): the builder's, then zeroes -/
def Laid (o : Txt) (t : Nat → Nat) (c k : Nat) : Prop := o.1 = k ∧ ∀ j, j < k → j < c → o.2 j = nI (t j)
theorem Laid.step {o : Txt} {t : Nat → Nat} {c k : Nat} (ht : ∀ i, i < c → t i < 128) (h : Laid o t c k) : Laid (ap20 o (nI (pkN t k c 20 0)) (nI (pkN t k c 20 1)) (nI (pkN t k c 20 2)) (nI (pkN t k c 20 3)) (nI (pkN t k c 20 4))) t c (k + 20) := by
  obtain ⟨h1, h2⟩ := h
  obtain ⟨g1, g2⟩ := HasL.all (o := o) (t := t) (k := k) (c := c) ht
  refine ⟨by rw [g1, h1], fun j hj hc => ?_⟩
  rcases Nat.lt_or_ge j k with z | z
  · rw [ap20_in (by omega)]
    exact h2 j z hc
  · obtain ⟨i, rfl⟩ : ∃ i, j = k + i := ⟨j - k, by omega⟩
    have h3 := g2 i (by omega)
    rw [h1] at h3
    rw [h3]
    unfold lt
    rw [if_pos ⟨by omega, hc⟩]
