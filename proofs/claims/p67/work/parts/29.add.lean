/-! one passenger more; a new building -/
def row5 (a b t : Int32) (c : Nat) : Int32 := if c = 0 then a else if c = 1 then b else if c = 2 then t else -1
def addu (u : Vw) (a b t : Int32) : Vw := (un u + 1, us u, fun c i => if i = un u then row5 a b t c else ur u c i)
theorem addu_un {u : Vw} {a b t : Int32} : un (addu u a b t) = un u + 1 := rfl
theorem addu_us {u : Vw} {a b t : Int32} : us (addu u a b t) = us u := rfl
theorem addu_at {u : Vw} {a b t : Int32} {c : Nat} : ur (addu u a b t) c (un u) = row5 a b t c := if_pos rfl
theorem addu_in {u : Vw} {a b t : Int32} {c i : Nat} (h : i < un u) : ur (addu u a b t) c i = ur u c i := if_neg (by omega)
theorem addu_stat {u : Vw} {a b t : Int32} {i : Nat} (h : i < un u) : stat (addu u a b t) i = stat u i := by
  unfold stat
  rw [addu_in h, addu_in h, addu_in h, addu_us]
theorem addu_stat2 {u : Vw} {a b t : Int32} : stat (addu u a b t) (un u) = if t ≤ us u 3 then 1 else 0 := by
  unfold stat
  rw [addu_at, addu_at, addu_at, addu_us]
  simp [row5]
theorem addu_many {u : Vw} {a b t : Int32} {k : Int32} (hk : k = 2 ∨ k = 3) : many (addu u a b t) k = many u k := by
  show cnt (fun i => stat (addu u a b t) i == k) (un u) + (if (stat (addu u a b t) (un u) == k) = true then 1 else 0) = many u k
  rw [addu_stat2]
  have e : ((if t ≤ us u 3 then (1 : Int32) else 0) == k) = false := by
    rcases hk with rfl | rfl <;> split <;> decide
  rw [e]
  exact cnt_congr (fun i hi => by rw [addu_stat hi])
theorem addu_ahd {u : Vw} {a b t : Int32} {i j : Nat} (hi : i < un u) (hj : j < un u) (h : ahd u i j) : ahd (addu u a b t) i j := by
  unfold ahd at *
  rw [addu_in hi, addu_in hj]
  exact h
def ins (qq : Nat → Nat) (n k : Nat) : Nat → Nat := fun i => if i < k then qq i else if i = k then n else qq (i - 1)
theorem ins_lt {qq : Nat → Nat} {n k i : Nat} (h : i < k) : ins qq n k i = qq i := if_pos h
theorem ins_at {qq : Nat → Nat} {n k : Nat} : ins qq n k k = n := by unfold ins; rw [if_neg (by omega), if_pos rfl]
theorem ins_gt {qq : Nat → Nat} {n k i : Nat} (h : k < i) : ins qq n k i = qq (i - 1) := by unfold ins; rw [if_neg (by omega), if_neg (by omega)]
theorem Qok.ins {u : Vw} {qq : Nat → Nat} {a b t : Int32} {k : Nat} (h : Qok u qq) (hk : k ≤ un u) (h1 : ∀ i, i < k → ur u 2 (qq i) ≤ t) (h2 : ∀ i, k ≤ i → i < un u → t < ur u 2 (qq i)) : Qok (addu u a b t) (ins qq (un u) k) := by
  obtain ⟨q1, q2, q3⟩ := h
  have lo : ∀ i, i < k → ahd (addu u a b t) (qq i) (un u) := fun i hi => by
    have hq := q1 i (by omega)
    unfold ahd
    rw [addu_in hq, addu_at]
    show ur u 2 (qq i) < t ∨ ur u 2 (qq i) = t ∧ qq i < un u
    by_cases e : ur u 2 (qq i) = t
    · exact Or.inr ⟨e, hq⟩
    · exact Or.inl (Int32.lt_of_le_of_ne (h1 i hi) e)
  have hi2 : ∀ i, k ≤ i → i < un u → ahd (addu u a b t) (un u) (qq i) := fun i hi hi3 => by
    unfold ahd
    rw [addu_in (q1 i hi3), addu_at]
    exact Or.inl (h2 i hi hi3)
  refine ⟨fun i hi => ?_, fun i j hij hj => ?_, fun i hi => ?_⟩
  · rw [addu_un] at hi ⊢
    rcases Nat.lt_trichotomy i k with e | e | e
    · rw [ins_lt e]; have := q1 i (by omega); omega
    · rw [e, ins_at]; omega
    · rw [ins_gt e]; have := q1 (i - 1) (by omega); omega
  · rw [addu_un] at hj
    rcases Nat.lt_trichotomy i k with e | e | e
    · rw [ins_lt e]
      rcases Nat.lt_trichotomy j k with f | f | f
      · rw [ins_lt f]; exact addu_ahd (q1 _ (by omega)) (q1 _ (by omega)) (q2 i j hij (by omega))
      · rw [f, ins_at]; exact lo i e
      · rw [ins_gt f]; exact addu_ahd (q1 _ (by omega)) (q1 _ (by omega)) (q2 i (j - 1) (by omega) (by omega))
    · rw [e, ins_at, ins_gt (by omega)]; exact hi2 (j - 1) (by omega) (by omega)
    · rw [ins_gt e, ins_gt (by omega)]; exact addu_ahd (q1 _ (by omega)) (q1 _ (by omega)) (q2 (i - 1) (j - 1) (by omega) (by omega))
  · rw [addu_un] at hi ⊢
    by_cases e : i = un u
    · exact ⟨k, by omega, by rw [ins_at, e]⟩
    · obtain ⟨j, hj, e2⟩ := q3 i (by omega)
      rcases Nat.lt_or_ge j k with f | f
      · exact ⟨j, by omega, by rw [ins_lt f]; exact e2⟩
      · exact ⟨j + 1, by omega, by rw [ins_gt (by omega)]; exact e2⟩
theorem Iu.addu {u : Vw} {a b t : Int32} (h : Iu u) (hn : un u < 40) (ha : 0 ≤ a.toInt ∧ a.toInt < (us u 0).toInt) (hb : 0 ≤ b.toInt ∧ b.toInt < (us u 0).toInt) (hab : a ≠ b) (ht : 0 ≤ t.toInt ∧ t.toInt ≤ 999) : Iu (addu u a b t) := by
  obtain ⟨h1, h2, h3, h4, h5, h6, h7, h8, h9⟩ := h
  refine ⟨by rw [addu_un]; omega, h2, h3, h4, h5, h6, h7, fun i hi => ?_, by rw [addu_many (Or.inl rfl)]; exact h9⟩
  rw [addu_un] at hi
  rw [addu_us]
  by_cases e : i = un u
  · rw [e]
    simp only [addu_at]
    exact ⟨ha, hb, hab, ht, Or.inl rfl, Or.inl rfl⟩
  · simp only [addu_in (show i < un u by omega)]
    exact h8 i (by omega)
/-- while the new one's place is sought: place k is free -/
def AQ (τ : St) (p : Nat) (u : Vw) (qq : Nat → Nat) (a b t : Int32) (k : Nat) : Prop :=
  un u < 40 ∧ (∀ j, j < 10 → sF τ p j = us u j) ∧ sF τ p 10 = nI (un u) ∧ sF τ p 11 = nI (many u 2) ∧ sF τ p 12 = nI (many u 3) ∧ (∀ c i, c < 5 → i < un u + 1 → sA τ (p + 1 + c) i = ur (addu u a b t) c i) ∧ (∀ i, i < k → sA τ (p + 6) i = nI (qq i)) ∧ (∀ i, k < i → i < un u + 1 → sA τ (p + 6) i = nI (qq (i - 1))) ∧ Qok u qq ∧ (∀ i, k ≤ i → i < un u → t < ur u 2 (qq i)) ∧ k ≤ un u
theorem AQ.start {σ : St} {p : Nat} {u : Vw} {qq : Nat → Nat} {a b t : Int32} (h : RC σ p u qq) (hn : un u < 40) : AQ (stA (stA (stA (stA (stA σ (p + 1) (un u) a) (p + 2) (un u) b) (p + 3) (un u) t) (p + 4) (un u) (-1)) (p + 5) (un u) (-1)) p u qq a b t (un u) := by
  obtain ⟨h1, h2, h3, h4, h5, h6, h7, h8⟩ := h
  have e : ∀ k i, sA (stA (stA (stA (stA (stA σ (p + 1) (un u) a) (p + 2) (un u) b) (p + 3) (un u) t) (p + 4) (un u) (-1)) (p + 5) (un u) (-1)) k i = if k = p + 5 ∧ i = un u then -1 else if k = p + 4 ∧ i = un u then -1 else if k = p + 3 ∧ i = un u then t else if k = p + 2 ∧ i = un u then b else if k = p + 1 ∧ i = un u then a else sA σ k i := fun k i => by
    show up2 (up2 (up2 (up2 (up2 (sA σ) (p + 1) (un u) a) (p + 2) (un u) b) (p + 3) (un u) t) (p + 4) (un u) (-1)) (p + 5) (un u) (-1) k i = _
    rw [up2_if, up2_if, up2_if, up2_if, up2_if]
  refine ⟨hn, h2, h3, h4, h5, fun c i hc hi => ?_, fun i hi => ?_, fun i hi hi2 => by omega, h8, fun i hi hi2 => by omega, Nat.le_refl _⟩
  · rw [e]
    by_cases ei : i = un u
    · subst ei
      rw [addu_at]
      rcases (show c = 0 ∨ c = 1 ∨ c = 2 ∨ c = 3 ∨ c = 4 by omega) with rfl | rfl | rfl | rfl | rfl <;> simp [row5]
    · rw [if_neg (fun z => ei z.2), if_neg (fun z => ei z.2), if_neg (fun z => ei z.2), if_neg (fun z => ei z.2), if_neg (fun z => ei z.2), addu_in (by omega)]
      exact h6 c i hc (by omega)
  · rw [e, if_neg (by omega), if_neg (by omega), if_neg (by omega), if_neg (by omega), if_neg (by omega)]
    exact h7 i hi
theorem AQ.up {τ : St} {p k : Nat} {u : Vw} {qq : Nat → Nat} {a b t : Int32} {x : Int32} (h : AQ τ p u qq a b t (k + 1)) (hx : x = nI (qq k)) (ht : t < ur u 2 (qq k)) : AQ (stA τ (p + 6) (k + 1) x) p u qq a b t k := by
  obtain ⟨h1, h2, h3, h4, h5, h6, h7, h8, h9, h10, h11⟩ := h
  have e : ∀ c i, sA (stA τ (p + 6) (k + 1) x) c i = if c = p + 6 ∧ i = k + 1 then x else sA τ c i := fun c i => by
    show up2 (sA τ) (p + 6) (k + 1) x c i = _
    rw [up2_if]
  refine ⟨h1, h2, h3, h4, h5, fun c i hc hi => ?_, fun i hi => ?_, fun i hi hi2 => ?_, h9, fun i hi hi2 => ?_, by omega⟩
  · rw [e, if_neg (by omega)]; exact h6 c i hc hi
  · rw [e, if_neg (by omega)]; exact h7 i (by omega)
  · rw [e]
    by_cases f : i = k + 1
    · subst f; rw [if_pos ⟨rfl, rfl⟩]; exact hx
    · rw [if_neg (fun z => f z.2)]; exact h8 i (by omega) hi2
  · by_cases f : i = k
    · subst f; exact ht
    · exact h10 i (by omega) hi2
theorem AQ.low {τ : St} {p k : Nat} {u : Vw} {qq : Nat → Nat} {a b t : Int32} (h : AQ τ p u qq a b t k) (hk : k = 0 ∨ ur u 2 (qq (k - 1)) ≤ t) : ∀ i, i < k → ur u 2 (qq i) ≤ t := fun i hi => by
  obtain ⟨h1, h2, h3, h4, h5, h6, h7, h8, h9, h10, h11⟩ := h
  rcases hk with e | e
  · omega
  · rcases Nat.lt_or_ge i (k - 1) with f | f
    · exact Int32.le_trans (ahd_le (h9.2.1 i (k - 1) f (by omega))) e
    · rw [show i = k - 1 by omega]; exact e
theorem AQ.fin {τ : St} {p k : Nat} {u : Vw} {qq : Nat → Nat} {a b t : Int32} {x y : Int32} (h : AQ τ p u qq a b t k) (hk : k = 0 ∨ ur u 2 (qq (k - 1)) ≤ t) (hx : x = nI (un u)) (hy : y = nI (un u) + 1) : RC (stF (stA τ (p + 6) k x) p 10 y) p (addu u a b t) (ins qq (un u) k) := by
  have hlow := h.low hk
  obtain ⟨h1, h2, h3, h4, h5, h6, h7, h8, h9, h10, h11⟩ := h
  have e : ∀ c i, sA (stF (stA τ (p + 6) k x) p 10 y) c i = if c = p + 6 ∧ i = k then x else sA τ c i := fun c i => by
    show up2 (sA τ) (p + 6) k x c i = _
    rw [up2_if]
  have e2 : ∀ j, j ≠ 10 → sF (stF (stA τ (p + 6) k x) p 10 y) p j = sF τ p j := fun j hj => (up2_in hj : up2 (sF τ) p 10 y p j = sF τ p j)
  refine ⟨h1, fun j hj => (e2 j (by omega)).trans (h2 j hj), ?_, ?_, ?_, fun c i hc hi => ?_, fun i hi => ?_, h9.ins h11 hlow h10⟩
  · rw [addu_un]; exact (up2_at : up2 (sF τ) p 10 y p 10 = y).trans (hy.trans (nI_1 _))
  · rw [addu_many (Or.inl rfl)]; exact (e2 11 (by decide)).trans h4
  · rw [addu_many (Or.inr rfl)]; exact (e2 12 (by decide)).trans h5
  · rw [e, if_neg (by omega)]; exact h6 c i hc hi
  · rw [e]
    rw [addu_un] at hi
    rcases Nat.lt_trichotomy i k with f | f | f
    · rw [if_neg (by omega), ins_lt f]; exact h7 i f
    · rw [if_pos ⟨rfl, f⟩, f, ins_at]; exact hx
    · rw [if_neg (by omega), ins_gt f]; exact h8 i f hi
/-- a new building -/
def begu (f c p : Int32) : Vw := (0, fun j => if j = 0 then f else if j = 1 then c else if j = 2 then p else if j = 5 then 1 else 0, fun _ _ => 0)
theorem begu_Iu {f c p : Int32} (hf : 2 ≤ f.toInt ∧ f.toInt ≤ 20) (hc : 1 ≤ c.toInt ∧ c.toInt ≤ 8) (hp : 0 ≤ p.toInt ∧ p.toInt ≤ 2) : Iu (begu f c p) :=
  ⟨Nat.zero_le _, hf, hc, hp, ⟨(by decide : (0 : Int) ≤ (0 : Int32).toInt), (by decide : (0 : Int32).toInt ≤ 10000000)⟩, ⟨(by decide : (0 : Int) ≤ (0 : Int32).toInt), by show (0 : Int32).toInt < f.toInt; have : (0 : Int32).toInt = 0 := rfl; omega⟩, Or.inr rfl, fun i hi => absurd hi (Nat.not_lt_zero i), by show ((0 : Nat) : Int) ≤ c.toInt; omega⟩
theorem Qok_0 {f c p : Int32} : Qok (begu f c p) id := ⟨fun i hi => absurd hi (Nat.not_lt_zero i), fun i j hij hj => absurd hj (Nat.not_lt_zero j), fun i hi => absurd hi (Nat.not_lt_zero i)⟩
theorem RC.beg {τ : St} {p : Nat} {f c q : Int32} (h : CpF τ p (begu f c q) 13) : RC τ p (begu f c q) id := RC.made (Nat.zero_le _) Qok_0 h (fun c hc i hi => absurd hi (Nat.not_lt_zero i))
