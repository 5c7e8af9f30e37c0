/-! output texts: a length and bytes -/
abbrev Txt : Type := Nat × (Nat → Int32)
def byt (x : Int32) : Int32 := vp_nar .byte x.toInt8.toInt32
def wr (o : Txt) (x : Int32) : Txt := (o.1 + 1, fun i => if i = o.1 then x else o.2 i)
/-- a byte that stays itself -/
def Asc (x : Int32) : Prop := ∃ n, n < 128 ∧ x = nI n
theorem byt_asc {x : Int32} (h : Asc x) : byt x = x := by
  obtain ⟨n, hn, rfl⟩ := h
  have key : ∀ b, b < 128 → byt (nI b) = nI b := by decide +kernel
  exact key n hn
def dig (n : Nat) : Int32 := nI (48 + n)
theorem dig_asc {n : Nat} (h : n < 10) : Asc (dig n) := ⟨48 + n, by omega, rfl⟩
theorem div10 {n : Nat} (h : n < 100) : 48 + nI n / 10 = dig (n / 10) := by
  have key : ∀ b, b < 100 → 48 + nI b / 10 = dig (b / 10) := by decide +kernel
  exact key n h
theorem mod10 {n : Nat} (h : n < 100) : 48 + (nI n - nI n / 10 * 10) = dig (n % 10) := by
  have key : ∀ b, b < 100 → 48 + (nI b - nI b / 10 * 10) = dig (b % 10) := by decide +kernel
  exact key n h
def wrN (o : Txt) (n : Nat) : Txt := wr (if 10 ≤ n then wr o (dig (n / 10)) else o) (dig (n % 10))
theorem wrN_len {o : Txt} {n : Nat} : (wrN o n).1 ≤ o.1 + 2 ∧ o.1 < (wrN o n).1 := by
  unfold wrN wr
  split
  · exact ⟨Nat.le_refl _, by show o.1 < o.1 + 1 + 1; omega⟩
  · exact ⟨by show o.1 + 1 ≤ o.1 + 2; omega, by show o.1 < o.1 + 1; omega⟩
def AscT (o : Txt) : Prop := ∀ i, i < o.1 → Asc (o.2 i)
theorem AscT_wr {o : Txt} {x : Int32} (h : AscT o) (hx : Asc x) : AscT (wr o x) := fun i hi => by
  show Asc (if i = o.1 then x else o.2 i)
  by_cases e : i = o.1
  · rw [if_pos e]; exact hx
  · rw [if_neg e]; exact h i (by have hi : i < o.1 + 1 := hi; omega)
theorem AscT_wrN {o : Txt} {n : Nat} (h : AscT o) (hn : n < 100) : AscT (wrN o n) := by
  unfold wrN
  split
  · exact AscT_wr (AscT_wr h (dig_asc (by omega))) (dig_asc (by omega))
  · exact AscT_wr h (dig_asc (by omega))
def lttr (s : Int32) : Int32 := if s = 1 then 119 else if s = 2 then 114 else if s = 3 then 100 else 46
theorem lttr_asc (s : Int32) : Asc (lttr s) := by
  unfold lttr
  split
  · exact ⟨119, by decide, rfl⟩
  · split
    · exact ⟨114, by decide, rfl⟩
    · split
      · exact ⟨100, by decide, rfl⟩
      · exact ⟨46, by decide, rfl⟩
theorem stat_4 (u : Vw) (i : Nat) : stat u i = 0 ∨ stat u i = 1 ∨ stat u i = 2 ∨ stat u i = 3 := by
  unfold stat
  split
  · exact Or.inr (Or.inr (Or.inr rfl))
  · split
    · exact Or.inr (Or.inr (Or.inl rfl))
    · split
      · exact Or.inr (Or.inl rfl)
      · exact Or.inl rfl
/-- the statuses of the first k -/
def wrST (u : Vw) : Nat → Txt
  | 0 => (0, fun _ => 0)
  | k + 1 => wr (wrST u k) (lttr (stat u k))
theorem wrST_len (u : Vw) : ∀ k, (wrST u k).1 = k
  | 0 => rfl
  | k + 1 => by
    show (wrST u k).1 + 1 = k + 1
    rw [wrST_len u k]
theorem wrST_asc (u : Vw) : ∀ k, AscT (wrST u k)
  | 0 => fun i hi => absurd hi (Nat.not_lt_zero i)
  | k + 1 => AscT_wr (wrST_asc u k) (lttr_asc _)
def wtN (u : Vw) (f : Int32) : Nat := cnt (fun j => (ur u 0 j == f) && (stat u j == 1)) (un u)
theorem wtN_le (u : Vw) (f : Int32) : wtN u f ≤ un u := cnt_le _ _
/-- the first k floors -/
def wbC (o : Txt) (k : Nat) : Txt := if k = 0 then o else wr o 44
def wbL (u : Vw) (o : Txt) (k : Nat) : Txt := if nI k = us u 4 then wrN (wr o 42) (many u 2) else o
def wbT (u : Vw) : Nat → Txt
  | 0 => (0, fun _ => 0)
  | k + 1 => wbL u (wrN (wbC (wbT u k) k) (wtN u (nI k))) k
theorem wbC_len (o : Txt) (k : Nat) : (wbC o k).1 ≤ o.1 + 1 := by
  unfold wbC
  split
  · omega
  · exact Nat.le_refl _
theorem wbL_len {u : Vw} (hF : uF u < 20 ∧ us u 4 = nI (uF u)) (o : Txt) (k : Nat) (hk : k < 20) : (wbL u o k).1 ≤ o.1 + (if k = uF u then 3 else 0) := by
  unfold wbL
  by_cases e : nI k = us u 4
  · rw [if_pos e]
    have e2 : k = uF u := neq (e.trans hF.2) (by omega) (by omega)
    rw [if_pos e2]
    have := (wrN_len (o := wr o 42) (n := many u 2)).1
    have h2 : (wr o 42).1 = o.1 + 1 := rfl
    omega
  · rw [if_neg e]
    omega
theorem wbT_len {u : Vw} (hF : uF u < 20 ∧ us u 4 = nI (uF u)) : ∀ k, k ≤ 20 → (wbT u k).1 ≤ 3 * k + (if uF u < k then 3 else 0) ∧ (0 < k → (wbT u k).1 + 1 ≤ 3 * k + (if uF u < k then 3 else 0))
  | 0, _ => ⟨Nat.zero_le _, fun h => absurd h (Nat.lt_irrefl _)⟩
  | k + 1, hk => by
    obtain ⟨h1, h2⟩ := wbT_len hF k (by omega)
    have hL := wbL_len hF (wrN (wbC (wbT u k) k) (wtN u (nI k))) k (by omega)
    have hN := (wrN_len (o := wbC (wbT u k) k) (n := wtN u (nI k))).1
    have hC : (wbC (wbT u k) k).1 + 1 ≤ 3 * k + 1 + (if uF u < k then 3 else 0) := by
      unfold wbC
      by_cases z : k = 0
      · subst z
        rw [if_pos rfl]
        show (0 : Nat) + 1 ≤ _
        omega
      · rw [if_neg z]
        have := h2 (by omega)
        show (wbT u k).1 + 1 + 1 ≤ _
        omega
    show (wbL u (wrN (wbC (wbT u k) k) (wtN u (nI k))) k).1 ≤ _ ∧ (_ → (wbL u (wrN (wbC (wbT u k) k) (wtN u (nI k))) k).1 + 1 ≤ _)
    rcases Nat.lt_trichotomy k (uF u) with e | e | e
    · rw [if_neg (by omega)] at hL hC
      rw [if_neg (by omega)]
      exact ⟨by omega, fun _ => by omega⟩
    · rw [if_pos e] at hL
      rw [if_neg (by omega)] at hC
      rw [if_pos (by omega)]
      exact ⟨by omega, fun _ => by omega⟩
    · rw [if_neg (by omega)] at hL
      rw [if_pos e] at hC
      rw [if_pos (by omega)]
      exact ⟨by omega, fun _ => by omega⟩
/-- the class's output and input -/
def CO (σ : St) (o : Txt) : Prop := sF σ 0 11 = nI o.1 ∧ ∀ i, i < o.1 → sA σ 23 i = o.2 i
def FrOt (σ τ : St) : Prop := (∀ k j, ¬ (k = 0 ∧ j = 11) → sF τ k j = sF σ k j) ∧ (∀ k, k ≠ 23 → sA τ k = sA σ k) ∧ τ.2.2 = σ.2.2
theorem FrOt.rf {σ : St} : FrOt σ σ := ⟨fun _ _ _ => rfl, fun _ _ => rfl, rfl⟩
theorem FrOt.trans {σ τ υ : St} (h : FrOt σ τ) (h2 : FrOt τ υ) : FrOt σ υ := ⟨fun k j a => (h2.1 k j a).trans (h.1 k j a), fun k a => (h2.2.1 k a).trans (h.2.1 k a), h2.2.2.trans h.2.2⟩
theorem FrOt.RC {σ τ : St} {p : Nat} {u : Vw} {qq : Nat → Nat} (h : FrOt σ τ) (hp : p = 1) (hR : RC σ p u qq) : RC τ p u qq := hR.keep (funext (fun j => h.1 p j (by omega))) (fun k a b => h.2.1 k (by omega))
theorem FrOt.len {σ : St} {x : Int32} : FrOt σ (stF σ 0 11 x) := ⟨fun k j a => by
  show up2 (sF σ) 0 11 x k j = _
  rw [up2_if, if_neg a], fun _ _ => rfl, rfl⟩
theorem FrOt.ar {σ : St} {i : Nat} {x : Int32} : FrOt σ (stA σ 23 i x) := ⟨fun _ _ _ => rfl, fun k a => (up2_ne a), rfl⟩
theorem CO.zero {σ : St} {f : Nat → Int32} : CO (stF σ 0 11 0) (0, f) := ⟨(up2_at : up2 (sF σ) 0 11 0 0 11 = 0), fun i hi => absurd hi (Nat.not_lt_zero i)⟩
theorem CO_wr {σ : St} {o : Txt} {x y z : Int32} (h : CO σ o) (hy : y = x) (hz : z = nI (o.1 + 1)) : CO (stF (stA σ 23 o.1 y) 0 11 z) (wr o x) := ⟨(up2_at : up2 (sF σ) 0 11 z 0 11 = z).trans hz, fun i hi => by
  show up2 (sA σ) 23 o.1 y 23 i = if i = o.1 then x else o.2 i
  rw [up2_if]
  by_cases e : i = o.1
  · rw [if_pos ⟨rfl, e⟩, if_pos e, hy]
  · rw [if_neg (fun w => e w.2), if_neg e]
    exact h.2 i (by have hi : i < o.1 + 1 := hi; omega)⟩
