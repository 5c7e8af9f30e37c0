/-! changes of the building -/
def uS (u : Vw) (j : Nat) (x : Int32) : Vw := (un u, upd (us u) j x, ur u)
def uR (u : Vw) (c i : Nat) (x : Int32) : Vw := (un u, us u, up2 (ur u) c i x)
theorem upd_at {f : Nat → Int32} {k : Nat} {x : Int32} : upd f k x k = x := by simp [upd]
theorem upd_in {f : Nat → Int32} {k j : Nat} {x : Int32} (h : j ≠ k) : upd f k x j = f j := by simp [upd, h]
theorem uS_stat {u : Vw} {j : Nat} {x : Int32} (h : j ≠ 3) (i : Nat) : stat (uS u j x) i = stat u i := by
  have e : us (uS u j x) 3 = us u 3 := upd_in (fun z => h z.symm)
  unfold stat
  rw [e]
  rfl
theorem uS_many {u : Vw} {j : Nat} {x : Int32} (h : j ≠ 3) (k : Int32) : many (uS u j x) k = many u k := by
  unfold many
  exact cnt_congr (fun i _ => by rw [uS_stat h])
theorem cnt_upd {p q : Nat → Bool} {i : Nat} : ∀ {n : Nat}, i < n → (∀ k, k ≠ i → q k = p k) → cnt q n + (if p i then 1 else 0) = cnt p n + (if q i then 1 else 0)
  | 0, h, _ => absurd h (Nat.not_lt_zero i)
  | n + 1, h, hq => by
    simp only [cnt]
    by_cases e : i = n
    · subst e
      rw [cnt_congr (p := q) (q := p) (fun k hk => hq k (by omega))]
      omega
    · have ih := cnt_upd (p := p) (q := q) (n := n) (by omega) hq
      rw [hq n (fun z => e z.symm)]
      omega
theorem cnt_pos {p : Nat → Bool} {i : Nat} : ∀ {n : Nat}, i < n → p i = true → 0 < cnt p n
  | 0, h, _ => absurd h (Nat.not_lt_zero i)
  | n + 1, h, hp => by
    simp only [cnt]
    by_cases e : i = n
    · subst e; rw [hp]; simp
    · have := cnt_pos (p := p) (n := n) (i := i) (by omega) hp
      omega
theorem cnt_zero {p : Nat → Bool} : ∀ {n : Nat}, cnt p n = 0 → ∀ i, i < n → p i = false
  | n, h, i, hi => by
    cases hp : p i with
    | false => rfl
    | true => have := cnt_pos hi hp; omega
/-- leaving -/
theorem stat_left {u : Vw} {i : Nat} {t : Int32} (ht : ¬ t = -1) (j : Nat) : stat (uR u 4 i t) j = if j = i then 3 else stat u j := by
  have e4 : ur (uR u 4 i t) 4 j = if j = i then t else ur u 4 j := by
    show up2 (ur u) 4 i t 4 j = _
    rw [up2_if]; simp
  have e3 : ur (uR u 4 i t) 3 j = ur u 3 j := by
    show up2 (ur u) 4 i t 3 j = _
    rw [up2_if]; simp
  have e2 : ur (uR u 4 i t) 2 j = ur u 2 j := by
    show up2 (ur u) 4 i t 2 j = _
    rw [up2_if]; simp
  unfold stat
  rw [e4, e3, e2]
  by_cases h : j = i
  · simp [h, ht]
  · simp [h]
    rfl
theorem many_left {u : Vw} {i : Nat} {t : Int32} (ht : ¬ t = -1) (hi : i < un u) (hs : stat u i = 2) : many (uR u 4 i t) 2 + 1 = many u 2 ∧ many (uR u 4 i t) 3 = many u 3 + 1 := by
  have key : ∀ k : Int32, many (uR u 4 i t) k + (if stat u i == k then 1 else 0) = many u k + (if stat (uR u 4 i t) i == k then 1 else 0) := fun k =>
    cnt_upd (p := fun j => stat u j == k) (q := fun j => stat (uR u 4 i t) j == k) hi (fun j hj => by simp only [stat_left ht]; rw [if_neg hj])
  have k2 := key 2
  have k3 := key 3
  rw [stat_left ht, if_pos rfl, hs] at k2 k3
  have a1 : ((2 : Int32) == 2) = true := by decide
  have a2 : ((3 : Int32) == 2) = false := by decide
  have a3 : ((2 : Int32) == 3) = false := by decide
  have a4 : ((3 : Int32) == 3) = true := by decide
  rw [a1, a2] at k2
  rw [a3, a4] at k3
  simp at k2 k3
  exact ⟨k2, k3⟩
/-- boarding -/
theorem stat_board {u : Vw} {i : Nat} {t : Int32} (ht : ¬ t = -1) (hs : ur u 4 i = -1) (j : Nat) : stat (uR u 3 i t) j = if j = i then 2 else stat u j := by
  have e4 : ur (uR u 3 i t) 4 j = ur u 4 j := by
    show up2 (ur u) 3 i t 4 j = _
    rw [up2_if]; simp
  have e3 : ur (uR u 3 i t) 3 j = if j = i then t else ur u 3 j := by
    show up2 (ur u) 3 i t 3 j = _
    rw [up2_if]; simp
  have e2 : ur (uR u 3 i t) 2 j = ur u 2 j := by
    show up2 (ur u) 3 i t 2 j = _
    rw [up2_if]; simp
  unfold stat
  rw [e4, e3, e2]
  by_cases h : j = i
  · subst h; simp [ht, hs]
  · simp [h]
    rfl
theorem many_board {u : Vw} {i : Nat} {t : Int32} (ht : ¬ t = -1) (hi : i < un u) (hs : stat u i = 1) : many (uR u 3 i t) 2 = many u 2 + 1 ∧ many (uR u 3 i t) 3 = many u 3 := by
  have h4 := (stat_eq1.mp hs).1
  have key : ∀ k : Int32, many (uR u 3 i t) k + (if stat u i == k then 1 else 0) = many u k + (if stat (uR u 3 i t) i == k then 1 else 0) := fun k =>
    cnt_upd (p := fun j => stat u j == k) (q := fun j => stat (uR u 3 i t) j == k) hi (fun j hj => by simp only [stat_board ht h4]; rw [if_neg hj])
  have k2 := key 2
  have k3 := key 3
  rw [stat_board ht h4, if_pos rfl, hs] at k2 k3
  have a1 : ((2 : Int32) == 2) = true := by decide
  have a2 : ((1 : Int32) == 2) = false := by decide
  have a3 : ((2 : Int32) == 3) = false := by decide
  have a4 : ((1 : Int32) == 3) = false := by decide
  rw [a1, a2] at k2
  rw [a3, a4] at k3
  simp at k2 k3
  exact ⟨k2, k3⟩
/-- those before k who ride to this floor have left -/
def lvS (u : Vw) (k : Nat) : Vw := (un u, us u, fun c i => if c = 4 ∧ i < k ∧ stat u i = 2 ∧ ur u 1 i = us u 4 then us u 3 else ur u c i)
theorem lvS_0 (u : Vw) : lvS u 0 = u := by
  obtain ⟨a, b, c⟩ := u
  simp [lvS]
theorem lvS_row {u : Vw} {k c i : Nat} (h : c ≠ 4) : ur (lvS u k) c i = ur u c i := by simp [lvS, ur, h]
theorem lvS_4 {u : Vw} {k i : Nat} (h : k ≤ i) : ur (lvS u k) 4 i = ur u 4 i := by
  have : ¬ i < k := by omega
  simp [lvS, ur, this]
theorem lvS_yes {u : Vw} {k : Nat} (h : stat u k = 2) (h2 : ur u 1 k = us u 4) : uR (lvS u k) 4 k (us u 3) = lvS u (k + 1) := by
  refine Prod.ext rfl (Prod.ext rfl ?_)
  funext c i
  show up2 (ur (lvS u k)) 4 k (us u 3) c i = _
  rw [up2_if]
  simp only [lvS, ur]
  by_cases hc : c = 4 ∧ i = k
  · obtain ⟨rfl, rfl⟩ := hc
    have e1 : i < i + 1 := by omega
    have h2' : u.2.2 1 i = u.2.1 4 := h2
    simp [h, h2', e1]
  · rw [if_neg hc]
    by_cases hc4 : c = 4
    · subst hc4
      have hne : i ≠ k := fun z => hc ⟨rfl, z⟩
      have : (i < k + 1) ↔ (i < k) := by omega
      simp only [this]
    · simp [hc4]
theorem lvS_no {u : Vw} {k : Nat} (h : ¬ (stat u k = 2 ∧ ur u 1 k = us u 4)) : lvS u (k + 1) = lvS u k := by
  refine Prod.ext rfl (Prod.ext rfl ?_)
  funext c i
  simp only [lvS, ur]
  by_cases hi : i = k
  · subst hi
    have h' : ¬ (stat u i = 2 ∧ u.2.2 1 i = u.2.1 4) := h
    have e1 : ¬ (c = 4 ∧ i < i + 1 ∧ stat u i = 2 ∧ u.2.2 1 i = u.2.1 4) := fun z => h' ⟨z.2.2.1, z.2.2.2⟩
    have e2 : ¬ (c = 4 ∧ i < i ∧ stat u i = 2 ∧ u.2.2 1 i = u.2.1 4) := fun z => h' ⟨z.2.2.1, z.2.2.2⟩
    rw [if_neg e1, if_neg e2]
  · have : (i < k + 1) ↔ (i < k) := by omega
    simp only [this]
theorem lvS_stat {u : Vw} {k i : Nat} (h : k ≤ i) : stat (lvS u k) i = stat u i := by
  unfold stat
  rw [lvS_4 h, lvS_row (by decide), lvS_row (by decide)]
  rfl
/-- boarding at this floor, in queue order, as long as there is room -/
def brd : Nat → Vw → Vw
  | 0, u => u
  | k + 1, u => match fw u (isWf u (us u 4)) (un u) with
    | none => u
    | some g => if rmB u = true then brd k (uR u 3 g (us u 3)) else u
/-- the same along a queue from place i on -/
def bq (qq : Nat → Nat) : Nat → Nat → Vw → Vw
  | _, 0, u => u
  | i, m + 1, u => if rmB u = true then (if isWf u (us u 4) (qq i) = true then bq qq (i + 1) m (uR u 3 (qq i) (us u 3)) else bq qq (i + 1) m u) else u
theorem isWf_iff {u : Vw} {f : Int32} {i : Nat} (hf : ¬ f = -1) : isWf u f i = true ↔ stat u i = 1 ∧ ur u 0 i = f := by
  simp [isWf, hf]
theorem isWf_board {u : Vw} {g j : Nat} {t f : Int32} (ht : ¬ t = -1) (hs : ur u 4 g = -1) (hf : ¬ f = -1) : isWf (uR u 3 g t) f j = true ↔ j ≠ g ∧ isWf u f j = true := by
  have e0 : ur (uR u 3 g t) 0 j = ur u 0 j := by
    show up2 (ur u) 3 g t 0 j = _
    rw [up2_if]; simp
  rw [isWf_iff hf, isWf_iff hf, stat_board ht hs, e0]
  by_cases h : j = g
  · simp [h]
  · simp [h]
theorem ahd_board {u : Vw} {g : Nat} {t : Int32} {a b : Nat} : ahd (uR u 3 g t) a b ↔ ahd u a b := by
  have e : ∀ j, ur (uR u 3 g t) 2 j = ur u 2 j := fun j => by
    show up2 (ur u) 3 g t 2 j = _
    rw [up2_if]; simp
  simp only [ahd, e]
theorem Qok.board {u : Vw} {g : Nat} {t : Int32} {qq : Nat → Nat} (h : Qok u qq) : Qok (uR u 3 g t) qq := ⟨h.1, fun i j h1 h2 => ahd_board.mpr (h.2.1 i j h1 h2), h.2.2⟩
theorem Qok.left {u : Vw} {g : Nat} {t : Int32} {qq : Nat → Nat} (h : Qok u qq) : Qok (uR u 4 g t) qq := by
  have e : ∀ j, ur (uR u 4 g t) 2 j = ur u 2 j := fun j => by
    show up2 (ur u) 4 g t 2 j = _
    rw [up2_if]; simp
  exact ⟨h.1, fun i j h1 h2 => by
    have := h.2.1 i j h1 h2
    simp only [ahd, e] at this ⊢
    exact this, h.2.2⟩
theorem bq_brd {qq : Nat → Nat} : ∀ (m i k : Nat) (u : Vw), Qok u qq → ¬ us u 3 = -1 → ¬ us u 4 = -1 → m = un u - i → i ≤ un u → m ≤ k → (∀ j, j < i → isWf u (us u 4) (qq j) = false) → bq qq i m u = brd k u
  | 0, i, k, u, hq, ht, hf, hm, hi, hk, hb => by
    have h0 : fw u (isWf u (us u 4)) (un u) = none := fw_none.mpr (fun x hx => by
      obtain ⟨j, hj, rfl⟩ := hq.2.2 x hx
      exact hb j (by omega))
    cases k with
    | zero => rfl
    | succ k => simp only [bq, brd, h0]
  | m + 1, i, 0, u, hq, ht, hf, hm, hi, hk, hb => by omega
  | m + 1, i, k + 1, u, hq, ht, hf, hm, hi, hk, hb => by
    have hlt : i < un u := by omega
    by_cases hr : rmB u = true
    · by_cases hw : isWf u (us u 4) (qq i) = true
      · have hfw : fw u (isWf u (us u 4)) (un u) = some (qq i) := by
          refine fw_is (hq.1 i hlt) hw (fun x hx h2 h3 => ?_)
          obtain ⟨j, hj, rfl⟩ := hq.2.2 x hx
          rcases Nat.lt_trichotomy j i with z | z | z
          · rw [hb j z] at h2; cases h2
          · subst z; exact absurd rfl h3
          · exact hq.2.1 i j z hj
        have h4 := (stat_eq1.mp ((isWf_iff hf).mp hw).1).1
        simp only [bq, brd, hfw, hr, hw, if_true]
        refine bq_brd m (i + 1) k (uR u 3 (qq i) (us u 3)) hq.board ht hf ?_ ?_ (by omega) (fun j hj => ?_)
        · show m = un u - (i + 1)
          omega
        · show i + 1 ≤ un u
          omega
        · cases hc : isWf (uR u 3 (qq i) (us u 3)) (us u 4) (qq j) with
          | false => exact hc
          | true =>
            exfalso
            have h5 := (isWf_board ht h4 hf).mp hc
            by_cases e : j = i
            · subst e; exact h5.1 rfl
            · rw [hb j (by omega)] at h5; cases h5.2
      · have e : bq qq i (m + 1) u = bq qq (i + 1) m u := by simp only [bq, hr, if_true]; rw [if_neg hw]
        rw [e]
        refine bq_brd m (i + 1) (k + 1) u hq ht hf (by omega) (by omega) (by omega) (fun j hj => ?_)
        by_cases e : j = i
        · subst e; simpa using hw
        · exact hb j (by omega)
    · have e1 : bq qq i (m + 1) u = u := by simp only [bq]; rw [if_neg hr]
      rw [e1]
      simp only [brd]
      cases fw u (isWf u (us u 4)) (un u) with
      | none => rfl
      | some g => simp only; rw [if_neg hr]
/-- a door tick, a move, a tick -/
def opn (u : Vw) : Vw := uS (brd (un u) (lvS u (un u))) 7 (us u 7 + 1)
def bI (b : Bool) : Int32 := if b then 1 else 0
def mvd (u : Vw) (t : Int32) : Vw := if us u 2 = 2 ∧ ¬ bI (decide (us u 4 < t)) = us u 5 then uS (uS u 5 (bI (decide (us u 4 < t)))) 9 (us u 9 + 1) else u
def mv (u : Vw) (t : Int32) : Vw := uS (uS (mvd u t) 4 (us u 4 + (if us u 4 < t then 1 else -1))) 6 (us u 6 + 1)
def tk0 (u : Vw) : Vw := if tgt u (us u 2) = -1 then uS u 8 (us u 8 + 1) else if tgt u (us u 2) = us u 4 then opn u else mv u (tgt u (us u 2))
def tk (u : Vw) : Vw := uS (tk0 u) 3 (us u 3 + 1)
theorem brd_us : ∀ (k : Nat) (u : Vw), us (brd k u) = us u
  | 0, u => rfl
  | k + 1, u => by
    simp only [brd]
    cases fw u (isWf u (us u 4)) (un u) with
    | none => rfl
    | some g =>
      simp only
      split
      · exact brd_us k _
      · rfl
theorem brd_un : ∀ (k : Nat) (u : Vw), un (brd k u) = un u
  | 0, u => rfl
  | k + 1, u => by
    simp only [brd]
    cases fw u (isWf u (us u 4)) (un u) with
    | none => rfl
    | some g =>
      simp only
      split
      · exact brd_un k _
      · rfl
theorem tk0_3 (u : Vw) : us (tk0 u) 3 = us u 3 := by
  unfold tk0
  split
  · rfl
  · split
    · show us (brd (un u) (lvS u (un u))) 3 = _
      rw [brd_us]; rfl
    · unfold mv mvd
      split <;> rfl
