/-! what a text or script does, over the places of its tokens -/
abbrev Er : Type := Nat × Nat
abbrev PSt : Type := Nat × Vw × Nat
def bnd {α β : Type} (r : Er ⊕ α) (f : α → Er ⊕ β) : Er ⊕ β := match r with
  | .inl e => .inl e
  | .inr a => f a
theorem bnd_r {α β : Type} {r : Er ⊕ α} {f : α → Er ⊕ β} {b : β} (h : bnd r f = .inr b) : ∃ a, r = .inr a ∧ f a = .inr b := by
  cases r with
  | inl e => cases h
  | inr a => exact ⟨a, rfl, h⟩
def tkR (o : Txt) (K P : Nat) : Er ⊕ Nat := if kn o P = K then .inr (nx o P) else .inl (1, P)
def numR (o : Txt) (P lo hi : Nat) : Er ⊕ (Nat × Nat) := if kn o P = 23 then (if lo ≤ vl o P ∧ vl o P ≤ hi then .inr (vl o P, nx o P) else .inl (2, P)) else .inl (1, P)
def polR (o : Txt) (P : Nat) : Er ⊕ (Nat × Nat) := if kn o P = 1 then .inr (0, nx o P) else if kn o P = 2 then .inr (1, nx o P) else if kn o P = 3 then .inr (2, nx o P) else .inl (1, P)
def ctrR (o : Txt) (P : Nat) : Er ⊕ (Nat × Nat) := if 14 ≤ kn o P ∧ kn o P ≤ 19 then .inr (kn o P, nx o P) else .inl (1, P)
/-- a counter, a value, the value's place, the place behind -/
def cvR (o : Txt) (P : Nat) : Er ⊕ (Nat × Nat × Nat × Nat) := bnd (ctrR o P) fun c => bnd (numR o c.2 0 999) fun y => .inr (c.1, y.1, c.2, y.2)
def cntI (u : Vw) (c : Nat) : Int32 := if c = 14 then nI (many u 3) else if c = 15 then nI (many u 2) else if c = 16 then nI (many u 1) else if c = 17 then us u 4 else if c = 18 then us u 6 else us u 3
def untU (c v : Nat) : Nat → Vw → Vw
  | 0, u => u
  | k + 1, u => if cntI u c < nI v then untU c v k (tk u) else u
def calS (o : Txt) (P : Nat) (u : Vw) : Er ⊕ (Nat × Vw) := bnd (numR o P 0 (uN u - 1)) fun y1 => bnd (numR o y1.2 0 (uN u - 1)) fun y2 => if y2.1 = y1.1 then .inl (2, y1.2) else
  bnd (if kn o y2.2 = 6 then numR o (nx o y2.2) (uT u) 999 else .inr (uT u, y2.2)) fun y3 => .inr (y3.2, addu u (nI y1.1) (nI y2.1) (nI y3.1))
def runS (o : Txt) (P : Nat) (u : Vw) : Er ⊕ (Nat × Vw) := bnd (numR o P 1 999) fun y => if 999 < uT u + y.1 then .inl (4, P) else .inr (y.2, tks y.1 u)
def untS (o : Txt) (P : Nat) (u : Vw) : Er ⊕ (Nat × Vw) := bnd (cvR o P) fun y => if cntI (untU y.1 y.2.1 (999 - uT u) u) y.1 < nI y.2.1 then .inl (4, y.2.2.1) else .inr (y.2.2.2, untU y.1 y.2.1 (999 - uT u) u)
def polS (o : Txt) (P : Nat) (u : Vw) : Er ⊕ (Nat × Vw) := bnd (polR o P) fun y => .inr (y.2, uS u 2 (nI y.1))
def capS (o : Txt) (P : Nat) (u : Vw) : Er ⊕ (Nat × Vw) := bnd (numR o P 1 8) fun y => if y.1 < many u 2 then .inl (4, P) else .inr (y.2, uS u 1 (nI y.1))
def expS (o : Txt) (P0 P : Nat) (u : Vw) : Er ⊕ (Nat × Vw) := bnd (cvR o P) fun y => if cntI u y.1 = nI y.2.1 then .inr (y.2.2.2, u) else .inl (5, P0)
/-- one command, from its word at P on, without its semicolon -/
def cmdS (o : Txt) (P : Nat) (u : Vw) : Er ⊕ (Nat × Vw) :=
  if kn o P = 5 then (if un u = 40 then .inl (3, P) else calS o (nx o P) u) else
  if kn o P = 7 then runS o (nx o P) u else
  if kn o P = 8 then .inr (nx o P, fzu (999 - uT u) u) else
  if kn o P = 9 then untS o (nx o P) u else
  if kn o P = 10 then .inr (nx o P, uS u 5 (1 - us u 5)) else
  if kn o P = 11 then polS o (nx o P) u else
  if kn o P = 12 then capS o (nx o P) u else
  if kn o P = 13 then expS o P (nx o P) u else .inl (1, P)
def smc (o : Txt) (r : Er ⊕ (Nat × Vw)) : Er ⊕ (Nat × Vw) := bnd r fun y => bnd (tkR o 20 y.1) fun P => .inr (P, y.2)
def smpR (o : Txt) (s : PSt) : Er ⊕ PSt := bnd (smc o (cmdS o s.1 s.2.1)) fun y => .inr (y.1, y.2, s.2.2 + 1)
def blkF (o : Txt) : Nat → PSt → Er ⊕ PSt
  | 0, s => .inr s
  | f + 1, s => if kn o s.1 = 22 then .inr s else bnd (smpR o s) (blkF o f)
def blk (o : Txt) (s : PSt) : Er ⊕ PSt := blkF o (o.1 + 1) s
def rnd (o : Txt) (b : Nat) : Nat → PSt → Er ⊕ PSt
  | 0, s => .inr s
  | k + 1, s => bnd (blk o (b, s.2)) (rnd o b k)
def tkS (o : Txt) (K : Nat) (r : Er ⊕ PSt) : Er ⊕ PSt := bnd r fun s => bnd (tkR o K s.1) fun P => .inr (P, s.2)
def rptS (o : Txt) (P : Nat) (x : Vw × Nat) : Er ⊕ PSt := bnd (numR o P 1 9) fun y => bnd (tkR o 21 y.2) fun b => tkS o 22 (rnd o b y.1 (b, x))
def cmdR (o : Txt) (s : PSt) : Er ⊕ PSt := if kn o s.1 = 4 then tkS o 20 (rptS o (nx o s.1) s.2) else smpR o s
def cmdsF (o : Txt) : Nat → PSt → Er ⊕ PSt
  | 0, s => .inr s
  | f + 1, s => if kn o s.1 = 25 then .inr s else bnd (cmdR o s) (cmdsF o f)
def cmds (o : Txt) (s : PSt) : Er ⊕ PSt := cmdsF o (o.1 + 1) s
def hdrS (o : Txt) (P : Nat) : Er ⊕ (Nat × Vw) := bnd (tkR o 0 P) fun p1 => bnd (numR o p1 2 20) fun y1 => bnd (numR o y1.2 1 8) fun y2 => bnd (polR o y2.2) fun y3 => bnd (tkR o 20 y3.2) fun p2 => .inr (p2, begu (nI y1.1) (nI y2.1) (nI y3.1))
def loadR (o : Txt) : Er ⊕ PSt := bnd (hdrS o (spE o 0)) fun y => cmds o (y.1, y.2, 0)
def playR (o : Txt) (u : Vw) : Er ⊕ PSt := cmds o (spE o 0, u, 0)
section SEM
variable {o : Txt} {P K lo hi : Nat} {u : Vw}
theorem kn_lt (h : kn o P ≠ 25) : P < o.1 := by
  by_cases g : P < o.1
  · exact g
  · exact absurd (kn_end.mpr g) h
theorem tkR_r {p : Nat} (h : tkR o K P = .inr p) : kn o P = K ∧ p = nx o P := by
  unfold tkR at h
  split at h
  · exact ⟨by assumption, (Sum.inr.inj h).symm⟩
  · cases h
theorem tkR_p {p : Nat} (h : tkR o K P = .inr p) (hK : K ≠ 25) : P < p ∧ p ≤ o.1 := by
  obtain ⟨a, rfl⟩ := tkR_r h
  exact ⟨nx_gt, nx_top (kn_lt (by rw [a]; exact hK))⟩
theorem numR_r {y : Nat × Nat} (h : numR o P lo hi = .inr y) : kn o P = 23 ∧ y.1 = vl o P ∧ y.2 = nx o P ∧ lo ≤ y.1 ∧ y.1 ≤ hi := by
  unfold numR at h
  split at h
  · split at h
    · rename_i a b
      cases h
      exact ⟨a, rfl, rfl, b.1, b.2⟩
    · cases h
  · cases h
theorem numR_p {y : Nat × Nat} (h : numR o P lo hi = .inr y) : P < y.2 ∧ y.2 ≤ o.1 := by
  obtain ⟨a, _, b, _⟩ := numR_r h
  rw [b]
  exact ⟨nx_gt, nx_top (kn_lt (by rw [a]; decide))⟩
theorem polR_r {y : Nat × Nat} (h : polR o P = .inr y) : y.1 ≤ 2 ∧ P < y.2 ∧ y.2 ≤ o.1 := by
  unfold polR at h
  split at h
  · rename_i g
    cases h
    exact ⟨Nat.le_of_ble_eq_true rfl, nx_gt, nx_top (kn_lt (by rw [g]; decide))⟩
  · split at h
    · rename_i g
      cases h
      exact ⟨Nat.le_of_ble_eq_true rfl, nx_gt, nx_top (kn_lt (by rw [g]; decide))⟩
    · split at h
      · rename_i g
        cases h
        exact ⟨Nat.le_of_ble_eq_true rfl, nx_gt, nx_top (kn_lt (by rw [g]; decide))⟩
      · cases h
theorem ctrR_r {y : Nat × Nat} (h : ctrR o P = .inr y) : y.1 = kn o P ∧ y.2 = nx o P ∧ 14 ≤ y.1 ∧ y.1 ≤ 19 := by
  unfold ctrR at h
  split at h
  · rename_i g
    cases h
    exact ⟨rfl, rfl, g.1, g.2⟩
  · cases h
theorem cvR_r {y : Nat × Nat × Nat × Nat} (h : cvR o P = .inr y) : P < y.2.2.2 ∧ y.2.2.2 ≤ o.1 ∧ (14 ≤ y.1 ∧ y.1 ≤ 19) ∧ y.2.1 ≤ 999 := by
  obtain ⟨c, h1, h2⟩ := bnd_r h
  obtain ⟨z, h3, h4⟩ := bnd_r h2
  cases h4
  obtain ⟨a1, a2, a3, a4⟩ := ctrR_r h1
  obtain ⟨b1, b2⟩ := numR_p h3
  have h5 := nx_gt (o := o) (s := P)
  exact ⟨by show P < z.2; omega, b2, ⟨a3, a4⟩, (numR_r h3).2.2.2.2⟩
theorem cmdS_p {y : Nat × Vw} (h : cmdS o P u = .inr y) : P < y.1 ∧ y.1 ≤ o.1 := by
  have h0 := nx_gt (o := o) (s := P)
  have hk : kn o P ≠ 25 := by
    intro z
    unfold cmdS at h
    rw [z] at h
    simp at h
  have h1 := nx_top (kn_lt hk)
  unfold cmdS at h
  split at h
  · split at h
    · cases h
    · obtain ⟨y1, g1, h⟩ := bnd_r h
      obtain ⟨y2, g2, h⟩ := bnd_r h
      split at h
      · cases h
      · obtain ⟨y3, g3, h⟩ := bnd_r h
        cases h
        have a1 := numR_p g1
        have a2 := numR_p g2
        split at g3
        · have a3 := numR_p g3
          have := nx_gt (o := o) (s := y2.2)
          exact ⟨by show P < y3.2; omega, a3.2⟩
        · cases g3
          exact ⟨by show P < y2.2; omega, a2.2⟩
  split at h
  · obtain ⟨y1, g1, h⟩ := bnd_r h
    split at h
    · cases h
    · cases h
      have a1 := numR_p g1
      exact ⟨by show P < y1.2; omega, a1.2⟩
  split at h
  · cases h
    exact ⟨h0, h1⟩
  split at h
  · obtain ⟨y1, g1, h⟩ := bnd_r h
    split at h
    · cases h
    · cases h
      have a1 := cvR_r g1
      exact ⟨by show P < y1.2.2.2; omega, a1.2.1⟩
  split at h
  · cases h
    exact ⟨h0, h1⟩
  split at h
  · obtain ⟨y1, g1, h⟩ := bnd_r h
    cases h
    have a1 := polR_r g1
    exact ⟨by show P < y1.2; omega, a1.2.2⟩
  split at h
  · obtain ⟨y1, g1, h⟩ := bnd_r h
    split at h
    · cases h
    · cases h
      have a1 := numR_p g1
      exact ⟨by show P < y1.2; omega, a1.2⟩
  split at h
  · obtain ⟨y1, g1, h⟩ := bnd_r h
    split at h
    · cases h
      have a1 := cvR_r g1
      exact ⟨by show P < y1.2.2.2; omega, a1.2.1⟩
    · cases h
  · cases h
theorem smpR_r {s t : PSt} (h : smpR o s = .inr t) : ∃ y : Nat × Vw, cmdS o s.1 s.2.1 = .inr y ∧ tkR o 20 y.1 = .inr t.1 ∧ t.2 = (y.2, s.2.2 + 1) := by
  obtain ⟨z, h1, h2⟩ := bnd_r h
  obtain ⟨y, h3, h4⟩ := bnd_r h1
  obtain ⟨p, h5, h6⟩ := bnd_r h4
  cases h6
  cases h2
  exact ⟨y, h3, h5, rfl⟩
theorem smpR_p {s t : PSt} (h : smpR o s = .inr t) : s.1 < t.1 ∧ t.1 ≤ o.1 := by
  obtain ⟨y, h1, h2, -⟩ := smpR_r h
  have a := cmdS_p h1
  have b := tkR_p h2 (by decide)
  omega
theorem blkF_fuel : ∀ (f g : Nat) (s : PSt), s.1 ≤ o.1 → o.1 < f + s.1 → o.1 < g + s.1 → blkF o f s = blkF o g s
  | 0, _, s, h, h1, _ => by omega
  | _ + 1, 0, s, h, _, h2 => by omega
  | f + 1, g + 1, s, h, h1, h2 => by
    simp only [blkF]
    split
    · rfl
    · cases e : smpR o s with
      | inl x => rfl
      | inr t =>
        have a := smpR_p e
        exact blkF_fuel f g t a.2 (by omega) (by omega)
theorem blk_step {s : PSt} (h : s.1 ≤ o.1) : blk o s = if kn o s.1 = 22 then .inr s else bnd (smpR o s) (blk o) := by
  show blkF o (o.1 + 1) s = _
  simp only [blkF]
  split
  · rfl
  · cases e : smpR o s with
    | inl x => rfl
    | inr t =>
      have a := smpR_p e
      exact blkF_fuel _ _ t a.2 (by omega) (by omega)
theorem blkF_r : ∀ (f : Nat) (s t : PSt), s.1 ≤ o.1 → o.1 < f + s.1 → blkF o f s = .inr t → s.1 ≤ t.1 ∧ t.1 ≤ o.1 ∧ kn o t.1 = 22 ∧ t.2.2 + s.1 ≤ s.2.2 + t.1
  | 0, s, t, h, h1, _ => by omega
  | f + 1, s, t, h, h1, h2 => by
    simp only [blkF] at h2
    split at h2
    · cases h2
      exact ⟨Nat.le_refl _, h, by assumption, Nat.le_refl _⟩
    · obtain ⟨r, h3, h4⟩ := bnd_r h2
      have a := smpR_p h3
      obtain ⟨y, -, -, e⟩ := smpR_r h3
      obtain ⟨b1, b2, b3, b4⟩ := blkF_r f r t a.2 (by omega) h4
      rw [e] at b4
      exact ⟨by omega, b2, b3, by have : t.2.2 + r.1 ≤ s.2.2 + 1 + t.1 := b4; omega⟩
theorem blk_r {s t : PSt} (h : s.1 ≤ o.1) (h1 : blk o s = .inr t) : s.1 ≤ t.1 ∧ t.1 ≤ o.1 ∧ kn o t.1 = 22 ∧ t.2.2 + s.1 ≤ s.2.2 + t.1 := blkF_r _ _ _ h (by omega) h1
theorem rnd_r {b : Nat} (hb : b ≤ o.1) : ∀ (k : Nat) (s t : PSt), s.1 ≤ o.1 → rnd o b k s = .inr t → (k = 0 → t = s) ∧ (0 < k → b ≤ t.1) ∧ t.1 ≤ o.1 ∧ t.2.2 ≤ s.2.2 + k * o.1
  | 0, s, t, h, h1 => by
    cases h1
    exact ⟨fun _ => rfl, fun z => absurd z (Nat.lt_irrefl _), h, by omega⟩
  | k + 1, s, t, h, h1 => by
    obtain ⟨r, h2, h3⟩ := bnd_r h1
    obtain ⟨a1, a2, a3, a4⟩ := blk_r (s := (b, s.2)) hb h2
    obtain ⟨c1, c2, c3, c4⟩ := rnd_r hb k r t a2 h3
    refine ⟨fun z => absurd z (Nat.succ_ne_zero _), fun _ => ?_, c3, ?_⟩
    · rcases Nat.eq_zero_or_pos k with z | z
      · rw [c1 z]; exact a1
      · exact c2 z
    · have a5 : r.2.2 + b ≤ s.2.2 + r.1 := a4
      rw [Nat.succ_mul]
      omega
theorem tkS_r {r : Er ⊕ PSt} {t : PSt} (h : tkS o K r = .inr t) : ∃ s, r = .inr s ∧ tkR o K s.1 = .inr t.1 ∧ t.2 = s.2 := by
  obtain ⟨s, h1, h2⟩ := bnd_r h
  obtain ⟨p, h3, h4⟩ := bnd_r h2
  cases h4
  exact ⟨s, h1, h3, rfl⟩
theorem cmdR_p {s t : PSt} (ho : o.1 ≤ 500) (h : cmdR o s = .inr t) : s.1 < t.1 ∧ t.1 ≤ o.1 ∧ t.2.2 ≤ s.2.2 + 4500 := by
  unfold cmdR at h
  split at h
  · obtain ⟨r, h1, h2, h3⟩ := tkS_r h
    obtain ⟨y, g1, g2⟩ := bnd_r h1
    obtain ⟨b, g3, g4⟩ := bnd_r g2
    obtain ⟨q, g5, g6, g7⟩ := tkS_r g4
    have a1 := numR_r g1
    have a2 := numR_p g1
    have a3 := tkR_p g3 (by decide)
    obtain ⟨c1, c2, c3, c4⟩ := rnd_r a3.2 _ (b, s.2) _ (by exact a3.2) g5
    have a4 := tkR_p g6 (by decide)
    have a5 := tkR_p h2 (by decide)
    have a6 := nx_gt (o := o) (s := s.1)
    have a7 := c2 (by omega)
    refine ⟨by omega, a5.2, ?_⟩
    rw [h3, g7]
    have a8 : q.2.2 ≤ s.2.2 + y.1 * o.1 := c4
    have a9 : y.1 * o.1 ≤ 9 * 500 := Nat.mul_le_mul a1.2.2.2.2 ho
    omega
  · have a := smpR_p h
    obtain ⟨y, -, -, e⟩ := smpR_r h
    rw [e]
    exact ⟨a.1, a.2, by show s.2.2 + 1 ≤ _; omega⟩
theorem cmdsF_fuel (ho : o.1 ≤ 500) : ∀ (f g : Nat) (s : PSt), s.1 ≤ o.1 → o.1 < f + s.1 → o.1 < g + s.1 → cmdsF o f s = cmdsF o g s
  | 0, _, s, h, h1, _ => by omega
  | _ + 1, 0, s, h, _, h2 => by omega
  | f + 1, g + 1, s, h, h1, h2 => by
    simp only [cmdsF]
    split
    · rfl
    · cases e : cmdR o s with
      | inl x => rfl
      | inr t =>
        have a := cmdR_p ho e
        exact cmdsF_fuel ho f g t a.2.1 (by omega) (by omega)
theorem cmds_step {s : PSt} (ho : o.1 ≤ 500) (h : s.1 ≤ o.1) : cmds o s = if kn o s.1 = 25 then .inr s else bnd (cmdR o s) (cmds o) := by
  show cmdsF o (o.1 + 1) s = _
  simp only [cmdsF]
  split
  · rfl
  · cases e : cmdR o s with
    | inl x => rfl
    | inr t =>
      have a := cmdR_p ho e
      exact cmdsF_fuel ho _ _ t a.2.1 (by omega) (by omega)
theorem cmdsF_r (ho : o.1 ≤ 500) : ∀ (f : Nat) (s t : PSt), s.1 ≤ o.1 → o.1 < f + s.1 → cmdsF o f s = .inr t → s.1 ≤ t.1 ∧ t.1 ≤ o.1 ∧ t.2.2 + 4500 * s.1 ≤ s.2.2 + 4500 * t.1
  | 0, s, t, h, h1, _ => by omega
  | f + 1, s, t, h, h1, h2 => by
    simp only [cmdsF] at h2
    split at h2
    · cases h2
      exact ⟨Nat.le_refl _, h, Nat.le_refl _⟩
    · obtain ⟨r, h3, h4⟩ := bnd_r h2
      have a := cmdR_p ho h3
      obtain ⟨b1, b2, b4⟩ := cmdsF_r ho f r t a.2.1 (by omega) h4
      exact ⟨by omega, b2, by omega⟩
theorem cmds_e (ho : o.1 ≤ 500) {s t : PSt} (h : s.1 ≤ o.1) (h1 : cmds o s = .inr t) : t.2.2 ≤ s.2.2 + 2250000 := by
  obtain ⟨a, b, c⟩ := cmdsF_r ho _ _ _ h (by omega) h1
  omega
end SEM
/-! the building stays in its bounds -/
theorem Ok.t9 {u : Vw} (h : Ok u) : uT u ≤ 999 := h.2
theorem untU_I {c v : Nat} : ∀ (k : Nat) (u : Vw), Iu u → uT u + k ≤ 999 → Iu (untU c v k u) ∧ uT (untU c v k u) ≤ uT u + k
  | 0, u, h, _ => ⟨h, by show uT u ≤ _; omega⟩
  | k + 1, u, h, hk => by
    simp only [untU]
    split
    · have h1 := Iu_tkN h (by omega)
      have h2 := (tk_T h).1
      have h3 := untU_I (c := c) (v := v) k (tk u) h1 (by omega)
      exact ⟨h3.1, by omega⟩
    · exact ⟨h, by omega⟩
theorem uN_int {u : Vw} (h : Iu u) : (uN u : Int) = (us u 0).toInt := clamp_int (by have := h.2.1; omega)
theorem Ok.add {u : Vw} {a b t : Nat} (h : Ok u) (hn : un u < 40) (ha : a ≤ uN u - 1) (hb : b ≤ uN u - 1) (hab : b ≠ a) (ht : t ≤ 999) : Ok (addu u (nI a) (nI b) (nI t)) := by
  have h0 := uN_int h.1
  have h1 := h.1.2.1
  refine ⟨h.1.addu hn ?_ ?_ (fun e => hab ((neq e (by omega) (by omega)).symm)) ?_, h.2⟩
  · rw [nI_int (by omega)]; omega
  · rw [nI_int (by omega)]; omega
  · rw [nI_int (by omega)]; omega
theorem Ok.pol {u : Vw} {a : Nat} (h : Ok u) (ha : a ≤ 2) : Ok (uS u 2 (nI a)) := by
  obtain ⟨⟨a1, a2, a3, a4, a5, a6, a7, a8, a9⟩, ht⟩ := h
  refine ⟨⟨a1, a2, a3, ?_, a5, a6, a7, a8, ?_⟩, by rw [uT_sc (by decide)]; exact ht⟩
  · rw [uS_at, nI_int (by omega)]; omega
  · rw [many_sc2]; exact a9
theorem Ok.cap {u : Vw} {a : Nat} (h : Ok u) (h1 : 1 ≤ a) (h8 : a ≤ 8) (hm : ¬ a < many u 2) : Ok (uS u 1 (nI a)) := by
  obtain ⟨⟨a1, a2, a3, a4, a5, a6, a7, a8, a9⟩, ht⟩ := h
  refine ⟨⟨a1, a2, ?_, a4, a5, a6, a7, a8, ?_⟩, by rw [uT_sc (by decide)]; exact ht⟩
  · rw [uS_at, nI_int (by omega)]; omega
  · rw [many_sc2, uS_at, nI_int (by omega)]; omega
theorem Ok.rev {u : Vw} (h : Ok u) : Ok (uS u 5 (1 - us u 5)) := by
  obtain ⟨⟨a1, a2, a3, a4, a5, a6, a7, a8, a9⟩, ht⟩ := h
  refine ⟨⟨a1, a2, a3, a4, a5, a6, ?_, a8, ?_⟩, by rw [uT_sc (by decide)]; exact ht⟩
  · rw [uS_at]
    rcases a7 with z | z <;> rw [z]
    · exact Or.inr rfl
    · exact Or.inl rfl
  · rw [many_sc2]; exact a9
theorem Ok.fz {u : Vw} (h : Ok u) : Ok (fzu (999 - uT u) u) := by
  have h1 := fz_Iu (999 - uT u) u h.1 (by have := h.2; omega)
  exact ⟨h1.1, by have := h.2; omega⟩
theorem cmdS_ok {o : Txt} {P : Nat} {u : Vw} {y : Nat × Vw} (hO : Ok u) (h : cmdS o P u = .inr y) : Ok y.2 := by
  unfold cmdS at h
  split at h
  · split at h
    · cases h
    · rename_i h40
      obtain ⟨y1, g1, h⟩ := bnd_r h
      obtain ⟨y2, g2, h⟩ := bnd_r h
      split at h
      · cases h
      · rename_i hne
        obtain ⟨y3, g3, h⟩ := bnd_r h
        cases h
        have a1 := numR_r g1
        have a2 := numR_r g2
        have hn : un u < 40 := by have := hO.1.1; omega
        refine hO.add hn a1.2.2.2.2 a2.2.2.2.2 hne ?_
        split at g3
        · exact (numR_r g3).2.2.2.2
        · cases g3; exact hO.2
  split at h
  · obtain ⟨y1, g1, h⟩ := bnd_r h
    split at h
    · cases h
    · rename_i h9
      cases h
      have a1 := tks_Iu hO.1 y1.1 (by have := (numR_r g1).2.2.2.2; have := hO.2; omega)
      exact ⟨a1.1, by show uT (tks y1.1 u) ≤ 999; omega⟩
  split at h
  · cases h
    exact hO.fz
  split at h
  · obtain ⟨y1, g1, h⟩ := bnd_r h
    split at h
    · cases h
    · cases h
      have a1 := untU_I (c := y1.1) (v := y1.2.1) (999 - uT u) u hO.1 (by have := hO.2; omega)
      exact ⟨a1.1, by have := hO.2; show uT (untU _ _ _ _) ≤ 999; omega⟩
  split at h
  · cases h
    exact hO.rev
  split at h
  · obtain ⟨y1, g1, h⟩ := bnd_r h
    cases h
    exact hO.pol (polR_r g1).1
  split at h
  · obtain ⟨y1, g1, h⟩ := bnd_r h
    split at h
    · cases h
    · rename_i hm
      cases h
      have a1 := numR_r g1
      exact hO.cap a1.2.2.2.1 a1.2.2.2.2 hm
  split at h
  · obtain ⟨y1, g1, h⟩ := bnd_r h
    split at h
    · cases h
      exact hO
    · cases h
  · cases h
theorem smpR_ok {o : Txt} {s t : PSt} (hO : Ok s.2.1) (h : smpR o s = .inr t) : Ok t.2.1 := by
  obtain ⟨y, h1, -, e⟩ := smpR_r h
  rw [e]
  exact cmdS_ok hO h1
theorem blkF_ok {o : Txt} : ∀ (f : Nat) (s t : PSt), Ok s.2.1 → blkF o f s = .inr t → Ok t.2.1
  | 0, s, t, hO, h => by cases h; exact hO
  | f + 1, s, t, hO, h => by
    simp only [blkF] at h
    split at h
    · cases h; exact hO
    · obtain ⟨r, h3, h4⟩ := bnd_r h
      exact blkF_ok f r t (smpR_ok hO h3) h4
theorem rnd_ok {o : Txt} {b : Nat} : ∀ (k : Nat) (s t : PSt), Ok s.2.1 → rnd o b k s = .inr t → Ok t.2.1
  | 0, s, t, hO, h => by cases h; exact hO
  | k + 1, s, t, hO, h => by
    obtain ⟨r, h2, h3⟩ := bnd_r h
    exact rnd_ok k r t (blkF_ok _ (b, s.2) r hO h2) h3
theorem cmdR_ok {o : Txt} {s t : PSt} (hO : Ok s.2.1) (h : cmdR o s = .inr t) : Ok t.2.1 := by
  unfold cmdR at h
  split at h
  · obtain ⟨r, h1, h2, h3⟩ := tkS_r h
    obtain ⟨y, g1, g2⟩ := bnd_r h1
    obtain ⟨b, g3, g4⟩ := bnd_r g2
    obtain ⟨q, g5, g6, g7⟩ := tkS_r g4
    rw [h3, g7]
    exact rnd_ok _ (b, s.2) q hO g5
  · exact smpR_ok hO h
theorem cmdsF_ok {o : Txt} : ∀ (f : Nat) (s t : PSt), Ok s.2.1 → cmdsF o f s = .inr t → Ok t.2.1
  | 0, s, t, hO, h => by cases h; exact hO
  | f + 1, s, t, hO, h => by
    simp only [cmdsF] at h
    split at h
    · cases h; exact hO
    · obtain ⟨r, h3, h4⟩ := bnd_r h
      exact cmdsF_ok f r t (cmdR_ok hO h3) h4
theorem hdrS_ok {o : Txt} {P : Nat} {y : Nat × Vw} (h : hdrS o P = .inr y) : Ok y.2 ∧ P < y.1 ∧ y.1 ≤ o.1 := by
  obtain ⟨p1, g1, h⟩ := bnd_r h
  obtain ⟨y1, g2, h⟩ := bnd_r h
  obtain ⟨y2, g3, h⟩ := bnd_r h
  obtain ⟨y3, g4, h⟩ := bnd_r h
  obtain ⟨p2, g5, h⟩ := bnd_r h
  cases h
  have a1 := tkR_p g1 (by decide)
  have a2 := numR_r g2
  have a2' := numR_p g2
  have a3 := numR_r g3
  have a3' := numR_p g3
  have a4 := polR_r g4
  have a5 := tkR_p g5 (by decide)
  refine ⟨⟨begu_Iu ?_ ?_ ?_, ?_⟩, by show P < p2; omega, a5.2⟩
  · rw [nI_int (by omega)]; omega
  · rw [nI_int (by omega)]; omega
  · rw [nI_int (by omega)]; omega
  · show (0 : Int32).toNatClampNeg ≤ 999
    decide
