/-! texts as tokens, by their places in the text -/
def byT (o : Txt) : Prop := ∀ i, i < o.1 → ∃ y : Int8, o.2 i = y.toInt32
def bc (o : Txt) (i : Nat) : Nat := if i < o.1 then (o.2 i &&& 255).toNatClampNeg else 999
def spI (v : Int32) : Bool := decide (v = 32) || (decide (v = 9) || decide (v = 10))
def dgI (v : Int32) : Bool := decide (48 ≤ v) && decide (v ≤ 57)
def leI (v : Int32) : Bool := decide (97 ≤ v) && decide (v ≤ 122)
def spN (c : Nat) : Bool := decide (c = 32) || (decide (c = 9) || decide (c = 10))
def dgN (c : Nat) : Bool := decide (48 ≤ c) && decide (c ≤ 57)
def leN (c : Nat) : Bool := decide (97 ≤ c) && decide (c ≤ 122)
set_option maxRecDepth 100000 in
theorem by_key : ∀ b, b < 256 → (Int8.ofNat b).toInt32 &&& 255 = nI b ∧ spI (Int8.ofNat b).toInt32 = spN b ∧ dgI (Int8.ofNat b).toInt32 = dgN b ∧ leI (Int8.ofNat b).toInt32 = leN b ∧ (b < 128 → (Int8.ofNat b).toInt32 = nI b) := by decide +kernel
theorem c255 : ∀ c, c < 128 → nI c &&& 255 = nI c := by decide +kernel
theorem i8_nat (y : Int8) : ∃ b, b < 256 ∧ y = Int8.ofNat b := by
  refine ⟨y.toBitVec.toNat, y.toBitVec.isLt, ?_⟩
  apply Int8.toBitVec_inj.mp
  simp
section BC
variable {o : Txt} {i : Nat}
theorem bc_in (hb : byT o) (hi : i < o.1) : ∃ b, b < 256 ∧ bc o i = b ∧ o.2 i = (Int8.ofNat b).toInt32 := by
  obtain ⟨y, hy⟩ := hb i hi
  obtain ⟨b, h1, rfl⟩ := i8_nat y
  refine ⟨b, h1, ?_, hy⟩
  unfold bc
  rw [if_pos hi, hy, (by_key b h1).1, nI_clamp (by omega)]
theorem bc_out (hi : ¬ i < o.1) : bc o i = 999 := if_neg hi
theorem bc_m (hb : byT o) (hi : i < o.1) : o.2 i &&& 255 = nI (bc o i) := by
  obtain ⟨b, h1, h2, h3⟩ := bc_in hb hi
  rw [h3, h2]; exact (by_key b h1).1
theorem bc_lt (hb : byT o) (hi : i < o.1) : bc o i < 256 := by
  obtain ⟨b, h1, h2, h3⟩ := bc_in hb hi
  omega
theorem bc_sp (hb : byT o) (hi : i < o.1) : spI (o.2 i) = spN (bc o i) := by
  obtain ⟨b, h1, h2, h3⟩ := bc_in hb hi
  rw [h3, h2]; exact (by_key b h1).2.1
theorem bc_dg (hb : byT o) (hi : i < o.1) : dgI (o.2 i) = dgN (bc o i) := by
  obtain ⟨b, h1, h2, h3⟩ := bc_in hb hi
  rw [h3, h2]; exact (by_key b h1).2.2.1
theorem bc_le (hb : byT o) (hi : i < o.1) : leI (o.2 i) = leN (bc o i) := by
  obtain ⟨b, h1, h2, h3⟩ := bc_in hb hi
  rw [h3, h2]; exact (by_key b h1).2.2.2.1
theorem bc_eq (hb : byT o) (hi : i < o.1) {c : Nat} (hc : c < 128) : o.2 i = nI c ↔ bc o i = c := by
  obtain ⟨b, h1, h2, h3⟩ := bc_in hb hi
  rw [h3, h2]
  constructor
  · intro e
    have e2 := (by_key b h1).1
    rw [e, c255 c hc] at e2
    exact ((nI_eq (by omega) (by omega)).mp e2).symm
  · intro e
    subst e
    exact (by_key b h1).2.2.2.2 hc
end BC
theorem sp9 : spN 999 = false := rfl
theorem dg9 : dgN 999 = false := rfl
theorem le9 : leN 999 = false := rfl
/-- the first place from i on whose byte p doesn't name -/
def scn (p : Nat → Bool) (o : Txt) : Nat → Nat → Nat
  | i, 0 => i
  | i, m + 1 => if p (bc o i) = true then scn p o (i + 1) m else i
def sc (p : Nat → Bool) (o : Txt) (i : Nat) : Nat := scn p o i (o.1 - i)
section SC
variable {p : Nat → Bool} {o : Txt} {i j : Nat}
theorem sc_lt (hp : p 999 = false) (h : p (bc o i) = true) : i < o.1 := by
  by_cases hi : i < o.1
  · exact hi
  · rw [bc_out hi, hp] at h; cases h
theorem sc_go (hp : p 999 = false) (h : p (bc o i) = true) : sc p o i = sc p o (i + 1) := by
  have hi := sc_lt hp h
  unfold sc
  rw [show o.1 - i = (o.1 - (i + 1)) + 1 by omega]
  exact if_pos h
theorem sc_no (h : p (bc o i) = false) : sc p o i = i := by
  unfold sc
  cases o.1 - i with
  | zero => rfl
  | succ m => exact if_neg (by rw [h]; decide)
theorem scn_b : ∀ (m i : Nat), i ≤ scn p o i m ∧ scn p o i m ≤ i + m
  | 0, i => ⟨Nat.le_refl _, Nat.le_refl _⟩
  | m + 1, i => by
    have := scn_b m (i + 1)
    simp only [scn]
    split <;> omega
theorem sc_ge : i ≤ sc p o i := (scn_b _ i).1
theorem sc_top (h : i ≤ o.1) : sc p o i ≤ o.1 := by
  have := (scn_b (p := p) (o := o) (o.1 - i) i).2
  show scn p o i (o.1 - i) ≤ _
  omega
theorem scn_end (hp : p 999 = false) : ∀ (m i : Nat), i + m = o.1 → p (bc o (scn p o i m)) = false
  | 0, i, h => by rw [show scn p o i 0 = i from rfl, bc_out (by omega)]; exact hp
  | m + 1, i, h => by
    simp only [scn]
    split
    · exact scn_end hp m (i + 1) (by omega)
    · rename_i g; exact Bool.eq_false_iff.mpr g
theorem sc_end (hp : p 999 = false) (h : i ≤ o.1) : p (bc o (sc p o i)) = false := scn_end hp _ _ (by omega)
theorem scn_mid : ∀ (m i j : Nat), i ≤ j → j < scn p o i m → p (bc o j) = true
  | 0, i, j, h1, h2 => absurd h2 (Nat.not_lt.mpr h1)
  | m + 1, i, j, h1, h2 => by
    simp only [scn] at h2
    split at h2
    · rename_i g
      rcases Nat.eq_or_lt_of_le h1 with e | e
      · rw [← e]; exact g
      · exact scn_mid m (i + 1) j e h2
    · omega
theorem sc_mid (h1 : i ≤ j) (h2 : j < sc p o i) : p (bc o j) = true := scn_mid _ _ _ h1 h2
theorem sc_gt (hp : p 999 = false) (h : p (bc o i) = true) : i < sc p o i := by
  rw [sc_go hp h]; exact sc_ge
end SC
/-- a token's end; the next token; the k-th token -/
def nen (o : Txt) (s : Nat) : Nat := if leN (bc o s) = true then sc leN o s else if dgN (bc o s) = true then sc dgN o s else s + 1
def spE (o : Txt) (i : Nat) : Nat := sc spN o i
def nx (o : Txt) (s : Nat) : Nat := spE o (nen o s)
def st (o : Txt) : Nat → Nat
  | 0 => spE o 0
  | i + 1 => nx o (st o i)
theorem le_dg {c : Nat} (h : leN c = true) : dgN c = false := by
  unfold leN at h
  unfold dgN
  simp only [Bool.and_eq_true, decide_eq_true_eq] at h
  simp only [Bool.and_eq_false_iff, decide_eq_false_iff_not]
  omega
theorem nen_gt {o : Txt} {s : Nat} : s < nen o s := by
  unfold nen
  split
  · rename_i h; exact sc_gt le9 h
  · split
    · rename_i h; exact sc_gt dg9 h
    · omega
theorem nen_top {o : Txt} {s : Nat} (h : s < o.1) : nen o s ≤ o.1 := by
  unfold nen
  split
  · exact sc_top (by omega)
  · split
    · exact sc_top (by omega)
    · omega
theorem nx_gt {o : Txt} {s : Nat} : s < nx o s := Nat.lt_of_lt_of_le nen_gt sc_ge
theorem nx_top {o : Txt} {s : Nat} (h : s < o.1) : nx o s ≤ o.1 := sc_top (nen_top h)
theorem spE_top {o : Txt} {i : Nat} (h : i ≤ o.1) : spE o i ≤ o.1 := sc_top h
theorem spE_no {o : Txt} {i : Nat} (h : i ≤ o.1) : spN (bc o (spE o i)) = false := sc_end sp9 h
theorem spE_at {o : Txt} {s : Nat} (h : spN (bc o s) = false) : spE o s = s := sc_no h
/-! words -/
def wd (j : Nat) : List Int32 := ev_by.getD j []
def eqs (o : Txt) (s : Nat) (w : List Int32) : Nat → Bool
  | 0 => true
  | k + 1 => eqs o s w k && decide (o.2 (s + k) = w.getD k 0)
theorem eqs_iff {o : Txt} {s : Nat} {w : List Int32} : ∀ {k : Nat}, eqs o s w k = true ↔ ∀ i, i < k → o.2 (s + i) = w.getD i 0
  | 0 => ⟨fun _ i hi => absurd hi (Nat.not_lt_zero i), fun _ => rfl⟩
  | k + 1 => by
    simp only [eqs, Bool.and_eq_true, decide_eq_true_eq]
    rw [eqs_iff (k := k)]
    constructor
    · rintro ⟨h1, h2⟩ i hi
      rcases Nat.eq_or_lt_of_le (Nat.le_of_lt_succ hi) with e | e
      · rw [e]; exact h2
      · exact h1 i e
    · intro h
      exact ⟨fun i hi => h i (by omega), h k (by omega)⟩
def isWd (o : Txt) (s e : Nat) (w : List Int32) : Bool := decide (e - s = w.length) && eqs o s w w.length
theorem isWd_iff {o : Txt} {s e : Nat} {w : List Int32} : isWd o s e w = true ↔ e - s = w.length ∧ ∀ i, i < w.length → o.2 (s + i) = w.getD i 0 := by
  simp only [isWd, Bool.and_eq_true, decide_eq_true_eq]
  rw [eqs_iff]
def kof (o : Txt) (s e : Nat) : Nat → Nat → Nat
  | _, 0 => 24
  | k, m + 1 => if isWd o s e (wd (ev_tx.getD k 0)) = true then k else kof o s e (k + 1) m
def kn (o : Txt) (s : Nat) : Nat := if s < o.1 then (if dgN (bc o s) = true then 23 else kof o s (nen o s) 0 26) else 25
def numv (o : Txt) (s : Nat) : Nat → Nat
  | 0 => 0
  | k + 1 => numv o s k * 10 + (bc o (s + k) - 48)
def vl (o : Txt) (s : Nat) : Nat := if dgN (bc o s) = true then (if nen o s - s > 3 then 1000 else numv o s (nen o s - s)) else 0
theorem kof_spec {o : Txt} {s e : Nat} : ∀ {m k r : Nat}, kof o s e k m = r → r ≠ 24 → k ≤ r ∧ r < k + m ∧ isWd o s e (wd (ev_tx.getD r 0)) = true
  | 0, k, r, h, hr => absurd h.symm hr
  | m + 1, k, r, h, hr => by
    simp only [kof] at h
    split at h
    · rename_i g
      subst h
      exact ⟨Nat.le_refl _, by omega, g⟩
    · obtain ⟨a, b, c⟩ := kof_spec h hr
      exact ⟨by omega, by omega, c⟩
theorem kof_first {o : Txt} {s e : Nat} : ∀ {m k r : Nat}, k ≤ r → r < k + m → isWd o s e (wd (ev_tx.getD r 0)) = true → (∀ q, k ≤ q → q < r → isWd o s e (wd (ev_tx.getD q 0)) = false) → kof o s e k m = r
  | 0, k, r, h1, h2, _, _ => by omega
  | m + 1, k, r, h1, h2, h3, h4 => by
    simp only [kof]
    rcases Nat.eq_or_lt_of_le h1 with q | q
    · subst q
      exact if_pos h3
    · rw [if_neg (by rw [h4 k (Nat.le_refl _) q]; decide)]
      exact kof_first q (by omega) h3 (fun z a b => h4 z (by omega) b)
theorem isWd_uniq {o : Txt} {s e : Nat} {v w : List Int32} (h1 : isWd o s e v = true) (h2 : isWd o s e w = true) : v = w := by
  obtain ⟨a1, a2⟩ := isWd_iff.mp h1
  obtain ⟨b1, b2⟩ := isWd_iff.mp h2
  have hl : v.length = w.length := by omega
  apply List.ext_getElem hl
  intro i hi hj
  have e1 := a2 i hi
  have e2 := b2 i hj
  rw [List.getD_eq_getElem?_getD, List.getElem?_eq_getElem hi] at e1
  rw [List.getD_eq_getElem?_getD, List.getElem?_eq_getElem hj] at e2
  exact e1.symm.trans e2
theorem wd_ne : ∀ q, q < 23 → ∀ r, r < 23 → wd (ev_tx.getD q 0) = wd (ev_tx.getD r 0) → q = r := by decide +kernel
theorem wd_2 : ∀ r, r < 20 → 2 ≤ (wd (ev_tx.getD r 0)).length := by decide +kernel
theorem wd_0 : ∀ r, r < 26 → 23 ≤ r → (wd (ev_tx.getD r 0)).length = 0 := by decide +kernel
theorem kof_is {o : Txt} {s e K : Nat} (hK : K < 23) : kof o s e 0 26 = K ↔ isWd o s e (wd (ev_tx.getD K 0)) = true := by
  constructor
  · intro h
    exact (kof_spec h (by omega)).2.2
  · intro h
    refine kof_first (Nat.zero_le _) (by omega) h (fun q _ hq => ?_)
    by_cases g : isWd o s e (wd (ev_tx.getD q 0)) = true
    · have := wd_ne q (by omega) K hK (isWd_uniq g h)
      omega
    · exact Bool.eq_false_iff.mpr g
theorem kof_top {o : Txt} {s : Nat} : kof o s (nen o s) 0 26 < 23 ∨ kof o s (nen o s) 0 26 = 24 := by
  rcases Nat.lt_or_ge (kof o s (nen o s) 0 26) 23 with h | h
  · exact Or.inl h
  · right
    by_cases e : kof o s (nen o s) 0 26 = 24
    · exact e
    · obtain ⟨a, b, c⟩ := kof_spec rfl e
      have h1 := (isWd_iff.mp c).1
      rw [wd_0 _ (by omega) h] at h1
      have := nen_gt (o := o) (s := s)
      omega
theorem kn_end {o : Txt} {s : Nat} : kn o s = 25 ↔ ¬ s < o.1 := by
  unfold kn
  constructor
  · intro h hs
    rw [if_pos hs] at h
    split at h
    · omega
    · rcases kof_top (o := o) (s := s) with z | z <;> omega
  · intro h
    rw [if_neg h]
theorem kn_num {o : Txt} {s : Nat} : kn o s = 23 ↔ dgN (bc o s) = true := by
  unfold kn
  constructor
  · intro h
    split at h
    · split at h
      · assumption
      · rcases kof_top (o := o) (s := s) with z | z <;> omega
    · omega
  · intro h
    rw [if_pos (sc_lt dg9 h), if_pos h]
theorem kn_b {o : Txt} {s : Nat} : kn o s < 26 := by
  unfold kn
  split
  · split
    · omega
    · rcases kof_top (o := o) (s := s) with z | z <;> omega
  · omega
/-- a word at s: as the model looks for it -/
theorem acc_iff {o : Txt} {s K : Nat} (hK : K < 20) : (decide (sc leN o s - s = (wd (ev_tx.getD K 0)).length) && eqs o s (wd (ev_tx.getD K 0)) (wd (ev_tx.getD K 0)).length) = decide (kn o s = K) := by
  have h2 := wd_2 K hK
  by_cases hl : leN (bc o s) = true
  · have hs := sc_lt le9 hl
    have e : kn o s = kof o s (sc leN o s) 0 26 := by
      unfold kn
      rw [if_pos hs, if_neg (by rw [le_dg hl]; decide)]
      unfold nen
      rw [if_pos hl]
    rw [e]
    apply Bool.eq_iff_iff.mpr
    rw [decide_eq_true_eq, kof_is (by omega)]
    rfl
  · have hl' := Bool.eq_false_iff.mpr hl
    rw [sc_no hl', Nat.sub_self, decide_eq_false (by omega), Bool.false_and]
    symm
    apply decide_eq_false
    intro h
    unfold kn at h
    split at h
    · split at h
      · omega
      · have h9 := (isWd_iff.mp ((kof_is (by omega)).mp h)).1
        rename_i g
        unfold nen at h9
        rw [if_neg hl, if_neg g] at h9
        omega
    · omega
theorem kn_le {o : Txt} {s : Nat} (h : kn o s < 20) : leN (bc o s) = true := by
  have h2 := acc_iff (o := o) (s := s) h
  rw [decide_eq_true rfl] at h2
  simp only [Bool.and_eq_true, decide_eq_true_eq] at h2
  by_cases hl : leN (bc o s) = true
  · exact hl
  · have h3 := h2.1
    rw [sc_no (Bool.eq_false_iff.mpr hl), Nat.sub_self] at h3
    have := wd_2 _ h
    omega
theorem kn_nen {o : Txt} {s : Nat} (h : kn o s < 20) : nen o s = sc leN o s := by
  unfold nen
  rw [if_pos (kn_le h)]
/-- a token of one byte -/
theorem kn_sym {o : Txt} {s K c : Nat} (hb : byT o) (hK : K < 23) (hw : wd (ev_tx.getD K 0) = [nI c]) (hc : c < 128) (h1 : leN c = false) (h2 : dgN c = false) : kn o s = K ↔ bc o s = c := by
  constructor
  · intro h
    unfold kn at h
    split at h
    · rename_i hs
      split at h
      · omega
      · have h9 := (isWd_iff.mp ((kof_is hK).mp h)).2 0 (by rw [hw]; exact Nat.zero_lt_one)
        rw [hw, Nat.add_zero] at h9
        exact (bc_eq hb hs hc).mp h9
    · omega
  · intro h
    have hs : s < o.1 := by
      by_cases g : s < o.1
      · exact g
      · rw [bc_out g] at h; omega
    have e : nen o s = s + 1 := by
      unfold nen
      rw [h, if_neg (by rw [h1]; decide), if_neg (by rw [h2]; decide)]
    unfold kn
    rw [if_pos hs, h, if_neg (by rw [h2]; decide), e, kof_is hK, isWd_iff, hw]
    refine ⟨by simp, fun i hi => ?_⟩
    have hi0 : i = 0 := by simp at hi; exact hi
    subst hi0
    exact (bc_eq hb hs hc).mpr h
theorem kn_semi {o : Txt} {s : Nat} (hb : byT o) : kn o s = 20 ↔ bc o s = 59 := kn_sym hb (by decide) (by decide +kernel) (by decide) rfl rfl
theorem kn_open {o : Txt} {s : Nat} (hb : byT o) : kn o s = 21 ↔ bc o s = 40 := kn_sym hb (by decide) (by decide +kernel) (by decide) rfl rfl
theorem kn_close {o : Txt} {s : Nat} (hb : byT o) : kn o s = 22 ↔ bc o s = 41 := kn_sym hb (by decide) (by decide +kernel) (by decide) rfl rfl
theorem nen_sym {o : Txt} {s c : Nat} (h : bc o s = c) (h1 : leN c = false) (h2 : dgN c = false) : nen o s = s + 1 := by
  unfold nen
  rw [h, if_neg (by rw [h1]; decide), if_neg (by rw [h2]; decide)]
theorem st_mono {o : Txt} : ∀ i, i ≤ st o i
  | 0 => Nat.zero_le _
  | i + 1 => by
    have := st_mono (o := o) i
    have h2 := nx_gt (o := o) (s := st o i)
    show i + 1 ≤ nx o (st o i)
    omega
theorem numv_lt {o : Txt} {s : Nat} : ∀ {k : Nat}, (∀ i, i < k → dgN (bc o (s + i)) = true) → numv o s k < 10 ^ k
  | 0, _ => Nat.zero_lt_one
  | k + 1, h => by
    have h1 := numv_lt (o := o) (s := s) (k := k) (fun i hi => h i (by omega))
    have h2 := h k (by omega)
    unfold dgN at h2
    simp only [Bool.and_eq_true, decide_eq_true_eq] at h2
    show numv o s k * 10 + (bc o (s + k) - 48) < 10 ^ (k + 1)
    rw [Nat.pow_succ]
    omega
theorem vl_lt {o : Txt} {s : Nat} : vl o s ≤ 1000 := by
  unfold vl
  split
  · rename_i hd
    split
    · omega
    · rename_i h
      have e : nen o s = sc dgN o s := by
        unfold nen
        rw [if_neg, if_pos hd]
        intro z
        rw [le_dg z] at hd
        cases hd
      have h1 := numv_lt (o := o) (s := s) (k := nen o s - s) (fun i hi => sc_mid (i := s) (by omega) (by rw [← e]; omega))
      have h2 : 10 ^ (nen o s - s) ≤ 10 ^ 3 := Nat.pow_le_pow_right (by decide) (by omega)
      omega
  · omega
