/-! numbers -/
theorem nle {a b : Nat} (h : nI a ≤ nI b) (ha : a < 100000000) (hb : b < 100000000) : a ≤ b := (nI_leI (by omega) (by omega)).mp h
theorem nnle {a b : Nat} (h : ¬ nI a ≤ nI b) (ha : a < 100000000) (hb : b < 100000000) : b < a := by
  rcases Nat.lt_or_ge b a with q | q
  · exact q
  · exact absurd ((nI_leI (by omega) (by omega)).mpr q) h
theorem nlt {a b : Nat} (h : nI a < nI b) (ha : a < 100000000) (hb : b < 100000000) : a < b := (nI_ltI (by omega) (by omega)).mp h
theorem nnlt {a b : Nat} (h : ¬ nI a < nI b) (ha : a < 100000000) (hb : b < 100000000) : b ≤ a := by
  rcases Nat.lt_or_ge a b with q | q
  · exact absurd ((nI_ltI (by omega) (by omega)).mpr q) h
  · exact q
theorem neq {a b : Nat} (h : nI a = nI b) (ha : a < 100000000) (hb : b < 100000000) : a = b := (nI_eq (by omega) (by omega)).mp h
theorem nne1 {a : Nat} (ha : a < 100000000) : ¬ nI a = -1 := by
  intro h
  have h1 := nI_toInt (n := a) (by omega)
  rw [h] at h1
  have h2 : (-1 : Int32).toInt = -1 := by decide
  omega
theorem nne1' {a : Nat} (ha : a < 100000000) : ¬ -1 = nI a := fun h => nne1 ha h.symm
theorem nlt0 {a : Nat} (ha : a < 100000000) : ¬ nI a < 0 := nI_pos (by omega)
/-! folds -/
def wtI (u : Vw) (i : Nat) : Int32 := if ur u 3 i = -1 then -1 else ur u 3 i - ur u 2 i
def rdI (u : Vw) (i : Nat) : Int32 := if ur u 4 i = -1 then -1 else ur u 4 i - ur u 3 i
def sumI (f : Nat → Int32) : Nat → Int32
  | 0 => 0
  | n + 1 => sumI f n + f n
def maxI (f : Nat → Int32) : Nat → Int32
  | 0 => 0
  | n + 1 => if maxI f n < f n then f n else maxI f n
theorem sumI_congr {f g : Nat → Int32} : ∀ {n : Nat}, (∀ i, i < n → f i = g i) → sumI f n = sumI g n
  | 0, _ => rfl
  | n + 1, h => by
    simp only [sumI]
    rw [sumI_congr (fun i hi => h i (by omega)), h n (by omega)]
def nz (x : Int32) : Int32 := if x = -1 then 0 else x
def wsum (u : Vw) : Int32 := sumI (fun i => nz (wtI u i)) (un u)
def wmax (u : Vw) : Int32 := maxI (wtI u) (un u)
def rsum (u : Vw) : Int32 := sumI (fun i => nz (rdI u i)) (un u)
def rmax (u : Vw) : Int32 := maxI (rdI u) (un u)
/-- the first place from i on -/
def fst (p : Nat → Bool) : Nat → Nat → Option Nat
  | _, 0 => none
  | i, m + 1 => if p i then some i else fst p (i + 1) m
def oI : Option Nat → Int32
  | none => -1
  | some i => nI i
def ahB (u : Vw) (a b : Nat) : Bool := decide (ur u 2 a < ur u 2 b) || (decide (ur u 2 a = ur u 2 b) && decide (a < b))
theorem ahB_iff {u : Vw} {a b : Nat} : ahB u a b = true ↔ ahd u a b := by
  simp [ahB, ahd]
/-- the passenger who comes first in queue order of those that e names -/
def fw (u : Vw) (e : Nat → Bool) : Nat → Option Nat
  | 0 => none
  | n + 1 => match fw u e n with
    | none => if e n then some n else none
    | some g => if e n && ahB u n g then some n else some g
def isW (u : Vw) (i : Nat) : Bool := stat u i == 1
def isWf (u : Vw) (f : Int32) (i : Nat) : Bool := (stat u i == 1) && (f == -1 || ur u 0 i == f)
def isR (u : Vw) (i : Nat) : Bool := stat u i == 2
def rmB (u : Vw) : Bool := decide (nI (many u 2) < us u 1)
def spF (u : Vw) (r : Bool) : Nat → Int32
  | 0 => 0
  | n + 1 => if stat u n = 2 then spF u r n ||| (1 <<< (ur u 1 n &&& 31)) else if stat u n = 1 ∧ r = true then spF u r n ||| (1 <<< (ur u 0 n &&& 31)) else spF u r n
def stp (u : Vw) : Int32 := spF u (rmB u) (un u)
def hasB (m f : Int32) : Bool := !decide ((m >>> (f &&& 31)) &&& 1 = 0)
def dnI (m : Int32) : Nat → Int32
  | 0 => -1
  | f + 1 => if hasB m (nI f) then nI f else dnI m f
def upI (m : Int32) : Nat → Nat → Int32
  | _, 0 => -1
  | f, k + 1 => if hasB m (nI f) then nI f else upI m (f + 1) k
def uF (u : Vw) : Nat := (us u 4).toNatClampNeg
def uN (u : Vw) : Nat := (us u 0).toNatClampNeg
def pfc (u : Vw) : Int32 := match fst (isR u) 0 (un u) with
  | some i => ur u 1 i
  | none => match fw u (isW u) (un u) with
    | some i => ur u 0 i
    | none => -1
def tgt (u : Vw) (pol : Int32) : Int32 :=
  if stp u = 0 then -1 else if hasB (stp u) (us u 4) = true then us u 4 else if pol = 0 then pfc u else
  if dnI (stp u) (uF u) = -1 then upI (stp u) (uF u + 1) (uN u - (uF u + 1)) else if upI (stp u) (uF u + 1) (uN u - (uF u + 1)) = -1 then dnI (stp u) (uF u) else
  if pol = 2 then (if us u 5 = 0 then dnI (stp u) (uF u) else upI (stp u) (uF u + 1) (uN u - (uF u + 1))) else
  if us u 4 - dnI (stp u) (uF u) ≤ upI (stp u) (uF u + 1) (uN u - (uF u + 1)) - us u 4 then dnI (stp u) (uF u) else upI (stp u) (uF u + 1) (uN u - (uF u + 1))
/-- what holds of every building that a run can reach -/
def Iu (u : Vw) : Prop :=
  un u ≤ 40 ∧ (2 ≤ (us u 0).toInt ∧ (us u 0).toInt ≤ 20) ∧ (1 ≤ (us u 1).toInt ∧ (us u 1).toInt ≤ 8) ∧ (0 ≤ (us u 2).toInt ∧ (us u 2).toInt ≤ 2) ∧ (0 ≤ (us u 3).toInt ∧ (us u 3).toInt ≤ 10000000) ∧ (0 ≤ (us u 4).toInt ∧ (us u 4).toInt < (us u 0).toInt) ∧ (us u 5 = 0 ∨ us u 5 = 1) ∧
  (∀ i, i < un u → (0 ≤ (ur u 0 i).toInt ∧ (ur u 0 i).toInt < (us u 0).toInt) ∧ (0 ≤ (ur u 1 i).toInt ∧ (ur u 1 i).toInt < (us u 0).toInt) ∧ ur u 0 i ≠ ur u 1 i ∧ (0 ≤ (ur u 2 i).toInt ∧ (ur u 2 i).toInt ≤ 999) ∧
    (ur u 3 i = -1 ∨ ((ur u 2 i).toInt ≤ (ur u 3 i).toInt ∧ (ur u 3 i).toInt < (us u 3).toInt)) ∧ (ur u 4 i = -1 ∨ (ur u 3 i ≠ -1 ∧ (ur u 3 i).toInt ≤ (ur u 4 i).toInt ∧ (ur u 4 i).toInt < (us u 3).toInt))) ∧
  (many u 2 : Int) ≤ (us u 1).toInt
theorem nI_back {x : Int32} (h : 0 ≤ x.toInt) : x = nI x.toNatClampNeg := by
  have h2 : ¬ x < 0 := by
    rw [Int32.lt_iff_toInt_lt, Int32.toInt_zero]
    omega
  obtain ⟨j, hj, e⟩ := nI_of h2
  rw [e, nI_clamp hj]
theorem clamp_int {x : Int32} (h : 0 ≤ x.toInt) : (x.toNatClampNeg : Int) = x.toInt := by
  have e := nI_back h
  have h2 : ¬ x < 0 := by
    rw [Int32.lt_iff_toInt_lt, Int32.toInt_zero]
    omega
  obtain ⟨j, hj, e2⟩ := nI_of h2
  rw [e2, nI_clamp hj, nI_toInt hj]
theorem Iu.F {u : Vw} (h : Iu u) : us u 4 = nI (uF u) ∧ us u 0 = nI (uN u) ∧ uF u < uN u ∧ uN u ≤ 20 ∧ 2 ≤ uN u := by
  obtain ⟨-, ⟨h1, h2⟩, -, -, -, ⟨h3, h4⟩, -⟩ := h
  have e1 := clamp_int (x := us u 4) h3
  have e2 := clamp_int (x := us u 0) (by omega)
  refine ⟨nI_back h3, nI_back (by omega), ?_, ?_, ?_⟩
  · show (us u 4).toNatClampNeg < (us u 0).toNatClampNeg
    omega
  · show (us u 0).toNatClampNeg ≤ 20
    omega
  · show 2 ≤ (us u 0).toNatClampNeg
    omega
theorem b01 (x : Int32) : x &&& 1 = 0 ∨ x &&& 1 = 1 := by
  obtain ⟨j, hj, e⟩ := pk_andE x (m := 1) 1 (by decide)
  rw [e]
  rcases (show j = 0 ∨ j = 1 by omega) with rfl | rfl
  · exact Or.inl rfl
  · exact Or.inr rfl
theorem stat_eq3 {u : Vw} {i : Nat} : stat u i = 3 ↔ ¬ ur u 4 i = -1 := by
  unfold stat
  split
  · rename_i h; simp [h]
  · rename_i h
    simp only [ne_eq, Decidable.not_not] at h
    split
    · simp [h]
    · split <;> simp [h]
theorem stat_eq2 {u : Vw} {i : Nat} : stat u i = 2 ↔ ur u 4 i = -1 ∧ ¬ ur u 3 i = -1 := by
  unfold stat
  split
  · rename_i h; simp only [ne_eq] at h; simp [h]
  · rename_i h
    simp only [ne_eq, Decidable.not_not] at h
    split
    · rename_i h2; simp only [ne_eq] at h2; simp [h, h2]
    · rename_i h2
      simp only [ne_eq, Decidable.not_not] at h2
      split <;> simp [h, h2]
theorem stat_eq1 {u : Vw} {i : Nat} : stat u i = 1 ↔ ur u 4 i = -1 ∧ ur u 3 i = -1 ∧ ur u 2 i ≤ us u 3 := by
  unfold stat
  split
  · rename_i h; simp only [ne_eq] at h; simp [h]
  · rename_i h
    simp only [ne_eq, Decidable.not_not] at h
    split
    · rename_i h2; simp only [ne_eq] at h2; simp [h, h2]
    · rename_i h2
      simp only [ne_eq, Decidable.not_not] at h2
      split
      · rename_i h3; simp [h, h2, h3]
      · rename_i h3; simp [h, h2, h3]
theorem stat_eq0 {u : Vw} {i : Nat} : stat u i = 0 ↔ ur u 4 i = -1 ∧ ur u 3 i = -1 ∧ ¬ ur u 2 i ≤ us u 3 := by
  unfold stat
  split
  · rename_i h; simp only [ne_eq] at h; simp [h]
  · rename_i h
    simp only [ne_eq, Decidable.not_not] at h
    split
    · rename_i h2; simp only [ne_eq] at h2; simp [h, h2]
    · rename_i h2
      simp only [ne_eq, Decidable.not_not] at h2
      split
      · rename_i h3; simp [h, h2, h3]
      · rename_i h3; simp [h, h2, h3]
