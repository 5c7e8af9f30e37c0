/-! answers with loops -/
def nxI (u : Vw) : Nat → Int32
  | 0 => -1
  | n + 1 => if us u 3 < ur u 2 n ∧ (nxI u n = -1 ∨ ur u 2 n < nxI u n) then ur u 2 n else nxI u n
def ldN (u : Vw) : Nat → Option Nat
  | 0 => none
  | n + 1 => match ldN u n with
    | none => if ur u 4 n = -1 then none else some n
    | some g => if ur u 4 g < ur u 4 n then some n else some g
def ldL (u : Vw) (x : Option Nat) : Int32 := match x with
  | none => -1
  | some g => ur u 4 g
theorem ldN_step {u : Vw} {n : Nat} (h : ∀ i, i ≤ n → ur u 4 i = -1 ∨ 0 ≤ ur u 4 i) : ldN u (n + 1) = if ldL u (ldN u n) < ur u 4 n then some n else ldN u n := by
  simp only [ldN]
  cases e : ldN u n with
  | none =>
    show (if ur u 4 n = -1 then none else some n) = if (-1 : Int32) < ur u 4 n then some n else none
    rcases h n (Nat.le_refl _) with z | z
    · rw [if_pos z, if_neg (by rw [z]; decide)]
    · have h1 : ¬ ur u 4 n = -1 := fun y => by rw [y] at z; exact absurd z (by decide)
      have h2 : (-1 : Int32) < ur u 4 n := by
        have a := Int32.le_iff_toInt_le.mp z
        apply Int32.lt_iff_toInt_lt.mpr
        have b : (-1 : Int32).toInt = -1 := rfl
        have c : (0 : Int32).toInt = 0 := rfl
        omega
      rw [if_neg h1, if_pos h2]
  | some g => rfl
def stN (u : Vw) (f : Int32) : Nat := cnt (fun j => ur u 0 j == f) (un u)
def boC (u : Vw) : Nat → Option Nat × Nat
  | 0 => (none, 0)
  | k + 1 => if (boC u k).2 < stN u (nI k) then (some k, stN u (nI k)) else boC u k
def absI (x : Int32) : Int32 := if 0 ≤ x then x else 0 - x
def dtI (u : Vw) (i : Nat) : Int32 := if rdI u i = -1 then -1 else rdI u i - 1 - absI (ur u 0 i - ur u 1 i)
