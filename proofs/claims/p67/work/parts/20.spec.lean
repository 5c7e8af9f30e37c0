/-! the building as numbers: u = (count, scalars, rows); scalars 0 floors 1 capacity 2 policy 3 time 4 floor 5 upward 6 distance 7 doors 8 idles 9 reversals; rows 0 origin 1 destination 2 arrival 3 boarded 4 left -/
abbrev Vw : Type := Nat × (Nat → Int32) × (Nat → Nat → Int32)
abbrev un (u : Vw) : Nat := u.1
abbrev us (u : Vw) : Nat → Int32 := u.2.1
abbrev ur (u : Vw) : Nat → Nat → Int32 := u.2.2
def stat (u : Vw) (i : Nat) : Int32 := if ur u 4 i ≠ -1 then 3 else if ur u 3 i ≠ -1 then 2 else if ur u 2 i ≤ us u 3 then 1 else 0
def cnt (p : Nat → Bool) : Nat → Nat
  | 0 => 0
  | n + 1 => cnt p n + (if p n then 1 else 0)
theorem cnt_le (p : Nat → Bool) : ∀ n, cnt p n ≤ n
  | 0 => Nat.le_refl _
  | n + 1 => by
    have := cnt_le p n
    simp only [cnt]
    split <;> omega
theorem cnt_congr {p q : Nat → Bool} : ∀ {n : Nat}, (∀ i, i < n → p i = q i) → cnt p n = cnt q n
  | 0, _ => rfl
  | n + 1, h => by
    simp only [cnt]
    rw [cnt_congr (fun i hi => h i (by omega)), h n (by omega)]
def many (u : Vw) (k : Int32) : Nat := cnt (fun i => stat u i == k) (un u)
def ahd (u : Vw) (a b : Nat) : Prop := ur u 2 a < ur u 2 b ∨ (ur u 2 a = ur u 2 b ∧ a < b)
/-- a queue: the passengers' numbers, each once, the one ahead first -/
def Qok (u : Vw) (qq : Nat → Nat) : Prop := (∀ i, i < un u → qq i < un u) ∧ (∀ i j, i < j → j < un u → ahd u (qq i) (qq j)) ∧ ∀ i, i < un u → ∃ j, j < un u ∧ qq j = i
/-- the simulation at p stands for u, its queue being qq -/
def RC (σ : St) (p : Nat) (u : Vw) (qq : Nat → Nat) : Prop :=
  un u ≤ 40 ∧ (∀ j, j < 10 → sF σ p j = us u j) ∧ sF σ p 10 = nI (un u) ∧ sF σ p 11 = nI (many u 2) ∧ sF σ p 12 = nI (many u 3) ∧ (∀ c i, c < 5 → i < un u → sA σ (p + 1 + c) i = ur u c i) ∧ (∀ i, i < un u → sA σ (p + 6) i = nI (qq i)) ∧ Qok u qq
/-- the model's array stands for u -/
def RM (σ : St) (u : Vw) : Prop :=
  un u ≤ 40 ∧ (∀ j, j < 10 → sA σ 95 j = us u j) ∧ sA σ 95 10 = nI (un u) ∧ ∀ i, i < un u → sA σ 95 (11 + 5 * i) = ur u 2 i ∧ sA σ 95 (11 + 5 * i + 1) = ur u 0 i ∧ sA σ 95 (11 + 5 * i + 2) = ur u 1 i ∧ sA σ 95 (11 + 5 * i + 3) = ur u 3 i ∧ sA σ 95 (11 + 5 * i + 4) = ur u 4 i
section TU
variable {l : Launch} {G : GG} {T : MT} {d mc ms ce sl : Nat} {Q : PQ} {pc q : Nat} {L : List (Option Value)} {st : List Value} {σ : St} {u : Vw} {qq : Nat → Nat} {p idx i : Nat} {x : Int32}
theorem V.gSu (j : Nat) (hd : decode T.2.1 pc = .ok (.getfield idx, 3)) (hR : RC σ p u qq) (hk : kd p = 1) (hw : Cond.fieldLink T.1.cls idx RX3 (TX3 j).2.1 (TX3 j).2.2.1 ∈ BW) (hj : decide (j < 10) = true) (hq : pc + 3 = q) (kk : V l G T d mc ms Q ce sl q L (.int (us u j) :: st) (hof G σ) NC) : V l G T d mc ms Q ce sl pc L (.ref (gB G + p) :: st) (hof G σ) NC := by
  have hj := of_decide_eq_true hj
  have e := hR.2.1 j hj
  refine V.gS (j := j) (v := .int (us u j)) hd hk hw (decide_eq_true (by omega)) ?_ ?_ hq kk
  · rcases (show j = 0 ∨ j = 1 ∨ j = 2 ∨ j = 3 ∨ j = 4 ∨ j = 5 ∨ j = 6 ∨ j = 7 ∨ j = 8 ∨ j = 9 by omega) with rfl | rfl | rfl | rfl | rfl | rfl | rfl | rfl | rfl | rfl <;> rfl
  · rw [← e]
    rcases (show j = 0 ∨ j = 1 ∨ j = 2 ∨ j = 3 ∨ j = 4 ∨ j = 5 ∨ j = 6 ∨ j = 7 ∨ j = 8 ∨ j = 9 by omega) with rfl | rfl | rfl | rfl | rfl | rfl | rfl | rfl | rfl | rfl <;> rfl
theorem V.gSn (hd : decode T.2.1 pc = .ok (.getfield idx, 3)) (hR : RC σ p u qq) (hk : kd p = 1) (hw : Cond.fieldLink T.1.cls idx RX3 (TX3 10).2.1 (TX3 10).2.2.1 ∈ BW) (hq : pc + 3 = q) (kk : V l G T d mc ms Q ce sl q L (.int (nI (un u)) :: st) (hof G σ) NC) : V l G T d mc ms Q ce sl pc L (.ref (gB G + p) :: st) (hof G σ) NC := by
  refine V.gS (j := 10) hd hk hw rfl rfl ?_ hq kk
  rw [← hR.2.2.1]; rfl
theorem V.gSr (hd : decode T.2.1 pc = .ok (.getfield idx, 3)) (hR : RC σ p u qq) (hk : kd p = 1) (hw : Cond.fieldLink T.1.cls idx RX3 (TX3 11).2.1 (TX3 11).2.2.1 ∈ BW) (hq : pc + 3 = q) (kk : V l G T d mc ms Q ce sl q L (.int (nI (many u 2)) :: st) (hof G σ) NC) : V l G T d mc ms Q ce sl pc L (.ref (gB G + p) :: st) (hof G σ) NC := by
  refine V.gS (j := 11) hd hk hw rfl rfl ?_ hq kk
  rw [← hR.2.2.2.1]; rfl
theorem V.gSd (hd : decode T.2.1 pc = .ok (.getfield idx, 3)) (hR : RC σ p u qq) (hk : kd p = 1) (hw : Cond.fieldLink T.1.cls idx RX3 (TX3 12).2.1 (TX3 12).2.2.1 ∈ BW) (hq : pc + 3 = q) (kk : V l G T d mc ms Q ce sl q L (.int (nI (many u 3)) :: st) (hof G σ) NC) : V l G T d mc ms Q ce sl pc L (.ref (gB G + p) :: st) (hof G σ) NC := by
  refine V.gS (j := 12) hd hk hw rfl rfl ?_ hq kk
  rw [← hR.2.2.2.2.1]; rfl
theorem kd_sim {p : Nat} (h : kd p = 1) : kd (p + 1) = 2 ∧ kd (p + 2) = 2 ∧ kd (p + 3) = 2 ∧ kd (p + 4) = 2 ∧ kd (p + 5) = 2 ∧ kd (p + 6) = 2 := by
  have hp := kd_lt h (by decide)
  have key : ∀ q, q < 94 → kd q = 1 → kd (q + 1) = 2 ∧ kd (q + 2) = 2 ∧ kd (q + 3) = 2 ∧ kd (q + 4) = 2 ∧ kd (q + 5) = 2 ∧ kd (q + 6) = 2 := by decide +kernel
  exact key p hp h
theorem kd_simc {p c : Nat} (h : kd p = 1) (hc : c < 6) : kd (p + 1 + c) = 2 := by
  obtain ⟨h1, h2, h3, h4, h5, h6⟩ := kd_sim h
  rcases (show c = 0 ∨ c = 1 ∨ c = 2 ∨ c = 3 ∨ c = 4 ∨ c = 5 by omega) with rfl | rfl | rfl | rfl | rfl | rfl <;> assumption
theorem V.ldSu (c : Nat) (hd : decode T.2.1 pc = .ok (.iaload, 1)) (hR : RC σ p u qq) (hk : kd p = 1) (hc : decide (c < 5) = true) (hx : x = nI i) (hi : i < un u) (hq : pc + 1 = q) (kk : V l G T d mc ms Q ce sl q L (.int (ur u c i) :: st) (hof G σ) NC) : V l G T d mc ms Q ce sl pc L (.int x :: .ref (gB G + (p + 1 + c)) :: st) (hof G σ) NC := by
  have hc := of_decide_eq_true hc
  refine V.ld2 (k := p + 1 + c) (i := i) hd (kd_simc hk (by omega)) hx (by have := hR.1; omega) hq ?_
  rw [hR.2.2.2.2.2.1 c i hc hi]
  exact kk
theorem V.ldSq (hd : decode T.2.1 pc = .ok (.iaload, 1)) (hR : RC σ p u qq) (hk : kd p = 1) (hx : x = nI i) (hi : i < un u) (hq : pc + 1 = q) (kk : V l G T d mc ms Q ce sl q L (.int (nI (qq i)) :: st) (hof G σ) NC) : V l G T d mc ms Q ce sl pc L (.int x :: .ref (gB G + (p + 6)) :: st) (hof G σ) NC := by
  refine V.ld2 (k := p + 6) (i := i) hd (kd_sim hk).2.2.2.2.2 hx (by have := hR.1; omega) hq ?_
  rw [hR.2.2.2.2.2.2.1 i hi]
  exact kk
end TU
