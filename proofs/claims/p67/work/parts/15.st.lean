/-! the state: every int of every object by its place and slot, every int of every array by its place and index; the parser's simulation, its kinds, the law's longs -/
abbrev St : Type := (Nat → Nat → Int32) × (Nat → Nat → Int32) × Option Nat × (Nat → Option Nat) × (Nat → Int64)
abbrev sF (σ : St) : Nat → Nat → Int32 := σ.1
abbrev sA (σ : St) : Nat → Nat → Int32 := σ.2.1
abbrev sS (σ : St) : Option Nat := σ.2.2.1
abbrev sK (σ : St) : Nat → Option Nat := σ.2.2.2.1
abbrev sO (σ : St) : Nat → Int64 := σ.2.2.2.2
def kdl : List Nat := [0, 1, 2, 2, 2, 2, 2, 2, 1, 2, 2, 2, 2, 2, 2, 3, 4, 5, 6, 7, 8, 9, 9, 10, 1, 2, 2, 2, 2, 2, 2, 1, 2, 2, 2, 2, 2, 2, 1, 2, 2, 2, 2, 2, 2, 1, 2, 2, 2, 2, 2, 2, 1, 2, 2, 2, 2, 2, 2, 1, 2, 2, 2, 2, 2, 2, 1, 2, 2, 2, 2, 2, 2, 1, 2, 2, 2, 2, 2, 2, 1, 2, 2, 2, 2, 2, 2, 1, 2, 2, 2, 2, 2, 2]
def kd (k : Nat) : Nat := kdl.getD k 99
theorem kd_lt {k c : Nat} (h : kd k = c) (hc : c < 99) : k < NC := by
  rcases Nat.lt_or_ge k 94 with q | q
  · exact q
  · have : kd k = 99 := by
      have q2 : kdl[k]? = none := List.getElem?_eq_none q
      simp [kd, List.getD, q2]
    omega
def fsL (G : GG) (f : Nat → Int32) : List Value := [.ref (gB G + 1), .ref (gB G + 8), .ref (gB G + 15), .int (f 3), .int (f 4), .ref (gB G + 16), .ref (gB G + 17), .ref (gB G + 18), .int (f 8), .ref (gB G + 19), .ref (gB G + 23), .int (f 11)]
def fsS (G : GG) (k : Nat) (f : Nat → Int32) : List Value := [.int (f 0), .int (f 1), .int (f 2), .int (f 3), .int (f 4), .int (f 5), .int (f 6), .int (f 7), .int (f 8), .int (f 9), .int (f 10), .int (f 11), .int (f 12), .ref (gB G + (k + 1)), .ref (gB G + (k + 2)), .ref (gB G + (k + 3)), .ref (gB G + (k + 4)), .ref (gB G + (k + 5)), .ref (gB G + (k + 6))]
def fsP (G : GG) (f : Nat → Int32) (s : Option Nat) : List Value := [.ref (gB G + 20), .ref (gB G + 21), .ref (gB G + 22), .int (f 3), .int (f 4), va_rf s, .int (f 6), .int (f 7), .int (f 8)]
def rfA (G : GG) (k0 N : Nat) : Nat → Option Nat := fun i => if i < N then some (gB G + (k0 + 7 * i)) else none
def cellk (G : GG) (c k : Nat) (f a : Nat → Int32) (s : Option Nat) (kn : Nat → Option Nat) (ou : Nat → Int64) : va_E := match c with
  | 0 => .inr (2, fsL G f)
  | 1 => .inr (1, fsS G k f)
  | 2 => .inl (gC G 0, 40, .inl a)
  | 3 => .inl (gC G 4, 8, .inr (.inr (.inr (.inr (rfA G 24 8)))))
  | 4 => .inl (gC G 4, 2, .inr (.inr (.inr (.inr (rfA G 80 2)))))
  | 5 => .inl (gC G 2, 2, .inl a)
  | 6 => .inl (gC G 1, 500, .inl a)
  | 7 => .inr (0, fsP G f s)
  | 8 => .inl (gC G 5, 501, .inr (.inr (.inr (.inr kn))))
  | 9 => .inl (gC G 0, 501, .inl a)
  | 10 => .inl (gC G 1, 64, .inl a)
  | _ => .inl (gC G 3, 1, .inr (.inl ou))
def hof (G : GG) (σ : St) : HM := fun k => cellk G (kd k) k (sF σ k) (sA σ k) (sS σ) (sK σ) (sO σ)
theorem hof_at {G : GG} {σ : St} {k c : Nat} (h : kd k = c) : hof G σ k = cellk G c k (sF σ k) (sA σ k) (sS σ) (sK σ) (sO σ) := by rw [← h]; rfl
/-- one number of one row -/
def up2 (f : Nat → Nat → Int32) (k j : Nat) (x : Int32) : Nat → Nat → Int32 := fun a => if a = k then upd (f a) j x else f a
def stF (σ : St) (k j : Nat) (x : Int32) : St := (up2 (sF σ) k j x, σ.2)
def stA (σ : St) (k j : Nat) (x : Int32) : St := (σ.1, up2 (sA σ) k j x, σ.2.2)
def stAr (σ : St) (k : Nat) (a : Nat → Int32) : St := (σ.1, (fun q => if q = k then a else sA σ q), σ.2.2)
def stS (σ : St) (s : Option Nat) : St := (σ.1, σ.2.1, s, σ.2.2.2)
def stK (σ : St) (j : Nat) (x : Option Nat) : St := (σ.1, σ.2.1, σ.2.2.1, va_up (sK σ) j x, σ.2.2.2.2)
def stO (σ : St) (j : Nat) (x : Int64) : St := (σ.1, σ.2.1, σ.2.2.1, σ.2.2.2.1, vp_updL (sO σ) j x)
theorem up2_same {f : Nat → Nat → Int32} {k j : Nat} {x : Int32} : up2 f k j x k = upd (f k) j x := by simp [up2]
theorem up2_ne {f : Nat → Nat → Int32} {k a j : Nat} {x : Int32} (h : a ≠ k) : up2 f k j x a = f a := by simp [up2, h]
theorem up2_at {f : Nat → Nat → Int32} {k j : Nat} {x : Int32} : up2 f k j x k j = x := by simp [up2, upd]
theorem up2_in {f : Nat → Nat → Int32} {k j i : Nat} {x : Int32} (h : i ≠ j) : up2 f k j x k i = f k i := by simp [up2, upd, h]
theorem up2_if {f : Nat → Nat → Int32} {k j a i : Nat} {x : Int32} : up2 f k j x a i = if a = k ∧ i = j then x else f a i := by
  by_cases h : a = k
  · subst h
    by_cases h2 : i = j
    · subst h2; simp [up2, upd]
    · simp [up2, upd, h2]
  · simp [up2, h]
/-- the world behind a change of the state at one place -/
theorem hof_set {G : GG} {σ τ : St} {k c : Nat} {e : va_E} (hc : kd k = c) (h1 : ∀ a, a ≠ k → sF τ a = sF σ a) (h2 : ∀ a, a ≠ k → sA τ a = sA σ a) (h3 : sS τ = sS σ ∨ kd k = 7) (h4 : sK τ = sK σ ∨ kd k = 8) (h5 : sO τ = sO σ ∨ kd k = 16) (he : cellk G c k (sF τ k) (sA τ k) (sS τ) (sK τ) (sO τ) = e) (hu : ∀ a, a < NC → kd a = kd k → (kd k = 7 ∨ kd k = 8 ∨ kd k = 16) → a = k) : ∀ a, a < NC → hset (hof G σ) k e a = hof G τ a := by
  intro a ha
  by_cases hk : a = k
  · subst hk
    rw [hset_same, hof_at hc, he]
  · rw [hset_ne hk]
    show cellk G (kd a) a (sF σ a) (sA σ a) (sS σ) (sK σ) (sO σ) = cellk G (kd a) a (sF τ a) (sA τ a) (sS τ) (sK τ) (sO τ)
    rw [h1 a hk, h2 a hk]
    have e3 : kd a = 7 → sS τ = sS σ := fun z => h3.elim id (fun y => absurd (hu a ha (z.trans y.symm) (Or.inl y)) hk)
    have e4 : kd a = 8 → sK τ = sK σ := fun z => h4.elim id (fun y => absurd (hu a ha (z.trans y.symm) (Or.inr (Or.inl y))) hk)
    have e5 : kd a = 16 → sO τ = sO σ := fun z => h5.elim id (fun y => absurd (hu a ha (z.trans y.symm) (Or.inr (Or.inr y))) hk)
    have hle : kd a ≤ 10 := by
      have : ∀ b, b < 94 → kd b ≤ 10 := by decide +kernel
      exact this a ha
    generalize kd a = z at e3 e4 e5 hle ⊢
    match z, hle with
    | 0, _ => rfl
    | 1, _ => rfl
    | 2, _ => rfl
    | 3, _ => rfl
    | 4, _ => rfl
    | 5, _ => rfl
    | 6, _ => rfl
    | 7, _ => rw [e3 rfl]; rfl
    | 8, _ => rw [e4 rfl]; rfl
    | 9, _ => rfl
    | 10, _ => rfl
    | n + 11, h => omega
theorem HP.same {G : GG} {h1 h2 : HM} {n : Nat} {H : Heap} (hp : HP G h1 n H) (e : ∀ a, a < n → h1 a = h2 a) : HP G h2 n H := ⟨hp.1, fun k hk => by rw [← e k hk]; exact hp.2 k hk⟩
section TY
variable {l : Launch} {G : GG} {T : MT} {d mc ms ce sl : Nat} {Q : PQ} {pc q : Nat} {L : List (Option Value)} {st : List Value} {h h2 : HM} {n : Nat}
theorem V.hm (e : ∀ a, a < n → h a = h2 a) (k : V l G T d mc ms Q ce sl pc L st h2 n) : V l G T d mc ms Q ce sl pc L st h n := by
  intro p e9 s m args below meth c H locs ls F hl hP hS
  exact k p e9 s m args below meth c H locs ls F hl (hP.same e) hS
end TY
section TY2
variable {l : Launch} {G : GG} {T : MT} {d mc ms ce sl : Nat} {Q : PQ} {pc q : Nat} {L : List (Option Value)} {st : List Value} {σ : St}
theorem V.gL {k j idx : Nat} {v : Value} (hd : decode T.2.1 pc = .ok (.getfield idx, 3)) (hk : kd k = 0) (hw : Cond.fieldLink T.1.cls idx RX4 (TX4 j).2.1 (TX4 j).2.2.1 ∈ BW) (hj : decide (j < 12) = true) (hdc : (TX4 j).1 = RX4) (hv : (fsL G (sF σ k))[j]? = some v) (hq : pc + 3 = q) (kk : V l G T d mc ms Q ce sl q L (v :: st) (hof G σ) NC) : V l G T d mc ms Q ce sl pc L (.ref (gB G + k) :: st) (hof G σ) NC :=
  V.get (ci := 2) (fs := (fsL G (sF σ k))) hd (hof_at hk) (kd_lt hk (by decide)) rfl inX4 (of_decide_eq_true hj) hdc hw hv hq kk
theorem setL {k : Nat} (hk : kd k = 0) (j : Nat) (x : Int32) (hj : j ∈ [3, 4, 8, 11]) : ∀ a, a < NC → hset (hof G σ) k (.inr (2, (fsL G (sF σ k)).set j (.int x))) a = hof G (stF σ k j x) a := by
  refine hof_set hk (fun a h => up2_ne h) (fun a h => rfl) (Or.inl rfl) (Or.inl rfl) (Or.inl rfl) ?_ (fun a ha e h => by rw [hk] at e h; omega)
  simp only [List.mem_cons, List.not_mem_nil, or_false] at hj
  show (.inr (2, (fsL G (up2 (sF σ) k j x k))) : va_E) = _
  rw [up2_same]
  rcases hj with rfl | rfl | rfl | rfl <;> rfl
theorem V.pL {k j idx : Nat} {x : Int32} (hd : decode T.2.1 pc = .ok (.putfield idx, 3)) (hk : kd k = 0) (hw : Cond.fieldLink T.1.cls idx RX4 (TX4 j).2.1 (TX4 j).2.2.1 ∈ BW) (hj : decide (j < 12 ∧ j ∈ [3, 4, 8, 11]) = true) (hdc : (TX4 j).1 = RX4) (hfi : (TX4 j).2.2.2 = false) (hn : narrow (tyX4 j) (.int x) = .int x) (hf : fits (tyX4 j) (.int x) = true) (hq : pc + 3 = q) (kk : V l G T d mc ms Q ce sl q L st (hof G (stF σ k j x)) NC) : V l G T d mc ms Q ce sl pc L (.int x :: .ref (gB G + k) :: st) (hof G σ) NC :=
  V.put (ci := 2) (fs := (fsL G (sF σ k))) hd (hof_at hk) (kd_lt hk (by decide)) rfl inX4 tyX4_ok nmX4 (of_decide_eq_true hj).1 hdc hw (Or.inl hfi) hn hf (by rw [show (fsL G (sF σ k)).length = 12 from rfl]; exact (of_decide_eq_true hj).1) hq (V.hm (setL hk j x (of_decide_eq_true hj).2) kk)
theorem V.gS {k j idx : Nat} {v : Value} (hd : decode T.2.1 pc = .ok (.getfield idx, 3)) (hk : kd k = 1) (hw : Cond.fieldLink T.1.cls idx RX3 (TX3 j).2.1 (TX3 j).2.2.1 ∈ BW) (hj : decide (j < 19) = true) (hdc : (TX3 j).1 = RX3) (hv : (fsS G k (sF σ k))[j]? = some v) (hq : pc + 3 = q) (kk : V l G T d mc ms Q ce sl q L (v :: st) (hof G σ) NC) : V l G T d mc ms Q ce sl pc L (.ref (gB G + k) :: st) (hof G σ) NC :=
  V.get (ci := 1) (fs := (fsS G k (sF σ k))) hd (hof_at hk) (kd_lt hk (by decide)) rfl inX3 (of_decide_eq_true hj) hdc hw hv hq kk
theorem setS {k : Nat} (hk : kd k = 1) (j : Nat) (x : Int32) (hj : j ∈ [0, 1, 2, 3, 4, 5, 6, 7, 8, 9, 10, 11, 12]) : ∀ a, a < NC → hset (hof G σ) k (.inr (1, (fsS G k (sF σ k)).set j (.int x))) a = hof G (stF σ k j x) a := by
  refine hof_set hk (fun a h => up2_ne h) (fun a h => rfl) (Or.inl rfl) (Or.inl rfl) (Or.inl rfl) ?_ (fun a ha e h => by rw [hk] at e h; omega)
  simp only [List.mem_cons, List.not_mem_nil, or_false] at hj
  show (.inr (1, (fsS G k (up2 (sF σ) k j x k))) : va_E) = _
  rw [up2_same]
  rcases hj with rfl | rfl | rfl | rfl | rfl | rfl | rfl | rfl | rfl | rfl | rfl | rfl | rfl <;> rfl
theorem V.pS {k j idx : Nat} {x : Int32} (hd : decode T.2.1 pc = .ok (.putfield idx, 3)) (hk : kd k = 1) (hw : Cond.fieldLink T.1.cls idx RX3 (TX3 j).2.1 (TX3 j).2.2.1 ∈ BW) (hj : decide (j < 19 ∧ j ∈ [0, 1, 2, 3, 4, 5, 6, 7, 8, 9, 10, 11, 12]) = true) (hdc : (TX3 j).1 = RX3) (hfi : (TX3 j).2.2.2 = false) (hn : narrow (tyX3 j) (.int x) = .int x) (hf : fits (tyX3 j) (.int x) = true) (hq : pc + 3 = q) (kk : V l G T d mc ms Q ce sl q L st (hof G (stF σ k j x)) NC) : V l G T d mc ms Q ce sl pc L (.int x :: .ref (gB G + k) :: st) (hof G σ) NC :=
  V.put (ci := 1) (fs := (fsS G k (sF σ k))) hd (hof_at hk) (kd_lt hk (by decide)) rfl inX3 tyX3_ok nmX3 (of_decide_eq_true hj).1 hdc hw (Or.inl hfi) hn hf (by rw [show (fsS G k (sF σ k)).length = 19 from rfl]; exact (of_decide_eq_true hj).1) hq (V.hm (setS hk j x (of_decide_eq_true hj).2) kk)
theorem V.gP {k j idx : Nat} {v : Value} (hd : decode T.2.1 pc = .ok (.getfield idx, 3)) (hk : kd k = 7) (hw : Cond.fieldLink T.1.cls idx RX2 (TX2 j).2.1 (TX2 j).2.2.1 ∈ BW) (hj : decide (j < 9) = true) (hdc : (TX2 j).1 = RX2) (hv : (fsP G (sF σ k) (sS σ))[j]? = some v) (hq : pc + 3 = q) (kk : V l G T d mc ms Q ce sl q L (v :: st) (hof G σ) NC) : V l G T d mc ms Q ce sl pc L (.ref (gB G + k) :: st) (hof G σ) NC :=
  V.get (ci := 0) (fs := (fsP G (sF σ k) (sS σ))) hd (hof_at hk) (kd_lt hk (by decide)) rfl inX2 (of_decide_eq_true hj) hdc hw hv hq kk
theorem setP {k : Nat} (hk : kd k = 7) (j : Nat) (x : Int32) (hj : j ∈ [3, 4, 6, 7, 8]) : ∀ a, a < NC → hset (hof G σ) k (.inr (0, (fsP G (sF σ k) (sS σ)).set j (.int x))) a = hof G (stF σ k j x) a := by
  refine hof_set hk (fun a h => up2_ne h) (fun a h => rfl) (Or.inl rfl) (Or.inl rfl) (Or.inl rfl) ?_ (fun a ha e h => by rw [hk] at e h; have : ∀ b, b < 94 → kd b = 7 → b = 19 := (by decide +kernel); exact (this a ha e).trans (this k (kd_lt hk (by decide)) hk).symm)
  simp only [List.mem_cons, List.not_mem_nil, or_false] at hj
  show (.inr (0, (fsP G (up2 (sF σ) k j x k) (sS σ))) : va_E) = _
  rw [up2_same]
  rcases hj with rfl | rfl | rfl | rfl | rfl <;> rfl
theorem V.pP {k j idx : Nat} {x : Int32} (hd : decode T.2.1 pc = .ok (.putfield idx, 3)) (hk : kd k = 7) (hw : Cond.fieldLink T.1.cls idx RX2 (TX2 j).2.1 (TX2 j).2.2.1 ∈ BW) (hj : decide (j < 9 ∧ j ∈ [3, 4, 6, 7, 8]) = true) (hdc : (TX2 j).1 = RX2) (hfi : (TX2 j).2.2.2 = false) (hn : narrow (tyX2 j) (.int x) = .int x) (hf : fits (tyX2 j) (.int x) = true) (hq : pc + 3 = q) (kk : V l G T d mc ms Q ce sl q L st (hof G (stF σ k j x)) NC) : V l G T d mc ms Q ce sl pc L (.int x :: .ref (gB G + k) :: st) (hof G σ) NC :=
  V.put (ci := 0) (fs := (fsP G (sF σ k) (sS σ))) hd (hof_at hk) (kd_lt hk (by decide)) rfl inX2 tyX2_ok nmX2 (of_decide_eq_true hj).1 hdc hw (Or.inl hfi) hn hf (by rw [show (fsP G (sF σ k) (sS σ)).length = 9 from rfl]; exact (of_decide_eq_true hj).1) hq (V.hm (setP hk j x (of_decide_eq_true hj).2) kk)
theorem V.ld2 {k i : Nat} {x : Int32} (hd : decode T.2.1 pc = .ok (.iaload, 1)) (hk : kd k = 2) (hx : x = nI i) (hi : i < 40) (hq : pc + 1 = q) (kk : V l G T d mc ms Q ce sl q L (.int (sA σ k i) :: st) (hof G σ) NC) : V l G T d mc ms Q ce sl pc L (.int x :: .ref (gB G + k) :: st) (hof G σ) NC :=
  V.iald hd (hof_at hk) (kd_lt hk (by decide)) hi (by decide) hx hq kk
theorem V.st2 {k i : Nat} {x y : Int32} (hd : decode T.2.1 pc = .ok (.iastore, 1)) (hk : kd k = 2) (hx : x = nI i) (hi : i < 40) (hq : pc + 1 = q) (kk : V l G T d mc ms Q ce sl q L st (hof G (stA σ k i y)) NC) : V l G T d mc ms Q ce sl pc L (.int y :: .int x :: .ref (gB G + k) :: st) (hof G σ) NC :=
  V.iast hd (hof_at hk) (kd_lt hk (by decide)) hi (by decide) hx hq (V.hm (hof_set (τ := stA σ k i y) hk (fun a h => rfl) (fun a h => up2_ne h) (Or.inl rfl) (Or.inl rfl) (Or.inl rfl) (by
    show (.inl (gC G 0, 40, .inl (up2 (sA σ) k i y k)) : va_E) = _
    rw [up2_same]) (fun a ha e h => by rw [hk] at h; omega)) kk)
theorem V.ld9 {k i : Nat} {x : Int32} (hd : decode T.2.1 pc = .ok (.iaload, 1)) (hk : kd k = 9) (hx : x = nI i) (hi : i < 501) (hq : pc + 1 = q) (kk : V l G T d mc ms Q ce sl q L (.int (sA σ k i) :: st) (hof G σ) NC) : V l G T d mc ms Q ce sl pc L (.int x :: .ref (gB G + k) :: st) (hof G σ) NC :=
  V.iald hd (hof_at hk) (kd_lt hk (by decide)) hi (by decide) hx hq kk
theorem V.st9 {k i : Nat} {x y : Int32} (hd : decode T.2.1 pc = .ok (.iastore, 1)) (hk : kd k = 9) (hx : x = nI i) (hi : i < 501) (hq : pc + 1 = q) (kk : V l G T d mc ms Q ce sl q L st (hof G (stA σ k i y)) NC) : V l G T d mc ms Q ce sl pc L (.int y :: .int x :: .ref (gB G + k) :: st) (hof G σ) NC :=
  V.iast hd (hof_at hk) (kd_lt hk (by decide)) hi (by decide) hx hq (V.hm (hof_set (τ := stA σ k i y) hk (fun a h => rfl) (fun a h => up2_ne h) (Or.inl rfl) (Or.inl rfl) (Or.inl rfl) (by
    show (.inl (gC G 0, 501, .inl (up2 (sA σ) k i y k)) : va_E) = _
    rw [up2_same]) (fun a ha e h => by rw [hk] at h; omega)) kk)
theorem V.ld6 {k i : Nat} {x : Int32} (hd : decode T.2.1 pc = .ok (.baload, 1)) (hk : kd k = 6) (hx : x = nI i) (hi : i < 500) (hq : pc + 1 = q) (kk : V l G T d mc ms Q ce sl q L (.int (sA σ k i) :: st) (hof G σ) NC) : V l G T d mc ms Q ce sl pc L (.int x :: .ref (gB G + k) :: st) (hof G σ) NC :=
  V.bald hd (hof_at hk) (kd_lt hk (by decide)) hi (by decide) hx hq kk
theorem V.st6 {k i : Nat} {x y : Int32} (hd : decode T.2.1 pc = .ok (.bastore, 1)) (hk : kd k = 6) (hx : x = nI i) (hi : i < 500) (hq : pc + 1 = q) (kk : V l G T d mc ms Q ce sl q L st (hof G (stA σ k i (vp_nar .byte y))) NC) : V l G T d mc ms Q ce sl pc L (.int y :: .int x :: .ref (gB G + k) :: st) (hof G σ) NC :=
  V.bast hd (hof_at hk) (kd_lt hk (by decide)) hi (by decide) hx hq (V.hm (hof_set (τ := stA σ k i (vp_nar .byte y)) hk (fun a h => rfl) (fun a h => up2_ne h) (Or.inl rfl) (Or.inl rfl) (Or.inl rfl) (by
    show (.inl (gC G 1, 500, .inl (up2 (sA σ) k i (vp_nar .byte y) k)) : va_E) = _
    rw [up2_same]) (fun a ha e h => by rw [hk] at h; omega)) kk)
theorem V.ld10 {k i : Nat} {x : Int32} (hd : decode T.2.1 pc = .ok (.baload, 1)) (hk : kd k = 10) (hx : x = nI i) (hi : i < 64) (hq : pc + 1 = q) (kk : V l G T d mc ms Q ce sl q L (.int (sA σ k i) :: st) (hof G σ) NC) : V l G T d mc ms Q ce sl pc L (.int x :: .ref (gB G + k) :: st) (hof G σ) NC :=
  V.bald hd (hof_at hk) (kd_lt hk (by decide)) hi (by decide) hx hq kk
theorem V.st10 {k i : Nat} {x y : Int32} (hd : decode T.2.1 pc = .ok (.bastore, 1)) (hk : kd k = 10) (hx : x = nI i) (hi : i < 64) (hq : pc + 1 = q) (kk : V l G T d mc ms Q ce sl q L st (hof G (stA σ k i (vp_nar .byte y))) NC) : V l G T d mc ms Q ce sl pc L (.int y :: .int x :: .ref (gB G + k) :: st) (hof G σ) NC :=
  V.bast hd (hof_at hk) (kd_lt hk (by decide)) hi (by decide) hx hq (V.hm (hof_set (τ := stA σ k i (vp_nar .byte y)) hk (fun a h => rfl) (fun a h => up2_ne h) (Or.inl rfl) (Or.inl rfl) (Or.inl rfl) (by
    show (.inl (gC G 1, 64, .inl (up2 (sA σ) k i (vp_nar .byte y) k)) : va_E) = _
    rw [up2_same]) (fun a ha e h => by rw [hk] at h; omega)) kk)
theorem V.ld5 {k i : Nat} {x : Int32} (hd : decode T.2.1 pc = .ok (.baload, 1)) (hk : kd k = 5) (hx : x = nI i) (hi : i < 2) (hq : pc + 1 = q) (kk : V l G T d mc ms Q ce sl q L (.int (sA σ k i) :: st) (hof G σ) NC) : V l G T d mc ms Q ce sl pc L (.int x :: .ref (gB G + k) :: st) (hof G σ) NC :=
  V.zald hd (hof_at hk) (kd_lt hk (by decide)) hi (by decide) hx hq kk
theorem V.st5 {k i : Nat} {x y : Int32} (hd : decode T.2.1 pc = .ok (.bastore, 1)) (hk : kd k = 5) (hx : x = nI i) (hi : i < 2) (hq : pc + 1 = q) (kk : V l G T d mc ms Q ce sl q L st (hof G (stA σ k i (vp_nar .boolean y))) NC) : V l G T d mc ms Q ce sl pc L (.int y :: .int x :: .ref (gB G + k) :: st) (hof G σ) NC :=
  V.zast hd (hof_at hk) (kd_lt hk (by decide)) hi (by decide) hx hq (V.hm (hof_set (τ := stA σ k i (vp_nar .boolean y)) hk (fun a h => rfl) (fun a h => up2_ne h) (Or.inl rfl) (Or.inl rfl) (Or.inl rfl) (by
    show (.inl (gC G 2, 2, .inl (up2 (sA σ) k i (vp_nar .boolean y) k)) : va_E) = _
    rw [up2_same]) (fun a ha e h => by rw [hk] at h; omega)) kk)
theorem V.ld3 {i : Nat} {x : Int32} (hd : decode T.2.1 pc = .ok (.aaload, 1)) (hx : x = nI i) (hi : i < 8) (hq : pc + 1 = q) (kk : V l G T d mc ms Q ce sl q L (.ref (gB G + (24 + 7 * i)) :: st) (hof G σ) NC) : V l G T d mc ms Q ce sl pc L (.int x :: .ref (gB G + 15) :: st) (hof G σ) NC :=
  V.aald (t0 := 4) hd (hof_at (k := 15) (c := 3) rfl) (by decide) rfl hi (by decide) hx (by simp [rfA, hi]) hq kk
theorem V.ld4 {i : Nat} {x : Int32} (hd : decode T.2.1 pc = .ok (.aaload, 1)) (hx : x = nI i) (hi : i < 2) (hq : pc + 1 = q) (kk : V l G T d mc ms Q ce sl q L (.ref (gB G + (80 + 7 * i)) :: st) (hof G σ) NC) : V l G T d mc ms Q ce sl pc L (.int x :: .ref (gB G + 16) :: st) (hof G σ) NC :=
  V.aald (t0 := 4) hd (hof_at (k := 16) (c := 4) rfl) (by decide) rfl hi (by decide) hx (by simp [rfA, hi]) hq kk
theorem V.ld8 {i a : Nat} {x : Int32} (hd : decode T.2.1 pc = .ok (.aaload, 1)) (hx : x = nI i) (hi : i < 501) (hf : sK σ i = some a) (hq : pc + 1 = q) (kk : V l G T d mc ms Q ce sl q L (.ref a :: st) (hof G σ) NC) : V l G T d mc ms Q ce sl pc L (.int x :: .ref (gB G + 20) :: st) (hof G σ) NC :=
  V.aald (t0 := 5) hd (hof_at (k := 20) (c := 8) rfl) (by decide) rfl hi (by decide) hx hf hq kk
theorem V.cp2 {k0 k1 z idx : Nat} {sp dp nn : Int32} (hd : decode T.2.1 pc = .ok (.invokestatic idx, 3)) (hw : Cond.methodLink T.1.cls idx arraycopyName ∈ BW) (hnat : Cond.native arraycopyName ∈ BW) (hstt : Cond.static arraycopyName ∈ BW) (hini : Cond.initialized "java/lang/System" ∈ BW) (hk0 : kd k0 = 2) (hk1 : kd k1 = 2) (hx : sp = nI 0) (hy : dp = nI 0) (hz : nn = nI z) (hz4 : z ≤ 40) (h8 : cat8 st = true) (hdd : decide (2 ≤ d) = true) (hq : pc + 3 = q) (kk : V l G T d mc ms Q ce sl q L st (hof G (stAr σ k1 (va_cpy (sA σ k0) (sA σ k1) 0 0 z))) NC) : V l G T d mc ms Q ce sl pc L (.int nn :: .int dp :: .ref (gB G + k1) :: .int sp :: .ref (gB G + k0) :: st) (hof G σ) NC :=
  V.copy (t0 := 0) (ty := .int) hd hw hnat hstt hini (hof_at hk0) (hof_at hk1) rfl (kd_lt hk0 (by decide)) (kd_lt hk1 (by decide)) rfl rfl hx hy hz (by omega) (by omega) (by decide) (by decide) (fun _ => rfl) h8 (of_decide_eq_true hdd) hq (V.hm (hof_set (τ := stAr σ k1 (va_cpy (sA σ k0) (sA σ k1) 0 0 z)) hk1 (fun a h => rfl) (fun a h => by simp [stAr, sA, h]) (Or.inl rfl) (Or.inl rfl) (Or.inl rfl) (by
    show (.inl (gC G 0, 40, .inl (if k1 = k1 then _ else _)) : va_E) = _
    rw [if_pos rfl]) (fun a ha e h => by rw [hk1] at h; omega)) kk)
end TY2
