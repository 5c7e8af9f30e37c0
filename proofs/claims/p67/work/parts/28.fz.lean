/-! ticks until all are done, at most k of them -/
def fin (u : Vw) : Prop := many u 3 = un u
def fzu : Nat → Vw → Vw
  | 0, u => u
  | k + 1, u => if many u 3 = un u then u else fzu k (tk u)
def fzn : Nat → Vw → Nat
  | 0, _ => 0
  | k + 1, u => if many u 3 = un u then 0 else fzn k (tk u) + 1
theorem fzu_fin {k : Nat} {u : Vw} (h : many u 3 = un u) : fzu k u = u := by
  cases k with
  | zero => rfl
  | succ k => simp only [fzu]; rw [if_pos h]
theorem fzn_fin {k : Nat} {u : Vw} (h : many u 3 = un u) : fzn k u = 0 := by
  cases k with
  | zero => rfl
  | succ k => simp only [fzn]; rw [if_pos h]
theorem fzu_step {k : Nat} {u : Vw} (h : ¬ many u 3 = un u) : fzu (k + 1) u = fzu k (tk u) := by
  simp only [fzu]; rw [if_neg h]
theorem fzn_step {k : Nat} {u : Vw} (h : ¬ many u 3 = un u) : fzn (k + 1) u = fzn k (tk u) + 1 := by
  simp only [fzn]; rw [if_neg h]
theorem tk_3 (u : Vw) : us (tk u) 3 = us u 3 + 1 := (upd_at : upd (us (tk0 u)) 3 (us u 3 + 1) 3 = us u 3 + 1)
def uT (u : Vw) : Nat := (us u 3).toNatClampNeg
theorem Iu.T {u : Vw} (h : Iu u) : us u 3 = nI (uT u) ∧ (uT u : Int) = (us u 3).toInt := ⟨nI_back h.2.2.2.2.1.1, clamp_int h.2.2.2.2.1.1⟩
theorem tk_T {u : Vw} (h : Iu u) : uT (tk u) = uT u + 1 ∧ us (tk u) 3 = nI (uT u + 1) := by
  have h1 := h.T
  have h2 := h.2.2.2.2.1.2
  have e : us (tk u) 3 = nI (uT u + 1) := by rw [tk_3, h1.1, nI_1]
  exact ⟨by unfold uT at *; rw [e, nI_clamp (by omega)], e⟩
theorem Iu_tkN {u : Vw} (h : Iu u) (ht : uT u < 10000000) : Iu (tk u) := Iu_tk h (by have := h.T.2; omega)
theorem fz_Iu : ∀ (k : Nat) (u : Vw), Iu u → uT u + k ≤ 10000000 → Iu (fzu k u) ∧ uT (fzu k u) = uT u + fzn k u ∧ fzn k u ≤ k
  | 0, u, h, _ => ⟨h, rfl, Nat.le_refl _⟩
  | k + 1, u, h, hb => by
    by_cases hf : many u 3 = un u
    · rw [fzu_fin hf, fzn_fin hf]
      exact ⟨h, rfl, Nat.zero_le _⟩
    · rw [fzu_step hf, fzn_step hf]
      have h1 := Iu_tkN h (by omega)
      have h2 := (tk_T h).1
      obtain ⟨a, b, c⟩ := fz_Iu k (tk u) h1 (by omega)
      exact ⟨a, by omega, by omega⟩
/-- two simulations lie apart -/
theorem sims_apart {p r : Nat} (hp : kd p = 1) (hr : kd r = 1) (hne : p ≠ r) : r + 6 < p ∨ p + 6 < r := by
  have key : ∀ a, a < 94 → kd a = 1 → (a % 7 = 1 ∧ a < 15) ∨ (a % 7 = 3 ∧ 24 ≤ a) := by decide +kernel
  have h1 := key p (kd_lt hp (by decide)) hp
  have h2 := key r (kd_lt hr (by decide)) hr
  omega
theorem RC.fr {σ τ : St} {p r : Nat} {u : Vw} {qq : Nat → Nat} (h : RC σ r u qq) (hf : FrS p σ τ) (ha : r + 6 < p ∨ p + 6 < r) : RC τ r u qq := by
  obtain ⟨h1, h2, h3, h4, h5, h6, h7, h8⟩ := h
  have e1 : ∀ j, sF τ r j = sF σ r j := fun j => by rw [hf.1 r (by omega)]
  have e2 : ∀ k j, r ≤ k → k ≤ r + 6 → sA τ k j = sA σ k j := fun k j ha1 ha2 => by rw [hf.2.1 k (by omega)]
  exact ⟨h1, fun j hj => (e1 j).trans (h2 j hj), (e1 10).trans h3, (e1 11).trans h4, (e1 12).trans h5, fun c i hc hi => (e2 _ i (by omega) (by omega)).trans (h6 c i hc hi), fun i hi => (e2 _ i (by omega) (by omega)).trans (h7 i hi), h8⟩
theorem RC.frsc {σ : St} {p r j : Nat} {u : Vw} {qq : Nat → Nat} (ha : r + 6 < p ∨ p + 6 < r) (x : Int32) (h : RC σ r u qq) : RC (stF σ p j x) r u qq := h.fr (FrS.sc (p := p) FrS.rf) ha
theorem RC.frar {σ : St} {p r k : Nat} {u : Vw} {qq : Nat → Nat} (ha : r + 6 < p ∨ p + 6 < r) (h1 : p + 1 ≤ k) (h2 : k ≤ p + 6) (f : Nat → Int32) (h : RC σ r u qq) : RC (stAr σ k f) r u qq := h.fr (FrS.arr (p := p) FrS.rf h1 h2) ha
section PB
variable {l : Launch} {G : GG} {T : MT} {d mc ms ce sl : Nat} {Q : PQ} {pc q : Nat} {L : List (Option Value)} {st : List Value} {σ : St}
theorem V.pSb {k idx : Nat} {x : Int32} (hd : decode T.2.1 pc = .ok (.putfield idx, 3)) (hk : kd k = 1) (hw : Cond.fieldLink T.1.cls idx RX3 (TX3 5).2.1 (TX3 5).2.2.1 ∈ BW) (hb : x = 0 ∨ x = 1) (hq : pc + 3 = q) (kk : V l G T d mc ms Q ce sl q L st (hof G (stF σ k 5 x)) NC) : V l G T d mc ms Q ce sl pc L (.int x :: .ref (gB G + k) :: st) (hof G σ) NC := by
  rcases hb with rfl | rfl
  · exact V.pS (j := 5) hd hk hw rfl rfl rfl rfl rfl hq kk
  · exact V.pS (j := 5) hd hk hw rfl rfl rfl rfl rfl hq kk
end PB
/-- what copyFrom has copied: the first k scalars; the first c rows -/
def cpV (u : Vw) (j : Nat) : Int32 := if j < 10 then us u j else if j = 10 then nI (un u) else if j = 11 then nI (many u 2) else nI (many u 3)
def CpF (τ : St) (p : Nat) (u : Vw) (k : Nat) : Prop := ∀ j, j < k → sF τ p j = cpV u j
theorem CpF.step {τ : St} {p k : Nat} {u : Vw} {x : Int32} (h : CpF τ p u k) (hx : x = cpV u k) : CpF (stF τ p k x) p u (k + 1) := fun j hj => by
  show up2 (sF τ) p k x p j = _
  rw [up2_same]
  by_cases e : j = k
  · subst e; rw [upd_at]; exact hx
  · rw [upd_in e]; exact h j (by omega)
def cpR (u : Vw) (qq : Nat → Nat) (c i : Nat) : Int32 := if c < 5 then ur u c i else nI (qq i)
def CpR (τ : St) (p : Nat) (u : Vw) (qq : Nat → Nat) (k : Nat) : Prop := ∀ c, c < k → ∀ i, i < un u → sA τ (p + 1 + c) i = cpR u qq c i
theorem CpR.step {τ : St} {p k : Nat} {u : Vw} {qq : Nat → Nat} {f : Nat → Int32} (h : CpR τ p u qq k) (hf : ∀ i, i < un u → f i = cpR u qq k i) : CpR (stAr τ (p + 1 + k) f) p u qq (k + 1) := fun c hc i hi => by
  by_cases e : c = k
  · subst e
    have e2 : sA (stAr τ (p + 1 + c) f) (p + 1 + c) = f := by simp [stAr, sA]
    rw [e2]; exact hf i hi
  · have e2 : sA (stAr τ (p + 1 + k) f) (p + 1 + c) = sA τ (p + 1 + c) := by
      simp [stAr, sA, e]
    rw [e2]; exact h c (by omega) i hi
theorem CpR.sc {τ : St} {p k j : Nat} {u : Vw} {qq : Nat → Nat} {x : Int32} (h : CpR τ p u qq k) : CpR (stF τ p j x) p u qq k := h
theorem CpF.arr {τ : St} {p k j : Nat} {u : Vw} {f : Nat → Int32} (h : CpF τ p u k) : CpF (stAr τ j f) p u k := h
theorem RC.rowR {σ : St} {r : Nat} {u : Vw} {qq : Nat → Nat} (h : RC σ r u qq) {c i : Nat} (hc : c < 6) (hi : i < un u) : sA σ (r + 1 + c) i = cpR u qq c i := by
  unfold cpR
  by_cases e : c < 5
  · rw [if_pos e]; exact h.2.2.2.2.2.1 c i e hi
  · rw [if_neg e, show c = 5 by omega]; exact h.2.2.2.2.2.2.1 i hi
theorem RC.cpy {σ : St} {r k : Nat} {u : Vw} {qq : Nat → Nat} (h : RC σ r u qq) (hk : k < 6) {g : Nat → Int32} : ∀ i, i < un u → va_cpy (sA σ (r + 1 + k)) g 0 0 (un u) i = cpR u qq k i := fun i hi => by
  rw [pk_cpy_in (Nat.zero_le _) (by omega), Nat.zero_add, Nat.sub_zero]
  exact h.rowR hk hi
theorem RC.made {τ : St} {p : Nat} {u : Vw} {qq : Nat → Nat} (hn : un u ≤ 40) (hq : Qok u qq) (h : CpF τ p u 13) (h2 : CpR τ p u qq 6) : RC τ p u qq := by
  refine ⟨hn, fun j hj => ?_, ?_, ?_, ?_, fun c i hc hi => ?_, fun i hi => ?_, hq⟩
  · rw [h j (by omega)]; unfold cpV; rw [if_pos hj]
  · rw [h 10 (by decide)]; rfl
  · rw [h 11 (by decide)]; rfl
  · rw [h 12 (by decide)]; rfl
  · rw [h2 c (by omega) i hi]; unfold cpR; rw [if_pos hc]
  · exact h2 5 (by decide) i hi
theorem RC.frcp {σ : St} {p r k a b n : Nat} {u : Vw} {qq : Nat → Nat} (ha : r + 6 < p ∨ p + 6 < r) (h1 : p + 1 ≤ k) (h2 : k ≤ p + 6) (h : RC σ r u qq) : RC (stAr σ k (va_cpy (sA σ a) (sA σ b) 0 0 n)) r u qq := h.frar ha h1 h2 _
theorem FrS.cp {p k a b n : Nat} {σ τ : St} (h1 : p + 1 ≤ k) (h2 : k ≤ p + 6) (h : FrS p σ τ) : FrS p σ (stAr τ k (va_cpy (sA τ a) (sA τ b) 0 0 n)) := h.arr h1 h2
theorem CpF.cp {p k a b n m : Nat} {τ : St} {u : Vw} (h : CpF τ p u m) : CpF (stAr τ k (va_cpy (sA τ a) (sA τ b) 0 0 n)) p u m := h.arr
theorem CpR.cp {τ : St} {p r k : Nat} {u : Vw} {qq : Nat → Nat} (hk : k < 6) (hR : RC τ r u qq) (h : CpR τ p u qq k) : CpR (stAr τ (p + 1 + k) (va_cpy (sA τ (r + 1 + k)) (sA τ (p + 1 + k)) 0 0 (un u))) p u qq (k + 1) := h.step (hR.cpy hk)
