/-! the model's copies -/
def FrK (c : Nat) (σ τ : St) : Prop := sF τ = sF σ ∧ (∀ k, k ≠ c → sA τ k = sA σ k) ∧ τ.2.2 = σ.2.2
theorem FrK.rf {c : Nat} {σ : St} : FrK c σ σ := ⟨rfl, fun _ _ => rfl, rfl⟩
theorem FrK.ar {c : Nat} {σ τ : St} {j : Nat} {x : Int32} (h : FrK c σ τ) : FrK c σ (stA τ c j x) := ⟨h.1, fun a ha => (up2_ne ha).trans (h.2.1 a ha), h.2.2⟩
/-- k cells from b on of the array at c are f's -/
def CpA (c : Nat) (σ τ : St) (f : Nat → Int32) (b k : Nat) : Prop := FrK c σ τ ∧ ∀ i, sA τ c i = if b ≤ i ∧ i < b + k then f (i - b) else sA σ c i
theorem CpA.start {c b : Nat} {σ : St} {f : Nat → Int32} : CpA c σ σ f b 0 := ⟨FrK.rf, fun i => by rw [if_neg (by omega)]⟩
theorem CpA.step {c b k : Nat} {σ τ : St} {f : Nat → Int32} {x : Int32} (h : CpA c σ τ f b k) (hx : x = f k) : CpA c σ (stA τ c (b + k) x) f b (k + 1) := ⟨h.1.ar, fun i => by
  show up2 (sA τ) c (b + k) x c i = _
  rw [up2_if]
  by_cases e : i = b + k
  · subst e
    rw [if_pos ⟨rfl, rfl⟩, if_pos (by omega), Nat.add_sub_cancel_left]
    exact hx
  · rw [if_neg (fun z => e z.2), h.2]
    by_cases e2 : b ≤ i ∧ i < b + k
    · rw [if_pos e2, if_pos (by omega)]
    · rw [if_neg e2, if_neg (by omega)]⟩
def RMg (g : Nat → Int32) (u : Vw) : Prop :=
  un u ≤ 40 ∧ (∀ j, j < 10 → g j = us u j) ∧ g 10 = nI (un u) ∧ ∀ i, i < un u → g (11 + 5 * i) = ur u 2 i ∧ g (11 + 5 * i + 1) = ur u 0 i ∧ g (11 + 5 * i + 2) = ur u 1 i ∧ g (11 + 5 * i + 3) = ur u 3 i ∧ g (11 + 5 * i + 4) = ur u 4 i
theorem RMg.congr {g f : Nat → Int32} {u : Vw} (h : RMg g u) (e : ∀ i, i < 211 → f i = g i) : RMg f u := by
  obtain ⟨h1, h2, h3, h4⟩ := h
  refine ⟨h1, fun j hj => (e j (by omega)).trans (h2 j hj), (e 10 (by omega)).trans h3, fun i hi => ?_⟩
  obtain ⟨a, b, c, d, f⟩ := h4 i hi
  exact ⟨(e _ (by omega)).trans a, (e _ (by omega)).trans b, (e _ (by omega)).trans c, (e _ (by omega)).trans d, (e _ (by omega)).trans f⟩
/-- place pl of the model's copies stands for u -/
def KM (σ : St) (pl : Nat) (u : Vw) : Prop := RMg (fun i => sA σ 96 (211 * pl + i)) u
theorem RM.g {σ : St} {u : Vw} (h : RM σ u) : RMg (sA σ 95) u := h
theorem RM.of {σ : St} {u : Vw} (h : RMg (sA σ 95) u) : RM σ u := h
def KeepP (σ τ : St) (pl : Nat) : Prop := FrK 96 σ τ ∧ (∀ i, i < 211 → sA τ 96 (211 * pl + i) = sA σ 95 i) ∧ ∀ i, (i < 211 * pl ∨ 211 * pl + 211 ≤ i) → sA τ 96 i = sA σ 96 i
theorem KeepP.of {σ τ : St} {pl : Nat} (h : CpA 96 σ τ (sA σ 95) (211 * pl) 211) : KeepP σ τ pl := ⟨h.1, fun i hi => by rw [h.2, if_pos (by omega), Nat.add_sub_cancel_left], fun i hi => by rw [h.2, if_neg (by omega)]⟩
theorem KeepP.at {σ τ : St} {pl : Nat} {u : Vw} (h : KeepP σ τ pl) (hM : RM σ u) : KM τ pl u := RMg.congr hM.g (fun i hi => h.2.1 i hi)
theorem KeepP.other {σ τ : St} {pl p2 : Nat} {u : Vw} (h : KeepP σ τ pl) (hne : p2 ≠ pl) (hM : KM σ p2 u) : KM τ p2 u := RMg.congr hM (fun i hi => h.2.2 _ (by omega))
theorem FrK.RM {σ τ : St} {u : Vw} (h : FrK 96 σ τ) (hM : RM σ u) : RM τ u := RMg.congr hM.g (fun i _ => by rw [h.2.1 95 (by decide)])
def BackP (σ τ : St) (pl : Nat) : Prop := FrK 95 σ τ ∧ ∀ i, i < 211 → sA τ 95 i = sA σ 96 (211 * pl + i)
theorem BackP.of {σ τ : St} {pl : Nat} (h : CpA 95 σ τ (fun i => sA σ 96 (211 * pl + i)) 0 211) : BackP σ τ pl := ⟨h.1, fun i hi => by rw [h.2, if_pos (by omega), Nat.sub_zero]⟩
theorem BackP.at {σ τ : St} {pl : Nat} {u : Vw} (h : BackP σ τ pl) (hM : KM σ pl u) : RM τ u := RMg.congr hM (fun i hi => h.2 i hi)
theorem FrK.KM {σ τ : St} {pl : Nat} {u : Vw} (h : FrK 95 σ τ) (hM : KM σ pl u) : KM τ pl u := RMg.congr hM (fun i _ => by rw [h.2.1 96 (by decide)])
/-- the model's remembered states -/
def Hist (σ : St) (r : Nat) (hv : Nat → Vw) : Prop := sF σ 94 3 = nI r ∧ r ≤ 8 ∧ ∀ i, i < r → KM σ i (hv i)
def pushN (r : Nat) : Nat := if r = 8 then 8 else r + 1
def pushV (r : Nat) (hv : Nat → Vw) (u : Vw) : Nat → Vw := if r = 8 then fun i => if i < 7 then hv (i + 1) else u else fun i => if i < r then hv i else u
def FrH (σ τ : St) : Prop := (∀ k j, ¬ (k = 94 ∧ j = 3) → sF τ k j = sF σ k j) ∧ (∀ k, k ≠ 96 → sA τ k = sA σ k) ∧ τ.2.2 = σ.2.2 ∧ ∀ i, 1688 ≤ i → sA τ 96 i = sA σ 96 i
theorem FrH.rf {σ : St} : FrH σ σ := ⟨fun _ _ _ => rfl, fun _ _ => rfl, rfl, fun _ _ => rfl⟩
theorem FrH.trans {σ τ υ : St} (h : FrH σ τ) (h2 : FrH τ υ) : FrH σ υ := ⟨fun k j hk => (h2.1 k j hk).trans (h.1 k j hk), fun k hk => (h2.2.1 k hk).trans (h.2.1 k hk), h2.2.2.1.trans h.2.2.1, fun i hi => (h2.2.2.2 i hi).trans (h.2.2.2 i hi)⟩
theorem FrH.sc {σ : St} {x : Int32} : FrH σ (stF σ 94 3 x) := ⟨fun k j hk => by
  show up2 (sF σ) 94 3 x k j = _
  rw [up2_if, if_neg hk], fun _ _ => rfl, rfl, fun _ _ => rfl⟩
theorem KeepP.fr {σ τ : St} {pl : Nat} (h : KeepP σ τ pl) (hp : pl < 8) : FrH σ τ := ⟨fun k j _ => by rw [h.1.1], h.1.2.1, h.1.2.2, fun i hi => h.2.2 i (by omega)⟩
def ShP (σ τ : St) : Prop := FrK 96 σ τ ∧ (∀ i, i < 1477 → sA τ 96 i = sA σ 96 (i + 211)) ∧ ∀ i, 1477 ≤ i → sA τ 96 i = sA σ 96 i
theorem ShP.of {σ τ : St} (h : CpA 96 σ τ (fun i => sA σ 96 (i + 211)) 0 1477) : ShP σ τ := ⟨h.1, fun i hi => by rw [h.2, if_pos (by omega), Nat.sub_zero], fun i hi => by rw [h.2, if_neg (by omega)]⟩
theorem ShP.fr {σ τ : St} (h : ShP σ τ) : FrH σ τ := ⟨fun k j _ => by rw [h.1.1], h.1.2.1, h.1.2.2, fun i hi => h.2.2 i (by omega)⟩
theorem ShP.KM {σ τ : St} {i : Nat} {u : Vw} (h : ShP σ τ) (hi : i < 7) (hM : KM σ (i + 1) u) : KM τ i u := RMg.congr hM (fun j hj => by
  show sA τ 96 (211 * i + j) = sA σ 96 (211 * (i + 1) + j)
  rw [h.2.1 _ (by omega)]
  congr 1
  omega)
theorem FrH.RM {σ τ : St} {u : Vw} (h : FrH σ τ) (hM : RM σ u) : RM τ u := RMg.congr hM.g (fun i _ => by rw [h.2.1 95 (by decide)])
theorem FrH.KM {σ τ : St} {pl : Nat} {u : Vw} (h : FrH σ τ) (hp : 8 ≤ pl) (hM : KM σ pl u) : KM τ pl u := RMg.congr hM (fun i _ => h.2.2.2 _ (by omega))
theorem KM.sc {σ : St} {pl j k : Nat} {x : Int32} {u : Vw} (h : KM σ pl u) : KM (stF σ k j x) pl u := h
theorem RM.scF {σ : St} {j k : Nat} {x : Int32} {u : Vw} (h : RM σ u) : RM (stF σ k j x) u := h
theorem Hist.push {σ τ : St} {r : Nat} {hv : Nat → Vw} {u : Vw} {x : Int32} (hr : r < 8) (h : ∀ i, i < r → KM σ i (hv i)) (hM : RM σ u) (hk : KeepP σ τ r) (hx : x = nI (r + 1)) : Hist (stF τ 94 3 x) (r + 1) (fun i => if i < r then hv i else u) := by
  refine ⟨(up2_at : up2 (sF τ) 94 3 x 94 3 = x).trans hx, hr, fun i hi => ?_⟩
  by_cases e : i < r
  · simp only [if_pos e]; exact (hk.other (by omega) (h i e)).sc
  · simp only [if_neg e]; rw [show i = r by omega]; exact (hk.at hM).sc
theorem RM.add {σ : St} {u : Vw} {a b t : Int32} (h : RM σ u) (hn : un u < 40) {x : Int32} (hx : x = nI (un u) + 1) : RM (stA (stA (stA (stA (stA (stA σ 95 (11 + 5 * un u) t) 95 (11 + 5 * un u + 1) a) 95 (11 + 5 * un u + 2) b) 95 (11 + 5 * un u + 3) (-1)) 95 (11 + 5 * un u + 4) (-1)) 95 10 x) (addu u a b t) := by
  obtain ⟨h1, h2, h3, h4⟩ := h
  have e : ∀ i, sA (stA (stA (stA (stA (stA (stA σ 95 (11 + 5 * un u) t) 95 (11 + 5 * un u + 1) a) 95 (11 + 5 * un u + 2) b) 95 (11 + 5 * un u + 3) (-1)) 95 (11 + 5 * un u + 4) (-1)) 95 10 x) 95 i = if i = 10 then x else if i = 11 + 5 * un u + 4 then -1 else if i = 11 + 5 * un u + 3 then -1 else if i = 11 + 5 * un u + 2 then b else if i = 11 + 5 * un u + 1 then a else if i = 11 + 5 * un u then t else sA σ 95 i := fun i => by
    show up2 (up2 (up2 (up2 (up2 (up2 (sA σ) 95 (11 + 5 * un u) t) 95 (11 + 5 * un u + 1) a) 95 (11 + 5 * un u + 2) b) 95 (11 + 5 * un u + 3) (-1)) 95 (11 + 5 * un u + 4) (-1)) 95 10 x 95 i = _
    rw [up2_if, up2_if, up2_if, up2_if, up2_if, up2_if]
    simp only [true_and]
  have lo : ∀ i, i < 10 ∨ (11 ≤ i ∧ i < 11 + 5 * un u) → sA (stA (stA (stA (stA (stA (stA σ 95 (11 + 5 * un u) t) 95 (11 + 5 * un u + 1) a) 95 (11 + 5 * un u + 2) b) 95 (11 + 5 * un u + 3) (-1)) 95 (11 + 5 * un u + 4) (-1)) 95 10 x) 95 i = sA σ 95 i := fun i hi => by
    rw [e, if_neg (by omega), if_neg (by omega), if_neg (by omega), if_neg (by omega), if_neg (by omega), if_neg (by omega)]
  refine ⟨by rw [addu_un]; omega, fun j hj => (lo j (by omega)).trans (h2 j hj), ?_, fun i hi => ?_⟩
  · rw [e, if_pos rfl, addu_un, hx]; exact nI_1 _
  · rw [addu_un] at hi
    by_cases ei : i = un u
    · subst ei
      simp only [addu_at]
      refine ⟨?_, ?_, ?_, ?_, ?_⟩
      · rw [e, if_neg (by omega), if_neg (by omega), if_neg (by omega), if_neg (by omega), if_neg (by omega), if_pos rfl]; rfl
      · rw [e, if_neg (by omega), if_neg (by omega), if_neg (by omega), if_neg (by omega), if_pos rfl]; rfl
      · rw [e, if_neg (by omega), if_neg (by omega), if_neg (by omega), if_pos rfl]; rfl
      · rw [e, if_neg (by omega), if_neg (by omega), if_pos rfl]; rfl
      · rw [e, if_neg (by omega), if_pos rfl]; rfl
    · have hi2 : i < un u := by omega
      simp only [addu_in hi2]
      obtain ⟨a1, b1, c1, d1, f1⟩ := h4 i hi2
      exact ⟨(lo _ (by omega)).trans a1, (lo _ (by omega)).trans b1, (lo _ (by omega)).trans c1, (lo _ (by omega)).trans d1, (lo _ (by omega)).trans f1⟩
