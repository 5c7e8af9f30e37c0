/-! the law's texts, and what a load of one says -/
def TL (t : Nat → Nat) (c : Nat) (M : List Nat) : Prop := c = M.length ∧ ∀ i, i < c → t i = M.getD i 0
theorem getD_app_l {M S : List Nat} {i : Nat} (h : i < M.length) : (M ++ S).getD i 0 = M.getD i 0 := by
  rw [List.getD_eq_getElem?_getD, List.getD_eq_getElem?_getD, List.getElem?_append_left h]
theorem getD_app_r {M S : List Nat} {i : Nat} : (M ++ S).getD (M.length + i) 0 = S.getD i 0 := by
  rw [List.getD_eq_getElem?_getD, List.getD_eq_getElem?_getD, List.getElem?_append_right (Nat.le_add_right _ _), Nat.add_sub_cancel_left]
theorem TL.nil {t : Nat → Nat} : TL t 0 [] := ⟨rfl, fun i hi => absurd hi (Nat.not_lt_zero i)⟩
theorem TL.cat {t s : Nat → Nat} {c k : Nat} {M S : List Nat} (h : TL t c M) (h2 : TL s k S) : TL (sb_cat t c s) (c + k) (M ++ S) := by
  obtain ⟨rfl, h1⟩ := h
  obtain ⟨rfl, h3⟩ := h2
  refine ⟨by rw [List.length_append], fun i hi => ?_⟩
  rcases Nat.lt_or_ge i M.length with z | z
  · rw [sb_cat_lo z, getD_app_l z]; exact h1 i z
  · obtain ⟨j, rfl⟩ : ∃ j, i = M.length + j := ⟨i - M.length, by omega⟩
    rw [sb_cat_hi, getD_app_r]
    exact h3 j (by omega)
/-- a number's letters -/
def dL (v : Nat) : List Nat := if v < 10 then [48 + v] else [48 + v / 10, 48 + v % 10]
theorem dL_1 {v : Nat} (h : v < 10) : dL v = [48 + v] := if_pos h
theorem dL_2 {v : Nat} (h : 10 ≤ v) : dL v = [48 + v / 10, 48 + v % 10] := if_neg (by omega)
theorem dL_len (v : Nat) : 1 ≤ (dL v).length ∧ (dL v).length ≤ 2 := by
  unfold dL
  split
  · exact ⟨Nat.le_refl _, Nat.le_of_ble_eq_true rfl⟩
  · exact ⟨Nat.le_of_ble_eq_true rfl, Nat.le_refl _⟩
theorem TL.dec {v : Nat} (hv : v < 100) : TL (sb_dec v) (sb_dg v) (dL v) := by
  rcases Nat.lt_or_ge v 10 with z | z
  · rw [dL_1 z, sz_1 z]
    refine ⟨rfl, fun i hi => ?_⟩
    obtain rfl : i = 0 := by omega
    exact dg_1 z
  · rw [dL_2 z, sz_2 z hv]
    refine ⟨rfl, fun i hi => ?_⟩
    rcases (show i = 0 ∨ i = 1 by omega) with rfl | rfl
    · exact dg_20 z hv
    · exact dg_21 z hv
theorem TL.chr {v : Nat} : TL (fun _ => v) 1 [v] := ⟨rfl, fun i hi => by
  obtain rfl : i = 0 := by omega
  rfl⟩
theorem TL.j8 : TL (jT 8) (jLen 8) [108, 105, 102, 116, 32] := ⟨by decide +kernel, by decide +kernel⟩
theorem TL.j9 : TL (jT 9) (jLen 9) [32, 102, 105, 114, 115, 116, 59] := ⟨by decide +kernel, by decide +kernel⟩
theorem TL.j10 : TL (jT 10) (jLen 10) [32, 110, 101, 97, 114, 101, 115, 116, 59] := ⟨by decide +kernel, by decide +kernel⟩
theorem TL.j11 : TL (jT 11) (jLen 11) [32, 115, 119, 101, 101, 112, 59] := ⟨by decide +kernel, by decide +kernel⟩
theorem TL.j12 : TL (jT 12) (jLen 12) [99, 97, 108, 108, 32] := ⟨by decide +kernel, by decide +kernel⟩
theorem TL.j13 : TL (jT 13) (jLen 13) [32, 97, 116, 32] := ⟨by decide +kernel, by decide +kernel⟩
/-! a text from a place on -/
def At (o : Txt) (P : Nat) (S : List Nat) : Prop := P + S.length = o.1 ∧ ∀ i, i < S.length → o.2 (P + i) = nI (S.getD i 0) ∧ S.getD i 0 < 128
section AT
variable {o : Txt} {P K c v : Nat} {S R w : List Nat}
theorem At.tl (h : At o P (c :: S)) : At o (P + 1) S := ⟨by
  have h1 := h.1
  rw [List.length_cons] at h1
  omega, fun i hi => by
  have h2 := h.2 (i + 1) (by rw [List.length_cons]; omega)
  rw [show P + 1 + i = P + (i + 1) by omega]
  exact h2⟩
theorem At.lt (h : At o P (c :: S)) : P < o.1 := by
  have h1 := h.1
  rw [List.length_cons] at h1
  omega
theorem At.b0 (h : At o P (c :: S)) : bc o P = c := by
  obtain ⟨h1, h2⟩ := h.2 0 (by rw [List.length_cons]; omega)
  have h1' : o.2 P = nI c := h1
  have h2' : c < 128 := h2
  unfold bc
  rw [if_pos h.lt, h1', c255 c h2', nI_clamp (by omega)]
theorem At.skip : ∀ {w : List Nat} {P : Nat}, At o P (w ++ S) → At o (P + w.length) S
  | [], P, h => h
  | x :: w, P, h => by
    have h' : At o P (x :: (w ++ S)) := h
    have h2 := At.skip h'.tl
    rw [List.length_cons, show P + (w.length + 1) = P + 1 + w.length by omega]
    exact h2
theorem At.scan {p : Nat → Bool} (hp : p 999 = false) : ∀ {w : List Nat} {P : Nat}, At o P (w ++ S) → (∀ x, x ∈ w → p x = true) → (∀ c R, S = c :: R → p c = false) → sc p o P = P + w.length
  | [], P, h, _, hS => by
    cases S with
    | nil =>
      refine sc_no ?_
      have h1 := h.1
      rw [bc_out (by simp at h1; omega)]
      exact hp
    | cons c R =>
      have h' : At o P (c :: R) := h
      exact sc_no (by rw [h'.b0]; exact hS c R rfl)
  | x :: w, P, h, hw, hS => by
    have h' : At o P (x :: (w ++ S)) := h
    rw [sc_go hp (by rw [h'.b0]; exact hw x List.mem_cons_self), At.scan hp h'.tl (fun y hy => hw y (List.mem_cons_of_mem _ hy)) hS, List.length_cons]
    omega
theorem At.sp0 (h : At o P S) (hS : ∀ c R, S = c :: R → spN c = false) : spE o P = P := At.scan (w := []) sp9 h (fun x hx => nomatch hx) hS
theorem At.sp1 (h : At o P (32 :: S)) (hS : ∀ c R, S = c :: R → spN c = false) : spE o P = P + 1 := At.scan (w := [32]) sp9 h (fun x hx => by
  rw [List.mem_singleton] at hx
  rw [hx]; rfl) hS
theorem At.word (h : At o P (w ++ S)) (hK : K < 23) (hw : wd (ev_tx.getD K 0) = w.map nI) (hl : ∀ x, x ∈ w → leN x = true) (hn : w ≠ []) (hS : ∀ c R, S = c :: R → leN c = false) : kn o P = K ∧ nen o P = P + w.length := by
  have hsc := At.scan le9 h hl hS
  cases w with
  | nil => exact absurd rfl hn
  | cons x w =>
    have h0 : At o P (x :: (w ++ S)) := h
    have hx : leN (bc o P) = true := by rw [h0.b0]; exact hl x List.mem_cons_self
    have hne : nen o P = P + (x :: w).length := by unfold nen; rw [if_pos hx]; exact hsc
    refine ⟨?_, hne⟩
    unfold kn
    rw [if_pos h0.lt, if_neg (by rw [le_dg hx]; decide), kof_is hK, isWd_iff, hw, hne]
    refine ⟨by rw [List.length_map]; omega, fun i hi => ?_⟩
    rw [List.length_map] at hi
    have h2 := (h.2 i (by rw [List.length_append]; omega)).1
    rw [getD_app_l hi] at h2
    rw [h2, List.getD_eq_getElem?_getD, List.getD_eq_getElem?_getD, List.getElem?_map, List.getElem?_eq_getElem hi]
    rfl
theorem dg_sp {c : Nat} (h : dgN c = true) : spN c = false := by
  unfold dgN at h
  simp only [Bool.and_eq_true, decide_eq_true_eq] at h
  unfold spN
  simp only [Bool.or_eq_false_iff, decide_eq_false_iff_not]
  omega
theorem le_sp {c : Nat} (h : leN c = true) : spN c = false := by
  unfold leN at h
  simp only [Bool.and_eq_true, decide_eq_true_eq] at h
  unfold spN
  simp only [Bool.or_eq_false_iff, decide_eq_false_iff_not]
  omega
theorem dg_le {c : Nat} (h : dgN c = true) : leN c = false := by
  cases e : leN c with
  | false => rfl
  | true => rw [le_dg e] at h; cases h
theorem dg_d {d : Nat} (h : d < 10) : dgN (48 + d) = true := by
  unfold dgN
  simp only [Bool.and_eq_true, decide_eq_true_eq]
  omega
theorem dL_dg (hv : v < 100) : ∀ x, x ∈ dL v → dgN x = true := by
  intro x hx
  rcases Nat.lt_or_ge v 10 with z | z
  · rw [dL_1 z, List.mem_singleton] at hx
    rw [hx]; exact dg_d z
  · rw [dL_2 z] at hx
    simp only [List.mem_cons, List.not_mem_nil, or_false] at hx
    rcases hx with rfl | rfl
    · exact dg_d (by omega)
    · exact dg_d (by omega)
theorem dL_hd (hv : v < 100) : ∀ c R, dL v ++ S = c :: R → dgN c = true := by
  intro c R e
  have h9 := dL_dg hv
  have hl := dL_len v
  generalize dL v = D at *
  cases D with
  | nil => exact absurd hl.1 (by decide)
  | cons x D =>
    have : x = c := (List.cons.inj e).1
    rw [← this]
    exact h9 x List.mem_cons_self
theorem At.num (hv : v < 100) (h : At o P (dL v ++ S)) (hS : ∀ c R, S = c :: R → dgN c = false) : kn o P = 23 ∧ vl o P = v ∧ nen o P = P + (dL v).length := by
  have hsc := At.scan dg9 h (dL_dg hv) hS
  have hd : dgN (bc o P) = true := by
    rcases Nat.lt_or_ge v 10 with z | z
    · rw [dL_1 z] at h
      have h0 : At o P ((48 + v) :: S) := h
      rw [h0.b0]; exact dg_d z
    · rw [dL_2 z] at h
      have h0 : At o P ((48 + v / 10) :: ((48 + v % 10) :: S)) := h
      rw [h0.b0]; exact dg_d (by omega)
  have hne : nen o P = P + (dL v).length := by
    unfold nen
    rw [if_neg (by rw [dg_le hd]; decide), if_pos hd]
    exact hsc
  refine ⟨kn_num.mpr hd, ?_, hne⟩
  have hl := dL_len v
  unfold vl
  rw [if_pos hd, hne, Nat.add_sub_cancel_left, if_neg (by omega)]
  rcases Nat.lt_or_ge v 10 with z | z
  · rw [dL_1 z] at h ⊢
    have h0 : At o P ((48 + v) :: S) := h
    show 0 * 10 + (bc o P - 48) = v
    rw [h0.b0]
    omega
  · rw [dL_2 z] at h ⊢
    have h0 : At o P ((48 + v / 10) :: ((48 + v % 10) :: S)) := h
    show (0 * 10 + (bc o P - 48)) * 10 + (bc o (P + 1) - 48) = v
    rw [h0.b0, h0.tl.b0]
    omega
theorem At.nx0 (h : At o P (w ++ S)) (hn : nen o P = P + w.length) (hS : ∀ c R, S = c :: R → spN c = false) : At o (nx o P) S := by
  have h2 := h.skip
  unfold nx
  rw [hn, h2.sp0 hS]
  exact h2
theorem At.nx1 (h : At o P (w ++ 32 :: S)) (hn : nen o P = P + w.length) (hS : ∀ c R, S = c :: R → spN c = false) : At o (nx o P) S := by
  have h2 := h.skip
  unfold nx
  rw [hn, h2.sp1 hS]
  exact h2.tl
theorem At.semi (hb : byT o) (h : At o P (59 :: S)) (hS : ∀ c R, S = c :: R → spN c = false) : kn o P = 20 ∧ At o (nx o P) S :=
  ⟨(kn_semi hb).mpr h.b0, At.nx0 (w := [59]) h (nen_sym h.b0 rfl rfl) hS⟩
end AT
theorem numR_i {o : Txt} {P lo hi v : Nat} (h1 : kn o P = 23) (h2 : vl o P = v) (h3 : lo ≤ v) (h4 : v ≤ hi) : numR o P lo hi = .inr (v, nx o P) := by
  unfold numR
  rw [if_pos h1, h2, if_pos ⟨h3, h4⟩]
theorem bnd_i {α β : Type} {a : α} {f : α → Er ⊕ β} : bnd (.inr a) f = f a := rfl
/-! the calls -/
abbrev Cl : Type := Nat × Nat × Option Nat
def atT (a : Option Nat) : List Nat := match a with
  | none => []
  | some t => [32, 97, 116] ++ 32 :: dL t
def clT (c : Cl) : List Nat := [99, 97, 108, 108] ++ 32 :: (dL c.1 ++ 32 :: (dL c.2.1 ++ (atT c.2.2 ++ [59])))
def clsT : List Cl → List Nat
  | [] => []
  | c :: r => clT c ++ clsT r
def clOk (N : Nat) (c : Cl) : Prop := c.1 < N ∧ c.2.1 < N ∧ c.2.1 ≠ c.1 ∧ ∀ t, c.2.2 = some t → t < 100
def adds (u : Vw) : List Cl → Vw
  | [] => u
  | c :: r => adds (addu u (nI c.1) (nI c.2.1) (nI (c.2.2.getD 0))) r
theorem clsT_app (a : List Cl) (c : Cl) : clsT (a ++ [c]) = clsT a ++ clT c := by
  induction a with
  | nil => simp [clsT]
  | cons x a ih =>
    show clT x ++ clsT (a ++ [c]) = clT x ++ clsT a ++ clT c
    rw [ih, List.append_assoc]
theorem clT_len (c : Cl) : (clT c).length ≤ 17 ∧ 10 ≤ (clT c).length + 1 := by
  unfold clT
  have h1 := dL_len c.1
  have h2 := dL_len c.2.1
  have h3 : (atT c.2.2).length ≤ 6 := by
    unfold atT
    split
    · exact Nat.zero_le _
    · rename_i t _
      have := dL_len t
      simp only [List.length_append, List.length_cons, List.length_nil]
      omega
  simp only [List.length_append, List.length_cons, List.length_nil]
  omega
theorem clsT_len : ∀ a : List Cl, (clsT a).length ≤ 17 * a.length
  | [] => Nat.le_refl _
  | c :: a => by
    have h1 := clsT_len a
    have h2 := clT_len c
    show (clT c ++ clsT a).length ≤ _
    rw [List.length_append, List.length_cons]
    omega
theorem clsT_hd {a : List Cl} : ∀ c R, clsT a = c :: R → spN c = false := by
  intro c R e
  cases a with
  | nil => cases e
  | cons x a =>
    have e2 : clsT (x :: a) = 99 :: (([97, 108, 108] ++ 32 :: (dL x.1 ++ 32 :: (dL x.2.1 ++ (atT x.2.2 ++ [59])))) ++ clsT a) := rfl
    rw [e2] at e
    rw [← (List.cons.inj e).1]
    rfl
theorem At.call {o : Txt} {P k : Nat} {c : Cl} {S : List Nat} {u : Vw} (hb : byT o) (h : At o P (clT c ++ S)) (hS : ∀ x R, S = x :: R → spN x = false) (h20 : uN u ≤ 20) (hc : clOk (uN u) c) (ht : uT u = 0) (hn : un u < 40) :
    kn o P = 5 ∧ ∃ P2, At o P2 S ∧ cmdR o (P, u, k) = .inr (P2, addu u (nI c.1) (nI c.2.1) (nI (c.2.2.getD 0)), k + 1) := by
  obtain ⟨c1, c2, c3, c4⟩ := hc
  have a0 : At o P ([99, 97, 108, 108] ++ 32 :: (dL c.1 ++ 32 :: (dL c.2.1 ++ (atT c.2.2 ++ 59 :: S)))) := by
    have e : clT c ++ S = [99, 97, 108, 108] ++ 32 :: (dL c.1 ++ 32 :: (dL c.2.1 ++ (atT c.2.2 ++ 59 :: S))) := by
      unfold clT
      simp only [List.append_assoc, List.cons_append, List.nil_append]
    rw [e] at h
    exact h
  obtain ⟨k0, n0⟩ := a0.word (K := 5) (by decide) (by decide +kernel) (by decide) (by decide) (fun x R e => by rw [← (List.cons.inj e).1]; rfl)
  have a1 := a0.nx1 n0 (fun x R e => dg_sp (dL_hd (by omega) x R e))
  obtain ⟨k1, v1, n1⟩ := a1.num (by omega) (fun x R e => by rw [← (List.cons.inj e).1]; rfl)
  have a2 := a1.nx1 n1 (fun x R e => dg_sp (dL_hd (by omega) x R e))
  have hat : ∀ x R, atT c.2.2 ++ 59 :: S = x :: R → dgN x = false := fun x R e => by
    unfold atT at e
    split at e
    · rw [← (List.cons.inj (show (59 :: S) = x :: R from e)).1]; rfl
    · rename_i t _
      rw [← (List.cons.inj (show (32 :: ([97, 116] ++ 32 :: dL t ++ 59 :: S)) = x :: R from e)).1]; rfl
  obtain ⟨k2, v2, n2⟩ := a2.num (by omega) hat
  have r1 := numR_i k1 v1 (Nat.zero_le _) (show c.1 ≤ uN u - 1 by omega)
  have r2 := numR_i k2 v2 (Nat.zero_le _) (show c.2.1 ≤ uN u - 1 by omega)
  refine ⟨k0, ?_⟩
  have key : ∃ P4, At o P4 (59 :: S) ∧ calS o (nx o P) u = .inr (P4, addu u (nI c.1) (nI c.2.1) (nI (c.2.2.getD 0))) := by
    unfold calS
    rw [r1, bnd_i]
    dsimp only
    rw [r2, bnd_i]
    dsimp only
    rw [if_neg c3]
    cases e : c.2.2 with
    | none =>
      rw [e] at a2
      have a3 := At.nx0 (S := 59 :: S) a2 n2 (fun x R e => by rw [← (List.cons.inj e).1]; rfl)
      obtain ⟨k3, -⟩ := a3.semi hb hS
      refine ⟨_, a3, ?_⟩
      rw [if_neg (by rw [k3]; decide), bnd_i, ht]
      rfl
    | some t =>
      have ht2 := c4 t e
      rw [e] at a2
      have a2' : At o (nx o (nx o P)) (dL c.2.1 ++ 32 :: ([97, 116] ++ 32 :: (dL t ++ 59 :: S))) := by
        have e2 : atT (some t) ++ 59 :: S = 32 :: ([97, 116] ++ 32 :: (dL t ++ 59 :: S)) := by
          unfold atT
          simp only [List.append_assoc, List.cons_append, List.nil_append]
        rw [e2] at a2
        exact a2
      have a3 := a2'.nx1 n2 (fun x R e => by rw [← (List.cons.inj (show (97 :: ([116] ++ 32 :: (dL t ++ 59 :: S))) = x :: R from e)).1]; rfl)
      obtain ⟨k3, n3⟩ := a3.word (K := 6) (by decide) (by decide +kernel) (by decide) (by decide) (fun x R e => by rw [← (List.cons.inj e).1]; rfl)
      have a4 := a3.nx1 n3 (fun x R e => dg_sp (dL_hd ht2 x R e))
      obtain ⟨k4, v4, n4⟩ := a4.num ht2 (fun x R e => by rw [← (List.cons.inj e).1]; rfl)
      have a5 := a4.nx0 n4 (fun x R e => by rw [← (List.cons.inj e).1]; rfl)
      refine ⟨_, a5, ?_⟩
      rw [if_pos k3, numR_i k4 v4 (by rw [ht]; exact Nat.zero_le _) (by omega), bnd_i]
      rfl
  obtain ⟨P4, a4, e4⟩ := key
  obtain ⟨k5, a5⟩ := a4.semi hb hS
  refine ⟨_, a5, ?_⟩
  have e5 : cmdS o P u = .inr (P4, addu u (nI c.1) (nI c.2.1) (nI (c.2.2.getD 0))) := by
    unfold cmdS
    rw [if_pos k0, if_neg (by omega), e4]
  have e6 : tkR o 20 P4 = .inr (nx o P4) := by
    unfold tkR
    rw [if_pos k5]
  unfold cmdR
  rw [if_neg (by show ¬ kn o P = 4; rw [k0]; decide)]
  unfold smpR smc
  dsimp only
  rw [e5, bnd_i]
  dsimp only
  rw [e6, bnd_i, bnd_i]
theorem At.cmds {o : Txt} (hb : byT o) (ho : o.1 ≤ 500) : ∀ (cs : List Cl) (P : Nat) (u : Vw) (k : Nat), At o P (clsT cs) → (∀ c, c ∈ cs → clOk (uN u) c) → uN u ≤ 20 → uT u = 0 → un u + cs.length ≤ 40 → cmds o (P, u, k) = .inr (o.1, adds u cs, k + cs.length)
  | [], P, u, k, h, _, _, _, _ => by
    have hP : P = o.1 := h.1
    have hk : kn o P = 25 := kn_end.mpr (by omega)
    rw [cmds_step ho (by show P ≤ o.1; omega), if_pos hk, hP]
    rfl
  | c :: cs, P, u, k, h, hc, h20, ht, hn => by
    rw [List.length_cons] at hn
    obtain ⟨k0, P2, a2, e2⟩ := At.call (k := k) hb (S := clsT cs) h clsT_hd h20 (hc c List.mem_cons_self) ht (by omega)
    have hP : P ≤ o.1 := by have := h.1; omega
    rw [cmds_step ho hP, if_neg (by show ¬ kn o P = 25; rw [k0]; decide), e2, bnd_i]
    rw [At.cmds hb ho cs P2 (addu u (nI c.1) (nI c.2.1) (nI (c.2.2.getD 0))) (k + 1) a2 (fun x hx => hc x (List.mem_cons_of_mem _ hx)) h20 ht (by rw [addu_un]; omega)]
    rw [List.length_cons, show k + 1 + cs.length = k + (cs.length + 1) by omega]
    rfl
/-! the whole text -/
def poW (p : Nat) : List Nat := if p = 0 then [102, 105, 114, 115, 116] else if p = 1 then [110, 101, 97, 114, 101, 115, 116] else [115, 119, 101, 101, 112]
def ldT (N C p : Nat) (cs : List Cl) : List Nat := [108, 105, 102, 116] ++ 32 :: (dL N ++ 32 :: (dL C ++ 32 :: (poW p ++ 59 :: clsT cs)))
theorem poW_le {p : Nat} (hp : p ≤ 2) : (∀ x, x ∈ poW p → leN x = true) ∧ poW p ≠ [] ∧ wd (ev_tx.getD (1 + p) 0) = (poW p).map nI ∧ (poW p).length ≤ 7 := by
  rcases (show p = 0 ∨ p = 1 ∨ p = 2 by omega) with rfl | rfl | rfl
  · exact ⟨by decide, by decide, by decide +kernel, by decide⟩
  · exact ⟨by decide, by decide, by decide +kernel, by decide⟩
  · exact ⟨by decide, by decide, by decide +kernel, by decide⟩
theorem poW_hd {p : Nat} (hp : p ≤ 2) {S : List Nat} : ∀ c R, poW p ++ S = c :: R → spN c = false := by
  intro c R e
  rcases (show p = 0 ∨ p = 1 ∨ p = 2 by omega) with rfl | rfl | rfl
  · rw [← (List.cons.inj (show (102 :: ([105, 114, 115, 116] ++ S)) = c :: R from e)).1]; rfl
  · rw [← (List.cons.inj (show (110 :: ([101, 97, 114, 101, 115, 116] ++ S)) = c :: R from e)).1]; rfl
  · rw [← (List.cons.inj (show (115 :: ([119, 101, 101, 112] ++ S)) = c :: R from e)).1]; rfl
theorem ldT_len {N C p : Nat} (hp : p ≤ 2) (cs : List Cl) : (ldT N C p cs).length ≤ 20 + 17 * cs.length := by
  have h1 := dL_len N
  have h2 := dL_len C
  have h3 := (poW_le hp).2.2.2
  have h4 := clsT_len cs
  unfold ldT
  simp only [List.length_append, List.length_cons, List.length_nil]
  omega
theorem load_ok {o : Txt} {N C p : Nat} {cs : List Cl} (h : At o 0 (ldT N C p cs)) (hb : byT o) (ho : o.1 ≤ 500) (hN : 2 ≤ N ∧ N ≤ 20) (hC : 1 ≤ C ∧ C ≤ 8) (hp : p ≤ 2) (hcs : ∀ c, c ∈ cs → clOk N c) (hl : cs.length ≤ 40) :
    loadR o = .inr (o.1, adds (begu (nI N) (nI C) (nI p)) cs, cs.length) := by
  obtain ⟨w1, w2, w3, -⟩ := poW_le hp
  have s0 : spE o 0 = 0 := At.sp0 (S := ldT N C p cs) h (fun x R e => by rw [← (List.cons.inj (show (108 :: ([105, 102, 116] ++ 32 :: (dL N ++ 32 :: (dL C ++ 32 :: (poW p ++ 59 :: clsT cs))))) = x :: R from e)).1]; rfl)
  have a0 : At o 0 ([108, 105, 102, 116] ++ 32 :: (dL N ++ 32 :: (dL C ++ 32 :: (poW p ++ 59 :: clsT cs)))) := h
  obtain ⟨k0, n0⟩ := a0.word (K := 0) (by decide) (by decide +kernel) (by decide) (by decide) (fun x R e => by rw [← (List.cons.inj e).1]; rfl)
  have a1 := a0.nx1 n0 (fun x R e => dg_sp (dL_hd (by omega) x R e))
  obtain ⟨k1, v1, n1⟩ := a1.num (by omega) (fun x R e => by rw [← (List.cons.inj e).1]; rfl)
  have a2 := a1.nx1 n1 (fun x R e => dg_sp (dL_hd (by omega) x R e))
  obtain ⟨k2, v2, n2⟩ := a2.num (by omega) (fun x R e => by rw [← (List.cons.inj e).1]; rfl)
  have a3 := a2.nx1 n2 (poW_hd hp)
  obtain ⟨k3, n3⟩ := a3.word (K := 1 + p) (by omega) w3 w1 w2 (fun x R e => by rw [← (List.cons.inj e).1]; rfl)
  have a4 := a3.nx0 n3 (fun x R e => by rw [← (List.cons.inj e).1]; rfl)
  obtain ⟨k4, a5⟩ := a4.semi hb clsT_hd
  have e0 : tkR o 0 0 = .inr (nx o 0) := by
    unfold tkR
    rw [if_pos k0]
  have e1 := numR_i k1 v1 hN.1 hN.2
  have e2 := numR_i k2 v2 hC.1 hC.2
  have e3 : polR o (nx o (nx o (nx o 0))) = .inr (p, nx o (nx o (nx o (nx o 0)))) := by
    unfold polR
    rcases (show p = 0 ∨ p = 1 ∨ p = 2 by omega) with rfl | rfl | rfl
    · rw [if_pos k3]
    · rw [if_neg (by rw [k3]; decide), if_pos k3]
    · rw [if_neg (by rw [k3]; decide), if_neg (by rw [k3]; decide), if_pos k3]
  have e4 : tkR o 20 (nx o (nx o (nx o (nx o 0)))) = .inr (nx o (nx o (nx o (nx o (nx o 0))))) := by
    unfold tkR
    rw [if_pos k4]
  have eN : uN (begu (nI N) (nI C) (nI p)) = N := by
    show (nI N).toNatClampNeg = N
    exact nI_clamp (by omega)
  have eT : uT (begu (nI N) (nI C) (nI p)) = 0 := rfl
  have key := At.cmds hb ho cs _ (begu (nI N) (nI C) (nI p)) 0 a5 (by rw [eN]; exact hcs) (by rw [eN]; omega) eT (by show 0 + cs.length ≤ 40; omega)
  unfold loadR hdrS
  rw [s0, e0, bnd_i, e1, bnd_i]
  dsimp only
  rw [e2, bnd_i]
  dsimp only
  rw [e3, bnd_i]
  dsimp only
  rw [e4, bnd_i, bnd_i]
  dsimp only
  rw [key, Nat.zero_add]
/-! the building that a load gives -/
theorem adds_un : ∀ (cs : List Cl) (u : Vw), un (adds u cs) = un u + cs.length
  | [], u => rfl
  | c :: cs, u => by
    show un (adds (addu u (nI c.1) (nI c.2.1) (nI (c.2.2.getD 0))) cs) = _
    rw [adds_un cs, addu_un, List.length_cons]
    omega
theorem adds_us : ∀ (cs : List Cl) (u : Vw), us (adds u cs) = us u
  | [], u => rfl
  | c :: cs, u => (adds_us cs (addu u (nI c.1) (nI c.2.1) (nI (c.2.2.getD 0)))).trans rfl
theorem adds_ok : ∀ (cs : List Cl) (u : Vw), Ok u → NB u → (∀ c, c ∈ cs → clOk (uN u) c) → un u + cs.length ≤ 40 → Ok (adds u cs) ∧ NB (adds u cs)
  | [], u, h, h2, _, _ => ⟨h, h2⟩
  | c :: cs, u, h, h2, hc, hn => by
    rw [List.length_cons] at hn
    obtain ⟨c1, c2, c3, c4⟩ := hc c List.mem_cons_self
    have h20 := h.1.F.2.2.2.1
    have ht : c.2.2.getD 0 ≤ 999 := by
      cases e : c.2.2 with
      | none => exact Nat.zero_le _
      | some t => have := c4 t e; show t ≤ 999; omega
    exact adds_ok cs (addu u (nI c.1) (nI c.2.1) (nI (c.2.2.getD 0))) (h.add (by omega) (by omega) (by omega) c3 ht) h2.add (fun x hx => hc x (List.mem_cons_of_mem _ hx)) (by rw [addu_un]; omega)
theorem loaded {N C p : Nat} {cs : List Cl} (hN : 2 ≤ N ∧ N ≤ 20) (hC : 1 ≤ C ∧ C ≤ 8) (hp : p ≤ 2) (hcs : ∀ c, c ∈ cs → clOk N c) (hl : cs.length ≤ 40) :
    WJ (adds (begu (nI N) (nI C) (nI p)) cs) ∧ un (adds (begu (nI N) (nI C) (nI p)) cs) = cs.length ∧ us (adds (begu (nI N) (nI C) (nI p)) cs) 0 = nI N ∧ us (adds (begu (nI N) (nI C) (nI p)) cs) 2 = nI p ∧ us (adds (begu (nI N) (nI C) (nI p)) cs) 3 = 0 := by
  have eN : uN (begu (nI N) (nI C) (nI p)) = N := by
    show (nI N).toNatClampNeg = N
    exact nI_clamp (by omega)
  have hI : Iu (begu (nI N) (nI C) (nI p)) := begu_Iu (by rw [nI_int (by omega)]; omega) (by rw [nI_int (by omega)]; omega) (by rw [nI_int (by omega)]; omega)
  obtain ⟨h1, h2⟩ := adds_ok cs (begu (nI N) (nI C) (nI p)) ⟨hI, Nat.zero_le _⟩ NB.beg (by rw [eN]; exact hcs) (by show 0 + cs.length ≤ 40; omega)
  refine ⟨h2.w h1.1, ?_, ?_, ?_, ?_⟩
  · rw [adds_un]
    show 0 + cs.length = _
    omega
  · rw [adds_us]; rfl
  · rw [adds_us]; rfl
  · rw [adds_us]; rfl
/-! the text as the class keeps it -/
def tO (M : List Nat) : Txt := (M.length, fun i => nI (M.getD i 0))
theorem tO_at {M : List Nat} (h : ∀ i, i < M.length → M.getD i 0 < 128) : At (tO M) 0 M := ⟨Nat.zero_add _, fun i hi => ⟨by
  show nI (M.getD (0 + i) 0) = nI (M.getD i 0)
  rw [Nat.zero_add], h i hi⟩⟩
theorem tO_by {M : List Nat} (h : ∀ i, i < M.length → M.getD i 0 < 128) : byT (tO M) := fun i hi => ⟨Int8.ofNat (M.getD i 0), ((by_key (M.getD i 0) (by have := h i hi; omega)).2.2.2.2 (h i hi)).symm⟩
