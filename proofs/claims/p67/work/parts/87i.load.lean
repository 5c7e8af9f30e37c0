/-! LiftScheduler: load, play -/
def abE (a : Ab) (x y : Int32) : Ab := (aU a, (aR a, aH a), (aB a, aV a), (0, (aI a).2), (x, y), aO a)
def abL (a : Ab) (s : PSt) : Ab := (s.2.1, (0, aH a), ((fun _ => false), aV a), (0, (aI a).2), (0, -1), aO a)
def abP (a : Ab) (s : PSt) : Ab := (s.2.1, (pushN (aR a), pushV (aR a) (aH a) (aU a)), (aB a, aV a), (0, (aI a).2), (0, -1), aO a)
def ldA (a : Ab) (r : Er ⊕ PSt) : Ab := match r with
  | .inl e => abE a (nI e.1) (nI e.2)
  | .inr s => abL a s
def plA (a : Ab) (r : Er ⊕ PSt) : Ab := match r with
  | .inl e => abE a (nI e.1) (nI e.2)
  | .inr s => abP a s
def ansR (r : Er ⊕ PSt) (f : PSt → Nat) : Ans := match r with
  | .inl _ => .inr "java/lang/IllegalArgumentException"
  | .inr s => .inl (some (.int (nI (f s))))
/-- what a script's run may touch -/
def FrQ (σ τ : St) : Prop := (∀ k j, ¬ (k = 0 ∧ j = 8) → k ≠ 19 → k ≠ 8 → sF τ k j = sF σ k j) ∧ (∀ k, ¬ (9 ≤ k ∧ k ≤ 14) → k ≠ 21 → k ≠ 22 → sA τ k = sA σ k)
theorem FrQ.rf {σ : St} : FrQ σ σ := ⟨fun _ _ _ _ _ => rfl, fun _ _ _ _ => rfl⟩
theorem FrQ.trans {σ τ υ : St} (h : FrQ σ τ) (h2 : FrQ τ υ) : FrQ σ υ := ⟨fun k j a b c => (h2.1 k j a b c).trans (h.1 k j a b c), fun k a b c => (h2.2 k a b c).trans (h.2 k a b c)⟩
theorem FrR.q {σ τ : St} (h : FrR σ τ) : FrQ σ τ := ⟨fun k j _ b _ => h.1 k j (fun z => b z.1), fun k _ b c => h.2.1 k b c⟩
theorem FrP.q {σ τ : St} (h : FrP σ τ) : FrQ σ τ := ⟨fun k j _ b c => h.1 k j (fun z => b z.1) c, fun k a _ _ => h.2.1 k a⟩
theorem FrS.q {σ τ : St} (h : FrS 8 σ τ) : FrQ σ τ := h.P8.q
theorem FrQ.len {σ : St} {x : Int32} : FrQ σ (stF σ 0 8 x) := ⟨fun k j a _ _ => by
  show up2 (sF σ) 0 8 x k j = _
  rw [up2_if, if_neg a], fun _ _ _ _ => rfl⟩
theorem FrQ.sim {σ : St} {x : Option Nat} : FrQ σ (stS σ x) := ⟨fun _ _ _ _ _ => rfl, fun _ _ _ _ => rfl⟩
theorem FrQ.a1 {σ τ : St} (h : FrQ σ τ) : FrA1 σ τ := fun k hk _ => ⟨funext (fun j => h.1 k j (by omega) (by omega) (by omega)), h.2 k (by omega) (by omega) (by omega)⟩
theorem FrA1.trans {σ τ υ : St} (h : FrA1 σ τ) (h2 : FrA1 τ υ) : FrA1 σ υ := fun k a b => ⟨(h2 k a b).1.trans (h k a b).1, (h2 k a b).2.trans (h k a b).2⟩
theorem FrRm.a1 {σ τ : St} (h : FrRm σ τ) : FrA1 σ τ := h.ch.a1
theorem CA.k0 {σ : St} {o : Txt} {n P j : Nat} {x : Int32} (h : CA σ o n P) : CA (stF σ 0 j x) o n P := by
  have e : sF (stF σ 0 j x) 19 = sF σ 19 := (up2_ne (by decide) : up2 (sF σ) 0 j x 19 = sF σ 19)
  obtain ⟨⟨i, a, b, c⟩, d, f⟩ := h
  exact ⟨⟨i, a, by rw [e]; exact b, c⟩, by rw [e]; exact d, by rw [e]; exact f⟩
theorem FrQ.RC {σ τ : St} {p : Nat} {u : Vw} {qq : Nat → Nat} (h : FrQ σ τ) (hp : p = 1 ∨ 24 ≤ p) (hR : RC σ p u qq) : RC τ p u qq := hR.keep (funext fun j => h.1 p j (by omega) (by omega) (by omega)) (fun k a b => h.2 k (by omega) (by omega) (by omega))
theorem CL.q {σ τ : St} {a : Ab} {x y : Int32} (h : CL σ a) (hf : FrQ σ τ) (h8 : sF τ 0 8 = 0) (hx : sF τ 19 7 = x) (hy : sF τ 19 8 = y) : CL τ (abE a x y) := by
  obtain ⟨⟨q1, h1⟩, ⟨np, n1, n2, n3, n4, n5⟩, h3, h4, h5, h6⟩ := h
  refine ⟨⟨q1, hf.RC (Or.inl rfl) h1⟩, ⟨np, n1, (hf.1 0 3 (by decide) (by decide) (by decide)).trans n2, (hf.1 0 4 (by decide) (by decide) (by decide)).trans n3, n4, fun i hi => ?_⟩, fun s hs => ⟨by rw [hf.2 17 (by decide) (by decide) (by decide)]; exact (h3 s hs).1, fun hb => ?_⟩, ⟨h8, fun i hi => absurd hi (Nat.not_lt_zero i)⟩, ⟨hx, hy⟩, ⟨(hf.1 0 11 (by decide) (by decide) (by decide)).trans h6.1, fun i hi => by rw [hf.2 23 (by decide) (by decide) (by decide)]; exact h6.2 i hi⟩⟩
  · obtain ⟨q2, hr⟩ := n5 i hi
    exact ⟨q2, hf.RC (Or.inr (by omega)) hr⟩
  · obtain ⟨q2, hr⟩ := (h3 s hs).2 hb
    exact ⟨q2, hf.RC (Or.inr (by omega)) hr⟩
theorem CL.ld {σ τ : St} {b : Ab} {v : Vw} {q : Nat → Nat} {x y : Int32} (h : CL σ b) (hf : FrS 1 σ τ) (hR : RC τ 1 v q) (hx : x = 0) (hy : y = 0) : CL (stA (stA (stF τ 0 4 0) 17 0 x) 17 1 y) (v, (0, aH b), ((fun _ => false), aV b), aI b, (aE b, aP b), aO b) ∧ RC (stA (stA (stF τ 0 4 0) 17 0 x) 17 1 y) 1 v q := by
  obtain ⟨⟨q1, h1⟩, ⟨np, n1, n2, n3, n4, n5⟩, h3, h4, h5, h6⟩ := h
  have eA : ∀ k, k ≠ 17 → sA (stA (stA (stF τ 0 4 0) 17 0 x) 17 1 y) k = sA τ k := fun k hk => (up2_ne hk : up2 (up2 (sA τ) 17 0 x) 17 1 y k = up2 (sA τ) 17 0 x k).trans (up2_ne hk)
  have eF : ∀ k, k ≠ 0 → sF (stA (stA (stF τ 0 4 0) 17 0 x) 17 1 y) k = sF τ k := fun k hk => (up2_ne hk : up2 (sF τ) 0 4 0 k = sF τ k)
  have e0 : ∀ j, j ≠ 4 → sF (stA (stA (stF τ 0 4 0) 17 0 x) 17 1 y) 0 j = sF σ 0 j := fun j hj => (up2_in hj : up2 (sF τ) 0 4 0 0 j = sF τ 0 j).trans (congrFun (hf.1 0 (by decide)) j)
  have hR2 : RC (stA (stA (stF τ 0 4 0) 17 0 x) 17 1 y) 1 v q := hR.keep (eF 1 (by decide)) (fun k a b => eA k (by omega))
  refine ⟨⟨⟨q, hR2⟩, ⟨np, n1, (e0 3 (by decide)).trans n2, (up2_at : up2 (sF τ) 0 4 0 0 4 = 0), Nat.zero_le _, fun i hi => absurd hi (Nat.not_lt_zero i)⟩, fun s hs => ⟨?_, fun hb => by cases hb⟩, ⟨(e0 8 (by decide)).trans h4.1, fun i hi => by rw [eA 18 (by decide), hf.2.1 18 (by decide)]; exact h4.2 i hi⟩, ⟨by rw [eF 19 (by decide), hf.1 19 (by decide)]; exact h5.1, by rw [eF 19 (by decide), hf.1 19 (by decide)]; exact h5.2⟩, ⟨(e0 11 (by decide)).trans h6.1, fun i hi => by rw [eA 23 (by decide), hf.2.1 23 (by decide)]; exact h6.2 i hi⟩⟩, hR2⟩
  show up2 (up2 (sA τ) 17 0 x) 17 1 y 17 s = 0
  rw [up2_if, up2_if, hx, hy]
  rcases (show s = 0 ∨ s = 1 by omega) with rfl | rfl <;> simp
theorem CL.pl {σ τ υ : St} {b : Ab} {v : Vw} {q : Nat → Nat} (h : CL σ b) (hf : FrRm σ τ) (hH : CH τ (pushN (aR b)) (pushV (aR b) (aH b) (aU b))) (hg : FrS 1 τ υ) (hR : RC υ 1 v q) : CL υ (v, (pushN (aR b), pushV (aR b) (aH b) (aU b)), (aB b, aV b), aI b, (aE b, aP b), aO b) := by
  obtain ⟨-, -, h3, h4, h5, h6⟩ := h
  obtain ⟨np, n1, n2, n3, n4, n5⟩ := hH
  have eF : ∀ k j, ¬ (k = 0 ∧ (j = 3 ∨ j = 4)) → ¬ (24 ≤ k ∧ k < 80) → k ≠ 1 → sF υ k j = sF σ k j := fun k j a b c => (congrFun (hg.1 k c) j).trans (hf.1 k j a b)
  have eA : ∀ k, ¬ (24 ≤ k ∧ k < 80) → ¬ (2 ≤ k ∧ k ≤ 7) → sA υ k = sA σ k := fun k a b => (hg.2.1 k (by omega)).trans (hf.2.1 k a)
  refine ⟨⟨q, hR⟩, ⟨np, n1, (congrFun (hg.1 0 (by decide)) 3).trans n2, (congrFun (hg.1 0 (by decide)) 4).trans n3, n4, fun i hi => ?_⟩, fun s hs => ⟨by rw [eA 17 (by decide) (by decide)]; exact (h3 s hs).1, fun hb => ?_⟩, ⟨(eF 0 8 (by decide) (by decide) (by decide)).trans h4.1, fun i hi => by rw [eA 18 (by decide) (by decide)]; exact h4.2 i hi⟩, ⟨(eF 19 7 (by decide) (by decide) (by decide)).trans h5.1, (eF 19 8 (by decide) (by decide) (by decide)).trans h5.2⟩, ⟨(eF 0 11 (by decide) (by decide) (by decide)).trans h6.1, fun i hi => by rw [eA 23 (by decide) (by decide)]; exact h6.2 i hi⟩⟩
  · obtain ⟨q2, hr⟩ := n5 i hi
    exact ⟨q2, hr.fr hg (by omega)⟩
  · obtain ⟨q2, hr⟩ := (h3 s hs).2 hb
    exact ⟨q2, hr.keep (funext fun j => eF _ j (by omega) (by omega) (by omega)) (fun k a b => eA k (by omega) (by omega))⟩
theorem load_h {o : Txt} {e : Er} (h : hdrS o (spE o 0) = .inl e) : loadR o = .inl e := by unfold loadR; rw [h]; rfl
theorem load_c {o : Txt} {y : Nat × Vw} (h : hdrS o (spE o 0) = .inr y) : loadR o = cmds o (y.1, y.2, 0) := by unfold loadR; rw [h]; rfl
set_option maxHeartbeats 2000000 in
theorem kL_load {l : Launch} {G : GG} {σ : St} {a : Ab} (h : CL σ a) (hA : AOk a) (hb : byT (aI a)) : CtX l G TX4_load 7 1 6 [.ref (gB G + 0)] σ (fun w τ => FrA1 σ τ ∧ CL τ (ldA a (loadR (aI a))) ∧ w = ansR (loadR (aI a)) (fun s => un s.2.1)) := by
  obtain ⟨⟨q1, hR1⟩, hCH, -, hCI, -, -⟩ := id h
  have ho : (aI a).1 ≤ 500 := hA.2.2.2.1
  have hO : Ok (aU a) := hA.1
  refine CtX.ofV (by decide +kernel) rfl rfl (Nat.le_of_ble_eq_true rfl) ?_
  refine V.aload_n (q := 1) dX4_load_0 rfl rfl ?_
  refine V.gL (q := 4) dX4_load_1 (j := 9) rfl bw_177 rfl rfl rfl rfl ?_
  refine V.aload_n (q := 5) dX4_load_4 rfl rfl ?_
  refine V.gL (q := 8) dX4_load_5 (j := 7) rfl bw_175 rfl rfl rfl rfl ?_
  refine V.aload_n (q := 9) dX4_load_8 rfl rfl ?_
  refine V.gL (q := 12) dX4_load_9 (j := 8) rfl bw_176 rfl rfl rfl rfl ?_
  rw [hCI.1]
  refine V.cVPP (q := 15) (As := [_, _]) dX4_load_12 rfl (kP_readTokens (o := aI a) hb ho hCI.2) MX2_readTokens bw_797 rfl rfl rfl rfl (by decide) rfl (fun v1 τ1 h1 => ?_)
  obtain ⟨rfl, hf1, n, hT, hA1, h61⟩ := h1
  refine V.aload_n (q := 16) dX4_load_15 rfl rfl ?_
  refine V.iconst (q := 17) dX4_load_16 (v := 0) rfl rfl ?_
  refine V.pL (q := 20) dX4_load_17 (j := 8) rfl bw_176 rfl rfl rfl rfl rfl rfl ?_
  have hq2 : FrQ σ (stF τ1 0 8 0) := hf1.q.trans FrQ.len
  have hT : TK G (stF τ1 0 8 0) (aI a) n := hT.of rfl rfl rfl (congrFun (up2_ne (by decide) : up2 (sF τ1) 0 8 0 19 = sF τ1 19) 3)
  have hA1 : CA (stF τ1 0 8 0) (aI a) n (spE (aI a) 0) := hA1.k0
  have h08 : sF (stF τ1 0 8 0) 0 8 = 0 := stF_at
  have h61 : sF (stF τ1 0 8 0) 19 6 = 0 := (congrFun (up2_ne (by decide) : up2 (sF τ1) 0 8 0 19 = sF τ1 19) 6).trans h61
  generalize stF τ1 0 8 0 = τ2 at hq2 hT hA1 h08 h61 ⊢
  refine V.aload_n (q := 21) dX4_load_20 rfl rfl ?_
  refine V.gL (q := 24) dX4_load_21 (j := 9) rfl bw_177 rfl rfl rfl rfl ?_
  refine V.aload_n (q := 25) dX4_load_24 rfl rfl ?_
  refine V.gL (q := 28) dX4_load_25 (j := 1) rfl bw_169 rfl rfl rfl rfl ?_
  refine V.cVPP (q := 31) (As := [_]) dX4_load_28 rfl (kP_performHeader hT hA1) MX2_performHeader bw_851 rfl rfl rfl rfl (by decide) rfl (fun v3 τ3 h3 => ?_)
  obtain ⟨rfl, hf3, h63, hD⟩ := h3
  have hq3 := hq2.trans hf3.q
  have h08 : sF τ3 0 8 = 0 := (hf3.1 0 8 (by decide) (by decide)).trans h08
  refine V.if_eq (tgt := 48) (q := 34) dX4_load_31 (by decide) rfl (fun c31 => ?_) (fun c31 => ?_)
  · obtain ⟨e3, hx3⟩ := cB_f (bI0.mp c31)
    rw [hx3] at hD
    have hres := load_h hx3
    exact V.throw (j := 14) thr_IA dX4_load_48 dX4_load_51 dX4_load_52 dX4_load_54 dX4_load_57 (by decide) (by decide +kernel) rfl rfl (by decide) (by decide) (by decide) rfl ⟨_, rfl, rfl, hq3.a1, by rw [hres]; exact h.q hq3 h08 hD.1 hD.2, by rw [hres]; rfl⟩
  · obtain ⟨y3, hx3⟩ := cB_t (bI1.mp c31)
    rw [hx3] at hD
    have hD : CA τ3 (aI a) n y3.1 ∧ ∃ qq, RC τ3 8 y3.2 qq := hD
    refine V.aload_n (q := 35) dX4_load_34 rfl rfl ?_
    refine V.gL (q := 38) dX4_load_35 (j := 9) rfl bw_177 rfl rfl rfl rfl ?_
    refine V.aload_n (q := 39) dX4_load_38 rfl rfl ?_
    refine V.gL (q := 42) dX4_load_39 (j := 1) rfl bw_169 rfl rfl rfl rfl ?_
    refine V.cVPP (q := 45) (As := [_]) dX4_load_42 rfl (kP_performCommands (P := y3.1) (u := y3.2) (e := 0) (hT.frP hf3) (hdrS_ok hx3).1 ⟨hD.1, h63.trans h61, hD.2⟩ ho) MX2_performCommands bw_888 rfl rfl rfl rfl (by decide) rfl (fun v4 τ4 h4 => ?_)
    obtain ⟨rfl, hf4, hW⟩ := h4
    have hq4 := hq3.trans (FrQ.sim.trans hf4.q)
    have h08 : sF τ4 0 8 = 0 := (hf4.1 0 8 (by decide) (by decide)).trans h08
    refine V.if_ne (tgt := 58) (q := 48) dX4_load_45 (by decide) rfl (fun c45 => ?_) (fun c45 => ?_)
    · obtain ⟨s4, hx4⟩ := cB_t (bI1.mp c45)
      rw [hx4] at hW
      have hO4 := cmdsF_ok _ _ _ (hdrS_ok hx3).1 hx4
      obtain ⟨⟨hA4, h74, h84⟩, h64, q4, hR4⟩ := hW
      have hres : loadR (aI a) = .inr s4 := (load_c hx3).trans hx4
      have hL4 : CL τ4 (abE a 0 (-1)) := h.q hq4 h08 h74 h84
      refine V.aload_n (q := 59) dX4_load_58 rfl rfl ?_
      refine V.gL (q := 62) dX4_load_59 (j := 0) rfl bw_168 rfl rfl rfl rfl ?_
      refine V.aload_n (q := 63) dX4_load_62 rfl rfl ?_
      refine V.gL (q := 66) dX4_load_63 (j := 1) rfl bw_169 rfl rfl rfl rfl ?_
      refine V.cVSP (q := 69) (As := [_]) dX4_load_66 rfl (cS_copyFrom (p := 1) (r := 8) rfl rfl (by decide) hR4 hO4.1) MX3_copyFrom bw_489 rfl rfl rfl rfl (by decide) rfl (fun v5 τ5 h5 => ?_)
      obtain ⟨rfl, hf5, hR⟩ := h5
      refine V.aload_n (q := 70) dX4_load_69 rfl rfl ?_
      refine V.iconst (q := 71) dX4_load_70 (v := 0) rfl rfl ?_
      refine V.pL (q := 74) dX4_load_71 (j := 4) rfl bw_172 rfl rfl rfl rfl rfl rfl ?_
      refine V.iconst (q := 75) dX4_load_74 (v := 0) rfl rfl ?_
      refine V.istore_n (q := 76) dX4_load_75 rfl rfl rfl rfl ?_
      refine V.iload_n (q := 77) dX4_load_76 rfl rfl ?_
      refine V.iconst (q := 78) dX4_load_77 (v := 2) rfl rfl ?_
      refine V.icmp_ge (tgt := 94) (q := 81) dX4_load_78 (by decide) rfl (fun c78 => ?_) (fun c78 => ?_)
      · exact absurd c78 (by decide)
      · refine V.aload_n (q := 82) dX4_load_81 rfl rfl ?_
        refine V.gL (q := 85) dX4_load_82 (j := 6) rfl bw_174 rfl rfl rfl rfl ?_
        refine V.iload_n (q := 86) dX4_load_85 rfl rfl ?_
        refine V.iconst (q := 87) dX4_load_86 (v := 0) rfl rfl ?_
        refine V.st5 (q := 88) dX4_load_87 (i := 0) (by first | rfl | assumption) rfl (by decide) rfl ?_
        refine V.iinc (q := 91) dX4_load_88 rfl (show (0 : Int32) + Int32.ofInt 1 = 1 from by decide) rfl rfl rfl ?_
        refine V.goto (tgt := 76) dX4_load_91 (by decide) ?_
        refine V.iload_n (q := 77) dX4_load_76 rfl rfl ?_
        refine V.iconst (q := 78) dX4_load_77 (v := 2) rfl rfl ?_
        refine V.icmp_ge (tgt := 94) (q := 81) dX4_load_78 (by decide) rfl (fun c78 => ?_) (fun c78 => ?_)
        · exact absurd c78 (by decide)
        · refine V.aload_n (q := 82) dX4_load_81 rfl rfl ?_
          refine V.gL (q := 85) dX4_load_82 (j := 6) rfl bw_174 rfl rfl rfl rfl ?_
          refine V.iload_n (q := 86) dX4_load_85 rfl rfl ?_
          refine V.iconst (q := 87) dX4_load_86 (v := 0) rfl rfl ?_
          refine V.st5 (q := 88) dX4_load_87 (i := 1) (by first | rfl | assumption) rfl (by decide) rfl ?_
          refine V.iinc (q := 91) dX4_load_88 rfl (show (1 : Int32) + Int32.ofInt 1 = 2 from by decide) rfl rfl rfl ?_
          refine V.goto (tgt := 76) dX4_load_91 (by decide) ?_
          refine V.iload_n (q := 77) dX4_load_76 rfl rfl ?_
          refine V.iconst (q := 78) dX4_load_77 (v := 2) rfl rfl ?_
          refine V.icmp_ge (tgt := 94) (q := 81) dX4_load_78 (by decide) rfl (fun c78 => ?_) (fun c78 => ?_)
          · obtain ⟨hL6, hR6⟩ := hL4.ld hf5 hR (x := vp_nar .boolean 0) (y := vp_nar .boolean 0) rfl rfl
            have hF6 : FrA1 τ5 (stA (stA (stF τ5 0 4 0) 17 0 (vp_nar .boolean 0)) 17 1 (vp_nar .boolean 0)) := fun k a b => ⟨up2_ne (by omega), (up2_ne (by omega) : up2 (up2 (sA τ5) 17 0 (vp_nar .boolean 0)) 17 1 (vp_nar .boolean 0) k = up2 (sA τ5) 17 0 (vp_nar .boolean 0) k).trans (up2_ne (by omega))⟩
            have hF5 := (hq4.a1.trans (hf5.a1 (by decide))).trans hF6
            generalize stA (stA (stF τ5 0 4 0) 17 0 (vp_nar .boolean 0)) 17 1 (vp_nar .boolean 0) = τ6 at hL6 hR6 hF5 ⊢
            have hR := hR6
            refine V.aload_n (q := 95) dX4_load_94 rfl rfl ?_
            refine V.gL (q := 98) dX4_load_95 (j := 0) rfl bw_168 rfl rfl rfl rfl ?_
            refine V.gSn (q := 101) dX4_load_98 hR rfl bw_69 rfl ?_
            exact V.iret dX4_load_101 rfl ⟨_, rfl, rfl, hF5, by rw [hres]; exact hL6, by rw [hres]; rfl⟩
          · exact absurd (by decide) c78
    · obtain ⟨e4, hx4⟩ := cB_f (bI0.mp c45)
      rw [hx4] at hW
      have hres : loadR (aI a) = .inl e4 := (load_c hx3).trans hx4
      exact V.throw (j := 14) thr_IA dX4_load_48 dX4_load_51 dX4_load_52 dX4_load_54 dX4_load_57 (by decide) (by decide +kernel) rfl rfl (by decide) (by decide) (by decide) rfl ⟨_, rfl, rfl, hq4.a1, by rw [hres]; exact h.q hq4 h08 hW.1 hW.2, by rw [hres]; rfl⟩
