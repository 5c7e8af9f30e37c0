/-! the class cuts its tokens: all -/
theorem stF_at {σ : St} {k j : Nat} {x : Int32} : sF (stF σ k j x) k j = x := up2_at
theorem stF_in {σ : St} {k j i : Nat} {x : Int32} (h : i ≠ j) : sF (stF σ k j x) k i = sF σ k i := up2_in h
def nq (o : Txt) (p q : Nat) : Nat := if leN (bc o p) = true then sc leN o q else if dgN (bc o p) = true then sc dgN o q else q
theorem nq_0 {o : Txt} {p : Nat} : nq o p (p + 1) = nen o p := by
  unfold nq nen
  split
  · rename_i h; exact (sc_go le9 h).symm
  · split
    · rename_i h; exact (sc_go dg9 h).symm
    · rfl
theorem nq_top {o : Txt} {p : Nat} : nq o p o.1 = o.1 := by
  have h := bc_out (o := o) (i := o.1) (Nat.lt_irrefl _)
  unfold nq
  split
  · exact sc_no (by rw [h]; rfl)
  · split
    · exact sc_no (by rw [h]; rfl)
    · rfl
theorem nq_no {o : Txt} {p q : Nat} (hb : byT o) (hp : p < o.1) (hq : q < o.1) (h : blI (o.2 p) (o.2 q) = false) : nq o p q = q := by
  unfold blI at h
  rw [bc_le hb hp, bc_le hb hq, bc_dg hb hp, bc_dg hb hq] at h
  unfold nq
  split
  · rename_i g
    rw [g, Bool.true_and] at h
    exact sc_no (Bool.or_eq_false_iff.mp h).1
  · split
    · rename_i g
      rw [g, Bool.true_and] at h
      exact sc_no (Bool.or_eq_false_iff.mp h).2
    · rfl
theorem nq_go {o : Txt} {p q : Nat} (hb : byT o) (hp : p < o.1) (hq : q < o.1) (h : blI (o.2 p) (o.2 q) = true) : nq o p q = nq o p (q + 1) := by
  unfold blI at h
  rw [bc_le hb hp, bc_le hb hq, bc_dg hb hp, bc_dg hb hq] at h
  simp only [Bool.or_eq_true, Bool.and_eq_true] at h
  unfold nq
  rcases h with ⟨a, b⟩ | ⟨a, b⟩
  · rw [if_pos a, if_pos a]
    exact sc_go le9 b
  · have a2 : ¬ leN (bc o p) = true := fun z => by rw [le_dg z] at a; cases a
    rw [if_neg a2, if_neg a2, if_pos a, if_pos a]
    exact sc_go dg9 b
def TKm (G : GG) (τ : St) (o : Txt) (m : Nat) : Prop := ∀ i, i < m → sA τ 21 i = nI (st o i) ∧ sA τ 22 i = nI (vl o (st o i)) ∧ sK τ i = some (gA G (kn o (st o i)))
def FrR (σ τ : St) : Prop := (∀ k j, ¬ (k = 19 ∧ (j = 3 ∨ j = 4 ∨ j = 6 ∨ j = 7 ∨ j = 8)) → sF τ k j = sF σ k j) ∧ (∀ k, k ≠ 21 → k ≠ 22 → sA τ k = sA σ k) ∧ sS τ = sS σ ∧ sO τ = sO σ
theorem FrR.rf {σ : St} : FrR σ σ := ⟨fun _ _ _ => rfl, fun _ _ _ => rfl, rfl, rfl⟩
theorem FrR.trans {σ τ υ : St} (h : FrR σ τ) (h2 : FrR τ υ) : FrR σ υ := ⟨fun k j a => (h2.1 k j a).trans (h.1 k j a), fun k a b => (h2.2.1 k a b).trans (h.2.1 k a b), h2.2.2.1.trans h.2.2.1, h2.2.2.2.trans h.2.2.2⟩
theorem FrR.f {σ : St} {j : Nat} {x : Int32} (hj : j = 3 ∨ j = 4 ∨ j = 6 ∨ j = 7 ∨ j = 8) : FrR σ (stF σ 19 j x) := ⟨fun k i a => by
  show up2 (sF σ) 19 j x k i = _
  rw [up2_if, if_neg (fun z => a ⟨z.1, by rw [z.2]; exact hj⟩)], fun _ _ _ => rfl, rfl, rfl⟩
theorem FrR.a {σ : St} {m : Nat} {a : Option Nat} {x y : Int32} : FrR σ (stA (stA (stK σ m a) 21 m x) 22 m y) := ⟨fun _ _ _ => rfl, fun k h1 h2 => by
  show up2 (up2 (sA σ) 21 m x) 22 m y k = _
  rw [up2_ne h2, up2_ne h1], rfl, rfl⟩
theorem TKm.add {G : GG} {τ : St} {o : Txt} {m k : Nat} {x y z : Int32} (h : TKm G τ o m) (hk : k = kn o (st o m)) (hx : x = nI (st o m)) (hy : y = nI (vl o (st o m))) : TKm G (stF (stA (stA (stK τ m (some (gA G k))) 21 m x) 22 m y) 19 3 z) o (m + 1) := fun i hi => by
  have e1 : sA (stF (stA (stA (stK τ m (some (gA G k))) 21 m x) 22 m y) 19 3 z) 21 i = if i = m then x else sA τ 21 i := by
    show up2 (up2 (sA τ) 21 m x) 22 m y 21 i = _
    rw [up2_ne (by decide), up2_if]
    simp
  have e2 : sA (stF (stA (stA (stK τ m (some (gA G k))) 21 m x) 22 m y) 19 3 z) 22 i = if i = m then y else sA τ 22 i := by
    show up2 (up2 (sA τ) 21 m x) 22 m y 22 i = _
    rw [up2_if, up2_ne (by decide)]
    simp
  have e3 : sK (stF (stA (stA (stK τ m (some (gA G k))) 21 m x) 22 m y) 19 3 z) i = if i = m then some (gA G k) else sK τ i := by
    show va_up (sK τ) m (some (gA G k)) i = _
    unfold va_up
    split <;> rfl
  rw [e1, e2, e3]
  by_cases e : i = m
  · subst e
    rw [if_pos rfl, if_pos rfl, if_pos rfl, hx, hy, hk]
    exact ⟨rfl, rfl, rfl⟩
  · rw [if_neg e, if_neg e, if_neg e]
    exact h i (by omega)
theorem kn_z {o : Txt} {p : Nat} (hp : p < o.1) (h : dgN (bc o p) = false) : kn o p = kof o p (nen o p) 0 26 := by
  unfold kn
  rw [if_pos hp, if_neg (by rw [h]; decide)]
set_option maxHeartbeats 2000000 in
theorem kP_readTokens {l : Launch} {G : GG} {σ : St} {o : Txt} (hb : byT o) (ho : o.1 ≤ 500) (hB : ∀ i, i < o.1 → sA σ 18 i = o.2 i) : CtP l G TX2_readTokens 6 [.ref (gB G + 19), .ref (gB G + 18), .int (nI o.1)] σ (fun v τ => v = none ∧ FrR σ τ ∧ ∃ n, TK G τ o n ∧ CA τ o n (spE o 0) ∧ sF τ 19 6 = 0) := by
  refine CtP.ofV (by decide +kernel) rfl rfl (Nat.le_of_ble_eq_true rfl) ?_
  have loop : ∀ (m : Nat) (p c : Nat) (τ : St) (L4 : Option Value), m = o.1 - p → p ≤ o.1 → spE o p = st o c → sF τ 19 3 = nI c → TKm G τ o c → FrR σ τ → V l G TX2_readTokens 6 0 0 (RetP G (fun v τ => v = none ∧ FrR σ τ ∧ ∃ n, TK G τ o n ∧ CA τ o n (spE o 0) ∧ sF τ 19 6 = 0)) 0 0 7 [some (.ref (gB G + 19)), some (.ref (gB G + 18)), some (.int (nI o.1)), some (.int (nI p)), L4] [] (hof G τ) NC := by
    intro m
    induction m using Nat.strongRecOn with
    | _ m ih =>
      intro p c τ L4 hm hp hsp hm3 hT hfr
      have hB2 : ∀ i, i < o.1 → sA τ 18 i = o.2 i := fun i hi => by rw [hfr.2.1 18 (by decide) (by decide)]; exact hB i hi
      have hc5 : c ≤ 500 := by have := st_mono (o := o) c; have := spE_top hp; omega
      refine V.iload_n (q := 8) dX2_readTokens_7 rfl rfl ?_
      refine V.iload_n (q := 9) dX2_readTokens_8 rfl rfl ?_
      refine V.icmp_ge (tgt := 101) (q := 12) dX2_readTokens_9 (by decide) rfl (fun c9 => ?_) (fun c9 => ?_)
      · have hpe : p = o.1 := Nat.le_antisymm hp (nle (a := o.1) (b := p) c9 (by omega) (by omega))
        have hce : st o c = o.1 := by rw [← hsp, hpe]; exact sc_no (by rw [bc_out (Nat.lt_irrefl _)]; rfl)
        refine V.aload_n (q := 102) dX2_readTokens_101 rfl rfl ?_
        refine V.gets (q := 105) dX2_readTokens_102 (st_kind (i := 25) (by decide) rfl) bw_849 rfl ?_
        refine V.iload_n (q := 106) dX2_readTokens_105 rfl rfl ?_
        refine V.iconst (q := 107) dX2_readTokens_106 (v := 0) rfl rfl ?_
        refine V.cVP (q := 110) dX2_readTokens_107 (As := [_, _, _]) rfl (kP_addToken (m := c) (k := 25) hm3 hc5 (by decide)) MX2_addToken bw_818 (by first | rfl | assumption) rfl rfl rfl (by decide) rfl ?_
        have hTf := hT.add (k := 25) (x := nI o.1) (y := 0) (z := nI (c + 1)) (by rw [hce]; exact (kn_end.mpr (Nat.lt_irrefl _)).symm) (by rw [hce]) (by rw [hce]; unfold vl; rw [if_neg (by rw [bc_out (Nat.lt_irrefl _)]; decide)]; rfl)
        refine V.aload_n (q := 111) dX2_readTokens_110 rfl rfl ?_
        refine V.iconst (q := 112) dX2_readTokens_111 (v := 0) rfl rfl ?_
        refine V.pP (q := 115) dX2_readTokens_112 (j := 4) (by first | rfl | assumption) bw_141 rfl rfl rfl rfl rfl rfl ?_
        refine V.aload_n (q := 116) dX2_readTokens_115 rfl rfl ?_
        refine V.iconst (q := 117) dX2_readTokens_116 (v := 0) rfl rfl ?_
        refine V.pP (q := 120) dX2_readTokens_117 (j := 6) (by first | rfl | assumption) bw_143 rfl rfl rfl rfl rfl rfl ?_
        refine V.aload_n (q := 121) dX2_readTokens_120 rfl rfl ?_
        refine V.iconst (q := 122) dX2_readTokens_121 (v := 0) rfl rfl ?_
        refine V.pP (q := 125) dX2_readTokens_122 (j := 7) (by first | rfl | assumption) bw_144 rfl rfl rfl rfl rfl rfl ?_
        refine V.aload_n (q := 126) dX2_readTokens_125 rfl rfl ?_
        refine V.iconst (q := 127) dX2_readTokens_126 (v := -1) rfl rfl ?_
        refine V.pP (q := 130) dX2_readTokens_127 (j := 8) (by first | rfl | assumption) bw_146 rfl rfl rfl rfl rfl rfl ?_
        exact V.vret dX2_readTokens_130 rfl ⟨none, _, rfl, rfl, rfl, rfl, ((((hfr.trans FrR.a).trans (FrR.f (by decide))).trans (FrR.f (by decide))).trans (FrR.f (by decide))).trans ((FrR.f (by decide)).trans (FrR.f (by decide))), c, ⟨hc5, hce, fun i hi => hTf i (by omega), (stF_in (by decide)).trans ((stF_in (by decide)).trans ((stF_in (by decide)).trans ((stF_in (by decide)).trans stF_at)))⟩, ⟨⟨0, Nat.zero_le _, (stF_in (by decide)).trans ((stF_in (by decide)).trans ((stF_in (by decide)).trans stF_at)), rfl⟩, (stF_in (by decide)).trans stF_at, stF_at⟩, (stF_in (by decide)).trans ((stF_in (by decide)).trans stF_at)⟩
      · have hp1 : p < o.1 := nnle (a := o.1) (b := p) c9 (by omega) (by omega)
        refine V.iload_n (q := 13) dX2_readTokens_12 rfl rfl ?_
        refine V.istore (q := 15) dX2_readTokens_13 rfl rfl rfl ?_
        refine V.iinc (q := 18) dX2_readTokens_15 rfl (by first | exact nI_inc _ | rfl) rfl rfl rfl ?_
        refine V.aload_n (q := 19) dX2_readTokens_18 rfl rfl ?_
        refine V.iload (q := 21) dX2_readTokens_19 rfl rfl ?_
        refine V.ld6 (q := 22) dX2_readTokens_21 (i := p) (by first | rfl | assumption) rfl (by omega) rfl ?_
        rw [hB2 p hp1]
        refine V.cSt (q := 25) dX2_readTokens_22 (As := [_]) rfl kP_isSpace MX2_isSpace bw_801 rfl rfl (by decide) rfl ?_
        refine V.if_eq (tgt := 31) (q := 28) dX2_readTokens_25 (by decide) rfl (fun c25 => ?_) (fun c25 => ?_)
        · have hsc : spN (bc o p) = false := (bc_sp hb hp1).symm.trans (bI0.mp c25)
          have hcp : st o c = p := by rw [← hsp]; exact spE_at hsc
          have inner : ∀ (m2 q : Nat), m2 = o.1 - q → p < q → q ≤ o.1 → nq o p q = nen o p → V l G TX2_readTokens 6 0 0 (RetP G (fun v τ => v = none ∧ FrR σ τ ∧ ∃ n, TK G τ o n ∧ CA τ o n (spE o 0) ∧ sF τ 19 6 = 0)) 0 0 31 [some (.ref (gB G + 19)), some (.ref (gB G + 18)), some (.int (nI o.1)), some (.int (nI q)), some (.int (nI p))] [] (hof G τ) NC := by
            intro m2
            induction m2 using Nat.strongRecOn with
            | _ m2 ih2 =>
              intro q hm2 hpq hq hnq
              refine V.iload_n (q := 32) dX2_readTokens_31 rfl rfl ?_
              refine V.iload_n (q := 33) dX2_readTokens_32 rfl rfl ?_
              refine V.icmp_ge (tgt := 55) (q := 36) dX2_readTokens_33 (by decide) rfl (fun c33 => ?_) (fun c33 => ?_)
              · have hqe : q = o.1 := Nat.le_antisymm hq (nle (a := o.1) (b := q) c33 (by omega) (by omega))
                have hnen : nen o p = q := by rw [← hnq, hqe]; exact nq_top
                refine V.aload_n (q := 56) dX2_readTokens_55 rfl rfl ?_
                refine V.iload (q := 58) dX2_readTokens_56 rfl rfl ?_
                refine V.ld6 (q := 59) dX2_readTokens_58 (i := p) (by first | rfl | assumption) rfl (by omega) rfl ?_
                rw [hB2 p hp1]
                refine V.cSt (q := 62) dX2_readTokens_59 (As := [_]) rfl kP_isDigit MX2_isDigit bw_810 rfl rfl (by decide) rfl ?_
                refine V.if_eq (tgt := 84) (q := 65) dX2_readTokens_62 (by decide) rfl (fun c62 => ?_) (fun c62 => ?_)
                · have hdg : dgN (bc o p) = false := (bc_dg hb hp1).symm.trans (bI0.mp c62)
                  have hkn : kn o p = kof o p q 0 26 := by rw [kn_z hp1 hdg, hnen]
                  refine V.aload_n (q := 85) dX2_readTokens_84 rfl rfl ?_
                  refine V.aload_n (q := 86) dX2_readTokens_85 rfl rfl ?_
                  refine V.iload (q := 88) dX2_readTokens_86 rfl rfl ?_
                  refine V.iload_n (q := 89) dX2_readTokens_88 rfl rfl ?_
                  refine V.cSt (q := 92) dX2_readTokens_89 (As := [_, _, _]) rfl (kP_kindOf hB2 ho (s := p) (e := q) (by omega) hq) MX2_kindOf bw_822 rfl rfl (by decide) rfl ?_
                  refine V.iload (q := 94) dX2_readTokens_92 rfl rfl ?_
                  refine V.iconst (q := 95) dX2_readTokens_94 (v := 0) rfl rfl ?_
                  refine V.cVP (q := 98) dX2_readTokens_95 (As := [_, _, _]) rfl (kP_addToken (m := c) (k := kof o p q 0 26) hm3 hc5 (by rw [← hkn]; exact kn_b)) MX2_addToken bw_818 (by first | rfl | assumption) rfl rfl rfl (by decide) rfl ?_
                  refine V.goto (tgt := 7) dX2_readTokens_98 (by decide) ?_
                  refine ih _ (by omega) q (c + 1) _ (some (.int (nI p))) rfl hq ?_ stF_at (hT.add (by rw [hcp]; exact hkn.symm) (by rw [hcp]) (by rw [hcp]; unfold vl; rw [if_neg (by rw [hdg]; decide)]; rfl)) ((hfr.trans FrR.a).trans (FrR.f (by decide)))
                  show spE o q = nx o (st o c)
                  rw [hcp]
                  unfold nx
                  rw [hnen]
                · have hdg : dgN (bc o p) = true := (bc_dg hb hp1).symm.trans (bI1.mp c62)
                  have hsd : q = sc dgN o p := by
                    rw [← hnen]
                    unfold nen
                    rw [if_neg (fun z => by rw [le_dg z] at hdg; cases hdg), if_pos hdg]
                  refine V.aload_n (q := 66) dX2_readTokens_65 rfl rfl ?_
                  refine V.gets (q := 69) dX2_readTokens_66 (st_kind (i := 23) (by decide) rfl) bw_813 rfl ?_
                  refine V.iload (q := 71) dX2_readTokens_69 rfl rfl ?_
                  refine V.aload_n (q := 72) dX2_readTokens_71 rfl rfl ?_
                  refine V.iload (q := 74) dX2_readTokens_72 rfl rfl ?_
                  refine V.iload_n (q := 75) dX2_readTokens_74 rfl rfl ?_
                  refine V.cSt (q := 78) dX2_readTokens_75 (As := [_, _, _]) rfl (kP_numberOf hb ho hB2 (s := p) (e := q) (by omega) hq (fun j h1 h2 => sc_mid h1 (by rw [← hsd]; omega))) MX2_numberOf bw_815 rfl rfl (by decide) rfl ?_
                  refine V.cVP (q := 81) dX2_readTokens_78 (As := [_, _, _]) rfl (kP_addToken (m := c) (k := 23) hm3 hc5 (by decide)) MX2_addToken bw_818 (by first | rfl | assumption) rfl rfl rfl (by decide) rfl ?_
                  refine V.goto (tgt := 98) dX2_readTokens_81 (by decide) ?_
                  refine V.goto (tgt := 7) dX2_readTokens_98 (by decide) ?_
                  refine ih _ (by omega) q (c + 1) _ (some (.int (nI p))) rfl hq ?_ stF_at (hT.add (by rw [hcp]; exact (kn_num.mpr hdg).symm) (by rw [hcp]) (by rw [hcp]; unfold vl; rw [if_pos hdg, hnen])) ((hfr.trans FrR.a).trans (FrR.f (by decide)))
                  show spE o q = nx o (st o c)
                  rw [hcp]
                  unfold nx
                  rw [hnen]
              · have hq1 : q < o.1 := nnle (a := o.1) (b := q) c33 (by omega) (by omega)
                refine V.aload_n (q := 37) dX2_readTokens_36 rfl rfl ?_
                refine V.iload (q := 39) dX2_readTokens_37 rfl rfl ?_
                refine V.ld6 (q := 40) dX2_readTokens_39 (i := p) (by first | rfl | assumption) rfl (by omega) rfl ?_
                rw [hB2 p hp1]
                refine V.aload_n (q := 41) dX2_readTokens_40 rfl rfl ?_
                refine V.iload_n (q := 42) dX2_readTokens_41 rfl rfl ?_
                refine V.ld6 (q := 43) dX2_readTokens_42 (i := q) (by first | rfl | assumption) rfl (by omega) rfl ?_
                rw [hB2 q hq1]
                refine V.cSt (q := 46) dX2_readTokens_43 (As := [_, _]) rfl kP_together MX2_belongTogether bw_804 rfl rfl (by decide) rfl ?_
                refine V.if_eq (tgt := 55) (q := 49) dX2_readTokens_46 (by decide) rfl (fun c46 => ?_) (fun c46 => ?_)
                · have hnen : nen o p = q := by rw [← hnq]; exact nq_no hb hp1 hq1 (bI0.mp c46)
                  refine V.aload_n (q := 56) dX2_readTokens_55 rfl rfl ?_
                  refine V.iload (q := 58) dX2_readTokens_56 rfl rfl ?_
                  refine V.ld6 (q := 59) dX2_readTokens_58 (i := p) (by first | rfl | assumption) rfl (by omega) rfl ?_
                  rw [hB2 p hp1]
                  refine V.cSt (q := 62) dX2_readTokens_59 (As := [_]) rfl kP_isDigit MX2_isDigit bw_810 rfl rfl (by decide) rfl ?_
                  refine V.if_eq (tgt := 84) (q := 65) dX2_readTokens_62 (by decide) rfl (fun c62 => ?_) (fun c62 => ?_)
                  · have hdg : dgN (bc o p) = false := (bc_dg hb hp1).symm.trans (bI0.mp c62)
                    have hkn : kn o p = kof o p q 0 26 := by rw [kn_z hp1 hdg, hnen]
                    refine V.aload_n (q := 85) dX2_readTokens_84 rfl rfl ?_
                    refine V.aload_n (q := 86) dX2_readTokens_85 rfl rfl ?_
                    refine V.iload (q := 88) dX2_readTokens_86 rfl rfl ?_
                    refine V.iload_n (q := 89) dX2_readTokens_88 rfl rfl ?_
                    refine V.cSt (q := 92) dX2_readTokens_89 (As := [_, _, _]) rfl (kP_kindOf hB2 ho (s := p) (e := q) (by omega) hq) MX2_kindOf bw_822 rfl rfl (by decide) rfl ?_
                    refine V.iload (q := 94) dX2_readTokens_92 rfl rfl ?_
                    refine V.iconst (q := 95) dX2_readTokens_94 (v := 0) rfl rfl ?_
                    refine V.cVP (q := 98) dX2_readTokens_95 (As := [_, _, _]) rfl (kP_addToken (m := c) (k := kof o p q 0 26) hm3 hc5 (by rw [← hkn]; exact kn_b)) MX2_addToken bw_818 (by first | rfl | assumption) rfl rfl rfl (by decide) rfl ?_
                    refine V.goto (tgt := 7) dX2_readTokens_98 (by decide) ?_
                    refine ih _ (by omega) q (c + 1) _ (some (.int (nI p))) rfl hq ?_ stF_at (hT.add (by rw [hcp]; exact hkn.symm) (by rw [hcp]) (by rw [hcp]; unfold vl; rw [if_neg (by rw [hdg]; decide)]; rfl)) ((hfr.trans FrR.a).trans (FrR.f (by decide)))
                    show spE o q = nx o (st o c)
                    rw [hcp]
                    unfold nx
                    rw [hnen]
                  · have hdg : dgN (bc o p) = true := (bc_dg hb hp1).symm.trans (bI1.mp c62)
                    have hsd : q = sc dgN o p := by
                      rw [← hnen]
                      unfold nen
                      rw [if_neg (fun z => by rw [le_dg z] at hdg; cases hdg), if_pos hdg]
                    refine V.aload_n (q := 66) dX2_readTokens_65 rfl rfl ?_
                    refine V.gets (q := 69) dX2_readTokens_66 (st_kind (i := 23) (by decide) rfl) bw_813 rfl ?_
                    refine V.iload (q := 71) dX2_readTokens_69 rfl rfl ?_
                    refine V.aload_n (q := 72) dX2_readTokens_71 rfl rfl ?_
                    refine V.iload (q := 74) dX2_readTokens_72 rfl rfl ?_
                    refine V.iload_n (q := 75) dX2_readTokens_74 rfl rfl ?_
                    refine V.cSt (q := 78) dX2_readTokens_75 (As := [_, _, _]) rfl (kP_numberOf hb ho hB2 (s := p) (e := q) (by omega) hq (fun j h1 h2 => sc_mid h1 (by rw [← hsd]; omega))) MX2_numberOf bw_815 rfl rfl (by decide) rfl ?_
                    refine V.cVP (q := 81) dX2_readTokens_78 (As := [_, _, _]) rfl (kP_addToken (m := c) (k := 23) hm3 hc5 (by decide)) MX2_addToken bw_818 (by first | rfl | assumption) rfl rfl rfl (by decide) rfl ?_
                    refine V.goto (tgt := 98) dX2_readTokens_81 (by decide) ?_
                    refine V.goto (tgt := 7) dX2_readTokens_98 (by decide) ?_
                    refine ih _ (by omega) q (c + 1) _ (some (.int (nI p))) rfl hq ?_ stF_at (hT.add (by rw [hcp]; exact (kn_num.mpr hdg).symm) (by rw [hcp]) (by rw [hcp]; unfold vl; rw [if_pos hdg, hnen])) ((hfr.trans FrR.a).trans (FrR.f (by decide)))
                    show spE o q = nx o (st o c)
                    rw [hcp]
                    unfold nx
                    rw [hnen]
                · have htg := bI1.mp c46
                  refine V.iinc (q := 52) dX2_readTokens_49 rfl (by first | exact nI_inc _ | rfl) rfl rfl rfl ?_
                  refine V.goto (tgt := 31) dX2_readTokens_52 (by decide) ?_
                  refine ih2 _ (by omega) (q + 1) rfl (by omega) (by omega) ?_
                  rw [← nq_go hb hp1 hq1 htg]; exact hnq
          exact inner _ (p + 1) rfl (by omega) (by omega) nq_0
        · have hsc : spN (bc o p) = true := (bc_sp hb hp1).symm.trans (bI1.mp c25)
          refine V.goto (tgt := 7) dX2_readTokens_28 (by decide) ?_
          refine ih _ (by omega) (p + 1) c τ (some (.int (nI p))) rfl (by omega) ?_ hm3 hT hfr
          rw [← hsp]; exact (sc_go sp9 hsc).symm
  refine V.aload_n (q := 1) dX2_readTokens_0 rfl rfl ?_
  refine V.iconst (q := 2) dX2_readTokens_1 (v := 0) rfl rfl ?_
  refine V.pP (q := 5) dX2_readTokens_2 (j := 3) (by first | rfl | assumption) bw_140 rfl rfl rfl rfl rfl rfl ?_
  refine V.iconst (q := 6) dX2_readTokens_5 (v := 0) rfl rfl ?_
  refine V.istore_n (q := 7) dX2_readTokens_6 rfl rfl rfl rfl ?_
  exact loop _ 0 0 _ none rfl (Nat.zero_le _) rfl stF_at (fun i hi => absurd hi (Nat.not_lt_zero i)) (FrR.f (by decide))
