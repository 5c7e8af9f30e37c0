/-! the model's parser: numbers, semicolons, brackets, words -/
def MN (τ : St) (o : Txt) (P : Nat) (x : Vw × Nat) (r : Er ⊕ (Nat × Nat)) : Prop := match r with
  | .inl e => MFl τ o e
  | .inr y => MOk τ o (y.2, x) ∧ sF τ 94 12 = nI P
def MP (τ : St) (o : Txt) (x : Vw × Nat) (r : Er ⊕ (Nat × Nat)) : Prop := match r with
  | .inl e => MFl τ o e
  | .inr y => MOk τ o (y.2, x)
def MTk (τ : St) (o : Txt) (x : Vw × Nat) (r : Er ⊕ Nat) : Prop := match r with
  | .inl e => MFl τ o e
  | .inr p => MOk τ o (p, x)
def nV (lo : Nat) (r : Er ⊕ (Nat × Nat)) : Nat := match r with
  | .inl _ => lo
  | .inr y => y.1
def cW (r : Er ⊕ (Nat × Nat)) : Int32 := match r with
  | .inl _ => -1
  | .inr y => nI (y.1 - 14)
theorem MOk.b {σ : St} {o : Txt} {s : PSt} {x : Int32} (h : MOk σ o s) : MOk (stF σ 94 12 x) o s := by
  obtain ⟨⟨k, h1, h2, h3⟩, a, b, c, d⟩ := h
  exact ⟨⟨k, h1, (stF_in (by decide)).trans h2, h3⟩, (stF_in (by decide)).trans a, (stF_in (by decide)).trans b, (stF_in (by decide)).trans c, d⟩
theorem nen_dg {o : Txt} {P : Nat} (h : dgN (bc o P) = true) : nen o P = sc dgN o P := by
  unfold nen
  rw [if_neg (fun z => by rw [le_dg z] at h; cases h), if_pos h]
theorem vl_big {o : Txt} {P : Nat} (h : dgN (bc o P) = true) (h3 : nen o P - P > 3) : vl o P = 1000 := by
  unfold vl
  rw [if_pos h, if_pos h3]
theorem vl_sm {o : Txt} {P : Nat} (h : dgN (bc o P) = true) (h3 : ¬ nen o P - P > 3) : vl o P = numv o P (nen o P - P) := by
  unfold vl
  rw [if_pos h, if_neg h3]
theorem rng2 {a w b : Nat} (ha : a < 100000) (hw : w < 100000) (hb : b < 100000) : (decide (nI a ≤ nI w) && decide (nI w ≤ nI b)) = decide (a ≤ w ∧ w ≤ b) := by
  apply Bool.eq_iff_iff.mpr
  simp only [Bool.and_eq_true, decide_eq_true_eq]
  exact and_congr (nI_leI (by omega) (by omega)) (nI_leI (by omega) (by omega))
theorem num_stp {o : Txt} {k w : Nat} (hk : k < o.1) (h : dgN (bc o k) = true) : (10 : Int32) * nI w + bcI o k - 48 = nI (w * 10 + (bc o k - 48)) := by
  unfold bcI
  rw [if_pos hk]
  unfold dgN at h
  simp only [Bool.and_eq_true, decide_eq_true_eq] at h
  show nI 10 * nI w + nI (bc o k) - nI 48 = _
  rw [pk_mul, nI_add, pk_sub (by omega)]
  congr 1
  omega
theorem numv_lt3 {o : Txt} {P k : Nat} (h : ∀ i, i < k → dgN (bc o (P + i)) = true) (hk : k ≤ 3) : numv o P k < 1000 := by
  have h1 := numv_lt (o := o) (s := P) h
  have h2 : 10 ^ k ≤ 10 ^ 3 := Nat.pow_le_pow_right (by decide) hk
  omega
set_option maxHeartbeats 4000000 in
theorem kU_number {l : Launch} {G : GG} {σ : St} {o : Txt} {P e : Nat} {u : Vw} (hb : byT o) (ho : o.1 ≤ 500) (hB : MB σ o) (hM : MOk σ o (P, u, e)) {lo hi : Nat} (hlo : lo ≤ 999) (hhi : hi ≤ 999) : CtP l G TX5_number 2 [.ref (gB G + 94), .int (nI lo), .int (nI hi)] σ (fun v τ => v = some (.int (nI (nV lo (numR o P lo hi)))) ∧ FrU σ τ ∧ MN τ o P (u, e) (numR o P lo hi)) := by
  obtain ⟨⟨h, hh, hat, hsp⟩, hM1, hM2, hM3, hMR⟩ := id hM
  have hsp : spE o h = P := hsp
  have hPo : P ≤ o.1 := by rw [← hsp]; exact spE_top hh
  have hPP : spE o P = P := spE_at (by rw [← hsp]; exact spE_no hh)
  refine CtP.ofV (by decide +kernel) rfl rfl (Nat.le_of_ble_eq_true rfl) ?_
  refine V.aload_n (q := 1) dX5_number_0 rfl rfl ?_
  refine V.cVM (q := 4) dX5_number_1 (As := []) rfl (kU_failed hM) MX5_failed bw_1100 rfl rfl rfl rfl (by decide) rfl ?_
  refine V.if_eq (tgt := 9) (q := 7) dX5_number_4 (by decide) rfl (fun c4 => ?_) (fun c4 => ?_)
  · refine V.aload_n (q := 10) dX5_number_9 rfl rfl ?_
    refine V.cVMP (q := 13) (As := []) dX5_number_10 rfl (kU_peek hb ho hB hh hat) MX5_peek bw_1089 rfl rfl rfl rfl (by decide) rfl (fun v1 τ1 h1 => ?_)
    obtain ⟨rfl, hf9, hat⟩ := h1
    rw [hsp] at hat ⊢
    have hB := hB.fr hf9.u
    have hM : MOk τ1 o (P, u, e) := hM.at hf9 ⟨P, hPo, hat, hPP⟩
    have hF := hf9.u
    refine V.bipush (q := 15) dX5_number_13 (v := 48) rfl rfl ?_
    refine V.bipush (q := 17) dX5_number_15 (v := 57) rfl rfl ?_
    refine V.cSt (q := 20) dX5_number_17 (As := [_, _, _]) rfl cM_inRange MX5_inRange bw_1097 rfl rfl (by decide) rfl ?_
    rw [show (decide ((48 : Int32) ≤ bcI o P) && decide (bcI o P ≤ 57)) = dgN (bc o P) from bcI_rng (a := 48) (b := 57) hb (by decide) (by decide)]
    refine V.if_ne (tgt := 34) (q := 23) dX5_number_20 (by decide) rfl (fun c20 => ?_) (fun c20 => ?_)
    · have hdP := bI1.mp c20
      have hk23 := kn_num.mpr hdP
      have hnen := nen_dg hdP
      refine V.aload_n (q := 35) dX5_number_34 rfl rfl ?_
      refine V.aload_n (q := 36) dX5_number_35 rfl rfl ?_
      refine V.gM (q := 39) dX5_number_36 (j := 9) rfl bw_1020 rfl rfl rfl rfl ?_
      rw [hat]
      refine V.pM (q := 42) dX5_number_39 (j := 12) rfl bw_1023 rfl rfl rfl rfl rfl rfl ?_
      have hf12 := FrU.f (σ := τ1) (j := 12) (x := nI P) (by decide)
      have hM : MOk (stF τ1 94 12 (nI P)) o (spE o P, u, e) := by rw [hPP]; exact hM.b
      have hF := hF.trans hf12
      have hB := hB.fr hf12
      have hbg : sF (stF τ1 94 12 (nI P)) 94 12 = nI P := stF_at
      have hat : sF (stF τ1 94 12 (nI P)) 94 9 = nI P := (stF_in (by decide)).trans hat
      generalize stF τ1 94 12 (nI P) = τ2 at hf12 hM hF hB hbg hat ⊢
      refine V.iconst (q := 43) dX5_number_42 (v := 0) rfl rfl ?_
      refine V.istore_n (q := 44) dX5_number_43 rfl rfl rfl rfl ?_
      have loop : ∀ (m : Nat) (k : Nat) (τ : St), m = o.1 - k → P ≤ k → k ≤ o.1 → sc dgN o k = sc dgN o P → FrU σ τ → MB τ o → MOk τ o (spE o k, u, e) → sF τ 94 9 = nI k → sF τ 94 12 = nI P → V l G TX5_number 2 0 0 (RetP G (fun v τ => v = some (.int (nI (nV lo (numR o P lo hi)))) ∧ FrU σ τ ∧ MN τ o P (u, e) (numR o P lo hi))) 0 0 44 [some (.ref (gB G + 94)), some (.int (nI lo)), some (.int (nI hi)), some (.int (nI (numv o P (min (k - P) 3))))] [] (hof G τ) NC := by
        intro m
        induction m using Nat.strongRecOn with
        | _ m ih =>
          intro k τ hm hPk hko hsk hF hB hM hat hbg
          refine V.aload_n (q := 45) dX5_number_44 rfl rfl ?_
          refine V.aload_n (q := 46) dX5_number_45 rfl rfl ?_
          refine V.gM (q := 49) dX5_number_46 (j := 9) rfl bw_1020 rfl rfl rfl rfl ?_
          rw [hat]
          refine V.cVM (q := 52) dX5_number_49 (As := [_]) rfl (kU_byteAt hb ho hB (k := k) (by omega)) MX5_byteAt bw_1093 rfl rfl rfl rfl (by decide) rfl ?_
          refine V.bipush (q := 54) dX5_number_52 (v := 48) rfl rfl ?_
          refine V.bipush (q := 56) dX5_number_54 (v := 57) rfl rfl ?_
          refine V.cSt (q := 59) dX5_number_56 (As := [_, _, _]) rfl cM_inRange MX5_inRange bw_1097 rfl rfl (by decide) rfl ?_
          rw [show (decide ((48 : Int32) ≤ bcI o k) && decide (bcI o k ≤ 57)) = dgN (bc o k) from bcI_rng (a := 48) (b := 57) hb (by decide) (by decide)]
          refine V.if_eq (tgt := 105) (q := 62) dX5_number_59 (by decide) rfl (fun c59 => ?_) (fun c59 => ?_)
          · have hd0 := bI0.mp c59
            have hke : k = sc dgN o P := by rw [← hsk]; exact (sc_no hd0).symm
            have hne : nen o P = k := by rw [hke]; exact hnen
            refine V.aload_n (q := 106) dX5_number_105 rfl rfl ?_
            refine V.gM (q := 109) dX5_number_106 (j := 9) rfl bw_1020 rfl rfl rfl rfl ?_
            rw [hat]
            refine V.aload_n (q := 110) dX5_number_109 rfl rfl ?_
            refine V.gM (q := 113) dX5_number_110 (j := 12) rfl bw_1023 rfl rfl rfl rfl ?_
            rw [hbg]
            refine V.isub (q := 114) dX5_number_113 rfl ?_
            rw [show nI k - nI P = nI (k - P) from pk_sub hPk]
            refine V.iconst (q := 115) dX5_number_114 (v := 3) rfl rfl ?_
            refine V.icmp_gt (tgt := 127) (q := 118) dX5_number_115 (by decide) rfl (fun c115 => ?_) (fun c115 => ?_)
            · have h3 : 3 < k - P := nlt (a := 3) c115 (by decide) (by omega)
              have hres : numR o P lo hi = .inl (2, P) := by
                unfold numR
                rw [if_pos hk23, vl_big hdP (by omega)]
                exact if_neg (by omega)
              refine V.aload_n (q := 128) dX5_number_127 rfl rfl ?_
              refine V.iconst (q := 129) dX5_number_128 (v := 2) rfl rfl ?_
              refine V.aload_n (q := 130) dX5_number_129 rfl rfl ?_
              refine V.gM (q := 133) dX5_number_130 (j := 12) rfl bw_1023 rfl rfl rfl rfl ?_
              rw [hbg]
              refine V.cVM (q := 136) dX5_number_133 (As := [_, _]) rfl (kU_fail hM) MX5_fail bw_1106 rfl rfl rfl rfl (by decide) rfl ?_
              refine V.aload_n (q := 137) dX5_number_136 rfl rfl ?_
              refine V.cVM (q := 140) dX5_number_137 (As := []) rfl (kU_failedF (hM.fl (c := 2) (p := P) (x := 2) (y := nI P) (by decide) rfl rfl)) MX5_failed bw_1100 rfl rfl rfl rfl (by decide) rfl ?_
              refine V.if_eq (tgt := 147) (q := 143) dX5_number_140 (by decide) rfl (fun c140 => ?_) (fun c140 => ?_)
              · exact absurd c140 (by decide)
              · refine V.iload_n (q := 144) dX5_number_143 rfl rfl ?_
                refine V.goto (tgt := 148) dX5_number_144 (by decide) ?_
                exact V.iret dX5_number_148 rfl ⟨_, _, rfl, rfl, rfl, by rw [hres]; rfl, hF.trans ((FrU.f (by decide)).trans (FrU.f (by decide))), by rw [hres]; exact hM.fl (by decide) rfl rfl⟩
            · have h3 : ¬ 3 < k - P := fun z => by have := nnlt (a := 3) c115 (by decide) (by omega); omega
              have hw : numv o P (min (k - P) 3) = vl o P := by rw [Nat.min_eq_left (by omega), vl_sm hdP (by omega), hne]
              rw [hw]
              refine V.iload_n (q := 119) dX5_number_118 rfl rfl ?_
              refine V.iload_n (q := 120) dX5_number_119 rfl rfl ?_
              refine V.iload_n (q := 121) dX5_number_120 rfl rfl ?_
              refine V.cSt (q := 124) dX5_number_121 (As := [_, _, _]) rfl cM_inRange MX5_inRange bw_1097 rfl rfl (by decide) rfl ?_
              rw [show (decide (nI lo ≤ nI (vl o P)) && decide (nI (vl o P) ≤ nI hi)) = decide (lo ≤ vl o P ∧ vl o P ≤ hi) from rng2 (by omega) (by have := vl_lt (o := o) (s := P); omega) (by omega)]
              refine V.if_ne (tgt := 136) (q := 127) dX5_number_124 (by decide) rfl (fun c124 => ?_) (fun c124 => ?_)
              · have hin := of_decide_eq_true (bI1.mp c124)
                have hres : numR o P lo hi = .inr (vl o P, nx o P) := by
                  unfold numR
                  rw [if_pos hk23, if_pos hin]
                refine V.aload_n (q := 137) dX5_number_136 rfl rfl ?_
                refine V.cVM (q := 140) dX5_number_137 (As := []) rfl (kU_failed hM) MX5_failed bw_1100 rfl rfl rfl rfl (by decide) rfl ?_
                refine V.if_eq (tgt := 147) (q := 143) dX5_number_140 (by decide) rfl (fun c140 => ?_) (fun c140 => ?_)
                · refine V.iload_n (q := 148) dX5_number_147 rfl rfl ?_
                  exact V.iret dX5_number_148 rfl ⟨_, _, rfl, rfl, rfl, by rw [hres]; rfl, hF, by rw [hres]; exact ⟨by show MOk τ o (spE o (nen o P), u, e); rw [hne]; exact hM, hbg⟩⟩
                · exact absurd rfl c140
              · have hin := of_decide_eq_false (bI0.mp c124)
                have hres : numR o P lo hi = .inl (2, P) := by
                  unfold numR
                  rw [if_pos hk23, if_neg hin]
                refine V.aload_n (q := 128) dX5_number_127 rfl rfl ?_
                refine V.iconst (q := 129) dX5_number_128 (v := 2) rfl rfl ?_
                refine V.aload_n (q := 130) dX5_number_129 rfl rfl ?_
                refine V.gM (q := 133) dX5_number_130 (j := 12) rfl bw_1023 rfl rfl rfl rfl ?_
                rw [hbg]
                refine V.cVM (q := 136) dX5_number_133 (As := [_, _]) rfl (kU_fail hM) MX5_fail bw_1106 rfl rfl rfl rfl (by decide) rfl ?_
                refine V.aload_n (q := 137) dX5_number_136 rfl rfl ?_
                refine V.cVM (q := 140) dX5_number_137 (As := []) rfl (kU_failedF (hM.fl (c := 2) (p := P) (x := 2) (y := nI P) (by decide) rfl rfl)) MX5_failed bw_1100 rfl rfl rfl rfl (by decide) rfl ?_
                refine V.if_eq (tgt := 147) (q := 143) dX5_number_140 (by decide) rfl (fun c140 => ?_) (fun c140 => ?_)
                · exact absurd c140 (by decide)
                · refine V.iload_n (q := 144) dX5_number_143 rfl rfl ?_
                  refine V.goto (tgt := 148) dX5_number_144 (by decide) ?_
                  exact V.iret dX5_number_148 rfl ⟨_, _, rfl, rfl, rfl, by rw [hres]; rfl, hF.trans ((FrU.f (by decide)).trans (FrU.f (by decide))), by rw [hres]; exact hM.fl (by decide) rfl rfl⟩
          · have hd1 := bI1.mp c59
            have hko1 := sc_lt dg9 hd1
            refine V.aload_n (q := 63) dX5_number_62 rfl rfl ?_
            refine V.gM (q := 66) dX5_number_63 (j := 9) rfl bw_1020 rfl rfl rfl rfl ?_
            rw [hat]
            refine V.aload_n (q := 67) dX5_number_66 rfl rfl ?_
            refine V.gM (q := 70) dX5_number_67 (j := 12) rfl bw_1023 rfl rfl rfl rfl ?_
            rw [hbg]
            refine V.isub (q := 71) dX5_number_70 rfl ?_
            rw [show nI k - nI P = nI (k - P) from pk_sub hPk]
            refine V.iconst (q := 72) dX5_number_71 (v := 3) rfl rfl ?_
            refine V.icmp_ge (tgt := 92) (q := 75) dX5_number_72 (by decide) rfl (fun c72 => ?_) (fun c72 => ?_)
            · have h3 : 3 ≤ k - P := nle (a := 3) c72 (by decide) (by omega)
              refine V.aload_n (q := 93) dX5_number_92 rfl rfl ?_
              refine V.dup (q := 94) dX5_number_93 rfl rfl ?_
              refine V.gM (q := 97) dX5_number_94 (j := 9) rfl bw_1020 rfl rfl rfl rfl ?_
              rw [hat]
              refine V.iconst (q := 98) dX5_number_97 (v := 1) rfl rfl ?_
              refine V.iadd (q := 99) dX5_number_98 rfl ?_
              rw [nI_1]
              refine V.pM (q := 102) dX5_number_99 (j := 9) rfl bw_1020 rfl rfl rfl rfl rfl rfl ?_
              refine V.goto (tgt := 44) dX5_number_102 (by decide) ?_
              have hf1 : Fr9 τ (stF τ 94 9 (nI (k + 1))) := Fr9.f
              refine V.to (L2 := [some (.ref (gB G + 94)), some (.int (nI lo)), some (.int (nI hi)), some (.int (nI (numv o P (min ((k + 1) - P) 3))))]) ?_ rfl rfl rfl (ih _ (by omega) (k + 1) _ rfl (by omega) (by omega) ?_ (hF.trans hf1.u) (hB.fr hf1.u) (hM.at hf1 (MAt.set (by omega) rfl)) stF_at ((stF_in (by decide)).trans hbg))
              · rw [show numv o P (min ((k + 1) - P) 3) = numv o P (min (k - P) 3) from by rw [Nat.min_eq_right (by omega), Nat.min_eq_right (by omega)]]
              · rw [← hsk]; exact (sc_go dg9 hd1).symm
            · have h3 : k - P < 3 := nnle (a := 3) c72 (by decide) (by omega)
              refine V.bipush (q := 77) dX5_number_75 (v := 10) rfl rfl ?_
              refine V.iload_n (q := 78) dX5_number_77 rfl rfl ?_
              refine V.imul (q := 79) dX5_number_78 rfl ?_
              refine V.aload_n (q := 80) dX5_number_79 rfl rfl ?_
              refine V.aload_n (q := 81) dX5_number_80 rfl rfl ?_
              refine V.gM (q := 84) dX5_number_81 (j := 9) rfl bw_1020 rfl rfl rfl rfl ?_
              rw [hat]
              refine V.cVM (q := 87) dX5_number_84 (As := [_]) rfl (kU_byteAt hb ho hB (k := k) (by omega)) MX5_byteAt bw_1093 rfl rfl rfl rfl (by decide) rfl ?_
              refine V.iadd (q := 88) dX5_number_87 rfl ?_
              refine V.bipush (q := 90) dX5_number_88 (v := 48) rfl rfl ?_
              refine V.isub (q := 91) dX5_number_90 rfl ?_
              rw [num_stp hko1 hd1]
              refine V.istore_n (q := 92) dX5_number_91 rfl rfl rfl rfl ?_
              refine V.aload_n (q := 93) dX5_number_92 rfl rfl ?_
              refine V.dup (q := 94) dX5_number_93 rfl rfl ?_
              refine V.gM (q := 97) dX5_number_94 (j := 9) rfl bw_1020 rfl rfl rfl rfl ?_
              rw [hat]
              refine V.iconst (q := 98) dX5_number_97 (v := 1) rfl rfl ?_
              refine V.iadd (q := 99) dX5_number_98 rfl ?_
              rw [nI_1]
              refine V.pM (q := 102) dX5_number_99 (j := 9) rfl bw_1020 rfl rfl rfl rfl rfl rfl ?_
              refine V.goto (tgt := 44) dX5_number_102 (by decide) ?_
              have hf1 : Fr9 τ (stF τ 94 9 (nI (k + 1))) := Fr9.f
              refine V.to (L2 := [some (.ref (gB G + 94)), some (.int (nI lo)), some (.int (nI hi)), some (.int (nI (numv o P (min ((k + 1) - P) 3))))]) ?_ rfl rfl rfl (ih _ (by omega) (k + 1) _ rfl (by omega) (by omega) ?_ (hF.trans hf1.u) (hB.fr hf1.u) (hM.at hf1 (MAt.set (by omega) rfl)) stF_at ((stF_in (by decide)).trans hbg))
              · rw [show numv o P (min ((k + 1) - P) 3) = numv o P (min (k - P) 3) * 10 + (bc o k - 48) from by rw [Nat.min_eq_left (by omega), Nat.min_eq_left (by omega), show k + 1 - P = (k - P) + 1 by omega]; show numv o P (k - P) * 10 + (bc o (P + (k - P)) - 48) = _; rw [show P + (k - P) = k by omega]]; rfl
              · rw [← hsk]; exact (sc_go dg9 hd1).symm
      refine V.to (L2 := [some (.ref (gB G + 94)), some (.int (nI lo)), some (.int (nI hi)), some (.int (nI (numv o P (min (P - P) 3))))]) ?_ rfl rfl rfl (loop _ P _ rfl (Nat.le_refl _) hPo rfl hF hB hM hat hbg)
      rw [Nat.sub_self]; rfl
    · have hdP := bI0.mp c20
      have hres : numR o P lo hi = .inl (1, P) := by
        unfold numR
        exact if_neg (fun z => by rw [kn_num.mp z] at hdP; cases hdP)
      refine V.aload_n (q := 24) dX5_number_23 rfl rfl ?_
      refine V.iconst (q := 25) dX5_number_24 (v := 1) rfl rfl ?_
      refine V.aload_n (q := 26) dX5_number_25 rfl rfl ?_
      refine V.gM (q := 29) dX5_number_26 (j := 9) rfl bw_1020 rfl rfl rfl rfl ?_
      rw [hat]
      refine V.cVM (q := 32) dX5_number_29 (As := [_, _]) rfl (kU_fail hM) MX5_fail bw_1106 rfl rfl rfl rfl (by decide) rfl ?_
      refine V.iload_n (q := 33) dX5_number_32 rfl rfl ?_
      exact V.iret dX5_number_33 rfl ⟨_, _, rfl, rfl, rfl, by rw [hres]; rfl, hF.trans ((FrU.f (by decide)).trans (FrU.f (by decide))), by rw [hres]; exact hM.fl (by decide) rfl rfl⟩
  · exact absurd rfl c4
set_option maxHeartbeats 2000000 in
theorem kU_numberF {l : Launch} {G : GG} {σ : St} {o : Txt} {e : Er} (hM : MFl σ o e) {lo hi : Int32} : CtS l G TX5_number 2 [.ref (gB G + 94), .int lo, .int hi] σ (some (.int lo)) σ := by
  refine CtS.ofV (by decide +kernel) rfl rfl (Nat.le_of_ble_eq_true rfl) ?_
  refine V.aload_n (q := 1) dX5_number_0 rfl rfl ?_
  refine V.cVM (q := 4) dX5_number_1 (As := []) rfl (kU_failedF hM) MX5_failed bw_1100 rfl rfl rfl rfl (by decide) rfl ?_
  refine V.if_eq (tgt := 9) (q := 7) dX5_number_4 (by decide) rfl (fun c4 => ?_) (fun c4 => ?_)
  · exact absurd c4 (by decide)
  · refine V.iload_n (q := 8) dX5_number_7 rfl rfl ?_
    exact V.iret dX5_number_8 rfl ⟨rfl, rfl, rfl⟩
set_option maxHeartbeats 2000000 in
theorem kU_semicolon {l : Launch} {G : GG} {σ : St} {o : Txt} {P e : Nat} {u : Vw} (hb : byT o) (ho : o.1 ≤ 500) (hB : MB σ o) (hM : MOk σ o (P, u, e)) : CtP l G TX5_semicolon 2 [.ref (gB G + 94)] σ (fun v τ => v = none ∧ FrU σ τ ∧ MTk τ o (u, e) (tkR o 20 P)) := by
  obtain ⟨⟨h, hh, hat, hsp⟩, hM1, hM2, hM3, hMR⟩ := id hM
  have hsp : spE o h = P := hsp
  have hPo : P ≤ o.1 := by rw [← hsp]; exact spE_top hh
  have hPP : spE o P = P := spE_at (by rw [← hsp]; exact spE_no hh)
  refine CtP.ofV (by decide +kernel) rfl rfl (Nat.le_of_ble_eq_true rfl) ?_
  refine V.aload_n (q := 1) dX5_semicolon_0 rfl rfl ?_
  refine V.cVM (q := 4) dX5_semicolon_1 (As := []) rfl (kU_failed hM) MX5_failed bw_1100 rfl rfl rfl rfl (by decide) rfl ?_
  refine V.if_eq (tgt := 8) (q := 7) dX5_semicolon_4 (by decide) rfl (fun c4 => ?_) (fun c4 => ?_)
  · refine V.aload_n (q := 9) dX5_semicolon_8 rfl rfl ?_
    refine V.cVMP (q := 12) (As := []) dX5_semicolon_9 rfl (kU_peek hb ho hB hh hat) MX5_peek bw_1089 rfl rfl rfl rfl (by decide) rfl (fun v1 τ1 h1 => ?_)
    obtain ⟨rfl, hf9, hat⟩ := h1
    rw [hsp] at hat ⊢
    have hB := hB.fr hf9.u
    have hM : MOk τ1 o (P, u, e) := hM.at hf9 ⟨P, hPo, hat, hPP⟩
    have hF := hf9.u
    refine V.bipush (q := 14) dX5_semicolon_12 (v := 59) rfl rfl ?_
    refine V.icmp_eq (tgt := 27) (q := 17) dX5_semicolon_14 (by decide) rfl (fun c14 => ?_) (fun c14 => ?_)
    · have q := (bcI_eq (c := 59) hb (by decide)).mp c14
      have hkK := (kn_semi hb).mpr q
      have hnn : nen o P = P + 1 := nen_sym q rfl rfl
      have hPl : P < o.1 := kn_lt (by rw [hkK]; decide)
      have hres : tkR o 20 P = .inr (nx o P) := if_pos hkK
      refine V.aload_n (q := 28) dX5_semicolon_27 rfl rfl ?_
      refine V.dup (q := 29) dX5_semicolon_28 rfl rfl ?_
      refine V.gM (q := 32) dX5_semicolon_29 (j := 9) rfl bw_1020 rfl rfl rfl rfl ?_
      rw [hat]
      refine V.iconst (q := 33) dX5_semicolon_32 (v := 1) rfl rfl ?_
      refine V.iadd (q := 34) dX5_semicolon_33 rfl ?_
      rw [nI_1]
      refine V.pM (q := 37) dX5_semicolon_34 (j := 9) rfl bw_1020 rfl rfl rfl rfl rfl rfl ?_
      exact V.vret dX5_semicolon_37 rfl ⟨_, _, rfl, rfl, rfl, rfl, hF.trans Fr9.f.u, by rw [hres]; exact hM.at Fr9.f (by show MAt _ o (spE o (nen o P)); rw [hnn]; exact MAt.set (by omega) rfl)⟩
    · have q : ¬ kn o P = 20 := fun z => c14 ((bcI_eq (c := 59) hb (by decide)).mpr ((kn_semi hb).mp z))
      have hres : tkR o 20 P = .inl (1, P) := if_neg q
      refine V.aload_n (q := 18) dX5_semicolon_17 rfl rfl ?_
      refine V.iconst (q := 19) dX5_semicolon_18 (v := 1) rfl rfl ?_
      refine V.aload_n (q := 20) dX5_semicolon_19 rfl rfl ?_
      refine V.gM (q := 23) dX5_semicolon_20 (j := 9) rfl bw_1020 rfl rfl rfl rfl ?_
      rw [hat]
      refine V.cVM (q := 26) dX5_semicolon_23 (As := [_, _]) rfl (kU_fail hM) MX5_fail bw_1106 rfl rfl rfl rfl (by decide) rfl ?_
      exact V.vret dX5_semicolon_26 rfl ⟨_, _, rfl, rfl, rfl, rfl, hF.trans ((FrU.f (by decide)).trans (FrU.f (by decide))), by rw [hres]; exact hM.fl (by decide) rfl rfl⟩
  · exact absurd rfl c4
set_option maxHeartbeats 2000000 in
theorem kU_semicolonF {l : Launch} {G : GG} {σ : St} {o : Txt} {e : Er} (hM : MFl σ o e) : CtS l G TX5_semicolon 2 [.ref (gB G + 94)] σ none σ := by
  refine CtS.ofV (by decide +kernel) rfl rfl (Nat.le_of_ble_eq_true rfl) ?_
  refine V.aload_n (q := 1) dX5_semicolon_0 rfl rfl ?_
  refine V.cVM (q := 4) dX5_semicolon_1 (As := []) rfl (kU_failedF hM) MX5_failed bw_1100 rfl rfl rfl rfl (by decide) rfl ?_
  refine V.if_eq (tgt := 8) (q := 7) dX5_semicolon_4 (by decide) rfl (fun c4 => ?_) (fun c4 => ?_)
  · exact absurd c4 (by decide)
  · exact V.vret dX5_semicolon_7 rfl ⟨rfl, rfl, rfl⟩
set_option maxHeartbeats 2000000 in
theorem kU_bracket {l : Launch} {G : GG} {σ : St} {o : Txt} {P e : Nat} {u : Vw} (hb : byT o) (ho : o.1 ≤ 500) (hB : MB σ o) (hM : MOk σ o (P, u, e)) {K c : Nat} (hK : kn o P = K ↔ bc o P = c) (hK25 : K < 25) (hc : c < 256) (h1 : leN c = false) (h2 : dgN c = false) : CtP l G TX5_bracket 2 [.ref (gB G + 94), .int (nI c)] σ (fun v τ => v = none ∧ FrU σ τ ∧ MTk τ o (u, e) (tkR o K P)) := by
  obtain ⟨⟨h, hh, hat, hsp⟩, hM1, hM2, hM3, hMR⟩ := id hM
  have hsp : spE o h = P := hsp
  have hPo : P ≤ o.1 := by rw [← hsp]; exact spE_top hh
  have hPP : spE o P = P := spE_at (by rw [← hsp]; exact spE_no hh)
  refine CtP.ofV (by decide +kernel) rfl rfl (Nat.le_of_ble_eq_true rfl) ?_
  refine V.aload_n (q := 1) dX5_bracket_0 rfl rfl ?_
  refine V.cVM (q := 4) dX5_bracket_1 (As := []) rfl (kU_failed hM) MX5_failed bw_1100 rfl rfl rfl rfl (by decide) rfl ?_
  refine V.if_eq (tgt := 8) (q := 7) dX5_bracket_4 (by decide) rfl (fun c4 => ?_) (fun c4 => ?_)
  · refine V.aload_n (q := 9) dX5_bracket_8 rfl rfl ?_
    refine V.cVMP (q := 12) (As := []) dX5_bracket_9 rfl (kU_peek hb ho hB hh hat) MX5_peek bw_1089 rfl rfl rfl rfl (by decide) rfl (fun v1 τ1 h1 => ?_)
    obtain ⟨rfl, hf9, hat⟩ := h1
    rw [hsp] at hat ⊢
    have hB := hB.fr hf9.u
    have hM : MOk τ1 o (P, u, e) := hM.at hf9 ⟨P, hPo, hat, hPP⟩
    have hF := hf9.u
    refine V.iload_n (q := 13) dX5_bracket_12 rfl rfl ?_
    refine V.icmp_eq (tgt := 26) (q := 16) dX5_bracket_13 (by decide) rfl (fun c13 => ?_) (fun c13 => ?_)
    · have q := (bcI_eq (c := c) hb hc).mp c13
      have hkK := hK.mpr q
      have hnn : nen o P = P + 1 := nen_sym q h1 h2
      have hPl : P < o.1 := kn_lt (by rw [hkK]; omega)
      have hres : tkR o K P = .inr (nx o P) := if_pos hkK
      refine V.aload_n (q := 27) dX5_bracket_26 rfl rfl ?_
      refine V.dup (q := 28) dX5_bracket_27 rfl rfl ?_
      refine V.gM (q := 31) dX5_bracket_28 (j := 9) rfl bw_1020 rfl rfl rfl rfl ?_
      rw [hat]
      refine V.iconst (q := 32) dX5_bracket_31 (v := 1) rfl rfl ?_
      refine V.iadd (q := 33) dX5_bracket_32 rfl ?_
      rw [nI_1]
      refine V.pM (q := 36) dX5_bracket_33 (j := 9) rfl bw_1020 rfl rfl rfl rfl rfl rfl ?_
      exact V.vret dX5_bracket_36 rfl ⟨_, _, rfl, rfl, rfl, rfl, hF.trans Fr9.f.u, by rw [hres]; exact hM.at Fr9.f (by show MAt _ o (spE o (nen o P)); rw [hnn]; exact MAt.set (by omega) rfl)⟩
    · have q : ¬ kn o P = K := fun z => c13 ((bcI_eq (c := c) hb hc).mpr (hK.mp z))
      have hres : tkR o K P = .inl (1, P) := if_neg q
      refine V.aload_n (q := 17) dX5_bracket_16 rfl rfl ?_
      refine V.iconst (q := 18) dX5_bracket_17 (v := 1) rfl rfl ?_
      refine V.aload_n (q := 19) dX5_bracket_18 rfl rfl ?_
      refine V.gM (q := 22) dX5_bracket_19 (j := 9) rfl bw_1020 rfl rfl rfl rfl ?_
      rw [hat]
      refine V.cVM (q := 25) dX5_bracket_22 (As := [_, _]) rfl (kU_fail hM) MX5_fail bw_1106 rfl rfl rfl rfl (by decide) rfl ?_
      exact V.vret dX5_bracket_25 rfl ⟨_, _, rfl, rfl, rfl, rfl, hF.trans ((FrU.f (by decide)).trans (FrU.f (by decide))), by rw [hres]; exact hM.fl (by decide) rfl rfl⟩
  · exact absurd rfl c4
set_option maxHeartbeats 2000000 in
theorem kU_bracketF {l : Launch} {G : GG} {σ : St} {o : Txt} {e : Er} (hM : MFl σ o e) {c : Int32} : CtS l G TX5_bracket 2 [.ref (gB G + 94), .int c] σ none σ := by
  refine CtS.ofV (by decide +kernel) rfl rfl (Nat.le_of_ble_eq_true rfl) ?_
  refine V.aload_n (q := 1) dX5_bracket_0 rfl rfl ?_
  refine V.cVM (q := 4) dX5_bracket_1 (As := []) rfl (kU_failedF hM) MX5_failed bw_1100 rfl rfl rfl rfl (by decide) rfl ?_
  refine V.if_eq (tgt := 8) (q := 7) dX5_bracket_4 (by decide) rfl (fun c4 => ?_) (fun c4 => ?_)
  · exact absurd c4 (by decide)
  · exact V.vret dX5_bracket_7 rfl ⟨rfl, rfl, rfl⟩
set_option maxHeartbeats 4000000 in
theorem kU_policyWord {l : Launch} {G : GG} {σ : St} {o : Txt} {P e : Nat} {u : Vw} (hb : byT o) (ho : o.1 ≤ 500) (hB : MB σ o) (hM : MOk σ o (P, u, e)) : CtP l G TX5_policyWord 5 [.ref (gB G + 94)] σ (fun v τ => v = some (.int (cV Prod.fst (polR o P))) ∧ FrU σ τ ∧ MP τ o (u, e) (polR o P)) := by
  have hF : FrU σ σ := FrU.rf
  refine CtP.ofV (by decide +kernel) rfl rfl (Nat.le_of_ble_eq_true rfl) ?_
  refine V.aload_n (q := 1) dX5_policyWord_0 rfl rfl ?_
  refine V.ldcS (q := 3) dX5_policyWord_1 (tx := "") (j := 17) (by decide) (by decide +kernel) rfl ?_
  refine V.cVMP (q := 6) (As := [_]) dX5_policyWord_3 rfl (kU_accepts hb ho hB hM (K := 1) (j := 17) (by decide) (by decide) (by decide +kernel)) MX5_accepts bw_1085 rfl rfl rfl rfl (by decide) rfl (fun v1 τ1 h1 => ?_)
  obtain ⟨rfl, hf1, hy, hn⟩ := h1
  have hB := hB.fr hf1
  have hF := hF.trans hf1
  refine V.if_eq (tgt := 13) (q := 9) dX5_policyWord_6 (by decide) rfl (fun c6 => ?_) (fun c6 => ?_)
  · have k1 : ¬ kn o P = 1 := of_decide_eq_false (bI0.mp c6)
    obtain ⟨hM, hat⟩ := hn k1
    have hM : MOk τ1 o (P, u, e) := hM
    have hat : sF τ1 94 9 = nI P := hat
    refine V.aload_n (q := 14) dX5_policyWord_13 rfl rfl ?_
    refine V.ldcS (q := 16) dX5_policyWord_14 (tx := "") (j := 18) (by decide) (by decide +kernel) rfl ?_
    refine V.cVMP (q := 19) (As := [_]) dX5_policyWord_16 rfl (kU_accepts hb ho hB hM (K := 2) (j := 18) (by decide) (by decide) (by decide +kernel)) MX5_accepts bw_1085 rfl rfl rfl rfl (by decide) rfl (fun v2 τ2 h2 => ?_)
    obtain ⟨rfl, hf2, hy, hn⟩ := h2
    have hB := hB.fr hf2
    have hF := hF.trans hf2
    refine V.if_eq (tgt := 26) (q := 22) dX5_policyWord_19 (by decide) rfl (fun c19 => ?_) (fun c19 => ?_)
    · have k2 : ¬ kn o P = 2 := of_decide_eq_false (bI0.mp c19)
      obtain ⟨hM, hat⟩ := hn k2
      have hM : MOk τ2 o (P, u, e) := hM
      have hat : sF τ2 94 9 = nI P := hat
      refine V.aload_n (q := 27) dX5_policyWord_26 rfl rfl ?_
      refine V.ldcS (q := 29) dX5_policyWord_27 (tx := "") (j := 19) (by decide) (by decide +kernel) rfl ?_
      refine V.cVMP (q := 32) (As := [_]) dX5_policyWord_29 rfl (kU_accepts hb ho hB hM (K := 3) (j := 19) (by decide) (by decide) (by decide +kernel)) MX5_accepts bw_1085 rfl rfl rfl rfl (by decide) rfl (fun v3 τ3 h3 => ?_)
      obtain ⟨rfl, hf3, hy, hn⟩ := h3
      have hB := hB.fr hf3
      have hF := hF.trans hf3
      refine V.if_eq (tgt := 39) (q := 35) dX5_policyWord_32 (by decide) rfl (fun c32 => ?_) (fun c32 => ?_)
      · have k3 : ¬ kn o P = 3 := of_decide_eq_false (bI0.mp c32)
        obtain ⟨hM, hat⟩ := hn k3
        have hM : MOk τ3 o (P, u, e) := hM
        have hat : sF τ3 94 9 = nI P := hat
        refine V.iconst (q := 40) dX5_policyWord_39 (v := -1) rfl rfl ?_
        refine V.istore_n (q := 41) dX5_policyWord_40 rfl rfl rfl rfl ?_
        refine V.iload_n (q := 42) dX5_policyWord_41 rfl rfl ?_
        refine V.iconst (q := 43) dX5_policyWord_42 (v := -1) rfl rfl ?_
        refine V.icmp_ne (tgt := 55) (q := 46) dX5_policyWord_43 (by decide) rfl (fun c43 => ?_) (fun c43 => ?_)
        · exact absurd rfl c43
        · refine V.aload_n (q := 47) dX5_policyWord_46 rfl rfl ?_
          refine V.iconst (q := 48) dX5_policyWord_47 (v := 1) rfl rfl ?_
          refine V.aload_n (q := 49) dX5_policyWord_48 rfl rfl ?_
          refine V.gM (q := 52) dX5_policyWord_49 (j := 9) rfl bw_1020 rfl rfl rfl rfl ?_
          rw [hat]
          refine V.cVM (q := 55) dX5_policyWord_52 (As := [_, _]) rfl (kU_fail hM) MX5_fail bw_1106 rfl rfl rfl rfl (by decide) rfl ?_
          refine V.iload_n (q := 56) dX5_policyWord_55 rfl rfl ?_
          exact V.iret dX5_policyWord_56 rfl (by
      have hres : polR o P = .inl (1, P) := by
        unfold polR
        rw [if_neg k1, if_neg k2, if_neg k3]
      exact ⟨_, _, rfl, rfl, rfl, by rw [hres]; rfl, hF.trans ((FrU.f (by decide)).trans (FrU.f (by decide))), by rw [hres]; exact hM.fl (by decide) rfl rfl⟩)
      · have k3 : kn o P = 3 := of_decide_eq_true (bI1.mp c32)
        have hM : MOk τ3 o (nx o P, u, e) := hy k3
        refine V.iconst (q := 36) dX5_policyWord_35 (v := 2) rfl rfl ?_
        refine V.goto (tgt := 40) dX5_policyWord_36 (by decide) ?_
        refine V.istore_n (q := 41) dX5_policyWord_40 rfl rfl rfl rfl ?_
        refine V.iload_n (q := 42) dX5_policyWord_41 rfl rfl ?_
        refine V.iconst (q := 43) dX5_policyWord_42 (v := -1) rfl rfl ?_
        refine V.icmp_ne (tgt := 55) (q := 46) dX5_policyWord_43 (by decide) rfl (fun c43 => ?_) (fun c43 => ?_)
        · refine V.iload_n (q := 56) dX5_policyWord_55 rfl rfl ?_
          exact V.iret dX5_policyWord_56 rfl (by
      have hres : polR o P = .inr (2, nx o P) := by
        unfold polR
        rw [if_neg k1, if_neg k2, if_pos k3]
      exact ⟨_, _, rfl, rfl, rfl, by rw [hres]; rfl, hF, by rw [hres]; exact hM⟩)
        · exact absurd c43 (by decide)
    · have k2 : kn o P = 2 := of_decide_eq_true (bI1.mp c19)
      have hM : MOk τ2 o (nx o P, u, e) := hy k2
      refine V.iconst (q := 23) dX5_policyWord_22 (v := 1) rfl rfl ?_
      refine V.goto (tgt := 40) dX5_policyWord_23 (by decide) ?_
      refine V.istore_n (q := 41) dX5_policyWord_40 rfl rfl rfl rfl ?_
      refine V.iload_n (q := 42) dX5_policyWord_41 rfl rfl ?_
      refine V.iconst (q := 43) dX5_policyWord_42 (v := -1) rfl rfl ?_
      refine V.icmp_ne (tgt := 55) (q := 46) dX5_policyWord_43 (by decide) rfl (fun c43 => ?_) (fun c43 => ?_)
      · refine V.iload_n (q := 56) dX5_policyWord_55 rfl rfl ?_
        exact V.iret dX5_policyWord_56 rfl (by
      have hres : polR o P = .inr (1, nx o P) := by
        unfold polR
        rw [if_neg k1, if_pos k2]
      exact ⟨_, _, rfl, rfl, rfl, by rw [hres]; rfl, hF, by rw [hres]; exact hM⟩)
      · exact absurd c43 (by decide)
  · have k1 : kn o P = 1 := of_decide_eq_true (bI1.mp c6)
    have hM : MOk τ1 o (nx o P, u, e) := hy k1
    refine V.iconst (q := 10) dX5_policyWord_9 (v := 0) rfl rfl ?_
    refine V.goto (tgt := 40) dX5_policyWord_10 (by decide) ?_
    refine V.istore_n (q := 41) dX5_policyWord_40 rfl rfl rfl rfl ?_
    refine V.iload_n (q := 42) dX5_policyWord_41 rfl rfl ?_
    refine V.iconst (q := 43) dX5_policyWord_42 (v := -1) rfl rfl ?_
    refine V.icmp_ne (tgt := 55) (q := 46) dX5_policyWord_43 (by decide) rfl (fun c43 => ?_) (fun c43 => ?_)
    · refine V.iload_n (q := 56) dX5_policyWord_55 rfl rfl ?_
      exact V.iret dX5_policyWord_56 rfl (by
      have hres : polR o P = .inr (0, nx o P) := by
        unfold polR
        rw [if_pos k1]
      exact ⟨_, _, rfl, rfl, rfl, by rw [hres]; rfl, hF, by rw [hres]; exact hM⟩)
    · exact absurd c43 (by decide)
set_option maxHeartbeats 2000000 in
theorem kU_policyWordF {l : Launch} {G : GG} {σ : St} {o : Txt} {e : Er} (hb : byT o) (ho : o.1 ≤ 500) (hB : MB σ o) (hM : MFl σ o e) : CtP l G TX5_policyWord 5 [.ref (gB G + 94)] σ (fun v τ => v = some (.int (-1)) ∧ FrU σ τ ∧ MFl τ o e) := by
  have hF : FrU σ σ := FrU.rf
  refine CtP.ofV (by decide +kernel) rfl rfl (Nat.le_of_ble_eq_true rfl) ?_
  refine V.aload_n (q := 1) dX5_policyWord_0 rfl rfl ?_
  refine V.ldcS (q := 3) dX5_policyWord_1 (tx := "") (j := 17) (by decide) (by decide +kernel) rfl ?_
  refine V.cVMP (q := 6) (As := [_]) dX5_policyWord_3 rfl (kU_acceptsF hb ho hB hM (j := 17) (by decide)) MX5_accepts bw_1085 rfl rfl rfl rfl (by decide) rfl (fun v1 τ1 h1 => ?_)
  obtain ⟨rfl, hf1, hM⟩ := h1
  have hB := hB.fr hf1
  have hF := hF.trans hf1
  refine V.if_eq (tgt := 13) (q := 9) dX5_policyWord_6 (by decide) rfl (fun c6 => ?_) (fun c6 => ?_)
  · refine V.aload_n (q := 14) dX5_policyWord_13 rfl rfl ?_
    refine V.ldcS (q := 16) dX5_policyWord_14 (tx := "") (j := 18) (by decide) (by decide +kernel) rfl ?_
    refine V.cVMP (q := 19) (As := [_]) dX5_policyWord_16 rfl (kU_acceptsF hb ho hB hM (j := 18) (by decide)) MX5_accepts bw_1085 rfl rfl rfl rfl (by decide) rfl (fun v2 τ2 h2 => ?_)
    obtain ⟨rfl, hf2, hM⟩ := h2
    have hB := hB.fr hf2
    have hF := hF.trans hf2
    refine V.if_eq (tgt := 26) (q := 22) dX5_policyWord_19 (by decide) rfl (fun c19 => ?_) (fun c19 => ?_)
    · refine V.aload_n (q := 27) dX5_policyWord_26 rfl rfl ?_
      refine V.ldcS (q := 29) dX5_policyWord_27 (tx := "") (j := 19) (by decide) (by decide +kernel) rfl ?_
      refine V.cVMP (q := 32) (As := [_]) dX5_policyWord_29 rfl (kU_acceptsF hb ho hB hM (j := 19) (by decide)) MX5_accepts bw_1085 rfl rfl rfl rfl (by decide) rfl (fun v3 τ3 h3 => ?_)
      obtain ⟨rfl, hf3, hM⟩ := h3
      have hB := hB.fr hf3
      have hF := hF.trans hf3
      refine V.if_eq (tgt := 39) (q := 35) dX5_policyWord_32 (by decide) rfl (fun c32 => ?_) (fun c32 => ?_)
      · refine V.iconst (q := 40) dX5_policyWord_39 (v := -1) rfl rfl ?_
        refine V.istore_n (q := 41) dX5_policyWord_40 rfl rfl rfl rfl ?_
        refine V.iload_n (q := 42) dX5_policyWord_41 rfl rfl ?_
        refine V.iconst (q := 43) dX5_policyWord_42 (v := -1) rfl rfl ?_
        refine V.icmp_ne (tgt := 55) (q := 46) dX5_policyWord_43 (by decide) rfl (fun c43 => ?_) (fun c43 => ?_)
        · exact absurd rfl c43
        · refine V.aload_n (q := 47) dX5_policyWord_46 rfl rfl ?_
          refine V.iconst (q := 48) dX5_policyWord_47 (v := 1) rfl rfl ?_
          refine V.aload_n (q := 49) dX5_policyWord_48 rfl rfl ?_
          refine V.gM (q := 52) dX5_policyWord_49 (j := 9) rfl bw_1020 rfl rfl rfl rfl ?_
          refine V.cVM (q := 55) dX5_policyWord_52 (As := [_, _]) rfl (kU_failF hM) MX5_fail bw_1106 rfl rfl rfl rfl (by decide) rfl ?_
          refine V.iload_n (q := 56) dX5_policyWord_55 rfl rfl ?_
          exact V.iret dX5_policyWord_56 rfl ⟨_, _, rfl, rfl, rfl, rfl, hF, hM⟩
      · exact absurd rfl c32
    · exact absurd rfl c19
  · exact absurd rfl c6
set_option maxHeartbeats 8000000 in
theorem kU_counterWord {l : Launch} {G : GG} {σ : St} {o : Txt} {P e : Nat} {u : Vw} (hb : byT o) (ho : o.1 ≤ 500) (hB : MB σ o) (hM : MOk σ o (P, u, e)) : CtP l G TX5_counterWord 5 [.ref (gB G + 94)] σ (fun v τ => v = some (.int (cW (ctrR o P))) ∧ FrU σ τ ∧ MP τ o (u, e) (ctrR o P)) := by
  have hF : FrU σ σ := FrU.rf
  refine CtP.ofV (by decide +kernel) rfl rfl (Nat.le_of_ble_eq_true rfl) ?_
  refine V.aload_n (q := 1) dX5_counterWord_0 rfl rfl ?_
  refine V.ldcS (q := 3) dX5_counterWord_1 (tx := "") (j := 26) (by decide) (by decide +kernel) rfl ?_
  refine V.cVMP (q := 6) (As := [_]) dX5_counterWord_3 rfl (kU_accepts hb ho hB hM (K := 14) (j := 26) (by decide) (by decide) (by decide +kernel)) MX5_accepts bw_1085 rfl rfl rfl rfl (by decide) rfl (fun v1 τ1 h1 => ?_)
  obtain ⟨rfl, hf1, hy, hn⟩ := h1
  have hB := hB.fr hf1
  have hF := hF.trans hf1
  refine V.if_eq (tgt := 13) (q := 9) dX5_counterWord_6 (by decide) rfl (fun c6 => ?_) (fun c6 => ?_)
  · have k1 : ¬ kn o P = 14 := of_decide_eq_false (bI0.mp c6)
    obtain ⟨hM, hat⟩ := hn k1
    have hM : MOk τ1 o (P, u, e) := hM
    have hat : sF τ1 94 9 = nI P := hat
    refine V.aload_n (q := 14) dX5_counterWord_13 rfl rfl ?_
    refine V.ldcS (q := 16) dX5_counterWord_14 (tx := "") (j := 27) (by decide) (by decide +kernel) rfl ?_
    refine V.cVMP (q := 19) (As := [_]) dX5_counterWord_16 rfl (kU_accepts hb ho hB hM (K := 15) (j := 27) (by decide) (by decide) (by decide +kernel)) MX5_accepts bw_1085 rfl rfl rfl rfl (by decide) rfl (fun v2 τ2 h2 => ?_)
    obtain ⟨rfl, hf2, hy, hn⟩ := h2
    have hB := hB.fr hf2
    have hF := hF.trans hf2
    refine V.if_eq (tgt := 26) (q := 22) dX5_counterWord_19 (by decide) rfl (fun c19 => ?_) (fun c19 => ?_)
    · have k2 : ¬ kn o P = 15 := of_decide_eq_false (bI0.mp c19)
      obtain ⟨hM, hat⟩ := hn k2
      have hM : MOk τ2 o (P, u, e) := hM
      have hat : sF τ2 94 9 = nI P := hat
      refine V.aload_n (q := 27) dX5_counterWord_26 rfl rfl ?_
      refine V.ldcS (q := 29) dX5_counterWord_27 (tx := "") (j := 28) (by decide) (by decide +kernel) rfl ?_
      refine V.cVMP (q := 32) (As := [_]) dX5_counterWord_29 rfl (kU_accepts hb ho hB hM (K := 16) (j := 28) (by decide) (by decide) (by decide +kernel)) MX5_accepts bw_1085 rfl rfl rfl rfl (by decide) rfl (fun v3 τ3 h3 => ?_)
      obtain ⟨rfl, hf3, hy, hn⟩ := h3
      have hB := hB.fr hf3
      have hF := hF.trans hf3
      refine V.if_eq (tgt := 39) (q := 35) dX5_counterWord_32 (by decide) rfl (fun c32 => ?_) (fun c32 => ?_)
      · have k3 : ¬ kn o P = 16 := of_decide_eq_false (bI0.mp c32)
        obtain ⟨hM, hat⟩ := hn k3
        have hM : MOk τ3 o (P, u, e) := hM
        have hat : sF τ3 94 9 = nI P := hat
        refine V.iconst (q := 40) dX5_counterWord_39 (v := -1) rfl rfl ?_
        refine V.istore_n (q := 41) dX5_counterWord_40 rfl rfl rfl rfl ?_
        refine V.iload_n (q := 42) dX5_counterWord_41 rfl rfl ?_
        refine V.iconst (q := 43) dX5_counterWord_42 (v := -1) rfl rfl ?_
        refine V.icmp_ne (tgt := 87) (q := 46) dX5_counterWord_43 (by decide) rfl (fun c43 => ?_) (fun c43 => ?_)
        · exact absurd rfl c43
        · refine V.aload_n (q := 47) dX5_counterWord_46 rfl rfl ?_
          refine V.ldcS (q := 49) dX5_counterWord_47 (tx := "") (j := 29) (by decide) (by decide +kernel) rfl ?_
          refine V.cVMP (q := 52) (As := [_]) dX5_counterWord_49 rfl (kU_accepts hb ho hB hM (K := 17) (j := 29) (by decide) (by decide) (by decide +kernel)) MX5_accepts bw_1085 rfl rfl rfl rfl (by decide) rfl (fun v4 τ4 h4 => ?_)
          obtain ⟨rfl, hf4, hy, hn⟩ := h4
          have hB := hB.fr hf4
          have hF := hF.trans hf4
          refine V.if_eq (tgt := 59) (q := 55) dX5_counterWord_52 (by decide) rfl (fun c52 => ?_) (fun c52 => ?_)
          · have k4 : ¬ kn o P = 17 := of_decide_eq_false (bI0.mp c52)
            obtain ⟨hM, hat⟩ := hn k4
            have hM : MOk τ4 o (P, u, e) := hM
            have hat : sF τ4 94 9 = nI P := hat
            refine V.aload_n (q := 60) dX5_counterWord_59 rfl rfl ?_
            refine V.ldcS (q := 62) dX5_counterWord_60 (tx := "") (j := 30) (by decide) (by decide +kernel) rfl ?_
            refine V.cVMP (q := 65) (As := [_]) dX5_counterWord_62 rfl (kU_accepts hb ho hB hM (K := 18) (j := 30) (by decide) (by decide) (by decide +kernel)) MX5_accepts bw_1085 rfl rfl rfl rfl (by decide) rfl (fun v5 τ5 h5 => ?_)
            obtain ⟨rfl, hf5, hy, hn⟩ := h5
            have hB := hB.fr hf5
            have hF := hF.trans hf5
            refine V.if_eq (tgt := 72) (q := 68) dX5_counterWord_65 (by decide) rfl (fun c65 => ?_) (fun c65 => ?_)
            · have k5 : ¬ kn o P = 18 := of_decide_eq_false (bI0.mp c65)
              obtain ⟨hM, hat⟩ := hn k5
              have hM : MOk τ5 o (P, u, e) := hM
              have hat : sF τ5 94 9 = nI P := hat
              refine V.aload_n (q := 73) dX5_counterWord_72 rfl rfl ?_
              refine V.ldcS (q := 75) dX5_counterWord_73 (tx := "") (j := 31) (by decide) (by decide +kernel) rfl ?_
              refine V.cVMP (q := 78) (As := [_]) dX5_counterWord_75 rfl (kU_accepts hb ho hB hM (K := 19) (j := 31) (by decide) (by decide) (by decide +kernel)) MX5_accepts bw_1085 rfl rfl rfl rfl (by decide) rfl (fun v6 τ6 h6 => ?_)
              obtain ⟨rfl, hf6, hy, hn⟩ := h6
              have hB := hB.fr hf6
              have hF := hF.trans hf6
              refine V.if_eq (tgt := 85) (q := 81) dX5_counterWord_78 (by decide) rfl (fun c78 => ?_) (fun c78 => ?_)
              · have k6 : ¬ kn o P = 19 := of_decide_eq_false (bI0.mp c78)
                obtain ⟨hM, hat⟩ := hn k6
                have hM : MOk τ6 o (P, u, e) := hM
                have hat : sF τ6 94 9 = nI P := hat
                refine V.iconst (q := 86) dX5_counterWord_85 (v := -1) rfl rfl ?_
                refine V.istore_n (q := 87) dX5_counterWord_86 rfl rfl rfl rfl ?_
                refine V.iload_n (q := 88) dX5_counterWord_87 rfl rfl ?_
                refine V.iconst (q := 89) dX5_counterWord_88 (v := -1) rfl rfl ?_
                refine V.icmp_ne (tgt := 101) (q := 92) dX5_counterWord_89 (by decide) rfl (fun c89 => ?_) (fun c89 => ?_)
                · exact absurd rfl c89
                · refine V.aload_n (q := 93) dX5_counterWord_92 rfl rfl ?_
                  refine V.iconst (q := 94) dX5_counterWord_93 (v := 1) rfl rfl ?_
                  refine V.aload_n (q := 95) dX5_counterWord_94 rfl rfl ?_
                  refine V.gM (q := 98) dX5_counterWord_95 (j := 9) rfl bw_1020 rfl rfl rfl rfl ?_
                  rw [hat]
                  refine V.cVM (q := 101) dX5_counterWord_98 (As := [_, _]) rfl (kU_fail hM) MX5_fail bw_1106 rfl rfl rfl rfl (by decide) rfl ?_
                  refine V.iload_n (q := 102) dX5_counterWord_101 rfl rfl ?_
                  exact V.iret dX5_counterWord_102 rfl (by
      have hres : ctrR o P = .inl (1, P) := by
        unfold ctrR
        exact if_neg (by omega)
      exact ⟨_, _, rfl, rfl, rfl, by rw [hres]; rfl, hF.trans ((FrU.f (by decide)).trans (FrU.f (by decide))), by rw [hres]; exact hM.fl (by decide) rfl rfl⟩)
              · have k6 : kn o P = 19 := of_decide_eq_true (bI1.mp c78)
                have hM : MOk τ6 o (nx o P, u, e) := hy k6
                refine V.iconst (q := 82) dX5_counterWord_81 (v := 5) rfl rfl ?_
                refine V.goto (tgt := 86) dX5_counterWord_82 (by decide) ?_
                refine V.istore_n (q := 87) dX5_counterWord_86 rfl rfl rfl rfl ?_
                refine V.iload_n (q := 88) dX5_counterWord_87 rfl rfl ?_
                refine V.iconst (q := 89) dX5_counterWord_88 (v := -1) rfl rfl ?_
                refine V.icmp_ne (tgt := 101) (q := 92) dX5_counterWord_89 (by decide) rfl (fun c89 => ?_) (fun c89 => ?_)
                · refine V.iload_n (q := 102) dX5_counterWord_101 rfl rfl ?_
                  exact V.iret dX5_counterWord_102 rfl (by
      have hres : ctrR o P = .inr (19, nx o P) := by
        unfold ctrR
        rw [if_pos (by omega), k6]
      exact ⟨_, _, rfl, rfl, rfl, by rw [hres]; rfl, hF, by rw [hres]; exact hM⟩)
                · exact absurd c89 (by decide)
            · have k5 : kn o P = 18 := of_decide_eq_true (bI1.mp c65)
              have hM : MOk τ5 o (nx o P, u, e) := hy k5
              refine V.iconst (q := 69) dX5_counterWord_68 (v := 4) rfl rfl ?_
              refine V.goto (tgt := 86) dX5_counterWord_69 (by decide) ?_
              refine V.istore_n (q := 87) dX5_counterWord_86 rfl rfl rfl rfl ?_
              refine V.iload_n (q := 88) dX5_counterWord_87 rfl rfl ?_
              refine V.iconst (q := 89) dX5_counterWord_88 (v := -1) rfl rfl ?_
              refine V.icmp_ne (tgt := 101) (q := 92) dX5_counterWord_89 (by decide) rfl (fun c89 => ?_) (fun c89 => ?_)
              · refine V.iload_n (q := 102) dX5_counterWord_101 rfl rfl ?_
                exact V.iret dX5_counterWord_102 rfl (by
      have hres : ctrR o P = .inr (18, nx o P) := by
        unfold ctrR
        rw [if_pos (by omega), k5]
      exact ⟨_, _, rfl, rfl, rfl, by rw [hres]; rfl, hF, by rw [hres]; exact hM⟩)
              · exact absurd c89 (by decide)
          · have k4 : kn o P = 17 := of_decide_eq_true (bI1.mp c52)
            have hM : MOk τ4 o (nx o P, u, e) := hy k4
            refine V.iconst (q := 56) dX5_counterWord_55 (v := 3) rfl rfl ?_
            refine V.goto (tgt := 86) dX5_counterWord_56 (by decide) ?_
            refine V.istore_n (q := 87) dX5_counterWord_86 rfl rfl rfl rfl ?_
            refine V.iload_n (q := 88) dX5_counterWord_87 rfl rfl ?_
            refine V.iconst (q := 89) dX5_counterWord_88 (v := -1) rfl rfl ?_
            refine V.icmp_ne (tgt := 101) (q := 92) dX5_counterWord_89 (by decide) rfl (fun c89 => ?_) (fun c89 => ?_)
            · refine V.iload_n (q := 102) dX5_counterWord_101 rfl rfl ?_
              exact V.iret dX5_counterWord_102 rfl (by
      have hres : ctrR o P = .inr (17, nx o P) := by
        unfold ctrR
        rw [if_pos (by omega), k4]
      exact ⟨_, _, rfl, rfl, rfl, by rw [hres]; rfl, hF, by rw [hres]; exact hM⟩)
            · exact absurd c89 (by decide)
      · have k3 : kn o P = 16 := of_decide_eq_true (bI1.mp c32)
        have hM : MOk τ3 o (nx o P, u, e) := hy k3
        refine V.iconst (q := 36) dX5_counterWord_35 (v := 2) rfl rfl ?_
        refine V.goto (tgt := 40) dX5_counterWord_36 (by decide) ?_
        refine V.istore_n (q := 41) dX5_counterWord_40 rfl rfl rfl rfl ?_
        refine V.iload_n (q := 42) dX5_counterWord_41 rfl rfl ?_
        refine V.iconst (q := 43) dX5_counterWord_42 (v := -1) rfl rfl ?_
        refine V.icmp_ne (tgt := 87) (q := 46) dX5_counterWord_43 (by decide) rfl (fun c43 => ?_) (fun c43 => ?_)
        · refine V.iload_n (q := 88) dX5_counterWord_87 rfl rfl ?_
          refine V.iconst (q := 89) dX5_counterWord_88 (v := -1) rfl rfl ?_
          refine V.icmp_ne (tgt := 101) (q := 92) dX5_counterWord_89 (by decide) rfl (fun c89 => ?_) (fun c89 => ?_)
          · refine V.iload_n (q := 102) dX5_counterWord_101 rfl rfl ?_
            exact V.iret dX5_counterWord_102 rfl (by
      have hres : ctrR o P = .inr (16, nx o P) := by
        unfold ctrR
        rw [if_pos (by omega), k3]
      exact ⟨_, _, rfl, rfl, rfl, by rw [hres]; rfl, hF, by rw [hres]; exact hM⟩)
          · exact absurd c89 (by decide)
        · exact absurd c43 (by decide)
    · have k2 : kn o P = 15 := of_decide_eq_true (bI1.mp c19)
      have hM : MOk τ2 o (nx o P, u, e) := hy k2
      refine V.iconst (q := 23) dX5_counterWord_22 (v := 1) rfl rfl ?_
      refine V.goto (tgt := 40) dX5_counterWord_23 (by decide) ?_
      refine V.istore_n (q := 41) dX5_counterWord_40 rfl rfl rfl rfl ?_
      refine V.iload_n (q := 42) dX5_counterWord_41 rfl rfl ?_
      refine V.iconst (q := 43) dX5_counterWord_42 (v := -1) rfl rfl ?_
      refine V.icmp_ne (tgt := 87) (q := 46) dX5_counterWord_43 (by decide) rfl (fun c43 => ?_) (fun c43 => ?_)
      · refine V.iload_n (q := 88) dX5_counterWord_87 rfl rfl ?_
        refine V.iconst (q := 89) dX5_counterWord_88 (v := -1) rfl rfl ?_
        refine V.icmp_ne (tgt := 101) (q := 92) dX5_counterWord_89 (by decide) rfl (fun c89 => ?_) (fun c89 => ?_)
        · refine V.iload_n (q := 102) dX5_counterWord_101 rfl rfl ?_
          exact V.iret dX5_counterWord_102 rfl (by
      have hres : ctrR o P = .inr (15, nx o P) := by
        unfold ctrR
        rw [if_pos (by omega), k2]
      exact ⟨_, _, rfl, rfl, rfl, by rw [hres]; rfl, hF, by rw [hres]; exact hM⟩)
        · exact absurd c89 (by decide)
      · exact absurd c43 (by decide)
  · have k1 : kn o P = 14 := of_decide_eq_true (bI1.mp c6)
    have hM : MOk τ1 o (nx o P, u, e) := hy k1
    refine V.iconst (q := 10) dX5_counterWord_9 (v := 0) rfl rfl ?_
    refine V.goto (tgt := 40) dX5_counterWord_10 (by decide) ?_
    refine V.istore_n (q := 41) dX5_counterWord_40 rfl rfl rfl rfl ?_
    refine V.iload_n (q := 42) dX5_counterWord_41 rfl rfl ?_
    refine V.iconst (q := 43) dX5_counterWord_42 (v := -1) rfl rfl ?_
    refine V.icmp_ne (tgt := 87) (q := 46) dX5_counterWord_43 (by decide) rfl (fun c43 => ?_) (fun c43 => ?_)
    · refine V.iload_n (q := 88) dX5_counterWord_87 rfl rfl ?_
      refine V.iconst (q := 89) dX5_counterWord_88 (v := -1) rfl rfl ?_
      refine V.icmp_ne (tgt := 101) (q := 92) dX5_counterWord_89 (by decide) rfl (fun c89 => ?_) (fun c89 => ?_)
      · refine V.iload_n (q := 102) dX5_counterWord_101 rfl rfl ?_
        exact V.iret dX5_counterWord_102 rfl (by
      have hres : ctrR o P = .inr (14, nx o P) := by
        unfold ctrR
        rw [if_pos (by omega), k1]
      exact ⟨_, _, rfl, rfl, rfl, by rw [hres]; rfl, hF, by rw [hres]; exact hM⟩)
      · exact absurd c89 (by decide)
    · exact absurd c43 (by decide)
set_option maxHeartbeats 2000000 in
theorem kU_counted {l : Launch} {G : GG} {σ : St} {u : Vw} (hM : RM σ u) {c : Nat} (hc : 14 ≤ c ∧ c ≤ 19) : CtS l G TX5_counted 4 [.ref (gB G + 94), .int (nI (c - 14))] σ (some (.int (cntI u c))) σ := by
  obtain ⟨h1, h2⟩ := hc
  refine CtS.ofV (by decide +kernel) rfl rfl (Nat.le_of_ble_eq_true rfl) ?_
  rcases (show c = 14 ∨ c = 15 ∨ c = 16 ∨ c = 17 ∨ c = 18 ∨ c = 19 by omega) with rfl | rfl | rfl | rfl | rfl | rfl
  · (skip; skip)
    refine V.iload_n (q := 1) dX5_counted_0 rfl rfl ?_
    refine V.tableIn (off := 35) (tgt := 36) dX5_counted_1 (by decide) (by decide) rfl (by decide) ?_
    refine V.aload_n (q := 37) dX5_counted_36 rfl rfl ?_
    refine V.iconst (q := 38) dX5_counted_37 (v := 3) rfl rfl ?_
    refine V.cVM (q := 41) dX5_counted_38 (As := [_]) rfl (cM_many hM) MX5_many bw_1180 rfl rfl rfl rfl (by decide) rfl ?_
    refine V.goto (tgt := 85) dX5_counted_41 (by decide) ?_
    exact V.iret dX5_counted_85 rfl ⟨rfl, rfl, rfl⟩
  · (skip; skip; skip)
    refine V.iload_n (q := 1) dX5_counted_0 rfl rfl ?_
    refine V.tableIn (off := 43) (tgt := 44) dX5_counted_1 (by decide) (by decide) rfl (by decide) ?_
    refine V.aload_n (q := 45) dX5_counted_44 rfl rfl ?_
    refine V.iconst (q := 46) dX5_counted_45 (v := 2) rfl rfl ?_
    refine V.cVM (q := 49) dX5_counted_46 (As := [_]) rfl (cM_many hM) MX5_many bw_1180 rfl rfl rfl rfl (by decide) rfl ?_
    refine V.goto (tgt := 85) dX5_counted_49 (by decide) ?_
    exact V.iret dX5_counted_85 rfl ⟨rfl, rfl, rfl⟩
  · (skip; skip; skip; skip)
    refine V.iload_n (q := 1) dX5_counted_0 rfl rfl ?_
    refine V.tableIn (off := 51) (tgt := 52) dX5_counted_1 (by decide) (by decide) rfl (by decide) ?_
    refine V.aload_n (q := 53) dX5_counted_52 rfl rfl ?_
    refine V.iconst (q := 54) dX5_counted_53 (v := 1) rfl rfl ?_
    refine V.cVM (q := 57) dX5_counted_54 (As := [_]) rfl (cM_many hM) MX5_many bw_1180 rfl rfl rfl rfl (by decide) rfl ?_
    refine V.goto (tgt := 85) dX5_counted_57 (by decide) ?_
    exact V.iret dX5_counted_85 rfl ⟨rfl, rfl, rfl⟩
  · (skip; skip; skip; skip; skip)
    refine V.iload_n (q := 1) dX5_counted_0 rfl rfl ?_
    refine V.tableIn (off := 59) (tgt := 60) dX5_counted_1 (by decide) (by decide) rfl (by decide) ?_
    refine V.aload_n (q := 61) dX5_counted_60 rfl rfl ?_
    refine V.gM (q := 64) dX5_counted_61 (j := 1) rfl bw_1012 rfl rfl rfl rfl ?_
    refine V.iconst (q := 65) dX5_counted_64 (v := 4) rfl rfl ?_
    refine V.ldMu (q := 66) 4 dX5_counted_65 hM rfl rfl rfl ?_
    refine V.goto (tgt := 85) dX5_counted_66 (by decide) ?_
    exact V.iret dX5_counted_85 rfl ⟨rfl, rfl, rfl⟩
  · (skip; skip; skip; skip; skip; skip)
    refine V.iload_n (q := 1) dX5_counted_0 rfl rfl ?_
    refine V.tableIn (off := 68) (tgt := 69) dX5_counted_1 (by decide) (by decide) rfl (by decide) ?_
    refine V.aload_n (q := 70) dX5_counted_69 rfl rfl ?_
    refine V.gM (q := 73) dX5_counted_70 (j := 1) rfl bw_1012 rfl rfl rfl rfl ?_
    refine V.bipush (q := 75) dX5_counted_73 (v := 6) rfl rfl ?_
    refine V.ldMu (q := 76) 6 dX5_counted_75 hM rfl rfl rfl ?_
    refine V.goto (tgt := 85) dX5_counted_76 (by decide) ?_
    exact V.iret dX5_counted_85 rfl ⟨rfl, rfl, rfl⟩
  · (skip; skip; skip; skip; skip; skip; skip)
    refine V.iload_n (q := 1) dX5_counted_0 rfl rfl ?_
    refine V.tableOut (tgt := 79) dX5_counted_1 (by decide) (by decide) ?_
    refine V.aload_n (q := 80) dX5_counted_79 rfl rfl ?_
    refine V.gM (q := 83) dX5_counted_80 (j := 1) rfl bw_1012 rfl rfl rfl rfl ?_
    refine V.iconst (q := 84) dX5_counted_83 (v := 3) rfl rfl ?_
    refine V.ldMu (q := 85) 3 dX5_counted_84 hM rfl rfl rfl ?_
    exact V.iret dX5_counted_85 rfl ⟨rfl, rfl, rfl⟩
