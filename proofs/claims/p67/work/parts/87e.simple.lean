/-! the class performs a simple command -/
theorem simple_cases : ∀ k, k < 26 → k = 5 ∨ k = 7 ∨ k = 8 ∨ k = 9 ∨ k = 10 ∨ k = 11 ∨ k = 12 ∨ k = 13 ∨ (((ev_sw.getD k 0).toInt < 1 ∨ 8 < (ev_sw.getD k 0).toInt) ∧ (k ≠ 5 ∧ k ≠ 7 ∧ k ≠ 8 ∧ k ≠ 9 ∧ k ≠ 10 ∧ k ≠ 11 ∧ k ≠ 12 ∧ k ≠ 13)) := by decide +kernel
theorem cmd_5 {o : Txt} {P : Nat} {u : Vw} (h : kn o P = 5) : cmdS o P u = (if un u = 40 then .inl (3, P) else calS o (nx o P) u) := by
  unfold cmdS
  rw [if_pos h]
theorem cmd_7 {o : Txt} {P : Nat} {u : Vw} (h : kn o P = 7) : cmdS o P u = runS o (nx o P) u := by
  unfold cmdS
  rw [if_neg (by rw [h]; decide), if_pos h]
theorem cmd_8 {o : Txt} {P : Nat} {u : Vw} (h : kn o P = 8) : cmdS o P u = .inr (nx o P, fzu (999 - uT u) u) := by
  unfold cmdS
  rw [if_neg (by rw [h]; decide), if_neg (by rw [h]; decide), if_pos h]
theorem cmd_9 {o : Txt} {P : Nat} {u : Vw} (h : kn o P = 9) : cmdS o P u = untS o (nx o P) u := by
  unfold cmdS
  rw [if_neg (by rw [h]; decide), if_neg (by rw [h]; decide), if_neg (by rw [h]; decide), if_pos h]
theorem cmd_10 {o : Txt} {P : Nat} {u : Vw} (h : kn o P = 10) : cmdS o P u = .inr (nx o P, uS u 5 (1 - us u 5)) := by
  unfold cmdS
  rw [if_neg (by rw [h]; decide), if_neg (by rw [h]; decide), if_neg (by rw [h]; decide), if_neg (by rw [h]; decide), if_pos h]
theorem cmd_11 {o : Txt} {P : Nat} {u : Vw} (h : kn o P = 11) : cmdS o P u = polS o (nx o P) u := by
  unfold cmdS
  rw [if_neg (by rw [h]; decide), if_neg (by rw [h]; decide), if_neg (by rw [h]; decide), if_neg (by rw [h]; decide), if_neg (by rw [h]; decide), if_pos h]
theorem cmd_12 {o : Txt} {P : Nat} {u : Vw} (h : kn o P = 12) : cmdS o P u = capS o (nx o P) u := by
  unfold cmdS
  rw [if_neg (by rw [h]; decide), if_neg (by rw [h]; decide), if_neg (by rw [h]; decide), if_neg (by rw [h]; decide), if_neg (by rw [h]; decide), if_neg (by rw [h]; decide), if_pos h]
theorem cmd_13 {o : Txt} {P : Nat} {u : Vw} (h : kn o P = 13) : cmdS o P u = expS o P (nx o P) u := by
  unfold cmdS
  rw [if_neg (by rw [h]; decide), if_neg (by rw [h]; decide), if_neg (by rw [h]; decide), if_neg (by rw [h]; decide), if_neg (by rw [h]; decide), if_neg (by rw [h]; decide), if_neg (by rw [h]; decide), if_pos h]
theorem cmd_no {o : Txt} {P : Nat} {u : Vw} (h : kn o P ≠ 5 ∧ kn o P ≠ 7 ∧ kn o P ≠ 8 ∧ kn o P ≠ 9 ∧ kn o P ≠ 10 ∧ kn o P ≠ 11 ∧ kn o P ≠ 12 ∧ kn o P ≠ 13) : cmdS o P u = .inl (1, P) := by
  obtain ⟨h5, h7, h8, h9, h10, h11, h12, h13⟩ := h
  unfold cmdS
  rw [if_neg h5, if_neg h7, if_neg h8, if_neg h9, if_neg h10, if_neg h11, if_neg h12, if_neg h13]
set_option maxHeartbeats 2000000 in
theorem kP_performSimple {l : Launch} {G : GG} {σ : St} {o : Txt} {n P e : Nat} {u : Vw} (hT : TK G σ o n) (hS : sS σ = some (gB G + 8)) (hO : Ok u) (hC : CP σ o n (P, u, e))  : CtP l G TX2_performSimple 4 [.ref (gB G + 19)] σ (fun v τ => v = some (.int (bI (cB (cmdS o P u)))) ∧ FrP σ τ ∧ CC τ o n (e + 1) (cmdS o P u)) := by
  obtain ⟨⟨⟨i, hi, hat, hst⟩, h7, h8⟩, h6, qq, hR⟩ := hC
  have hn5 := hT.1
  have hI := hO.1
  obtain ⟨hF0, hN0, hFN0, h20, h2⟩ := hI.F
  have hfl : us u 0 - 1 = nI (uN u - 1) := by rw [hN0]; exact pk_sub (b := 1) (by omega)
  have hF : FrP σ σ := FrP.rf
  have hR : RC σ 8 u qq := hR
  have h6 : sF σ 19 6 = nI e := h6
  have hn40 : un u ≤ 40 := hR.1
  have ht9 := hO.2
  have hP : st o i = P := hst
  refine CtP.ofV (by decide +kernel) rfl rfl (Nat.le_of_ble_eq_true rfl) ?_
  refine V.aload_n (q := 1) dX2_performSimple_0 rfl rfl ?_
  refine V.dup (q := 2) dX2_performSimple_1 rfl rfl ?_
  refine V.gP (q := 5) dX2_performSimple_2 (j := 6) (by first | rfl | assumption) bw_143 rfl rfl rfl rfl ?_
  rw [h6]
  refine V.iconst (q := 6) dX2_performSimple_5 (v := 1) rfl rfl ?_
  refine V.iadd (q := 7) dX2_performSimple_6 rfl ?_
  refine V.pP (q := 10) dX2_performSimple_7 (j := 6) (by first | rfl | assumption) bw_143 rfl rfl rfl rfl rfl rfl ?_
  have hf := FrP.f (σ := σ) (j := 6) (x := nI e + 1) (by decide)
  have hT := hT.frP hf
  have hS := hf.sS hS
  have hR : RC (stF σ 19 6 (nI e + 1)) 8 u qq := hR.fld (by decide)
  have h6 : sF (stF σ 19 6 (nI e + 1)) 19 6 = nI (e + 1) := stF_at.trans (nI_1 e)
  have hat : sF (stF σ 19 6 (nI e + 1)) 19 4 = nI i := (stF_in (by decide)).trans hat
  have h7 : sF (stF σ 19 6 (nI e + 1)) 19 7 = 0 := (stF_in (by decide)).trans h7
  have h8 : sF (stF σ 19 6 (nI e + 1)) 19 8 = -1 := (stF_in (by decide)).trans h8
  have hF := hf
  generalize stF σ 19 6 (nI e + 1) = τ0 at hf hT hS hR h6 hat h7 h8 hF ⊢
  have hC : CP τ0 o n (P, u, e + 1) := ⟨⟨⟨i, hi, hat, hst⟩, h7, h8⟩, h6, _, hR⟩
  refine V.gets (q := 13) dX2_performSimple_10 st_sw bw_877 rfl ?_
  refine V.aload_n (q := 14) dX2_performSimple_13 rfl rfl ?_
  refine V.cVP (q := 17) dX2_performSimple_14 (As := []) rfl (kP_nextKind hT hi hat) MX2_nextKind bw_861 (by first | rfl | assumption) rfl rfl rfl (by decide) rfl ?_
  refine V.ord (q := 20) dX2_performSimple_17 kn_b bw_879 rfl (by decide) rfl ?_
  refine V.tald (q := 21) dX2_performSimple_20 (i := kn o (st o i)) ta_sw kn_b (by decide) rfl rfl rfl ?_
  rw [hP]
  rcases simple_cases _ (kn_b (o := o) (s := P)) with hk5 | hk7 | hk8 | hk9 | hk10 | hk11 | hk12 | hk13 | ⟨hko, hkn⟩
  · rw [hk5]
    refine V.tableIn (off := 47) (tgt := 68) dX2_performSimple_21 (by decide) (by decide) rfl (by decide) ?_
    refine V.aload_n (q := 69) dX2_performSimple_68 rfl rfl ?_
    refine V.cVPP (q := 72) (As := []) dX2_performSimple_69 rfl (kP_performCall hT hS hO hC hk5) MX2_performCall bw_906 (by first | rfl | assumption) rfl rfl rfl (by decide) rfl (fun v1 τ1 h1 => ?_)
    obtain ⟨rfl, hf1, hC1⟩ := h1
    exact V.zret (ty := .boolean) (bI_z _) dX2_performSimple_72 rfl ⟨_, _, rfl, rfl, rfl, by rw [cmd_5 hk5], hF.trans hf1, by rw [cmd_5 hk5]; exact hC1⟩
  · rw [hk7]
    refine V.tableIn (off := 52) (tgt := 73) dX2_performSimple_21 (by decide) (by decide) rfl (by decide) ?_
    refine V.aload_n (q := 74) dX2_performSimple_73 rfl rfl ?_
    refine V.cVPP (q := 77) (As := []) dX2_performSimple_74 rfl (kP_performRun hT hS hO hC hk7) MX2_performRun bw_916 (by first | rfl | assumption) rfl rfl rfl (by decide) rfl (fun v1 τ1 h1 => ?_)
    obtain ⟨rfl, hf1, hC1⟩ := h1
    exact V.zret (ty := .boolean) (bI_z _) dX2_performSimple_77 rfl ⟨_, _, rfl, rfl, rfl, by rw [cmd_7 hk7], hF.trans hf1, by rw [cmd_7 hk7]; exact hC1⟩
  · rw [hk8]
    refine V.tableIn (off := 57) (tgt := 78) dX2_performSimple_21 (by decide) (by decide) rfl (by decide) ?_
    refine V.aload_n (q := 79) dX2_performSimple_78 rfl rfl ?_
    refine V.dup (q := 80) dX2_performSimple_79 rfl rfl ?_
    refine V.gP (q := 83) dX2_performSimple_80 (j := 4) (by first | rfl | assumption) bw_141 rfl rfl rfl rfl ?_
    rw [hat]
    refine V.iconst (q := 84) dX2_performSimple_83 (v := 1) rfl rfl ?_
    refine V.iadd (q := 85) dX2_performSimple_84 rfl ?_
    refine V.pP (q := 88) dX2_performSimple_85 (j := 4) (by first | rfl | assumption) bw_141 rfl rfl rfl rfl rfl rfl ?_
    have hf := FrT.f (σ := τ0) (j := 4) (x := nI i + 1) (by decide)
    have hA := CA.next hT hi (by rw [hP, hk8]; decide) h7 h8 (x := nI i + 1) rfl
    have hT := hT.frT hf
    have hS := hf.sS hS
    obtain ⟨qq, hR⟩ := hf.RC ⟨qq, hR⟩
    have h6 := hf.ex h6
    have hF := hF.trans hf.P
    generalize stF τ0 19 4 (nI i + 1) = τ1 at hf hA hT hS hR h6 hF ⊢
    rw [hP] at hA
    obtain ⟨⟨i1, hi1, hat1, hst1⟩, h71, h81⟩ := id hA
    refine V.aload_n (q := 89) dX2_performSimple_88 rfl rfl ?_
    refine V.gSim (q := 92) dX2_performSimple_89 hS bw_142 rfl ?_
    refine V.sipush (q := 95) dX2_performSimple_92 (v := 999) rfl rfl ?_
    refine V.aload_n (q := 96) dX2_performSimple_95 rfl rfl ?_
    refine V.gSim (q := 99) dX2_performSimple_96 hS bw_142 rfl ?_
    refine V.gSu (q := 102) 3 dX2_performSimple_99 hR rfl bw_54 rfl rfl ?_
    rw [RC.u3 hI]
    refine V.isub (q := 103) dX2_performSimple_102 rfl ?_
    rw [show (999 : Int32) - nI (uT u) = nI (999 - uT u) from pk_sub (a := 999) ht9]
    refine V.cVSP (q := 106) (As := [_]) dX2_performSimple_103 rfl (cS_tickToEnd (K := 999 - uT u) rfl hR hI (by omega)) MX3_tickToEnd bw_921 rfl rfl rfl rfl (by decide) rfl (fun v4 τ4 h4 => ?_)
    obtain ⟨rfl, hf4, hR⟩ := h4
    refine V.pop (q := 107) dX2_performSimple_106 rfl rfl ?_
    refine V.iconst (q := 108) dX2_performSimple_107 (v := 1) rfl rfl ?_
    exact V.zret (ty := .boolean) rfl dX2_performSimple_108 rfl ⟨_, _, rfl, rfl, rfl, by rw [cmd_8 hk8]; rfl, hF.trans hf4.P8, by rw [cmd_8 hk8]; exact ⟨⟨⟨i1, hi1, ((congrFun (hf4.1 19 (by decide)) 4).trans hat1), hst1⟩, ((congrFun (hf4.1 19 (by decide)) 7).trans h71), ((congrFun (hf4.1 19 (by decide)) 8).trans h81)⟩, ((congrFun (hf4.1 19 (by decide)) 6).trans h6), _, hR⟩⟩
  · rw [hk9]
    refine V.tableIn (off := 88) (tgt := 109) dX2_performSimple_21 (by decide) (by decide) rfl (by decide) ?_
    refine V.aload_n (q := 110) dX2_performSimple_109 rfl rfl ?_
    refine V.cVPP (q := 113) (As := []) dX2_performSimple_110 rfl (kP_performUntil hT hS hO hC hk9) MX2_performUntil bw_927 (by first | rfl | assumption) rfl rfl rfl (by decide) rfl (fun v1 τ1 h1 => ?_)
    obtain ⟨rfl, hf1, hC1⟩ := h1
    exact V.zret (ty := .boolean) (bI_z _) dX2_performSimple_113 rfl ⟨_, _, rfl, rfl, rfl, by rw [cmd_9 hk9], hF.trans hf1, by rw [cmd_9 hk9]; exact hC1⟩
  · rw [hk10]
    refine V.tableIn (off := 93) (tgt := 114) dX2_performSimple_21 (by decide) (by decide) rfl (by decide) ?_
    refine V.aload_n (q := 115) dX2_performSimple_114 rfl rfl ?_
    refine V.dup (q := 116) dX2_performSimple_115 rfl rfl ?_
    refine V.gP (q := 119) dX2_performSimple_116 (j := 4) (by first | rfl | assumption) bw_141 rfl rfl rfl rfl ?_
    rw [hat]
    refine V.iconst (q := 120) dX2_performSimple_119 (v := 1) rfl rfl ?_
    refine V.iadd (q := 121) dX2_performSimple_120 rfl ?_
    refine V.pP (q := 124) dX2_performSimple_121 (j := 4) (by first | rfl | assumption) bw_141 rfl rfl rfl rfl rfl rfl ?_
    have hf := FrT.f (σ := τ0) (j := 4) (x := nI i + 1) (by decide)
    have hA := CA.next hT hi (by rw [hP, hk10]; decide) h7 h8 (x := nI i + 1) rfl
    have hT := hT.frT hf
    have hS := hf.sS hS
    obtain ⟨qq, hR⟩ := hf.RC ⟨qq, hR⟩
    have h6 := hf.ex h6
    have hF := hF.trans hf.P
    generalize stF τ0 19 4 (nI i + 1) = τ1 at hf hA hT hS hR h6 hF ⊢
    rw [hP] at hA
    obtain ⟨⟨i1, hi1, hat1, hst1⟩, h71, h81⟩ := id hA
    refine V.aload_n (q := 125) dX2_performSimple_124 rfl rfl ?_
    refine V.gSim (q := 128) dX2_performSimple_125 hS bw_142 rfl ?_
    refine V.aload_n (q := 129) dX2_performSimple_128 rfl rfl ?_
    refine V.gSim (q := 132) dX2_performSimple_129 hS bw_142 rfl ?_
    refine V.gSu (q := 135) 5 dX2_performSimple_132 hR rfl bw_59 rfl rfl ?_
    refine V.if_ne (tgt := 142) (q := 138) dX2_performSimple_135 (by decide) rfl (fun c139 => ?_) (fun c139 => ?_)
    · refine V.iconst (q := 143) dX2_performSimple_142 (v := 0) rfl rfl ?_
      refine V.pS (q := 146) dX2_performSimple_143 (j := 5) rfl bw_59 rfl rfl rfl rfl rfl rfl ?_
      have hR := hR.sc 5 0 (by decide)
      rw [show uS u 5 0 = uS u 5 (1 - us u 5) from by rw [(hI.2.2.2.2.2.2.1.resolve_left c139)]; rfl] at hR
      have hf3 : FrS 8 τ1 (stF τ1 8 5 0) := FrS.rf.sc
      refine V.iconst (q := 147) dX2_performSimple_146 (v := 1) rfl rfl ?_
      exact V.zret (ty := .boolean) rfl dX2_performSimple_147 rfl ⟨_, _, rfl, rfl, rfl, by rw [cmd_10 hk10]; rfl, hF.trans hf3.P8, by rw [cmd_10 hk10]; exact ⟨⟨⟨i1, hi1, hat1, hst1⟩, h71, h81⟩, h6, _, hR⟩⟩
    · refine V.iconst (q := 139) dX2_performSimple_138 (v := 1) rfl rfl ?_
      refine V.goto (tgt := 143) dX2_performSimple_139 (by decide) ?_
      refine V.pS (q := 146) dX2_performSimple_143 (j := 5) rfl bw_59 rfl rfl rfl rfl rfl rfl ?_
      have hR := hR.sc 5 1 (by decide)
      rw [show uS u 5 1 = uS u 5 (1 - us u 5) from by rw [c139]; rfl] at hR
      have hf3 : FrS 8 τ1 (stF τ1 8 5 1) := FrS.rf.sc
      refine V.iconst (q := 147) dX2_performSimple_146 (v := 1) rfl rfl ?_
      exact V.zret (ty := .boolean) rfl dX2_performSimple_147 rfl ⟨_, _, rfl, rfl, rfl, by rw [cmd_10 hk10]; rfl, hF.trans hf3.P8, by rw [cmd_10 hk10]; exact ⟨⟨⟨i1, hi1, hat1, hst1⟩, h71, h81⟩, h6, _, hR⟩⟩
  · rw [hk11]
    refine V.tableIn (off := 127) (tgt := 148) dX2_performSimple_21 (by decide) (by decide) rfl (by decide) ?_
    refine V.aload_n (q := 149) dX2_performSimple_148 rfl rfl ?_
    refine V.cVPP (q := 152) (As := []) dX2_performSimple_149 rfl (kP_performPolicy hT hS hO hC hk11) MX2_performPolicy bw_956 (by first | rfl | assumption) rfl rfl rfl (by decide) rfl (fun v1 τ1 h1 => ?_)
    obtain ⟨rfl, hf1, hC1⟩ := h1
    exact V.zret (ty := .boolean) (bI_z _) dX2_performSimple_152 rfl ⟨_, _, rfl, rfl, rfl, by rw [cmd_11 hk11], hF.trans hf1, by rw [cmd_11 hk11]; exact hC1⟩
  · rw [hk12]
    refine V.tableIn (off := 132) (tgt := 153) dX2_performSimple_21 (by decide) (by decide) rfl (by decide) ?_
    refine V.aload_n (q := 154) dX2_performSimple_153 rfl rfl ?_
    refine V.cVPP (q := 157) (As := []) dX2_performSimple_154 rfl (kP_performCapacity hT hS hO hC hk12) MX2_performCapacity bw_960 (by first | rfl | assumption) rfl rfl rfl (by decide) rfl (fun v1 τ1 h1 => ?_)
    obtain ⟨rfl, hf1, hC1⟩ := h1
    exact V.zret (ty := .boolean) (bI_z _) dX2_performSimple_157 rfl ⟨_, _, rfl, rfl, rfl, by rw [cmd_12 hk12], hF.trans hf1, by rw [cmd_12 hk12]; exact hC1⟩
  · rw [hk13]
    refine V.tableIn (off := 137) (tgt := 158) dX2_performSimple_21 (by decide) (by decide) rfl (by decide) ?_
    refine V.aload_n (q := 159) dX2_performSimple_158 rfl rfl ?_
    refine V.cVPP (q := 162) (As := []) dX2_performSimple_159 rfl (kP_performExpect hT hS hO hC hk13) MX2_performExpect bw_964 (by first | rfl | assumption) rfl rfl rfl (by decide) rfl (fun v1 τ1 h1 => ?_)
    obtain ⟨rfl, hf1, hC1⟩ := h1
    exact V.zret (ty := .boolean) (bI_z _) dX2_performSimple_162 rfl ⟨_, _, rfl, rfl, rfl, by rw [cmd_13 hk13], hF.trans hf1, by rw [cmd_13 hk13]; exact hC1⟩
  · skip
    refine V.tableOut (tgt := 163) dX2_performSimple_21 hko (by decide) ?_
    refine V.aload_n (q := 164) dX2_performSimple_163 rfl rfl ?_
    refine V.iconst (q := 165) dX2_performSimple_164 (v := 1) rfl rfl ?_
    refine V.aload_n (q := 166) dX2_performSimple_165 rfl rfl ?_
    refine V.gP (q := 169) dX2_performSimple_166 (j := 4) (by first | rfl | assumption) bw_141 rfl rfl rfl rfl ?_
    rw [hat]
    refine V.cVP (q := 172) dX2_performSimple_169 (As := [_, _]) rfl (kP_fail hT hi) MX2_fail bw_865 (by first | rfl | assumption) rfl rfl rfl (by decide) rfl ?_
    exact V.zret (ty := .boolean) rfl dX2_performSimple_172 rfl ⟨_, _, rfl, rfl, rfl, by rw [cmd_no hkn]; rfl, hF.trans ((FrP.f (by decide)).trans (FrP.f (by decide))), by rw [cmd_no hkn]; exact (by rw [← hP]; exact CE.of rfl rfl)⟩
