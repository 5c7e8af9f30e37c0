/-! the class performs a simple command -/
theorem simple_cases : ∀ k, k < 26 → k = 5 ∨ k = 7 ∨ k = 8 ∨ k = 9 ∨ k = 10 ∨ k = 11 ∨ k = 12 ∨ k = 13 ∨ (((ev_sw.getD k 0).toInt < 1 ∨ 8 < (ev_sw.getD k 0).toInt) ∧ (k ≠ 5 ∧ k ≠ 7 ∧ k ≠ 8 ∧ k ≠ 9 ∧ k ≠ 10 ∧ k ≠ 11 ∧ k ≠ 12 ∧ k ≠ 13)) := by decide +kernel
theorem cmd_5 {o : Txt} {P : Nat} {u : Vw} (h : kn o P = 5) : cmdS o P u = (if un u = 40 then .inl (3, P) else calS o (nx o P) u) := by
  unfold cmdS
  rw [if_pos h]
theorem cmd_7 {o : Txt} {P : Nat} {u : Vw} (h : kn o P = 7) : cmdS o P u = runS o (nx o P) u := by
  unfold cmdS
  rw [if_neg (by rw [h]; decide), if_pos h]
theorem cmd_8 {o : Txt} {P : Nat} {u : Vw} (h : kn o P = 8) : cmdS o P u = .inr (nx o P, fzu (999 - uT u) u) := by
  unfold cmdS
  rw [if_neg (by rw [h]; decide), if_neg (by rw [h]; decide), if_pos h]
theorem cmd_9 {o : Txt} {P : Nat} {u : Vw} (h : kn o P = 9) : cmdS o P u = untS o (nx o P) u := by
  unfold cmdS
  rw [if_neg (by rw [h]; decide), if_neg (by rw [h]; decide), if_neg (by rw [h]; decide), if_pos h]
theorem cmd_10 {o : Txt} {P : Nat} {u : Vw} (h : kn o P = 10) : cmdS o P u = .inr (nx o P, uS u 5 (1 - us u 5)) := by
  unfold cmdS
  rw [if_neg (by rw [h]; decide), if_neg (by rw [h]; decide), if_neg (by rw [h]; decide), if_neg (by rw [h]; decide), if_pos h]
theorem cmd_11 {o : Txt} {P : Nat} {u : Vw} (h : kn o P = 11) : cmdS o P u = polS o (nx o P) u := by
  unfold cmdS
  rw [if_neg (by rw [h]; decide), if_neg (by rw [h]; decide), if_neg (by rw [h]; decide), if_neg (by rw [h]; decide), if_neg (by rw [h]; decide), if_pos h]
theorem cmd_12 {o : Txt} {P : Nat} {u : Vw} (h : kn o P = 12) : cmdS o P u = capS o (nx o P) u := by
  unfold cmdS
  rw [if_neg (by rw [h]; decide), if_neg (by rw [h]; decide), if_neg (by rw [h]; decide), if_neg (by rw [h]; decide), if_neg (by rw [h]; decide), if_neg (by rw [h]; decide), if_pos h]
theorem cmd_13 {o : Txt} {P : Nat} {u : Vw} (h : kn o P = 13) : cmdS o P u = expS o P (nx o P) u := by
  unfold cmdS
  rw [if_neg (by rw [h]; decide), if_neg (by rw [h]; decide), if_neg (by rw [h]; decide), if_neg (by rw [h]; decide), if_neg (by rw [h]; decide), if_neg (by rw [h]; decide), if_neg (by rw [h]; decide), if_pos h]
theorem cmd_no {o : Txt} {P : Nat} {u : Vw} (h : kn o P ≠ 5 ∧ kn o P ≠ 7 ∧ kn o P ≠ 8 ∧ kn o P ≠ 9 ∧ kn o P ≠ 10 ∧ kn o P ≠ 11 ∧ kn o P ≠ 12 ∧ kn o P ≠ 13) : cmdS o P u = .inl (1, P) := by
  obtain ⟨h5, h7, h8, h9, h10, h11, h12, h13⟩ := h
  unfold cmdS
  rw [if_neg h5, if_neg h7, if_neg h8, if_neg h9, if_neg h10, if_neg h11, if_neg h12, if_neg h13]
set_option maxHeartbeats 2000000 in
theorem kP_performSimple {l : Launch} {G : GG} {σ : St} {o : Txt} {n P e : Nat} {u : Vw} (hT : TK G σ o n) (hS : sS σ = some (gB G + 8)) (hO : Ok u) (hC : CP σ o n (P, u, e))  : CtP l G TX2_performSimple 4 [.ref (gB G + 19)] σ (fun v τ => v = some (.int (bI (cB (cmdS o P u)))) ∧ FrP σ τ ∧ CC τ o n (e + 1) (cmdS o P u)) := by
  obtain ⟨⟨⟨i, hi, hat, hst⟩, h7, h8⟩, h6, qq, hR⟩ := hC
  have hn5 := hT.1
  have hI := hO.1
  obtain ⟨hF0, hN0, hFN0, h20, h2⟩ := hI.F
  have hfl : us u 0 - 1 = nI (uN u - 1) := by rw [hN0]; exact pk_sub (b := 1) (by omega)
  have hF : FrP σ σ := FrP.rf
  have hR : RC σ 8 u qq := hR
  have h6 : sF σ 19 6 = nI e := h6
  have hn40 : un u ≤ 40 := hR.1
  have ht9 := hO.2
  have hP : st o i = P := hst
  refine CtP.ofV (by decide +kernel) rfl rfl (Nat.le_of_ble_eq_true rfl) ?_
  refine V.aload_n (q := 1) dX2_performSimple_0 rfl rfl ?_
  refine V.dup (q := 2) dX2_performSimple_1 rfl rfl ?_
  refine V.gP (q := 5) dX2_performSimple_2 (j := 6) (by first | rfl | assumption) bw_141 rfl rfl rfl rfl ?_
  rw [h6]
  refine V.iconst (q := 6) dX2_performSimple_5 (v := 1) rfl rfl ?_
  refine V.iadd (q := 7) dX2_performSimple_6 rfl ?_
  refine V.pP (q := 10) dX2_performSimple_7 (j := 6) (by first | rfl | assumption) bw_141 rfl rfl rfl rfl rfl rfl ?_
  have hf := FrP.f (σ := σ) (j := 6) (x := nI e + 1) (by decide)
  have hT := hT.frP hf
  have hS := hf.sS hS
  have hR : RC (stF σ 19 6 (nI e + 1)) 8 u qq := hR.fld (by decide)
  have h6 : sF (stF σ 19 6 (nI e + 1)) 19 6 = nI (e + 1) := stF_at.trans (nI_1 e)
  have hat : sF (stF σ 19 6 (nI e + 1)) 19 4 = nI i := (stF_in (by decide)).trans hat
  have h7 : sF (stF σ 19 6 (nI e + 1)) 19 7 = 0 := (stF_in (by decide)).trans h7
  have h8 : sF (stF σ 19 6 (nI e + 1)) 19 8 = -1 := (stF_in (by decide)).trans h8
  have hF := hf
  generalize stF σ 19 6 (nI e + 1) = τ0 at hf hT hS hR h6 hat h7 h8 hF ⊢
  have hC : CP τ0 o n (P, u, e + 1) := ⟨⟨⟨i, hi, hat, hst⟩, h7, h8⟩, h6, _, hR⟩
  refine V.gets (q := 13) dX2_performSimple_10 st_sw bw_574 rfl ?_
  refine V.aload_n (q := 14) dX2_performSimple_13 rfl rfl ?_
  refine V.gP (q := 17) dX2_performSimple_14 (j := 0) (by first | rfl | assumption) bw_135 rfl rfl rfl rfl ?_
  refine V.aload_n (q := 18) dX2_performSimple_17 rfl rfl ?_
  refine V.gP (q := 21) dX2_performSimple_18 (j := 4) (by first | rfl | assumption) bw_139 rfl rfl rfl rfl ?_
  rw [hat]
  refine V.ld8 (q := 22) dX2_performSimple_21 (i := i)  rfl (by omega) (CA.kn hT hi) rfl ?_
  refine V.ord (q := 25) dX2_performSimple_22 kn_b bw_576 rfl (by decide) rfl ?_
  refine V.tald (q := 26) dX2_performSimple_25 (i := kn o (st o i)) ta_sw kn_b (by decide) rfl rfl rfl ?_
  rw [hP]
  rcases simple_cases _ (kn_b (o := o) (s := P)) with hk5 | hk7 | hk8 | hk9 | hk10 | hk11 | hk12 | hk13 | ⟨hko, hkn⟩
  · rw [hk5]
    refine V.tableIn (off := 46) (tgt := 72) dX2_performSimple_26 (by decide) (by decide) rfl (by decide) ?_
    refine V.aload_n (q := 73) dX2_performSimple_72 rfl rfl ?_
    refine V.cVPP (q := 76) (As := []) dX2_performSimple_73 rfl (kP_performCall hT hS hO hC hk5) MX2_performCall bw_603 (by first | rfl | assumption) rfl rfl rfl (by decide) rfl (fun v1 τ1 h1 => ?_)
    obtain ⟨rfl, hf1, hC1⟩ := h1
    exact V.zret (ty := .boolean) (bI_z _) dX2_performSimple_76 rfl ⟨_, _, rfl, rfl, rfl, by rw [cmd_5 hk5], hF.trans hf1, by rw [cmd_5 hk5]; exact hC1⟩
  · rw [hk7]
    refine V.tableIn (off := 51) (tgt := 77) dX2_performSimple_26 (by decide) (by decide) rfl (by decide) ?_
    refine V.aload_n (q := 78) dX2_performSimple_77 rfl rfl ?_
    refine V.cVPP (q := 81) (As := []) dX2_performSimple_78 rfl (kP_performRun hT hS hO hC hk7) MX2_performRun bw_613 (by first | rfl | assumption) rfl rfl rfl (by decide) rfl (fun v1 τ1 h1 => ?_)
    obtain ⟨rfl, hf1, hC1⟩ := h1
    exact V.zret (ty := .boolean) (bI_z _) dX2_performSimple_81 rfl ⟨_, _, rfl, rfl, rfl, by rw [cmd_7 hk7], hF.trans hf1, by rw [cmd_7 hk7]; exact hC1⟩
  · rw [hk8]
    refine V.tableIn (off := 56) (tgt := 82) dX2_performSimple_26 (by decide) (by decide) rfl (by decide) ?_
    refine V.aload_n (q := 83) dX2_performSimple_82 rfl rfl ?_
    refine V.dup (q := 84) dX2_performSimple_83 rfl rfl ?_
    refine V.gP (q := 87) dX2_performSimple_84 (j := 4) (by first | rfl | assumption) bw_139 rfl rfl rfl rfl ?_
    rw [hat]
    refine V.iconst (q := 88) dX2_performSimple_87 (v := 1) rfl rfl ?_
    refine V.iadd (q := 89) dX2_performSimple_88 rfl ?_
    refine V.pP (q := 92) dX2_performSimple_89 (j := 4) (by first | rfl | assumption) bw_139 rfl rfl rfl rfl rfl rfl ?_
    have hf := FrT.f (σ := τ0) (j := 4) (x := nI i + 1) (by decide)
    have hA := CA.next hT hi (by rw [hP, hk8]; decide) h7 h8 (x := nI i + 1) rfl
    have hT := hT.frT hf
    have hS := hf.sS hS
    obtain ⟨qq, hR⟩ := hf.RC ⟨qq, hR⟩
    have h6 := hf.ex h6
    have hF := hF.trans hf.P
    generalize stF τ0 19 4 (nI i + 1) = τ1 at hf hA hT hS hR h6 hF ⊢
    rw [hP] at hA
    obtain ⟨⟨i1, hi1, hat1, hst1⟩, h71, h81⟩ := id hA
    refine V.aload_n (q := 93) dX2_performSimple_92 rfl rfl ?_
    refine V.gSim (q := 96) dX2_performSimple_93 hS bw_140 rfl ?_
    refine V.sipush (q := 99) dX2_performSimple_96 (v := 999) rfl rfl ?_
    refine V.aload_n (q := 100) dX2_performSimple_99 rfl rfl ?_
    refine V.gSim (q := 103) dX2_performSimple_100 hS bw_140 rfl ?_
    refine V.gSu (q := 106) 3 dX2_performSimple_103 hR rfl bw_49 rfl rfl ?_
    rw [RC.u3 hI]
    refine V.isub (q := 107) dX2_performSimple_106 rfl ?_
    rw [show (999 : Int32) - nI (uT u) = nI (999 - uT u) from pk_sub (a := 999) ht9]
    refine V.cVSP (q := 110) (As := [_]) dX2_performSimple_107 rfl (cS_tickToEnd (K := 999 - uT u) rfl hR hI (by omega)) MX3_tickToEnd bw_618 rfl rfl rfl rfl (by decide) rfl (fun v4 τ4 h4 => ?_)
    obtain ⟨rfl, hf4, hR⟩ := h4
    refine V.pop (q := 111) dX2_performSimple_110 rfl rfl ?_
    refine V.iconst (q := 112) dX2_performSimple_111 (v := 1) rfl rfl ?_
    exact V.zret (ty := .boolean) rfl dX2_performSimple_112 rfl ⟨_, _, rfl, rfl, rfl, by rw [cmd_8 hk8]; rfl, hF.trans hf4.P8, by rw [cmd_8 hk8]; exact ⟨⟨⟨i1, hi1, ((congrFun (hf4.1 19 (by decide)) 4).trans hat1), hst1⟩, ((congrFun (hf4.1 19 (by decide)) 7).trans h71), ((congrFun (hf4.1 19 (by decide)) 8).trans h81)⟩, ((congrFun (hf4.1 19 (by decide)) 6).trans h6), _, hR⟩⟩
  · rw [hk9]
    refine V.tableIn (off := 87) (tgt := 113) dX2_performSimple_26 (by decide) (by decide) rfl (by decide) ?_
    refine V.aload_n (q := 114) dX2_performSimple_113 rfl rfl ?_
    refine V.cVPP (q := 117) (As := []) dX2_performSimple_114 rfl (kP_performUntil hT hS hO hC hk9) MX2_performUntil bw_619 (by first | rfl | assumption) rfl rfl rfl (by decide) rfl (fun v1 τ1 h1 => ?_)
    obtain ⟨rfl, hf1, hC1⟩ := h1
    exact V.zret (ty := .boolean) (bI_z _) dX2_performSimple_117 rfl ⟨_, _, rfl, rfl, rfl, by rw [cmd_9 hk9], hF.trans hf1, by rw [cmd_9 hk9]; exact hC1⟩
  · rw [hk10]
    refine V.tableIn (off := 92) (tgt := 118) dX2_performSimple_26 (by decide) (by decide) rfl (by decide) ?_
    refine V.aload_n (q := 119) dX2_performSimple_118 rfl rfl ?_
    refine V.dup (q := 120) dX2_performSimple_119 rfl rfl ?_
    refine V.gP (q := 123) dX2_performSimple_120 (j := 4) (by first | rfl | assumption) bw_139 rfl rfl rfl rfl ?_
    rw [hat]
    refine V.iconst (q := 124) dX2_performSimple_123 (v := 1) rfl rfl ?_
    refine V.iadd (q := 125) dX2_performSimple_124 rfl ?_
    refine V.pP (q := 128) dX2_performSimple_125 (j := 4) (by first | rfl | assumption) bw_139 rfl rfl rfl rfl rfl rfl ?_
    have hf := FrT.f (σ := τ0) (j := 4) (x := nI i + 1) (by decide)
    have hA := CA.next hT hi (by rw [hP, hk10]; decide) h7 h8 (x := nI i + 1) rfl
    have hT := hT.frT hf
    have hS := hf.sS hS
    obtain ⟨qq, hR⟩ := hf.RC ⟨qq, hR⟩
    have h6 := hf.ex h6
    have hF := hF.trans hf.P
    generalize stF τ0 19 4 (nI i + 1) = τ1 at hf hA hT hS hR h6 hF ⊢
    rw [hP] at hA
    obtain ⟨⟨i1, hi1, hat1, hst1⟩, h71, h81⟩ := id hA
    refine V.aload_n (q := 129) dX2_performSimple_128 rfl rfl ?_
    refine V.gSim (q := 132) dX2_performSimple_129 hS bw_140 rfl ?_
    refine V.aload_n (q := 133) dX2_performSimple_132 rfl rfl ?_
    refine V.gSim (q := 136) dX2_performSimple_133 hS bw_140 rfl ?_
    refine V.gSu (q := 139) 5 dX2_performSimple_136 hR rfl bw_55 rfl rfl ?_
    refine V.if_ne (tgt := 146) (q := 142) dX2_performSimple_139 (by decide) rfl (fun c139 => ?_) (fun c139 => ?_)
    · refine V.iconst (q := 147) dX2_performSimple_146 (v := 0) rfl rfl ?_
      refine V.pS (q := 150) dX2_performSimple_147 (j := 5) rfl bw_55 rfl rfl rfl rfl rfl rfl ?_
      have hR := hR.sc 5 0 (by decide)
      rw [show uS u 5 0 = uS u 5 (1 - us u 5) from by rw [(hI.2.2.2.2.2.2.1.resolve_left c139)]; rfl] at hR
      have hf3 : FrS 8 τ1 (stF τ1 8 5 0) := FrS.rf.sc
      refine V.iconst (q := 151) dX2_performSimple_150 (v := 1) rfl rfl ?_
      exact V.zret (ty := .boolean) rfl dX2_performSimple_151 rfl ⟨_, _, rfl, rfl, rfl, by rw [cmd_10 hk10]; rfl, hF.trans hf3.P8, by rw [cmd_10 hk10]; exact ⟨⟨⟨i1, hi1, hat1, hst1⟩, h71, h81⟩, h6, _, hR⟩⟩
    · refine V.iconst (q := 143) dX2_performSimple_142 (v := 1) rfl rfl ?_
      refine V.goto (tgt := 147) dX2_performSimple_143 (by decide) ?_
      refine V.pS (q := 150) dX2_performSimple_147 (j := 5) rfl bw_55 rfl rfl rfl rfl rfl rfl ?_
      have hR := hR.sc 5 1 (by decide)
      rw [show uS u 5 1 = uS u 5 (1 - us u 5) from by rw [c139]; rfl] at hR
      have hf3 : FrS 8 τ1 (stF τ1 8 5 1) := FrS.rf.sc
      refine V.iconst (q := 151) dX2_performSimple_150 (v := 1) rfl rfl ?_
      exact V.zret (ty := .boolean) rfl dX2_performSimple_151 rfl ⟨_, _, rfl, rfl, rfl, by rw [cmd_10 hk10]; rfl, hF.trans hf3.P8, by rw [cmd_10 hk10]; exact ⟨⟨⟨i1, hi1, hat1, hst1⟩, h71, h81⟩, h6, _, hR⟩⟩
  · rw [hk11]
    refine V.tableIn (off := 126) (tgt := 152) dX2_performSimple_26 (by decide) (by decide) rfl (by decide) ?_
    refine V.aload_n (q := 153) dX2_performSimple_152 rfl rfl ?_
    refine V.cVPP (q := 156) (As := []) dX2_performSimple_153 rfl (kP_performPolicy hT hS hO hC hk11) MX2_performPolicy bw_651 (by first | rfl | assumption) rfl rfl rfl (by decide) rfl (fun v1 τ1 h1 => ?_)
    obtain ⟨rfl, hf1, hC1⟩ := h1
    exact V.zret (ty := .boolean) (bI_z _) dX2_performSimple_156 rfl ⟨_, _, rfl, rfl, rfl, by rw [cmd_11 hk11], hF.trans hf1, by rw [cmd_11 hk11]; exact hC1⟩
  · rw [hk12]
    refine V.tableIn (off := 131) (tgt := 157) dX2_performSimple_26 (by decide) (by decide) rfl (by decide) ?_
    refine V.aload_n (q := 158) dX2_performSimple_157 rfl rfl ?_
    refine V.cVPP (q := 161) (As := []) dX2_performSimple_158 rfl (kP_performCapacity hT hS hO hC hk12) MX2_performCapacity bw_655 (by first | rfl | assumption) rfl rfl rfl (by decide) rfl (fun v1 τ1 h1 => ?_)
    obtain ⟨rfl, hf1, hC1⟩ := h1
    exact V.zret (ty := .boolean) (bI_z _) dX2_performSimple_161 rfl ⟨_, _, rfl, rfl, rfl, by rw [cmd_12 hk12], hF.trans hf1, by rw [cmd_12 hk12]; exact hC1⟩
  · rw [hk13]
    refine V.tableIn (off := 136) (tgt := 162) dX2_performSimple_26 (by decide) (by decide) rfl (by decide) ?_
    refine V.aload_n (q := 163) dX2_performSimple_162 rfl rfl ?_
    refine V.cVPP (q := 166) (As := []) dX2_performSimple_163 rfl (kP_performExpect hT hS hO hC hk13) MX2_performExpect bw_659 (by first | rfl | assumption) rfl rfl rfl (by decide) rfl (fun v1 τ1 h1 => ?_)
    obtain ⟨rfl, hf1, hC1⟩ := h1
    exact V.zret (ty := .boolean) (bI_z _) dX2_performSimple_166 rfl ⟨_, _, rfl, rfl, rfl, by rw [cmd_13 hk13], hF.trans hf1, by rw [cmd_13 hk13]; exact hC1⟩
  · skip
    refine V.tableOut (tgt := 167) dX2_performSimple_26 hko (by decide) ?_
    refine V.aload_n (q := 168) dX2_performSimple_167 rfl rfl ?_
    refine V.iconst (q := 169) dX2_performSimple_168 (v := 1) rfl rfl ?_
    refine V.aload_n (q := 170) dX2_performSimple_169 rfl rfl ?_
    refine V.gP (q := 173) dX2_performSimple_170 (j := 4) (by first | rfl | assumption) bw_139 rfl rfl rfl rfl ?_
    rw [hat]
    refine V.cVP (q := 176) dX2_performSimple_173 (As := [_, _]) rfl (kP_fail hT hi) MX2_fail bw_562 (by first | rfl | assumption) rfl rfl rfl (by decide) rfl ?_
    exact V.zret (ty := .boolean) rfl dX2_performSimple_176 rfl ⟨_, _, rfl, rfl, rfl, by rw [cmd_no hkn]; rfl, hF.trans ((FrP.f (by decide)).trans (FrP.f (by decide))), by rw [cmd_no hkn]; exact (by rw [← hP]; exact CE.of rfl rfl)⟩
