/-! Simulation: ticks to the end, copies, a new building -/
set_option maxHeartbeats 4000000 in
theorem cS_tickToEnd {l : Launch} {G : GG} {σ : St} {u : Vw} {qq : Nat → Nat} {p : Nat} (hp : kd p = 1) (hR : RC σ p u qq) (hI : Iu u) {K : Nat} (hK : uT u + K ≤ 10000000) : CtP l G TX3_tickToEnd 3 [.ref (gB G + p), .int (nI K)] σ (fun v τ => v = some (.int (nI (fzn K u))) ∧ FrS p σ τ ∧ RC τ p (fzu K u) qq) := by
  have hn : un u ≤ 40 := hR.1
  refine CtP.ofV (by decide +kernel) rfl rfl (Nat.le_of_ble_eq_true rfl) ?_
  have loop : ∀ (m : Nat) (j : Nat) (τ : St) (v : Vw), m = K - j → j ≤ K → FrS p σ τ → RC τ p v qq → Iu v → uT v + (K - j) ≤ 10000000 → fzu (K - j) v = fzu K u → j + fzn (K - j) v = fzn K u → V l G TX3_tickToEnd 3 0 0 (RetP G (fun v τ => v = some (.int (nI (fzn K u))) ∧ FrS p σ τ ∧ RC τ p (fzu K u) qq)) 0 0 2 [some (.ref (gB G + p)), some (.int (nI K)), some (.int (nI j))] [] (hof G τ) NC := by
    intro m
    induction m using Nat.strongRecOn with
    | _ m ih =>
      intro j τ v hm hjK hfr hR hI hT hU hN
      refine V.iload_n (q := 3) dX3_tickToEnd_2 rfl rfl ?_
      refine V.iload_n (q := 4) dX3_tickToEnd_3 rfl rfl ?_
      refine V.icmp_ge (tgt := 24) (q := 7) dX3_tickToEnd_4 (by decide) rfl (fun c4 => ?_) (fun c4 => ?_)
      · have hie : j = K := Nat.le_antisymm hjK (nle c4 (by omega) (by omega))
        refine V.iload_n (q := 25) dX3_tickToEnd_24 rfl rfl ?_
        have e1 : v = fzu K u := by rw [← hU, hie, Nat.sub_self]; rfl
        have e2 : j = fzn K u := by rw [← hN, hie, Nat.sub_self]; rfl
        exact V.iret dX3_tickToEnd_25 rfl ⟨_, τ, rfl, rfl, rfl, by rw [e2], hfr, by rw [← e1]; exact hR⟩
      · have hlt : j < K := nnle c4 (by omega) (by omega)
        refine V.aload_n (q := 8) dX3_tickToEnd_7 rfl rfl ?_
        refine V.cVS (q := 11) dX3_tickToEnd_8 (As := []) rfl (cS_isOver hp hR) MX3_isOver bw_925 hp rfl rfl rfl (by decide) rfl ?_
        refine V.if_ne (tgt := 24) (q := 14) dX3_tickToEnd_11 (by decide) rfl (fun c11 => ?_) (fun c11 => ?_)
        · have hf : many v 3 = un v := by
            by_cases z : many v 3 = un v
            · exact z
            · rw [if_neg z] at c11; exact absurd rfl c11
          refine V.iload_n (q := 25) dX3_tickToEnd_24 rfl rfl ?_
          have e1 : v = fzu K u := by rw [← hU, fzu_fin hf]
          have e2 : j = fzn K u := by rw [← hN, fzn_fin hf]; rfl
          exact V.iret dX3_tickToEnd_25 rfl ⟨_, τ, rfl, rfl, rfl, by rw [e2], hfr, by rw [← e1]; exact hR⟩
        · have hf : ¬ many v 3 = un v := fun z => by rw [if_pos z] at c11; exact absurd c11 (by decide)
          have hI2 := Iu_tkN hI (by omega)
          have hT2 := (tk_T hI).1
          refine V.aload_n (q := 15) dX3_tickToEnd_14 rfl rfl ?_
          refine V.cVSP (q := 18) (As := []) dX3_tickToEnd_15 rfl (cS_tick hp hR hI) MX3_tick bw_926 hp rfl rfl rfl (by decide) rfl (fun v1 τ1 h1 => ?_)
          obtain ⟨rfl, hfr1, hR⟩ := h1
          have hfr := hfr.trans hfr1
          refine V.iinc (q := 21) dX3_tickToEnd_18 rfl (by first | exact nI_inc _ | rfl) rfl rfl rfl ?_
          refine V.goto (tgt := 2) dX3_tickToEnd_21 (by decide) ?_
          refine ih _ (by omega) (j + 1) _ (tk v) rfl (by omega) hfr hR hI2 (by omega) ?_ ?_
          · rw [← hU, show K - j = (K - (j + 1)) + 1 by omega, fzu_step hf]
          · rw [← hN, show K - j = (K - (j + 1)) + 1 by omega, fzn_step hf]; omega
  refine V.iconst (q := 1) dX3_tickToEnd_0 (v := 0) rfl rfl ?_
  refine V.istore_n (q := 2) dX3_tickToEnd_1 rfl rfl rfl rfl ?_
  exact loop _ 0 _ u rfl (Nat.zero_le _) FrS.rf hR hI (by omega) rfl (by rw [Nat.sub_zero, Nat.zero_add])
set_option maxHeartbeats 4000000 in
theorem cS_copyFrom {l : Launch} {G : GG} {σ : St} {u : Vw} {qq : Nat → Nat} {p : Nat} {r : Nat} (hp : kd p = 1) (hr : kd r = 1) (hne : p ≠ r) (hR : RC σ r u qq) (hI : Iu u) : CtP l G TX3_copyFrom 2 [.ref (gB G + p), .ref (gB G + r)] σ (fun v τ => v = none ∧ FrS p σ τ ∧ RC τ p u qq) := by
  have hn : un u ≤ 40 := hR.1
  have hap := sims_apart hp hr hne
  have hq : Qok u qq := hR.2.2.2.2.2.2.2
  have hc : CpF σ p u 0 := fun j hj => absurd hj (Nat.not_lt_zero j)
  have hc2 : CpR σ p u qq 0 := fun j hj => absurd hj (Nat.not_lt_zero j)
  have hfr : FrS p σ σ := FrS.rf
  refine CtP.ofV (by decide +kernel) rfl rfl (Nat.le_of_ble_eq_true rfl) ?_
  refine V.aload_n (q := 1) dX3_copyFrom_0 rfl rfl ?_
  refine V.aload_n (q := 2) dX3_copyFrom_1 rfl rfl ?_
  refine V.gSu (q := 5) 0 dX3_copyFrom_2 hR hr bw_43 rfl rfl ?_
  refine V.pS (q := 8) dX3_copyFrom_5 (j := 0) hp bw_43 rfl rfl rfl rfl rfl rfl ?_
  have hc := hc.step (k := 0) (x := us u 0) rfl
  have hR := hR.frsc (p := p) (j := 0) hap (us u 0)
  have hfr := hfr.sc (j := 0) (x := us u 0)
  refine V.aload_n (q := 9) dX3_copyFrom_8 rfl rfl ?_
  refine V.aload_n (q := 10) dX3_copyFrom_9 rfl rfl ?_
  refine V.gSu (q := 13) 1 dX3_copyFrom_10 hR hr bw_46 rfl rfl ?_
  refine V.pS (q := 16) dX3_copyFrom_13 (j := 1) hp bw_46 rfl rfl rfl rfl rfl rfl ?_
  have hc := hc.step (k := 1) (x := us u 1) rfl
  have hR := hR.frsc (p := p) (j := 1) hap (us u 1)
  have hfr := hfr.sc (j := 1) (x := us u 1)
  refine V.aload_n (q := 17) dX3_copyFrom_16 rfl rfl ?_
  refine V.aload_n (q := 18) dX3_copyFrom_17 rfl rfl ?_
  refine V.gSu (q := 21) 2 dX3_copyFrom_18 hR hr bw_49 rfl rfl ?_
  refine V.pS (q := 24) dX3_copyFrom_21 (j := 2) hp bw_49 rfl rfl rfl rfl rfl rfl ?_
  have hc := hc.step (k := 2) (x := us u 2) rfl
  have hR := hR.frsc (p := p) (j := 2) hap (us u 2)
  have hfr := hfr.sc (j := 2) (x := us u 2)
  refine V.aload_n (q := 25) dX3_copyFrom_24 rfl rfl ?_
  refine V.aload_n (q := 26) dX3_copyFrom_25 rfl rfl ?_
  refine V.gSu (q := 29) 3 dX3_copyFrom_26 hR hr bw_52 rfl rfl ?_
  refine V.pS (q := 32) dX3_copyFrom_29 (j := 3) hp bw_52 rfl rfl rfl rfl rfl rfl ?_
  have hc := hc.step (k := 3) (x := us u 3) rfl
  have hR := hR.frsc (p := p) (j := 3) hap (us u 3)
  have hfr := hfr.sc (j := 3) (x := us u 3)
  refine V.aload_n (q := 33) dX3_copyFrom_32 rfl rfl ?_
  refine V.aload_n (q := 34) dX3_copyFrom_33 rfl rfl ?_
  refine V.gSu (q := 37) 4 dX3_copyFrom_34 hR hr bw_55 rfl rfl ?_
  refine V.pS (q := 40) dX3_copyFrom_37 (j := 4) hp bw_55 rfl rfl rfl rfl rfl rfl ?_
  have hc := hc.step (k := 4) (x := us u 4) rfl
  have hR := hR.frsc (p := p) (j := 4) hap (us u 4)
  have hfr := hfr.sc (j := 4) (x := us u 4)
  refine V.aload_n (q := 41) dX3_copyFrom_40 rfl rfl ?_
  refine V.aload_n (q := 42) dX3_copyFrom_41 rfl rfl ?_
  refine V.gSu (q := 45) 5 dX3_copyFrom_42 hR hr bw_58 rfl rfl ?_
  refine V.pSb (q := 48) dX3_copyFrom_45 hp bw_58 (hI.2.2.2.2.2.2.1) rfl ?_
  have hc := hc.step (k := 5) (x := us u 5) rfl
  have hR := hR.frsc (p := p) (j := 5) hap (us u 5)
  have hfr := hfr.sc (j := 5) (x := us u 5)
  refine V.aload_n (q := 49) dX3_copyFrom_48 rfl rfl ?_
  refine V.aload_n (q := 50) dX3_copyFrom_49 rfl rfl ?_
  refine V.gSu (q := 53) 6 dX3_copyFrom_50 hR hr bw_60 rfl rfl ?_
  refine V.pS (q := 56) dX3_copyFrom_53 (j := 6) hp bw_60 rfl rfl rfl rfl rfl rfl ?_
  have hc := hc.step (k := 6) (x := us u 6) rfl
  have hR := hR.frsc (p := p) (j := 6) hap (us u 6)
  have hfr := hfr.sc (j := 6) (x := us u 6)
  refine V.aload_n (q := 57) dX3_copyFrom_56 rfl rfl ?_
  refine V.aload_n (q := 58) dX3_copyFrom_57 rfl rfl ?_
  refine V.gSu (q := 61) 7 dX3_copyFrom_58 hR hr bw_63 rfl rfl ?_
  refine V.pS (q := 64) dX3_copyFrom_61 (j := 7) hp bw_63 rfl rfl rfl rfl rfl rfl ?_
  have hc := hc.step (k := 7) (x := us u 7) rfl
  have hR := hR.frsc (p := p) (j := 7) hap (us u 7)
  have hfr := hfr.sc (j := 7) (x := us u 7)
  refine V.aload_n (q := 65) dX3_copyFrom_64 rfl rfl ?_
  refine V.aload_n (q := 66) dX3_copyFrom_65 rfl rfl ?_
  refine V.gSu (q := 69) 8 dX3_copyFrom_66 hR hr bw_65 rfl rfl ?_
  refine V.pS (q := 72) dX3_copyFrom_69 (j := 8) hp bw_65 rfl rfl rfl rfl rfl rfl ?_
  have hc := hc.step (k := 8) (x := us u 8) rfl
  have hR := hR.frsc (p := p) (j := 8) hap (us u 8)
  have hfr := hfr.sc (j := 8) (x := us u 8)
  refine V.aload_n (q := 73) dX3_copyFrom_72 rfl rfl ?_
  refine V.aload_n (q := 74) dX3_copyFrom_73 rfl rfl ?_
  refine V.gSu (q := 77) 9 dX3_copyFrom_74 hR hr bw_67 rfl rfl ?_
  refine V.pS (q := 80) dX3_copyFrom_77 (j := 9) hp bw_67 rfl rfl rfl rfl rfl rfl ?_
  have hc := hc.step (k := 9) (x := us u 9) rfl
  have hR := hR.frsc (p := p) (j := 9) hap (us u 9)
  have hfr := hfr.sc (j := 9) (x := us u 9)
  refine V.aload_n (q := 81) dX3_copyFrom_80 rfl rfl ?_
  refine V.aload_n (q := 82) dX3_copyFrom_81 rfl rfl ?_
  refine V.gSn (q := 85) dX3_copyFrom_82 hR hr bw_68 rfl ?_
  refine V.pS (q := 88) dX3_copyFrom_85 (j := 10) hp bw_68 rfl rfl rfl rfl rfl rfl ?_
  have hc := hc.step (k := 10) (x := nI (un u)) rfl
  have hR := hR.frsc (p := p) (j := 10) hap (nI (un u))
  have hfr := hfr.sc (j := 10) (x := nI (un u))
  refine V.aload_n (q := 89) dX3_copyFrom_88 rfl rfl ?_
  refine V.aload_n (q := 90) dX3_copyFrom_89 rfl rfl ?_
  refine V.gSr (q := 93) dX3_copyFrom_90 hR hr bw_71 rfl ?_
  refine V.pS (q := 96) dX3_copyFrom_93 (j := 11) hp bw_71 rfl rfl rfl rfl rfl rfl ?_
  have hc := hc.step (k := 11) (x := nI (many u 2)) rfl
  have hR := hR.frsc (p := p) (j := 11) hap (nI (many u 2))
  have hfr := hfr.sc (j := 11) (x := nI (many u 2))
  refine V.aload_n (q := 97) dX3_copyFrom_96 rfl rfl ?_
  refine V.aload_n (q := 98) dX3_copyFrom_97 rfl rfl ?_
  refine V.gSd (q := 101) dX3_copyFrom_98 hR hr bw_74 rfl ?_
  refine V.pS (q := 104) dX3_copyFrom_101 (j := 12) hp bw_74 rfl rfl rfl rfl rfl rfl ?_
  have hc := hc.step (k := 12) (x := nI (many u 3)) rfl
  have hR := hR.frsc (p := p) (j := 12) hap (nI (many u 3))
  have hfr := hfr.sc (j := 12) (x := nI (many u 3))
  refine V.aload_n (q := 105) dX3_copyFrom_104 rfl rfl ?_
  refine V.gS (q := 108) dX3_copyFrom_105 (j := 13) hr bw_76 rfl rfl rfl rfl ?_
  refine V.iconst (q := 109) dX3_copyFrom_108 (v := 0) rfl rfl ?_
  refine V.aload_n (q := 110) dX3_copyFrom_109 rfl rfl ?_
  refine V.gS (q := 113) dX3_copyFrom_110 (j := 13) hp bw_76 rfl rfl rfl rfl ?_
  refine V.iconst (q := 114) dX3_copyFrom_113 (v := 0) rfl rfl ?_
  refine V.aload_n (q := 115) dX3_copyFrom_114 rfl rfl ?_
  refine V.gS (q := 118) dX3_copyFrom_115 (j := 10) hp bw_68 rfl rfl rfl rfl ?_
  refine V.cp2 (q := 121) dX3_copyFrom_118 bw_493 bw_495 bw_494 bw_12 (k0 := r + 1 + 0) (k1 := p + 1 + 0) (kd_simc hr (by decide)) (kd_simc hp (by decide)) rfl rfl (hc 10 (by decide)) hn rfl (by decide) rfl ?_
  have hc2 := hc2.cp (by decide) hR
  have hR := hR.frcp (p := p) (k := p + 1 + 0) (a := r + 1 + 0) (b := p + 1 + 0) (n := un u) hap (by omega) (by omega)
  have hfr := hfr.cp (k := p + 1 + 0) (a := r + 1 + 0) (b := p + 1 + 0) (n := un u) (by omega) (by omega)
  have hc := hc.cp (k := p + 1 + 0) (a := r + 1 + 0) (b := p + 1 + 0) (n := un u)
  refine V.aload_n (q := 122) dX3_copyFrom_121 rfl rfl ?_
  refine V.gS (q := 125) dX3_copyFrom_122 (j := 14) hr bw_78 rfl rfl rfl rfl ?_
  refine V.iconst (q := 126) dX3_copyFrom_125 (v := 0) rfl rfl ?_
  refine V.aload_n (q := 127) dX3_copyFrom_126 rfl rfl ?_
  refine V.gS (q := 130) dX3_copyFrom_127 (j := 14) hp bw_78 rfl rfl rfl rfl ?_
  refine V.iconst (q := 131) dX3_copyFrom_130 (v := 0) rfl rfl ?_
  refine V.aload_n (q := 132) dX3_copyFrom_131 rfl rfl ?_
  refine V.gS (q := 135) dX3_copyFrom_132 (j := 10) hp bw_68 rfl rfl rfl rfl ?_
  refine V.cp2 (q := 138) dX3_copyFrom_135 bw_493 bw_495 bw_494 bw_12 (k0 := r + 1 + 1) (k1 := p + 1 + 1) (kd_simc hr (by decide)) (kd_simc hp (by decide)) rfl rfl (hc 10 (by decide)) hn rfl (by decide) rfl ?_
  have hc2 := hc2.cp (by decide) hR
  have hR := hR.frcp (p := p) (k := p + 1 + 1) (a := r + 1 + 1) (b := p + 1 + 1) (n := un u) hap (by omega) (by omega)
  have hfr := hfr.cp (k := p + 1 + 1) (a := r + 1 + 1) (b := p + 1 + 1) (n := un u) (by omega) (by omega)
  have hc := hc.cp (k := p + 1 + 1) (a := r + 1 + 1) (b := p + 1 + 1) (n := un u)
  refine V.aload_n (q := 139) dX3_copyFrom_138 rfl rfl ?_
  refine V.gS (q := 142) dX3_copyFrom_139 (j := 15) hr bw_80 rfl rfl rfl rfl ?_
  refine V.iconst (q := 143) dX3_copyFrom_142 (v := 0) rfl rfl ?_
  refine V.aload_n (q := 144) dX3_copyFrom_143 rfl rfl ?_
  refine V.gS (q := 147) dX3_copyFrom_144 (j := 15) hp bw_80 rfl rfl rfl rfl ?_
  refine V.iconst (q := 148) dX3_copyFrom_147 (v := 0) rfl rfl ?_
  refine V.aload_n (q := 149) dX3_copyFrom_148 rfl rfl ?_
  refine V.gS (q := 152) dX3_copyFrom_149 (j := 10) hp bw_68 rfl rfl rfl rfl ?_
  refine V.cp2 (q := 155) dX3_copyFrom_152 bw_493 bw_495 bw_494 bw_12 (k0 := r + 1 + 2) (k1 := p + 1 + 2) (kd_simc hr (by decide)) (kd_simc hp (by decide)) rfl rfl (hc 10 (by decide)) hn rfl (by decide) rfl ?_
  have hc2 := hc2.cp (by decide) hR
  have hR := hR.frcp (p := p) (k := p + 1 + 2) (a := r + 1 + 2) (b := p + 1 + 2) (n := un u) hap (by omega) (by omega)
  have hfr := hfr.cp (k := p + 1 + 2) (a := r + 1 + 2) (b := p + 1 + 2) (n := un u) (by omega) (by omega)
  have hc := hc.cp (k := p + 1 + 2) (a := r + 1 + 2) (b := p + 1 + 2) (n := un u)
  refine V.aload_n (q := 156) dX3_copyFrom_155 rfl rfl ?_
  refine V.gS (q := 159) dX3_copyFrom_156 (j := 16) hr bw_82 rfl rfl rfl rfl ?_
  refine V.iconst (q := 160) dX3_copyFrom_159 (v := 0) rfl rfl ?_
  refine V.aload_n (q := 161) dX3_copyFrom_160 rfl rfl ?_
  refine V.gS (q := 164) dX3_copyFrom_161 (j := 16) hp bw_82 rfl rfl rfl rfl ?_
  refine V.iconst (q := 165) dX3_copyFrom_164 (v := 0) rfl rfl ?_
  refine V.aload_n (q := 166) dX3_copyFrom_165 rfl rfl ?_
  refine V.gS (q := 169) dX3_copyFrom_166 (j := 10) hp bw_68 rfl rfl rfl rfl ?_
  refine V.cp2 (q := 172) dX3_copyFrom_169 bw_493 bw_495 bw_494 bw_12 (k0 := r + 1 + 3) (k1 := p + 1 + 3) (kd_simc hr (by decide)) (kd_simc hp (by decide)) rfl rfl (hc 10 (by decide)) hn rfl (by decide) rfl ?_
  have hc2 := hc2.cp (by decide) hR
  have hR := hR.frcp (p := p) (k := p + 1 + 3) (a := r + 1 + 3) (b := p + 1 + 3) (n := un u) hap (by omega) (by omega)
  have hfr := hfr.cp (k := p + 1 + 3) (a := r + 1 + 3) (b := p + 1 + 3) (n := un u) (by omega) (by omega)
  have hc := hc.cp (k := p + 1 + 3) (a := r + 1 + 3) (b := p + 1 + 3) (n := un u)
  refine V.aload_n (q := 173) dX3_copyFrom_172 rfl rfl ?_
  refine V.gS (q := 176) dX3_copyFrom_173 (j := 17) hr bw_84 rfl rfl rfl rfl ?_
  refine V.iconst (q := 177) dX3_copyFrom_176 (v := 0) rfl rfl ?_
  refine V.aload_n (q := 178) dX3_copyFrom_177 rfl rfl ?_
  refine V.gS (q := 181) dX3_copyFrom_178 (j := 17) hp bw_84 rfl rfl rfl rfl ?_
  refine V.iconst (q := 182) dX3_copyFrom_181 (v := 0) rfl rfl ?_
  refine V.aload_n (q := 183) dX3_copyFrom_182 rfl rfl ?_
  refine V.gS (q := 186) dX3_copyFrom_183 (j := 10) hp bw_68 rfl rfl rfl rfl ?_
  refine V.cp2 (q := 189) dX3_copyFrom_186 bw_493 bw_495 bw_494 bw_12 (k0 := r + 1 + 4) (k1 := p + 1 + 4) (kd_simc hr (by decide)) (kd_simc hp (by decide)) rfl rfl (hc 10 (by decide)) hn rfl (by decide) rfl ?_
  have hc2 := hc2.cp (by decide) hR
  have hR := hR.frcp (p := p) (k := p + 1 + 4) (a := r + 1 + 4) (b := p + 1 + 4) (n := un u) hap (by omega) (by omega)
  have hfr := hfr.cp (k := p + 1 + 4) (a := r + 1 + 4) (b := p + 1 + 4) (n := un u) (by omega) (by omega)
  have hc := hc.cp (k := p + 1 + 4) (a := r + 1 + 4) (b := p + 1 + 4) (n := un u)
  refine V.aload_n (q := 190) dX3_copyFrom_189 rfl rfl ?_
  refine V.gS (q := 193) dX3_copyFrom_190 (j := 18) hr bw_86 rfl rfl rfl rfl ?_
  refine V.iconst (q := 194) dX3_copyFrom_193 (v := 0) rfl rfl ?_
  refine V.aload_n (q := 195) dX3_copyFrom_194 rfl rfl ?_
  refine V.gS (q := 198) dX3_copyFrom_195 (j := 18) hp bw_86 rfl rfl rfl rfl ?_
  refine V.iconst (q := 199) dX3_copyFrom_198 (v := 0) rfl rfl ?_
  refine V.aload_n (q := 200) dX3_copyFrom_199 rfl rfl ?_
  refine V.gS (q := 203) dX3_copyFrom_200 (j := 10) hp bw_68 rfl rfl rfl rfl ?_
  refine V.cp2 (q := 206) dX3_copyFrom_203 bw_493 bw_495 bw_494 bw_12 (k0 := r + 1 + 5) (k1 := p + 1 + 5) (kd_simc hr (by decide)) (kd_simc hp (by decide)) rfl rfl (hc 10 (by decide)) hn rfl (by decide) rfl ?_
  have hc2 := hc2.cp (by decide) hR
  have hR := hR.frcp (p := p) (k := p + 1 + 5) (a := r + 1 + 5) (b := p + 1 + 5) (n := un u) hap (by omega) (by omega)
  have hfr := hfr.cp (k := p + 1 + 5) (a := r + 1 + 5) (b := p + 1 + 5) (n := un u) (by omega) (by omega)
  have hc := hc.cp (k := p + 1 + 5) (a := r + 1 + 5) (b := p + 1 + 5) (n := un u)
  exact V.vret dX3_copyFrom_206 rfl ⟨none, _, rfl, rfl, rfl, rfl, hfr, RC.made hn hq hc hc2⟩
