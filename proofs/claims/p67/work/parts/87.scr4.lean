/-! the class performs its commands -/
theorem cv_c {o : Txt} {P : Nat} {y : Nat × Nat × Nat × Nat} (h : cvR o P = .inr y) : y.1 = kn o P ∧ y.2.2.1 = nx o P ∧ y.2.2.2 = nx o (nx o P) ∧ (14 ≤ y.1 ∧ y.1 ≤ 19) ∧ y.2.1 ≤ 999 := by
  obtain ⟨c, h1, h2⟩ := bnd_r h
  obtain ⟨z, h3, h4⟩ := bnd_r h2
  cases h4
  obtain ⟨a1, a2, a3, a4⟩ := ctrR_r h1
  have b := numR_r h3
  exact ⟨a1, a2, by show z.2 = _; rw [b.2.2.1, a2], ⟨a3, a4⟩, b.2.2.2.2⟩
theorem st_n1 {o : Txt} {i i2 q : Nat} (h : st o i = q) (h2 : st o i2 = nx o q) : i2 = i + 1 := st_inj (by rw [h2, ← h]; rfl)
theorem CA.kn {G : GG} {σ : St} {o : Txt} {n i : Nat} (hT : TK G σ o n) (hi : i ≤ n) : sK σ i = some (gA G (kn o (st o i))) := (hT.2.2.1 i hi).2.2
theorem RC.u3 {u : Vw} (hI : Iu u) : us u 3 = nI (uT u) := hI.T.1
set_option maxHeartbeats 1000000 in
theorem kP_count {l : Launch} {G : GG} {σ : St} {u : Vw} {qq : Nat → Nat} (hS : sS σ = some (gB G + 8)) (hR : RC σ 8 u qq) {c : Nat} (hc : 14 ≤ c ∧ c ≤ 19) : CtS l G TX2_count 2 [.ref (gB G + 19), .ref (gA G c)] σ (some (.int (cntI u c))) σ := by
  refine CtS.ofV (by decide +kernel) rfl rfl (Nat.le_of_ble_eq_true rfl) ?_
  refine V.gets (q := 3) dX2_count_0 st_sw bw_877 rfl ?_
  refine V.aload_n (q := 4) dX2_count_3 rfl rfl ?_
  refine V.ord (q := 7) dX2_count_4 (by omega) bw_879 rfl (by decide) rfl ?_
  refine V.tald (q := 8) dX2_count_7 (i := c) ta_sw (by omega) (by decide) rfl rfl rfl ?_
  rcases (show c = 14 ∨ c = 15 ∨ c = 16 ∨ c = 17 ∨ c = 18 ∨ c = 19 by omega) with rfl | rfl | rfl | rfl | rfl | rfl
  · (skip)
    refine V.tableIn (off := 36) (tgt := 44) dX2_count_8 (by decide) (by decide) rfl (by decide) ?_
    refine V.aload_n (q := 45) dX2_count_44 rfl rfl ?_
    refine V.gSim (q := 48) dX2_count_45 hS bw_142 rfl ?_
    refine V.gSd (q := 51) dX2_count_48 hR rfl bw_75 rfl ?_
    exact V.iret dX2_count_51 rfl ⟨rfl, rfl, rfl⟩
  · (skip; skip)
    refine V.tableIn (off := 44) (tgt := 52) dX2_count_8 (by decide) (by decide) rfl (by decide) ?_
    refine V.aload_n (q := 53) dX2_count_52 rfl rfl ?_
    refine V.gSim (q := 56) dX2_count_53 hS bw_142 rfl ?_
    refine V.gSr (q := 59) dX2_count_56 hR rfl bw_73 rfl ?_
    exact V.iret dX2_count_59 rfl ⟨rfl, rfl, rfl⟩
  · (skip; skip; skip)
    refine V.tableIn (off := 52) (tgt := 60) dX2_count_8 (by decide) (by decide) rfl (by decide) ?_
    refine V.aload_n (q := 61) dX2_count_60 rfl rfl ?_
    refine V.gSim (q := 64) dX2_count_61 hS bw_142 rfl ?_
    refine V.iconst (q := 65) dX2_count_64 (v := 1) rfl rfl ?_
    refine V.cVS (q := 68) dX2_count_65 (As := [_]) rfl (cS_countWith rfl hR) MX3_countWith bw_955 rfl rfl rfl rfl (by decide) rfl ?_
    exact V.iret dX2_count_68 rfl ⟨rfl, rfl, rfl⟩
  · (skip; skip; skip; skip)
    refine V.tableIn (off := 61) (tgt := 69) dX2_count_8 (by decide) (by decide) rfl (by decide) ?_
    refine V.aload_n (q := 70) dX2_count_69 rfl rfl ?_
    refine V.gSim (q := 73) dX2_count_70 hS bw_142 rfl ?_
    refine V.gSu (q := 76) 4 dX2_count_73 hR rfl bw_57 rfl rfl ?_
    exact V.iret dX2_count_76 rfl ⟨rfl, rfl, rfl⟩
  · (skip; skip; skip; skip; skip)
    refine V.tableIn (off := 69) (tgt := 77) dX2_count_8 (by decide) (by decide) rfl (by decide) ?_
    refine V.aload_n (q := 78) dX2_count_77 rfl rfl ?_
    refine V.gSim (q := 81) dX2_count_78 hS bw_142 rfl ?_
    refine V.gSu (q := 84) 6 dX2_count_81 hR rfl bw_62 rfl rfl ?_
    exact V.iret dX2_count_84 rfl ⟨rfl, rfl, rfl⟩
  · (skip; skip; skip; skip; skip; skip)
    refine V.tableOut (tgt := 85) dX2_count_8 (by decide) (by decide) ?_
    refine V.aload_n (q := 86) dX2_count_85 rfl rfl ?_
    refine V.gSim (q := 89) dX2_count_86 hS bw_142 rfl ?_
    refine V.gSu (q := 92) 3 dX2_count_89 hR rfl bw_54 rfl rfl ?_
    exact V.iret dX2_count_92 rfl ⟨rfl, rfl, rfl⟩
set_option maxHeartbeats 2000000 in
theorem kP_performCall {l : Launch} {G : GG} {σ : St} {o : Txt} {n P e : Nat} {u : Vw} (hT : TK G σ o n) (hS : sS σ = some (gB G + 8)) (hO : Ok u) (hC : CP σ o n (P, u, e)) (hk : kn o P = 5) : CtP l G TX2_performCall 2 [.ref (gB G + 19)] σ (fun v τ => v = some (.int (bI (cB (if un u = 40 then .inl (3, P) else calS o (nx o P) u)))) ∧ FrP σ τ ∧ CC τ o n e (if un u = 40 then .inl (3, P) else calS o (nx o P) u)) := by
  obtain ⟨⟨⟨i, hi, hat, hst⟩, h7, h8⟩, h6, qq, hR⟩ := hC
  have hn5 := hT.1
  have hI := hO.1
  obtain ⟨hF0, hN0, hFN0, h20, h2⟩ := hI.F
  have hfl : us u 0 - 1 = nI (uN u - 1) := by rw [hN0]; exact pk_sub (b := 1) (by omega)
  have hF : FrP σ σ := FrP.rf
  have hR : RC σ 8 u qq := hR
  have h6 : sF σ 19 6 = nI e := h6
  have hn40 : un u ≤ 40 := hR.1
  have ht9 := hO.2
  have hP : st o i = P := hst
  refine CtP.ofV (by decide +kernel) rfl rfl (Nat.le_of_ble_eq_true rfl) ?_
  refine V.inj (fun hinj => ?_)
  refine V.aload_n (q := 1) dX2_performCall_0 rfl rfl ?_
  refine V.gSim (q := 4) dX2_performCall_1 hS bw_142 rfl ?_
  refine V.gSn (q := 7) dX2_performCall_4 hR rfl bw_70 rfl ?_
  refine V.bipush (q := 9) dX2_performCall_7 (v := 40) rfl rfl ?_
  refine V.icmp_lt (tgt := 22) (q := 12) dX2_performCall_9 (by decide) rfl (fun c9 => ?_) (fun c9 => ?_)
  · have h40 : un u < 40 := nlt (b := 40) c9 (by omega) (by decide)
    refine V.aload_n (q := 23) dX2_performCall_22 rfl rfl ?_
    refine V.dup (q := 24) dX2_performCall_23 rfl rfl ?_
    refine V.gP (q := 27) dX2_performCall_24 (j := 4) (by first | rfl | assumption) bw_141 rfl rfl rfl rfl ?_
    rw [hat]
    refine V.iconst (q := 28) dX2_performCall_27 (v := 1) rfl rfl ?_
    refine V.iadd (q := 29) dX2_performCall_28 rfl ?_
    refine V.pP (q := 32) dX2_performCall_29 (j := 4) (by first | rfl | assumption) bw_141 rfl rfl rfl rfl rfl rfl ?_
    have hf := FrT.f (σ := σ) (j := 4) (x := nI i + 1) (by decide)
    have hA := CA.next hT hi (by rw [hP, hk]; decide) h7 h8 (x := nI i + 1) rfl
    have hT := hT.frT hf
    have hS := hf.sS hS
    obtain ⟨qq, hR⟩ := hf.RC ⟨qq, hR⟩
    have h6 := hf.ex h6
    have hF := hF.trans hf.P
    generalize stF σ 19 4 (nI i + 1) = τ1 at hf hA hT hS hR h6 hF ⊢
    rw [hP] at hA
    refine V.aload_n (q := 33) dX2_performCall_32 rfl rfl ?_
    refine V.iconst (q := 34) dX2_performCall_33 (v := 0) rfl rfl ?_
    refine V.aload_n (q := 35) dX2_performCall_34 rfl rfl ?_
    refine V.gSim (q := 38) dX2_performCall_35 hS bw_142 rfl ?_
    refine V.gSu (q := 41) 0 dX2_performCall_38 hR rfl bw_45 rfl rfl ?_
    refine V.iconst (q := 42) dX2_performCall_41 (v := 1) rfl rfl ?_
    refine V.isub (q := 43) dX2_performCall_42 rfl ?_
    rw [hfl]
    refine V.cVPP (q := 46) (As := [_, _]) dX2_performCall_43 rfl (kP_takeNumber hT hA (lo := 0) (hi9 := uN u - 1) (by omega) (by omega)) MX2_takeNumber bw_869 (by first | rfl | assumption) rfl rfl rfl (by decide) rfl (fun v1 τ1 h1 => ?_)
    rcases hx1 : numR o (nx o P) 0 (uN u - 1) with e1 | y1
    · rw [hx1] at h1
      obtain ⟨rfl, hf1, hE1⟩ := h1
      show V _ _ _ _ _ _ _ _ _ _ _ (.int (-1) :: _) _ _
      refine V.istore_n (q := 47) dX2_performCall_46 rfl rfl rfl rfl ?_
      refine V.iload_n (q := 48) dX2_performCall_47 rfl rfl ?_
      refine V.iconst (q := 49) dX2_performCall_48 (v := -1) rfl rfl ?_
      refine V.icmp_ne (tgt := 54) (q := 52) dX2_performCall_49 (by decide) rfl (fun c49 => ?_) (fun c49 => ?_)
      · exact absurd rfl c49
      · refine V.iconst (q := 53) dX2_performCall_52 (v := 0) rfl rfl ?_
        exact V.zret (ty := .boolean) rfl dX2_performCall_53 rfl (by
      have hres : (if un u = 40 then .inl (3, P) else calS o (nx o P) u : Er ⊕ (Nat × Vw)) = .inl e1 := by
        rw [if_neg (by omega)]
        unfold calS
        rw [hx1]; rfl
      exact ⟨_, _, rfl, rfl, rfl, by rw [hres]; rfl, hF.trans hf1.P, by rw [hres]; exact hE1⟩)
    · (rw [hx1] at h1)
      obtain ⟨rfl, hf1, hA⟩ := h1
      have hA : CA τ1 o n y1.2 := hA
      have hT := hT.frT hf1
      have hS := hf1.sS hS
      obtain ⟨qq, hR⟩ := hf1.RC ⟨qq, hR⟩
      have h6 := hf1.ex h6
      have hF := hF.trans hf1.P
      obtain ⟨⟨i1, hi, hat, hst⟩, h7, h8⟩ := hA
      have hi1 := hi
      have hsti1 := hst
      show V _ _ _ _ _ _ _ _ _ _ _ (.int (nI y1.1) :: _) _ _
      have hA : CA τ1 o n y1.2 := ⟨⟨i1, hi, hat, hst⟩, h7, h8⟩
      refine V.istore_n (q := 47) dX2_performCall_46 rfl rfl rfl rfl ?_
      refine V.iload_n (q := 48) dX2_performCall_47 rfl rfl ?_
      refine V.iconst (q := 49) dX2_performCall_48 (v := -1) rfl rfl ?_
      refine V.icmp_ne (tgt := 54) (q := 52) dX2_performCall_49 (by decide) rfl (fun c49 => ?_) (fun c49 => ?_)
      · refine V.aload_n (q := 55) dX2_performCall_54 rfl rfl ?_
        refine V.iconst (q := 56) dX2_performCall_55 (v := 0) rfl rfl ?_
        refine V.aload_n (q := 57) dX2_performCall_56 rfl rfl ?_
        refine V.gSim (q := 60) dX2_performCall_57 hS bw_142 rfl ?_
        refine V.gSu (q := 63) 0 dX2_performCall_60 hR rfl bw_45 rfl rfl ?_
        refine V.iconst (q := 64) dX2_performCall_63 (v := 1) rfl rfl ?_
        refine V.isub (q := 65) dX2_performCall_64 rfl ?_
        rw [hfl]
        refine V.cVPP (q := 68) (As := [_, _]) dX2_performCall_65 rfl (kP_takeNumber hT hA (lo := 0) (hi9 := uN u - 1) (by omega) (by omega)) MX2_takeNumber bw_869 (by first | rfl | assumption) rfl rfl rfl (by decide) rfl (fun v2 τ2 h2 => ?_)
        rcases hx2 : numR o y1.2 0 (uN u - 1) with e2 | y2
        · rw [hx2] at h2
          obtain ⟨rfl, hf2, hE2⟩ := h2
          show V _ _ _ _ _ _ _ _ _ _ _ (.int (-1) :: _) _ _
          refine V.istore_n (q := 69) dX2_performCall_68 rfl rfl rfl rfl ?_
          refine V.iload_n (q := 70) dX2_performCall_69 rfl rfl ?_
          refine V.iconst (q := 71) dX2_performCall_70 (v := -1) rfl rfl ?_
          refine V.icmp_ne (tgt := 76) (q := 74) dX2_performCall_71 (by decide) rfl (fun c71 => ?_) (fun c71 => ?_)
          · exact absurd rfl c71
          · refine V.iconst (q := 75) dX2_performCall_74 (v := 0) rfl rfl ?_
            exact V.zret (ty := .boolean) rfl dX2_performCall_75 rfl (by
      have hres : (if un u = 40 then .inl (3, P) else calS o (nx o P) u : Er ⊕ (Nat × Vw)) = .inl e2 := by
        rw [if_neg (by omega)]
        unfold calS
        rw [hx1]
        show bnd (numR o y1.2 0 (uN u - 1)) _ = _
        rw [hx2]; rfl
      exact ⟨_, _, rfl, rfl, rfl, by rw [hres]; rfl, hF.trans hf2.P, by rw [hres]; exact hE2⟩)
        · (rw [hx2] at h2)
          obtain ⟨rfl, hf2, hA⟩ := h2
          have hA : CA τ2 o n y2.2 := hA
          have hT := hT.frT hf2
          have hS := hf2.sS hS
          obtain ⟨qq, hR⟩ := hf2.RC ⟨qq, hR⟩
          have h6 := hf2.ex h6
          have hF := hF.trans hf2.P
          obtain ⟨⟨i2, hi, hat, hst⟩, h7, h8⟩ := hA
          have hi2 := hi
          have hsti2 := hst
          show V _ _ _ _ _ _ _ _ _ _ _ (.int (nI y2.1) :: _) _ _
          have hi21 : i2 = i1 + 1 := st_n1 hsti1 (by rw [hst]; exact (numR_r hx2).2.2.1)
          refine V.istore_n (q := 69) dX2_performCall_68 rfl rfl rfl rfl ?_
          refine V.iload_n (q := 70) dX2_performCall_69 rfl rfl ?_
          refine V.iconst (q := 71) dX2_performCall_70 (v := -1) rfl rfl ?_
          refine V.icmp_ne (tgt := 76) (q := 74) dX2_performCall_71 (by decide) rfl (fun c71 => ?_) (fun c71 => ?_)
          · refine V.iload_n (q := 77) dX2_performCall_76 rfl rfl ?_
            refine V.iload_n (q := 78) dX2_performCall_77 rfl rfl ?_
            refine V.icmp_ne (tgt := 93) (q := 81) dX2_performCall_78 (by decide) rfl (fun c78 => ?_) (fun c78 => ?_)
            · have hab : ¬ y2.1 = y1.1 := fun z => c78 (by rw [z])
              refine V.aload_n (q := 94) dX2_performCall_93 rfl rfl ?_
              refine V.gSim (q := 97) dX2_performCall_94 hS bw_142 rfl ?_
              refine V.gSu (q := 100) 3 dX2_performCall_97 hR rfl bw_54 rfl rfl ?_
              rw [RC.u3 hI]
              refine V.istore_n (q := 101) dX2_performCall_100 rfl rfl rfl rfl ?_
              refine V.aload_n (q := 102) dX2_performCall_101 rfl rfl ?_
              refine V.cVP (q := 105) dX2_performCall_102 (As := []) rfl (kP_nextKind hT hi hat) MX2_nextKind bw_861 (by first | rfl | assumption) rfl rfl rfl (by decide) rfl ?_
              refine V.gets (q := 108) dX2_performCall_105 (st_kind (i := 6) (by decide) rfl) bw_910 rfl ?_
              refine V.acmp_ne (tgt := 143) (q := 111) dX2_performCall_108 (by decide) rfl (fun c113 => ?_) (fun c113 => ?_)
              · have hk6 : ¬ kn o (st o i2) = 6 := fun z => c113 (by rw [z])
                refine V.aload_n (q := 144) dX2_performCall_143 rfl rfl ?_
                refine V.gSim (q := 147) dX2_performCall_144 hS bw_142 rfl ?_
                refine V.iload_n (q := 148) dX2_performCall_147 rfl rfl ?_
                refine V.iload_n (q := 149) dX2_performCall_148 rfl rfl ?_
                refine V.iload_n (q := 150) dX2_performCall_149 rfl rfl ?_
                refine V.cVSP (q := 153) (As := [_, _, _]) dX2_performCall_150 rfl (cS_addArrival rfl hR h40) MX3_addArrival bw_912 rfl rfl rfl rfl (by decide) rfl (fun v4 τ4 h4 => ?_)
                obtain ⟨rfl, hf4, q4, hR⟩ := h4
                refine V.iconst (q := 154) dX2_performCall_153 (v := 1) rfl rfl ?_
                exact V.zret (ty := .boolean) rfl dX2_performCall_154 rfl (by
      have hres : (if un u = 40 then .inl (3, P) else calS o (nx o P) u : Er ⊕ (Nat × Vw)) = .inr (y2.2, addu u (nI y1.1) (nI y2.1) (nI (uT u))) := by
        rw [if_neg (by omega)]
        unfold calS
        rw [hx1]
        show bnd (numR o y1.2 0 (uN u - 1)) _ = _
        rw [hx2]
        show (if y2.1 = y1.1 then _ else _) = _
        rw [if_neg hab]
        rw [hst] at hk6
        rw [if_neg hk6]; rfl
      exact ⟨_, _, rfl, rfl, rfl, by rw [hres]; rfl, hF.trans hf4.P8, by rw [hres]; exact ⟨⟨⟨i2, hi, ((congrFun (hf4.1 19 (by decide)) 4).trans hat), hst⟩, ((congrFun (hf4.1 19 (by decide)) 7).trans h7), ((congrFun (hf4.1 19 (by decide)) 8).trans h8)⟩, ((congrFun (hf4.1 19 (by decide)) 6).trans h6), _, hR⟩⟩)
              · have hk6 := hinj _ _ kn_b (by decide) c113
                refine V.aload_n (q := 112) dX2_performCall_111 rfl rfl ?_
                refine V.dup (q := 113) dX2_performCall_112 rfl rfl ?_
                refine V.gP (q := 116) dX2_performCall_113 (j := 4) (by first | rfl | assumption) bw_141 rfl rfl rfl rfl ?_
                rw [hat]
                refine V.iconst (q := 117) dX2_performCall_116 (v := 1) rfl rfl ?_
                refine V.iadd (q := 118) dX2_performCall_117 rfl ?_
                refine V.pP (q := 121) dX2_performCall_118 (j := 4) (by first | rfl | assumption) bw_141 rfl rfl rfl rfl rfl rfl ?_
                have hk2 : kn o (st o i2) = 6 := hk6
                have hf := FrT.f (σ := τ2) (j := 4) (x := nI i2 + 1) (by decide)
                have hA := CA.next hT hi (by rw [hk2]; decide) h7 h8 (x := nI i2 + 1) rfl
                have hT := hT.frT hf
                have hS := hf.sS hS
                obtain ⟨qq, hR⟩ := hf.RC ⟨qq, hR⟩
                have h6 := hf.ex h6
                have hF := hF.trans hf.P
                generalize stF τ2 19 4 (nI i2 + 1) = τ5 at hf hA hT hS hR h6 hF ⊢
                refine V.aload_n (q := 122) dX2_performCall_121 rfl rfl ?_
                refine V.aload_n (q := 123) dX2_performCall_122 rfl rfl ?_
                refine V.gSim (q := 126) dX2_performCall_123 hS bw_142 rfl ?_
                refine V.gSu (q := 129) 3 dX2_performCall_126 hR rfl bw_54 rfl rfl ?_
                rw [RC.u3 hI]
                refine V.sipush (q := 132) dX2_performCall_129 (v := 999) rfl rfl ?_
                refine V.cVPP (q := 135) (As := [_, _]) dX2_performCall_132 rfl (kP_takeNumber hT hA (lo := uT u) (hi9 := 999) (by omega) (by omega)) MX2_takeNumber bw_869 (by first | rfl | assumption) rfl rfl rfl (by decide) rfl (fun v3 τ3 h3 => ?_)
                rcases hx3 : numR o (nx o (st o i2)) (uT u) 999 with e3 | y3
                · rw [hx3] at h3
                  obtain ⟨rfl, hf3, hE3⟩ := h3
                  show V _ _ _ _ _ _ _ _ _ _ _ (.int (-1) :: _) _ _
                  refine V.istore_n (q := 136) dX2_performCall_135 rfl rfl rfl rfl ?_
                  refine V.iload_n (q := 137) dX2_performCall_136 rfl rfl ?_
                  refine V.iconst (q := 138) dX2_performCall_137 (v := -1) rfl rfl ?_
                  refine V.icmp_ne (tgt := 143) (q := 141) dX2_performCall_138 (by decide) rfl (fun c143 => ?_) (fun c143 => ?_)
                  · exact absurd rfl c143
                  · refine V.iconst (q := 142) dX2_performCall_141 (v := 0) rfl rfl ?_
                    exact V.zret (ty := .boolean) rfl dX2_performCall_142 rfl (by
      have hres : (if un u = 40 then .inl (3, P) else calS o (nx o P) u : Er ⊕ (Nat × Vw)) = .inl e3 := by
        rw [if_neg (by omega)]
        unfold calS
        rw [hx1]
        show bnd (numR o y1.2 0 (uN u - 1)) _ = _
        rw [hx2]
        show (if y2.1 = y1.1 then _ else _) = _
        rw [if_neg hab]
        rw [hst] at hk6 hx3
        rw [if_pos hk6, hx3]; rfl
      exact ⟨_, _, rfl, rfl, rfl, by rw [hres]; rfl, hF.trans hf3.P, by rw [hres]; exact hE3⟩)
                · (rw [hx3] at h3)
                  obtain ⟨rfl, hf3, hA⟩ := h3
                  have hA : CA τ3 o n y3.2 := hA
                  have hT := hT.frT hf3
                  have hS := hf3.sS hS
                  obtain ⟨qq, hR⟩ := hf3.RC ⟨qq, hR⟩
                  have h6 := hf3.ex h6
                  have hF := hF.trans hf3.P
                  obtain ⟨⟨i3, hi, hat, hst⟩, h7, h8⟩ := hA
                  have hi3 := hi
                  have hsti3 := hst
                  show V _ _ _ _ _ _ _ _ _ _ _ (.int (nI y3.1) :: _) _ _
                  refine V.istore_n (q := 136) dX2_performCall_135 rfl rfl rfl rfl ?_
                  refine V.iload_n (q := 137) dX2_performCall_136 rfl rfl ?_
                  refine V.iconst (q := 138) dX2_performCall_137 (v := -1) rfl rfl ?_
                  refine V.icmp_ne (tgt := 143) (q := 141) dX2_performCall_138 (by decide) rfl (fun c143 => ?_) (fun c143 => ?_)
                  · refine V.aload_n (q := 144) dX2_performCall_143 rfl rfl ?_
                    refine V.gSim (q := 147) dX2_performCall_144 hS bw_142 rfl ?_
                    refine V.iload_n (q := 148) dX2_performCall_147 rfl rfl ?_
                    refine V.iload_n (q := 149) dX2_performCall_148 rfl rfl ?_
                    refine V.iload_n (q := 150) dX2_performCall_149 rfl rfl ?_
                    refine V.cVSP (q := 153) (As := [_, _, _]) dX2_performCall_150 rfl (cS_addArrival rfl hR h40) MX3_addArrival bw_912 rfl rfl rfl rfl (by decide) rfl (fun v4 τ4 h4 => ?_)
                    obtain ⟨rfl, hf4, q4, hR⟩ := h4
                    refine V.iconst (q := 154) dX2_performCall_153 (v := 1) rfl rfl ?_
                    exact V.zret (ty := .boolean) rfl dX2_performCall_154 rfl (by
      have hres : (if un u = 40 then .inl (3, P) else calS o (nx o P) u : Er ⊕ (Nat × Vw)) = .inr (y3.2, addu u (nI y1.1) (nI y2.1) (nI y3.1)) := by
        rw [if_neg (by omega)]
        unfold calS
        rw [hx1]
        show bnd (numR o y1.2 0 (uN u - 1)) _ = _
        rw [hx2]
        show (if y2.1 = y1.1 then _ else _) = _
        rw [if_neg hab]
        rw [hsti2] at hk6 hx3
        rw [if_pos hk6, hx3]; rfl
      exact ⟨_, _, rfl, rfl, rfl, by rw [hres]; rfl, hF.trans hf4.P8, by rw [hres]; exact ⟨⟨⟨i3, hi, ((congrFun (hf4.1 19 (by decide)) 4).trans hat), hst⟩, ((congrFun (hf4.1 19 (by decide)) 7).trans h7), ((congrFun (hf4.1 19 (by decide)) 8).trans h8)⟩, ((congrFun (hf4.1 19 (by decide)) 6).trans h6), _, hR⟩⟩)
                  · exact absurd c143 (nne1 (by have := (numR_r hx3).2.2.2.2; omega))
            · have hab : y2.1 = y1.1 := by
                have a1 := (numR_r hx1).2.2.2.2
                have a2 := (numR_r hx2).2.2.2.2
                exact neq c78 (by omega) (by omega)
              refine V.aload_n (q := 82) dX2_performCall_81 rfl rfl ?_
              refine V.iconst (q := 83) dX2_performCall_82 (v := 2) rfl rfl ?_
              refine V.aload_n (q := 84) dX2_performCall_83 rfl rfl ?_
              refine V.gP (q := 87) dX2_performCall_84 (j := 4) (by first | rfl | assumption) bw_141 rfl rfl rfl rfl ?_
              rw [hat]
              refine V.iconst (q := 88) dX2_performCall_87 (v := 1) rfl rfl ?_
              refine V.isub (q := 89) dX2_performCall_88 rfl ?_
              rw [show nI i2 - 1 = nI i1 from by rw [hi21]; exact nI_pred i1]
              refine V.cVP (q := 92) dX2_performCall_89 (As := [_, _]) rfl (kP_fail hT hi1) MX2_fail bw_865 (by first | rfl | assumption) rfl rfl rfl (by decide) rfl ?_
              exact V.zret (ty := .boolean) rfl dX2_performCall_92 rfl (by
      have hres : (if un u = 40 then .inl (3, P) else calS o (nx o P) u : Er ⊕ (Nat × Vw)) = .inl (2, y1.2) := by
        rw [if_neg (by omega)]
        unfold calS
        rw [hx1]
        show bnd (numR o y1.2 0 (uN u - 1)) _ = _
        rw [hx2]
        show (if y2.1 = y1.1 then _ else _) = _
        exact if_pos hab
      exact ⟨_, _, rfl, rfl, rfl, by rw [hres]; rfl, hF.trans ((FrP.f (by decide)).trans (FrP.f (by decide))), by rw [hres]; exact (by rw [← hsti1]; exact CE.of rfl rfl)⟩)
          · exact absurd c71 (nne1 (by have := (numR_r hx2).2.2.2.2; omega))
      · exact absurd c49 (nne1 (by have := (numR_r hx1).2.2.2.2; omega))
  · have h40 : un u = 40 := by have := nnlt (b := 40) c9 (by omega) (by decide); have := hR.1; omega
    refine V.aload_n (q := 13) dX2_performCall_12 rfl rfl ?_
    refine V.iconst (q := 14) dX2_performCall_13 (v := 3) rfl rfl ?_
    refine V.aload_n (q := 15) dX2_performCall_14 rfl rfl ?_
    refine V.gP (q := 18) dX2_performCall_15 (j := 4) (by first | rfl | assumption) bw_141 rfl rfl rfl rfl ?_
    rw [hat]
    refine V.cVP (q := 21) dX2_performCall_18 (As := [_, _]) rfl (kP_fail hT hi) MX2_fail bw_865 (by first | rfl | assumption) rfl rfl rfl (by decide) rfl ?_
    exact V.zret (ty := .boolean) rfl dX2_performCall_21 rfl (by
      have hres : (if un u = 40 then .inl (3, P) else calS o (nx o P) u : Er ⊕ (Nat × Vw)) = .inl (3, P) := by
        exact if_pos h40
      exact ⟨_, _, rfl, rfl, rfl, by rw [hres]; rfl, (FrP.f (by decide)).trans (FrP.f (by decide)), by rw [hres]; exact (by rw [← hP]; exact CE.of rfl rfl)⟩)
