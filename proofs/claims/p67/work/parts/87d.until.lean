/-! the class performs: until, expect -/
set_option maxHeartbeats 2000000 in
theorem kP_performUntil {l : Launch} {G : GG} {σ : St} {o : Txt} {n P e : Nat} {u : Vw} (hT : TK G σ o n) (hS : sS σ = some (gB G + 8)) (hO : Ok u) (hC : CP σ o n (P, u, e)) (hk : kn o P = 9) : CtP l G TX2_performUntil 3 [.ref (gB G + 19)] σ (fun v τ => v = some (.int (bI (cB (untS o (nx o P) u)))) ∧ FrP σ τ ∧ CC τ o n e (untS o (nx o P) u)) := by
  obtain ⟨⟨⟨i, hi, hat, hst⟩, h7, h8⟩, h6, qq, hR⟩ := hC
  have hn5 := hT.1
  have hI := hO.1
  obtain ⟨hF0, hN0, hFN0, h20, h2⟩ := hI.F
  have hfl : us u 0 - 1 = nI (uN u - 1) := by rw [hN0]; exact pk_sub (b := 1) (by omega)
  have hF : FrP σ σ := FrP.rf
  have hR : RC σ 8 u qq := hR
  have h6 : sF σ 19 6 = nI e := h6
  have hn40 : un u ≤ 40 := hR.1
  have ht9 := hO.2
  have hP : st o i = P := hst
  have hT0 := hT
  refine CtP.ofV (by decide +kernel) rfl rfl (Nat.le_of_ble_eq_true rfl) ?_
  refine V.aload_n (q := 1) dX2_performUntil_0 rfl rfl ?_
  refine V.dup (q := 2) dX2_performUntil_1 rfl rfl ?_
  refine V.gP (q := 5) dX2_performUntil_2 (j := 4) (by first | rfl | assumption) bw_141 rfl rfl rfl rfl ?_
  rw [hat]
  refine V.iconst (q := 6) dX2_performUntil_5 (v := 1) rfl rfl ?_
  refine V.iadd (q := 7) dX2_performUntil_6 rfl ?_
  refine V.pP (q := 10) dX2_performUntil_7 (j := 4) (by first | rfl | assumption) bw_141 rfl rfl rfl rfl rfl rfl ?_
  have hf := FrT.f (σ := σ) (j := 4) (x := nI i + 1) (by decide)
  have hA := CA.next hT hi (by rw [hP, hk]; decide) h7 h8 (x := nI i + 1) rfl
  have hT := hT.frT hf
  have hS := hf.sS hS
  obtain ⟨qq, hR⟩ := hf.RC ⟨qq, hR⟩
  have h6 := hf.ex h6
  have hF := hF.trans hf.P
  generalize stF σ 19 4 (nI i + 1) = τ1 at hf hA hT hS hR h6 hF ⊢
  rw [hP] at hA
  obtain ⟨⟨i1, hi1, hat1, hst1⟩, h71, h81⟩ := id hA
  refine V.aload_n (q := 11) dX2_performUntil_10 rfl rfl ?_
  refine V.cVP (q := 14) dX2_performUntil_11 (As := []) rfl (kP_nextKind hT hi1 hat1) MX2_nextKind bw_861 (by first | rfl | assumption) rfl rfl rfl (by decide) rfl ?_
  refine V.astore_n (q := 15) dX2_performUntil_14 rfl rfl rfl rfl ?_
  refine V.aload_n (q := 16) dX2_performUntil_15 rfl rfl ?_
  refine V.cVPP (q := 19) (As := []) dX2_performUntil_16 rfl (kP_takeCV hT hA) MX2_takeCounterAndValue bw_931 (by first | rfl | assumption) rfl rfl rfl (by decide) rfl (fun v1 τ2 h1 => ?_)
  rcases hx1 : cvR o (nx o P) with e1 | y1
  · rw [hx1] at h1
    obtain ⟨rfl, hf2, hE1⟩ := h1
    show V _ _ _ _ _ _ _ _ _ _ _ (.int (-1) :: _) _ _
    refine V.istore_n (q := 20) dX2_performUntil_19 rfl rfl rfl rfl ?_
    refine V.iload_n (q := 21) dX2_performUntil_20 rfl rfl ?_
    refine V.iconst (q := 22) dX2_performUntil_21 (v := -1) rfl rfl ?_
    refine V.icmp_ne (tgt := 27) (q := 25) dX2_performUntil_22 (by decide) rfl (fun c27 => ?_) (fun c27 => ?_)
    · exact absurd rfl c27
    · refine V.iconst (q := 26) dX2_performUntil_25 (v := 0) rfl rfl ?_
      exact V.zret (ty := .boolean) rfl dX2_performUntil_26 rfl (by
      have hres : (untS o (nx o P) u : Er ⊕ (Nat × Vw)) = .inl e1 := by
        unfold untS
        rw [hx1]; rfl
      exact ⟨_, _, rfl, rfl, rfl, by rw [hres]; rfl, hF.trans hf2.P, by rw [hres]; exact hE1⟩)
  · (rw [hx1] at h1)
    obtain ⟨rfl, hf2, hA⟩ := h1
    have hA : CA τ2 o n y1.2.2.2 := hA
    have hT := hT.frT hf2
    have hS := hf2.sS hS
    obtain ⟨qq, hR⟩ := hf2.RC ⟨qq, hR⟩
    have h6 := hf2.ex h6
    have hF := hF.trans hf2.P
    obtain ⟨⟨i2, hi, hat, hst⟩, h7, h8⟩ := hA
    have hcv := cv_c hx1
    have hkc : kn o (st o i1) = y1.1 := by rw [hst1]; exact hcv.1.symm
    rw [hkc]
    have hi22 : i2 = (i1 + 1) + 1 := st_n1 (q := nx o (nx o P)) (by rw [← hst1]; rfl) (by rw [hst]; exact hcv.2.2.1)
    have hp1 : st o (i1 + 1) = y1.2.2.1 := by rw [hcv.2.1, ← hst1]; rfl
    show V _ _ _ _ _ _ _ _ _ _ _ (.int (nI y1.2.1) :: _) _ _
    refine V.istore_n (q := 20) dX2_performUntil_19 rfl rfl rfl rfl ?_
    refine V.iload_n (q := 21) dX2_performUntil_20 rfl rfl ?_
    refine V.iconst (q := 22) dX2_performUntil_21 (v := -1) rfl rfl ?_
    refine V.icmp_ne (tgt := 27) (q := 25) dX2_performUntil_22 (by decide) rfl (fun c27 => ?_) (fun c27 => ?_)
    · refine V.aload_n (q := 28) dX2_performUntil_27 rfl rfl ?_
      refine V.gSim (q := 31) dX2_performUntil_28 hS bw_142 rfl ?_
      refine V.gSu (q := 34) 3 dX2_performUntil_31 hR rfl bw_54 rfl rfl ?_
      rw [RC.u3 hI]
      refine V.istore_n (q := 35) dX2_performUntil_34 rfl rfl rfl rfl ?_
      have loop : ∀ (m : Nat) (v : Vw) (τ : St) (q9 : Nat → Nat), m = 999 - uT v → uT v ≤ 999 → Iu v → untU y1.1 y1.2.1 (999 - uT v) v = untU y1.1 y1.2.1 (999 - uT u) u → FrP σ τ → sS τ = some (gB G + 8) → sF τ 19 4 = nI i2 → sF τ 19 7 = 0 → sF τ 19 8 = -1 → sF τ 19 6 = nI e → RC τ 8 v q9 → V l G TX2_performUntil 3 0 0 (RetP G (fun v τ => v = some (.int (bI (cB (untS o (nx o P) u)))) ∧ FrP σ τ ∧ CC τ o n e (untS o (nx o P) u))) 0 0 35 [some (.ref (gB G + 19)), some (.ref (gA G y1.1)), some (.int (nI y1.2.1)), some (.int (nI (uT v)))] [] (hof G τ) NC := by
        intro m
        induction m using Nat.strongRecOn with
        | _ m ih =>
          intro v τ q9 hm hv9 hIv hU hFk hSk hatk h7k h8k h6k hRk
          have hR := hRk
          have hS := hSk
          refine V.iload_n (q := 36) dX2_performUntil_35 rfl rfl ?_
          refine V.sipush (q := 39) dX2_performUntil_36 (v := 999) rfl rfl ?_
          refine V.icmp_ge (tgt := 64) (q := 42) dX2_performUntil_39 (by decide) rfl (fun c44 => ?_) (fun c44 => ?_)
          · have h9 : 999 ≤ uT v := nle (a := 999) c44 (by decide) (by omega)
            have hW : v = untU y1.1 y1.2.1 (999 - uT u) u := by rw [← hU, show 999 - uT v = 0 by omega]; rfl
            refine V.aload_n (q := 65) dX2_performUntil_64 rfl rfl ?_
            refine V.aload_n (q := 66) dX2_performUntil_65 rfl rfl ?_
            refine V.cVP (q := 69) dX2_performUntil_66 (As := [_]) rfl (kP_count hS hR hcv.2.2.2.1) MX2_count bw_951 (by first | rfl | assumption) rfl rfl rfl (by decide) rfl ?_
            refine V.iload_n (q := 70) dX2_performUntil_69 rfl rfl ?_
            refine V.icmp_ge (tgt := 85) (q := 73) dX2_performUntil_70 (by decide) rfl (fun c75 => ?_) (fun c75 => ?_)
            · refine V.iconst (q := 86) dX2_performUntil_85 (v := 1) rfl rfl ?_
              exact V.zret (ty := .boolean) rfl dX2_performUntil_86 rfl (by
            have hres : (untS o (nx o P) u : Er ⊕ (Nat × Vw)) = .inr (y1.2.2.2, untU y1.1 y1.2.1 (999 - uT u) u) := by
              unfold untS
              rw [hx1]
              show (if _ < _ then _ else _) = _
              exact if_neg (by rw [← hW]; exact Int32.not_lt.mpr c75)
            exact ⟨_, _, rfl, rfl, rfl, by rw [hres]; rfl, hFk, by rw [hres]; exact ⟨⟨⟨i2, hi, hatk, hst⟩, h7k, h8k⟩, h6k, _, hW ▸ hRk⟩⟩)
            · refine V.aload_n (q := 74) dX2_performUntil_73 rfl rfl ?_
              refine V.iconst (q := 75) dX2_performUntil_74 (v := 4) rfl rfl ?_
              refine V.aload_n (q := 76) dX2_performUntil_75 rfl rfl ?_
              refine V.gP (q := 79) dX2_performUntil_76 (j := 4) (by first | rfl | assumption) bw_141 rfl rfl rfl rfl ?_
              rw [hatk]
              refine V.iconst (q := 80) dX2_performUntil_79 (v := 1) rfl rfl ?_
              refine V.isub (q := 81) dX2_performUntil_80 rfl ?_
              rw [show nI i2 - 1 = nI (i1 + 1) from by rw [hi22]; exact nI_pred (i1 + 1)]
              refine V.cVP (q := 84) dX2_performUntil_81 (As := [_, _]) rfl (kP_fail (hT0.frP hFk) (show i1 + 1 ≤ n by omega)) MX2_fail bw_865 (by first | rfl | assumption) rfl rfl rfl (by decide) rfl ?_
              exact V.zret (ty := .boolean) rfl dX2_performUntil_84 rfl (by
            have hres : (untS o (nx o P) u : Er ⊕ (Nat × Vw)) = .inl (4, y1.2.2.1) := by
              unfold untS
              rw [hx1]
              show (if _ < _ then _ else _) = _
              exact if_pos (by rw [← hW]; exact Int32.not_le.mp c75)
            exact ⟨_, _, rfl, rfl, rfl, by rw [hres]; rfl, hFk.trans ((FrP.f (by decide)).trans (FrP.f (by decide))), by rw [hres]; exact (by rw [← hp1]; exact CE.of rfl rfl)⟩)
          · have h9 : uT v < 999 := nnle (a := 999) c44 (by decide) (by omega)
            refine V.aload_n (q := 43) dX2_performUntil_42 rfl rfl ?_
            refine V.aload_n (q := 44) dX2_performUntil_43 rfl rfl ?_
            refine V.cVP (q := 47) dX2_performUntil_44 (As := [_]) rfl (kP_count hS hR hcv.2.2.2.1) MX2_count bw_951 (by first | rfl | assumption) rfl rfl rfl (by decide) rfl ?_
            refine V.iload_n (q := 48) dX2_performUntil_47 rfl rfl ?_
            refine V.icmp_ge (tgt := 64) (q := 51) dX2_performUntil_48 (by decide) rfl (fun c53 => ?_) (fun c53 => ?_)
            · have hW : v = untU y1.1 y1.2.1 (999 - uT u) u := by
                rw [← hU, show 999 - uT v = (999 - (uT v + 1)) + 1 by omega]
                exact (if_neg (Int32.not_lt.mpr c53)).symm
              refine V.aload_n (q := 65) dX2_performUntil_64 rfl rfl ?_
              refine V.aload_n (q := 66) dX2_performUntil_65 rfl rfl ?_
              refine V.cVP (q := 69) dX2_performUntil_66 (As := [_]) rfl (kP_count hS hR hcv.2.2.2.1) MX2_count bw_951 (by first | rfl | assumption) rfl rfl rfl (by decide) rfl ?_
              refine V.iload_n (q := 70) dX2_performUntil_69 rfl rfl ?_
              refine V.icmp_ge (tgt := 85) (q := 73) dX2_performUntil_70 (by decide) rfl (fun c75 => ?_) (fun c75 => ?_)
              · refine V.iconst (q := 86) dX2_performUntil_85 (v := 1) rfl rfl ?_
                exact V.zret (ty := .boolean) rfl dX2_performUntil_86 rfl (by
            have hres : (untS o (nx o P) u : Er ⊕ (Nat × Vw)) = .inr (y1.2.2.2, untU y1.1 y1.2.1 (999 - uT u) u) := by
              unfold untS
              rw [hx1]
              show (if _ < _ then _ else _) = _
              exact if_neg (by rw [← hW]; exact Int32.not_lt.mpr c75)
            exact ⟨_, _, rfl, rfl, rfl, by rw [hres]; rfl, hFk, by rw [hres]; exact ⟨⟨⟨i2, hi, hatk, hst⟩, h7k, h8k⟩, h6k, _, hW ▸ hRk⟩⟩)
              · refine V.aload_n (q := 74) dX2_performUntil_73 rfl rfl ?_
                refine V.iconst (q := 75) dX2_performUntil_74 (v := 4) rfl rfl ?_
                refine V.aload_n (q := 76) dX2_performUntil_75 rfl rfl ?_
                refine V.gP (q := 79) dX2_performUntil_76 (j := 4) (by first | rfl | assumption) bw_141 rfl rfl rfl rfl ?_
                rw [hatk]
                refine V.iconst (q := 80) dX2_performUntil_79 (v := 1) rfl rfl ?_
                refine V.isub (q := 81) dX2_performUntil_80 rfl ?_
                rw [show nI i2 - 1 = nI (i1 + 1) from by rw [hi22]; exact nI_pred (i1 + 1)]
                refine V.cVP (q := 84) dX2_performUntil_81 (As := [_, _]) rfl (kP_fail (hT0.frP hFk) (show i1 + 1 ≤ n by omega)) MX2_fail bw_865 (by first | rfl | assumption) rfl rfl rfl (by decide) rfl ?_
                exact V.zret (ty := .boolean) rfl dX2_performUntil_84 rfl (by
            have hres : (untS o (nx o P) u : Er ⊕ (Nat × Vw)) = .inl (4, y1.2.2.1) := by
              unfold untS
              rw [hx1]
              show (if _ < _ then _ else _) = _
              exact if_pos (by rw [← hW]; exact Int32.not_le.mp c75)
            exact ⟨_, _, rfl, rfl, rfl, by rw [hres]; rfl, hFk.trans ((FrP.f (by decide)).trans (FrP.f (by decide))), by rw [hres]; exact (by rw [← hp1]; exact CE.of rfl rfl)⟩)
            · have hlt := Int32.not_le.mp c53
              have hI2 := Iu_tkN hIv (by omega)
              have hT2 := (tk_T hIv).1
              refine V.aload_n (q := 52) dX2_performUntil_51 rfl rfl ?_
              refine V.gSim (q := 55) dX2_performUntil_52 hS bw_142 rfl ?_
              refine V.cVSP (q := 58) (As := []) dX2_performUntil_55 rfl (cS_tick rfl hR hIv) MX3_tick bw_920 rfl rfl rfl rfl (by decide) rfl (fun v4 τ4 h4 => ?_)
              obtain ⟨rfl, hf4, hR⟩ := h4
              refine V.iinc (q := 61) dX2_performUntil_58 rfl (by first | exact nI_inc _ | rfl) rfl rfl rfl ?_
              refine V.goto (tgt := 35) dX2_performUntil_61 (by decide) ?_
              refine V.to (L2 := [some (.ref (gB G + 19)), some (.ref (gA G y1.1)), some (.int (nI y1.2.1)), some (.int (nI (uT (tk v))))]) ?_ rfl rfl rfl (ih _ (by omega) (tk v) τ4 q9 rfl (by omega) hI2 ?_ (hFk.trans hf4.P8) (hf4.P8.sS hSk) ((congrFun (hf4.1 19 (by decide)) 4).trans hatk) ((congrFun (hf4.1 19 (by decide)) 7).trans h7k) ((congrFun (hf4.1 19 (by decide)) 8).trans h8k) ((congrFun (hf4.1 19 (by decide)) 6).trans h6k) hR)
              · rw [hT2]; rfl
              · rw [← hU, hT2, show 999 - uT v = (999 - (uT v + 1)) + 1 by omega]
                exact (if_pos hlt).symm
      exact loop _ u _ _ rfl ht9 hI rfl hF hS hat h7 h8 h6 hR
    · exact absurd c27 (nne1 (by omega))
set_option maxHeartbeats 2000000 in
theorem kP_performExpect {l : Launch} {G : GG} {σ : St} {o : Txt} {n P e : Nat} {u : Vw} (hT : TK G σ o n) (hS : sS σ = some (gB G + 8)) (hO : Ok u) (hC : CP σ o n (P, u, e)) (hk : kn o P = 13) : CtP l G TX2_performExpect 3 [.ref (gB G + 19)] σ (fun v τ => v = some (.int (bI (cB (expS o P (nx o P) u)))) ∧ FrP σ τ ∧ CC τ o n e (expS o P (nx o P) u)) := by
  obtain ⟨⟨⟨i, hi, hat, hst⟩, h7, h8⟩, h6, qq, hR⟩ := hC
  have hn5 := hT.1
  have hI := hO.1
  obtain ⟨hF0, hN0, hFN0, h20, h2⟩ := hI.F
  have hfl : us u 0 - 1 = nI (uN u - 1) := by rw [hN0]; exact pk_sub (b := 1) (by omega)
  have hF : FrP σ σ := FrP.rf
  have hR : RC σ 8 u qq := hR
  have h6 : sF σ 19 6 = nI e := h6
  have hn40 : un u ≤ 40 := hR.1
  have ht9 := hO.2
  have hP : st o i = P := hst
  have hi0 := hi
  refine CtP.ofV (by decide +kernel) rfl rfl (Nat.le_of_ble_eq_true rfl) ?_
  refine V.aload_n (q := 1) dX2_performExpect_0 rfl rfl ?_
  refine V.gP (q := 4) dX2_performExpect_1 (j := 4) (by first | rfl | assumption) bw_141 rfl rfl rfl rfl ?_
  rw [hat]
  refine V.istore_n (q := 5) dX2_performExpect_4 rfl rfl rfl rfl ?_
  refine V.aload_n (q := 6) dX2_performExpect_5 rfl rfl ?_
  refine V.dup (q := 7) dX2_performExpect_6 rfl rfl ?_
  refine V.gP (q := 10) dX2_performExpect_7 (j := 4) (by first | rfl | assumption) bw_141 rfl rfl rfl rfl ?_
  rw [hat]
  refine V.iconst (q := 11) dX2_performExpect_10 (v := 1) rfl rfl ?_
  refine V.iadd (q := 12) dX2_performExpect_11 rfl ?_
  refine V.pP (q := 15) dX2_performExpect_12 (j := 4) (by first | rfl | assumption) bw_141 rfl rfl rfl rfl rfl rfl ?_
  have hf := FrT.f (σ := σ) (j := 4) (x := nI i + 1) (by decide)
  have hA := CA.next hT hi (by rw [hP, hk]; decide) h7 h8 (x := nI i + 1) rfl
  have hT := hT.frT hf
  have hS := hf.sS hS
  obtain ⟨qq, hR⟩ := hf.RC ⟨qq, hR⟩
  have h6 := hf.ex h6
  have hF := hF.trans hf.P
  generalize stF σ 19 4 (nI i + 1) = τ1 at hf hA hT hS hR h6 hF ⊢
  rw [hP] at hA
  obtain ⟨⟨i1, hi1, hat1, hst1⟩, h71, h81⟩ := id hA
  refine V.aload_n (q := 16) dX2_performExpect_15 rfl rfl ?_
  refine V.cVP (q := 19) dX2_performExpect_16 (As := []) rfl (kP_nextKind hT hi1 hat1) MX2_nextKind bw_861 (by first | rfl | assumption) rfl rfl rfl (by decide) rfl ?_
  refine V.astore_n (q := 20) dX2_performExpect_19 rfl rfl rfl rfl ?_
  refine V.aload_n (q := 21) dX2_performExpect_20 rfl rfl ?_
  refine V.cVPP (q := 24) (As := []) dX2_performExpect_21 rfl (kP_takeCV hT hA) MX2_takeCounterAndValue bw_931 (by first | rfl | assumption) rfl rfl rfl (by decide) rfl (fun v1 τ2 h1 => ?_)
  rcases hx1 : cvR o (nx o P) with e1 | y1
  · rw [hx1] at h1
    obtain ⟨rfl, hf2, hE1⟩ := h1
    show V _ _ _ _ _ _ _ _ _ _ _ (.int (-1) :: _) _ _
    refine V.istore_n (q := 25) dX2_performExpect_24 rfl rfl rfl rfl ?_
    refine V.iload_n (q := 26) dX2_performExpect_25 rfl rfl ?_
    refine V.iconst (q := 27) dX2_performExpect_26 (v := -1) rfl rfl ?_
    refine V.icmp_ne (tgt := 32) (q := 30) dX2_performExpect_27 (by decide) rfl (fun c32 => ?_) (fun c32 => ?_)
    · exact absurd rfl c32
    · refine V.iconst (q := 31) dX2_performExpect_30 (v := 0) rfl rfl ?_
      exact V.zret (ty := .boolean) rfl dX2_performExpect_31 rfl (by
      have hres : (expS o P (nx o P) u : Er ⊕ (Nat × Vw)) = .inl e1 := by
        unfold expS
        rw [hx1]; rfl
      exact ⟨_, _, rfl, rfl, rfl, by rw [hres]; rfl, hF.trans hf2.P, by rw [hres]; exact hE1⟩)
  · (rw [hx1] at h1)
    obtain ⟨rfl, hf2, hA⟩ := h1
    have hA : CA τ2 o n y1.2.2.2 := hA
    have hT := hT.frT hf2
    have hS := hf2.sS hS
    obtain ⟨qq, hR⟩ := hf2.RC ⟨qq, hR⟩
    have h6 := hf2.ex h6
    have hF := hF.trans hf2.P
    obtain ⟨⟨i2, hi, hat, hst⟩, h7, h8⟩ := hA
    have hcv := cv_c hx1
    have hkc : kn o (st o i1) = y1.1 := by rw [hst1]; exact hcv.1.symm
    rw [hkc]
    have hi22 : i2 = (i1 + 1) + 1 := st_n1 (q := nx o (nx o P)) (by rw [← hst1]; rfl) (by rw [hst]; exact hcv.2.2.1)
    have hp1 : st o (i1 + 1) = y1.2.2.1 := by rw [hcv.2.1, ← hst1]; rfl
    show V _ _ _ _ _ _ _ _ _ _ _ (.int (nI y1.2.1) :: _) _ _
    refine V.istore_n (q := 25) dX2_performExpect_24 rfl rfl rfl rfl ?_
    refine V.iload_n (q := 26) dX2_performExpect_25 rfl rfl ?_
    refine V.iconst (q := 27) dX2_performExpect_26 (v := -1) rfl rfl ?_
    refine V.icmp_ne (tgt := 32) (q := 30) dX2_performExpect_27 (by decide) rfl (fun c32 => ?_) (fun c32 => ?_)
    · refine V.aload_n (q := 33) dX2_performExpect_32 rfl rfl ?_
      refine V.aload_n (q := 34) dX2_performExpect_33 rfl rfl ?_
      refine V.cVP (q := 37) dX2_performExpect_34 (As := [_]) rfl (kP_count hS hR hcv.2.2.2.1) MX2_count bw_951 (by first | rfl | assumption) rfl rfl rfl (by decide) rfl ?_
      refine V.iload_n (q := 38) dX2_performExpect_37 rfl rfl ?_
      refine V.icmp_eq (tgt := 48) (q := 41) dX2_performExpect_38 (by decide) rfl (fun c43 => ?_) (fun c43 => ?_)
      · refine V.iconst (q := 49) dX2_performExpect_48 (v := 1) rfl rfl ?_
        exact V.zret (ty := .boolean) rfl dX2_performExpect_49 rfl (by
      have hres : (expS o P (nx o P) u : Er ⊕ (Nat × Vw)) = .inr (y1.2.2.2, u) := by
        unfold expS
        rw [hx1]
        exact if_pos c43
      exact ⟨_, _, rfl, rfl, rfl, by rw [hres]; rfl, hF, by rw [hres]; exact ⟨⟨⟨i2, hi, hat, hst⟩, h7, h8⟩, h6, _, hR⟩⟩)
      · refine V.aload_n (q := 42) dX2_performExpect_41 rfl rfl ?_
        refine V.iconst (q := 43) dX2_performExpect_42 (v := 5) rfl rfl ?_
        refine V.iload_n (q := 44) dX2_performExpect_43 rfl rfl ?_
        refine V.cVP (q := 47) dX2_performExpect_44 (As := [_, _]) rfl (kP_fail hT hi0) MX2_fail bw_865 (by first | rfl | assumption) rfl rfl rfl (by decide) rfl ?_
        exact V.zret (ty := .boolean) rfl dX2_performExpect_47 rfl (by
      have hres : (expS o P (nx o P) u : Er ⊕ (Nat × Vw)) = .inl (5, P) := by
        unfold expS
        rw [hx1]
        exact if_neg c43
      exact ⟨_, _, rfl, rfl, rfl, by rw [hres]; rfl, hF.trans ((FrP.f (by decide)).trans (FrP.f (by decide))), by rw [hres]; exact (by rw [← hP]; exact CE.of rfl rfl)⟩)
    · exact absurd c32 (nne1 (by omega))
