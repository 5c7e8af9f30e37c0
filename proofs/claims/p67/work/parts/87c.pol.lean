/-! the class performs: policy, capacity -/
set_option maxHeartbeats 2000000 in
theorem kP_performPolicy {l : Launch} {G : GG} {σ : St} {o : Txt} {n P e : Nat} {u : Vw} (hT : TK G σ o n) (hS : sS σ = some (gB G + 8)) (hO : Ok u) (hC : CP σ o n (P, u, e)) (hk : kn o P = 11) : CtP l G TX2_performPolicy 2 [.ref (gB G + 19)] σ (fun v τ => v = some (.int (bI (cB (polS o (nx o P) u)))) ∧ FrP σ τ ∧ CC τ o n e (polS o (nx o P) u)) := by
  obtain ⟨⟨⟨i, hi, hat, hst⟩, h7, h8⟩, h6, qq, hR⟩ := hC
  have hn5 := hT.1
  have hI := hO.1
  obtain ⟨hF0, hN0, hFN0, h20, h2⟩ := hI.F
  have hfl : us u 0 - 1 = nI (uN u - 1) := by rw [hN0]; exact pk_sub (b := 1) (by omega)
  have hF : FrP σ σ := FrP.rf
  have hR : RC σ 8 u qq := hR
  have h6 : sF σ 19 6 = nI e := h6
  have hn40 : un u ≤ 40 := hR.1
  have ht9 := hO.2
  have hP : st o i = P := hst
  refine CtP.ofV (by decide +kernel) rfl rfl (Nat.le_of_ble_eq_true rfl) ?_
  refine V.aload_n (q := 1) dX2_performPolicy_0 rfl rfl ?_
  refine V.dup (q := 2) dX2_performPolicy_1 rfl rfl ?_
  refine V.gP (q := 5) dX2_performPolicy_2 (j := 4) (by first | rfl | assumption) bw_141 rfl rfl rfl rfl ?_
  rw [hat]
  refine V.iconst (q := 6) dX2_performPolicy_5 (v := 1) rfl rfl ?_
  refine V.iadd (q := 7) dX2_performPolicy_6 rfl ?_
  refine V.pP (q := 10) dX2_performPolicy_7 (j := 4) (by first | rfl | assumption) bw_141 rfl rfl rfl rfl rfl rfl ?_
  have hf := FrT.f (σ := σ) (j := 4) (x := nI i + 1) (by decide)
  have hA := CA.next hT hi (by rw [hP, hk]; decide) h7 h8 (x := nI i + 1) rfl
  have hT := hT.frT hf
  have hS := hf.sS hS
  obtain ⟨qq, hR⟩ := hf.RC ⟨qq, hR⟩
  have h6 := hf.ex h6
  have hF := hF.trans hf.P
  generalize stF σ 19 4 (nI i + 1) = τ1 at hf hA hT hS hR h6 hF ⊢
  rw [hP] at hA
  refine V.aload_n (q := 11) dX2_performPolicy_10 rfl rfl ?_
  refine V.cVPP (q := 14) (As := []) dX2_performPolicy_11 rfl (kP_takePolicy hT hA) MX2_takePolicy bw_873 (by first | rfl | assumption) rfl rfl rfl (by decide) rfl (fun v1 τ2 h1 => ?_)
  rcases hx1 : polR o (nx o P) with e1 | y1
  · rw [hx1] at h1
    obtain ⟨rfl, hf2, hE1⟩ := h1
    show V _ _ _ _ _ _ _ _ _ _ _ (.int (-1) :: _) _ _
    refine V.istore_n (q := 15) dX2_performPolicy_14 rfl rfl rfl rfl ?_
    refine V.iload_n (q := 16) dX2_performPolicy_15 rfl rfl ?_
    refine V.iconst (q := 17) dX2_performPolicy_16 (v := -1) rfl rfl ?_
    refine V.icmp_ne (tgt := 22) (q := 20) dX2_performPolicy_17 (by decide) rfl (fun c17 => ?_) (fun c17 => ?_)
    · exact absurd rfl c17
    · refine V.iconst (q := 21) dX2_performPolicy_20 (v := 0) rfl rfl ?_
      exact V.zret (ty := .boolean) rfl dX2_performPolicy_21 rfl (by
      have hres : (polS o (nx o P) u : Er ⊕ (Nat × Vw)) = .inl e1 := by
        unfold polS
        rw [hx1]; rfl
      exact ⟨_, _, rfl, rfl, rfl, by rw [hres]; rfl, hF.trans hf2.P, by rw [hres]; exact hE1⟩)
  · (rw [hx1] at h1)
    obtain ⟨rfl, hf2, hA⟩ := h1
    have hA : CA τ2 o n y1.2 := hA
    have hT := hT.frT hf2
    have hS := hf2.sS hS
    obtain ⟨qq, hR⟩ := hf2.RC ⟨qq, hR⟩
    have h6 := hf2.ex h6
    have hF := hF.trans hf2.P
    obtain ⟨⟨i2, hi, hat, hst⟩, h7, h8⟩ := hA
    show V _ _ _ _ _ _ _ _ _ _ _ (.int (nI y1.1) :: _) _ _
    have hy2 := (polR_r hx1).1
    refine V.istore_n (q := 15) dX2_performPolicy_14 rfl rfl rfl rfl ?_
    refine V.iload_n (q := 16) dX2_performPolicy_15 rfl rfl ?_
    refine V.iconst (q := 17) dX2_performPolicy_16 (v := -1) rfl rfl ?_
    refine V.icmp_ne (tgt := 22) (q := 20) dX2_performPolicy_17 (by decide) rfl (fun c17 => ?_) (fun c17 => ?_)
    · refine V.aload_n (q := 23) dX2_performPolicy_22 rfl rfl ?_
      refine V.gSim (q := 26) dX2_performPolicy_23 hS bw_142 rfl ?_
      refine V.iload_n (q := 27) dX2_performPolicy_26 rfl rfl ?_
      refine V.pS (q := 30) dX2_performPolicy_27 (j := 2) rfl bw_51 rfl rfl rfl rfl rfl rfl ?_
      have hR := hR.sc 2 (nI y1.1) (by decide)
      have hf3 : FrS 8 τ2 (stF τ2 8 2 (nI y1.1)) := FrS.rf.sc
      refine V.iconst (q := 31) dX2_performPolicy_30 (v := 1) rfl rfl ?_
      exact V.zret (ty := .boolean) rfl dX2_performPolicy_31 rfl (by
      have hres : (polS o (nx o P) u : Er ⊕ (Nat × Vw)) = .inr (y1.2, uS u 2 (nI y1.1)) := by
        unfold polS
        rw [hx1]; rfl
      exact ⟨_, _, rfl, rfl, rfl, by rw [hres]; rfl, hF.trans hf3.P8, by rw [hres]; exact ⟨⟨⟨i2, hi, hat, hst⟩, h7, h8⟩, h6, _, hR⟩⟩)
    · exact absurd c17 (nne1 (by omega))
set_option maxHeartbeats 2000000 in
theorem kP_performCapacity {l : Launch} {G : GG} {σ : St} {o : Txt} {n P e : Nat} {u : Vw} (hT : TK G σ o n) (hS : sS σ = some (gB G + 8)) (hO : Ok u) (hC : CP σ o n (P, u, e)) (hk : kn o P = 12) : CtP l G TX2_performCapacity 2 [.ref (gB G + 19)] σ (fun v τ => v = some (.int (bI (cB (capS o (nx o P) u)))) ∧ FrP σ τ ∧ CC τ o n e (capS o (nx o P) u)) := by
  obtain ⟨⟨⟨i, hi, hat, hst⟩, h7, h8⟩, h6, qq, hR⟩ := hC
  have hn5 := hT.1
  have hI := hO.1
  obtain ⟨hF0, hN0, hFN0, h20, h2⟩ := hI.F
  have hfl : us u 0 - 1 = nI (uN u - 1) := by rw [hN0]; exact pk_sub (b := 1) (by omega)
  have hF : FrP σ σ := FrP.rf
  have hR : RC σ 8 u qq := hR
  have h6 : sF σ 19 6 = nI e := h6
  have hn40 : un u ≤ 40 := hR.1
  have ht9 := hO.2
  have hP : st o i = P := hst
  refine CtP.ofV (by decide +kernel) rfl rfl (Nat.le_of_ble_eq_true rfl) ?_
  refine V.aload_n (q := 1) dX2_performCapacity_0 rfl rfl ?_
  refine V.dup (q := 2) dX2_performCapacity_1 rfl rfl ?_
  refine V.gP (q := 5) dX2_performCapacity_2 (j := 4) (by first | rfl | assumption) bw_141 rfl rfl rfl rfl ?_
  rw [hat]
  refine V.iconst (q := 6) dX2_performCapacity_5 (v := 1) rfl rfl ?_
  refine V.iadd (q := 7) dX2_performCapacity_6 rfl ?_
  refine V.pP (q := 10) dX2_performCapacity_7 (j := 4) (by first | rfl | assumption) bw_141 rfl rfl rfl rfl rfl rfl ?_
  have hf := FrT.f (σ := σ) (j := 4) (x := nI i + 1) (by decide)
  have hA := CA.next hT hi (by rw [hP, hk]; decide) h7 h8 (x := nI i + 1) rfl
  have hT := hT.frT hf
  have hS := hf.sS hS
  obtain ⟨qq, hR⟩ := hf.RC ⟨qq, hR⟩
  have h6 := hf.ex h6
  have hF := hF.trans hf.P
  generalize stF σ 19 4 (nI i + 1) = τ1 at hf hA hT hS hR h6 hF ⊢
  rw [hP] at hA
  obtain ⟨⟨i1, hi1, hat1, hst1⟩, h71, h81⟩ := id hA
  refine V.aload_n (q := 11) dX2_performCapacity_10 rfl rfl ?_
  refine V.iconst (q := 12) dX2_performCapacity_11 (v := 1) rfl rfl ?_
  refine V.bipush (q := 14) dX2_performCapacity_12 (v := 8) rfl rfl ?_
  refine V.cVPP (q := 17) (As := [_, _]) dX2_performCapacity_14 rfl (kP_takeNumber hT hA (lo := 1) (hi9 := 8) (by omega) (by omega)) MX2_takeNumber bw_869 (by first | rfl | assumption) rfl rfl rfl (by decide) rfl (fun v1 τ1 h1 => ?_)
  rcases hx1 : numR o (nx o P) 1 8 with e1 | y1
  · rw [hx1] at h1
    obtain ⟨rfl, hf1, hE1⟩ := h1
    show V _ _ _ _ _ _ _ _ _ _ _ (.int (-1) :: _) _ _
    refine V.istore_n (q := 18) dX2_performCapacity_17 rfl rfl rfl rfl ?_
    refine V.iload_n (q := 19) dX2_performCapacity_18 rfl rfl ?_
    refine V.iconst (q := 20) dX2_performCapacity_19 (v := -1) rfl rfl ?_
    refine V.icmp_ne (tgt := 25) (q := 23) dX2_performCapacity_20 (by decide) rfl (fun c20 => ?_) (fun c20 => ?_)
    · exact absurd rfl c20
    · refine V.iconst (q := 24) dX2_performCapacity_23 (v := 0) rfl rfl ?_
      exact V.zret (ty := .boolean) rfl dX2_performCapacity_24 rfl (by
      have hres : (capS o (nx o P) u : Er ⊕ (Nat × Vw)) = .inl e1 := by
        unfold capS
        rw [hx1]; rfl
      exact ⟨_, _, rfl, rfl, rfl, by rw [hres]; rfl, hF.trans hf1.P, by rw [hres]; exact hE1⟩)
  · (rw [hx1] at h1)
    obtain ⟨rfl, hf1, hA⟩ := h1
    have hA : CA τ1 o n y1.2 := hA
    have hT := hT.frT hf1
    have hS := hf1.sS hS
    obtain ⟨qq, hR⟩ := hf1.RC ⟨qq, hR⟩
    have h6 := hf1.ex h6
    have hF := hF.trans hf1.P
    obtain ⟨⟨i2, hi, hat, hst⟩, h7, h8⟩ := hA
    have hi2 := hi
    have hsti2 := hst
    show V _ _ _ _ _ _ _ _ _ _ _ (.int (nI y1.1) :: _) _ _
    have hi21 : i2 = i1 + 1 := st_n1 hst1 (by rw [hst]; exact (numR_r hx1).2.2.1)
    have hy9 := (numR_r hx1).2.2.2.2
    refine V.istore_n (q := 18) dX2_performCapacity_17 rfl rfl rfl rfl ?_
    refine V.iload_n (q := 19) dX2_performCapacity_18 rfl rfl ?_
    refine V.iconst (q := 20) dX2_performCapacity_19 (v := -1) rfl rfl ?_
    refine V.icmp_ne (tgt := 25) (q := 23) dX2_performCapacity_20 (by decide) rfl (fun c20 => ?_) (fun c20 => ?_)
    · refine V.aload_n (q := 26) dX2_performCapacity_25 rfl rfl ?_
      refine V.gSim (q := 29) dX2_performCapacity_26 hS bw_142 rfl ?_
      refine V.gSr (q := 32) dX2_performCapacity_29 hR rfl bw_73 rfl ?_
      refine V.iload_n (q := 33) dX2_performCapacity_32 rfl rfl ?_
      refine V.icmp_le (tgt := 48) (q := 36) dX2_performCapacity_33 (by decide) rfl (fun c33 => ?_) (fun c33 => ?_)
      · have h9 : ¬ y1.1 < many u 2 := fun z => by have := nle c33 (by have := cnt_le (fun i => stat u i == 2) (un u); show cnt _ _ < _; omega) (by omega); omega
        refine V.aload_n (q := 49) dX2_performCapacity_48 rfl rfl ?_
        refine V.gSim (q := 52) dX2_performCapacity_49 hS bw_142 rfl ?_
        refine V.iload_n (q := 53) dX2_performCapacity_52 rfl rfl ?_
        refine V.pS (q := 56) dX2_performCapacity_53 (j := 1) rfl bw_48 rfl rfl rfl rfl rfl rfl ?_
        have hR := hR.sc 1 (nI y1.1) (by decide)
        have hf3 : FrS 8 τ1 (stF τ1 8 1 (nI y1.1)) := FrS.rf.sc
        refine V.iconst (q := 57) dX2_performCapacity_56 (v := 1) rfl rfl ?_
        exact V.zret (ty := .boolean) rfl dX2_performCapacity_57 rfl (by
      have hres : (capS o (nx o P) u : Er ⊕ (Nat × Vw)) = .inr (y1.2, uS u 1 (nI y1.1)) := by
        unfold capS
        rw [hx1]
        exact if_neg h9
      exact ⟨_, _, rfl, rfl, rfl, by rw [hres]; rfl, hF.trans hf3.P8, by rw [hres]; exact ⟨⟨⟨i2, hi, hat, hst⟩, h7, h8⟩, h6, _, hR⟩⟩)
      · have h9 : y1.1 < many u 2 := nnle c33 (by have := cnt_le (fun i => stat u i == 2) (un u); show cnt _ _ < _; omega) (by omega)
        refine V.aload_n (q := 37) dX2_performCapacity_36 rfl rfl ?_
        refine V.iconst (q := 38) dX2_performCapacity_37 (v := 4) rfl rfl ?_
        refine V.aload_n (q := 39) dX2_performCapacity_38 rfl rfl ?_
        refine V.gP (q := 42) dX2_performCapacity_39 (j := 4) (by first | rfl | assumption) bw_141 rfl rfl rfl rfl ?_
        rw [hat]
        refine V.iconst (q := 43) dX2_performCapacity_42 (v := 1) rfl rfl ?_
        refine V.isub (q := 44) dX2_performCapacity_43 rfl ?_
        rw [show nI i2 - 1 = nI i1 from by rw [hi21]; exact nI_pred i1]
        refine V.cVP (q := 47) dX2_performCapacity_44 (As := [_, _]) rfl (kP_fail hT hi1) MX2_fail bw_865 (by first | rfl | assumption) rfl rfl rfl (by decide) rfl ?_
        exact V.zret (ty := .boolean) rfl dX2_performCapacity_47 rfl (by
      have hres : (capS o (nx o P) u : Er ⊕ (Nat × Vw)) = .inl (4, nx o P) := by
        unfold capS
        rw [hx1]
        exact if_pos h9
      exact ⟨_, _, rfl, rfl, rfl, by rw [hres]; rfl, hF.trans ((FrP.f (by decide)).trans (FrP.f (by decide))), by rw [hres]; exact (by rw [← hst1]; exact CE.of rfl rfl)⟩)
    · exact absurd c20 (nne1 (by have := (numR_r hx1).2.2.2.2; omega))
