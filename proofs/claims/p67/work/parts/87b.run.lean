/-! the class performs: run -/
set_option maxHeartbeats 2000000 in
theorem kP_performRun {l : Launch} {G : GG} {σ : St} {o : Txt} {n P e : Nat} {u : Vw} (hT : TK G σ o n) (hS : sS σ = some (gB G + 8)) (hO : Ok u) (hC : CP σ o n (P, u, e)) (hk : kn o P = 7) : CtP l G TX2_performRun 3 [.ref (gB G + 19)] σ (fun v τ => v = some (.int (bI (cB (runS o (nx o P) u)))) ∧ FrP σ τ ∧ CC τ o n e (runS o (nx o P) u)) := by
  obtain ⟨⟨⟨i, hi, hat, hst⟩, h7, h8⟩, h6, qq, hR⟩ := hC
  have hn5 := hT.1
  have hI := hO.1
  obtain ⟨hF0, hN0, hFN0, h20, h2⟩ := hI.F
  have hfl : us u 0 - 1 = nI (uN u - 1) := by rw [hN0]; exact pk_sub (b := 1) (by omega)
  have hF : FrP σ σ := FrP.rf
  have hR : RC σ 8 u qq := hR
  have h6 : sF σ 19 6 = nI e := h6
  have hn40 : un u ≤ 40 := hR.1
  have ht9 := hO.2
  have hP : st o i = P := hst
  refine CtP.ofV (by decide +kernel) rfl rfl (Nat.le_of_ble_eq_true rfl) ?_
  refine V.aload_n (q := 1) dX2_performRun_0 rfl rfl ?_
  refine V.dup (q := 2) dX2_performRun_1 rfl rfl ?_
  refine V.gP (q := 5) dX2_performRun_2 (j := 4) (by first | rfl | assumption) bw_141 rfl rfl rfl rfl ?_
  rw [hat]
  refine V.iconst (q := 6) dX2_performRun_5 (v := 1) rfl rfl ?_
  refine V.iadd (q := 7) dX2_performRun_6 rfl ?_
  refine V.pP (q := 10) dX2_performRun_7 (j := 4) (by first | rfl | assumption) bw_141 rfl rfl rfl rfl rfl rfl ?_
  have hf := FrT.f (σ := σ) (j := 4) (x := nI i + 1) (by decide)
  have hA := CA.next hT hi (by rw [hP, hk]; decide) h7 h8 (x := nI i + 1) rfl
  have hT := hT.frT hf
  have hS := hf.sS hS
  obtain ⟨qq, hR⟩ := hf.RC ⟨qq, hR⟩
  have h6 := hf.ex h6
  have hF := hF.trans hf.P
  generalize stF σ 19 4 (nI i + 1) = τ1 at hf hA hT hS hR h6 hF ⊢
  rw [hP] at hA
  obtain ⟨⟨i1, hi1, hat1, hst1⟩, h71, h81⟩ := id hA
  refine V.aload_n (q := 11) dX2_performRun_10 rfl rfl ?_
  refine V.iconst (q := 12) dX2_performRun_11 (v := 1) rfl rfl ?_
  refine V.sipush (q := 15) dX2_performRun_12 (v := 999) rfl rfl ?_
  refine V.cVPP (q := 18) (As := [_, _]) dX2_performRun_15 rfl (kP_takeNumber hT hA (lo := 1) (hi9 := 999) (by omega) (by omega)) MX2_takeNumber bw_869 (by first | rfl | assumption) rfl rfl rfl (by decide) rfl (fun v1 τ1 h1 => ?_)
  rcases hx1 : numR o (nx o P) 1 999 with e1 | y1
  · rw [hx1] at h1
    obtain ⟨rfl, hf1, hE1⟩ := h1
    show V _ _ _ _ _ _ _ _ _ _ _ (.int (-1) :: _) _ _
    refine V.istore_n (q := 19) dX2_performRun_18 rfl rfl rfl rfl ?_
    refine V.iload_n (q := 20) dX2_performRun_19 rfl rfl ?_
    refine V.iconst (q := 21) dX2_performRun_20 (v := -1) rfl rfl ?_
    refine V.icmp_ne (tgt := 26) (q := 24) dX2_performRun_21 (by decide) rfl (fun c21 => ?_) (fun c21 => ?_)
    · exact absurd rfl c21
    · refine V.iconst (q := 25) dX2_performRun_24 (v := 0) rfl rfl ?_
      exact V.zret (ty := .boolean) rfl dX2_performRun_25 rfl (by
      have hres : (runS o (nx o P) u : Er ⊕ (Nat × Vw)) = .inl e1 := by
        unfold runS
        rw [hx1]; rfl
      exact ⟨_, _, rfl, rfl, rfl, by rw [hres]; rfl, hF.trans hf1.P, by rw [hres]; exact hE1⟩)
  · (rw [hx1] at h1)
    obtain ⟨rfl, hf1, hA⟩ := h1
    have hA : CA τ1 o n y1.2 := hA
    have hT := hT.frT hf1
    have hS := hf1.sS hS
    obtain ⟨qq, hR⟩ := hf1.RC ⟨qq, hR⟩
    have h6 := hf1.ex h6
    have hF := hF.trans hf1.P
    obtain ⟨⟨i2, hi, hat, hst⟩, h7, h8⟩ := hA
    have hi2 := hi
    have hsti2 := hst
    show V _ _ _ _ _ _ _ _ _ _ _ (.int (nI y1.1) :: _) _ _
    have hi21 : i2 = i1 + 1 := st_n1 hst1 (by rw [hst]; exact (numR_r hx1).2.2.1)
    have hy9 := (numR_r hx1).2.2.2.2
    refine V.istore_n (q := 19) dX2_performRun_18 rfl rfl rfl rfl ?_
    refine V.iload_n (q := 20) dX2_performRun_19 rfl rfl ?_
    refine V.iconst (q := 21) dX2_performRun_20 (v := -1) rfl rfl ?_
    refine V.icmp_ne (tgt := 26) (q := 24) dX2_performRun_21 (by decide) rfl (fun c21 => ?_) (fun c21 => ?_)
    · refine V.aload_n (q := 27) dX2_performRun_26 rfl rfl ?_
      refine V.gSim (q := 30) dX2_performRun_27 hS bw_142 rfl ?_
      refine V.gSu (q := 33) 3 dX2_performRun_30 hR rfl bw_54 rfl rfl ?_
      rw [RC.u3 hI]
      refine V.iload_n (q := 34) dX2_performRun_33 rfl rfl ?_
      refine V.iadd (q := 35) dX2_performRun_34 rfl ?_
      rw [nI_add]
      refine V.sipush (q := 38) dX2_performRun_35 (v := 999) rfl rfl ?_
      refine V.icmp_le (tgt := 53) (q := 41) dX2_performRun_38 (by decide) rfl (fun c38 => ?_) (fun c38 => ?_)
      · have h9 : ¬ 999 < uT u + y1.1 := fun z => by have := nle (b := 999) c38 (by omega) (by decide); omega
        refine V.iconst (q := 54) dX2_performRun_53 (v := 0) rfl rfl ?_
        refine V.istore_n (q := 55) dX2_performRun_54 rfl rfl rfl rfl ?_
        have loop : ∀ (m k : Nat) (τ : St) (q9 : Nat → Nat), m = y1.1 - k → k ≤ y1.1 → FrP σ τ → sS τ = some (gB G + 8) → sF τ 19 4 = nI i2 → sF τ 19 7 = 0 → sF τ 19 8 = -1 → sF τ 19 6 = nI e → RC τ 8 (tks k u) q9 → V l G TX2_performRun 3 0 0 (RetP G (fun v τ => v = some (.int (bI (cB (runS o (nx o P) u)))) ∧ FrP σ τ ∧ CC τ o n e (runS o (nx o P) u))) 0 0 55 [some (.ref (gB G + 19)), some (.int (nI y1.1)), some (.int (nI k))] [] (hof G τ) NC := by
          intro m
          induction m using Nat.strongRecOn with
          | _ m ih =>
            intro k τ q9 hm hk9 hFk hSk hatk h7k h8k h6k hRk
            have hR := hRk
            have hS := hSk
            refine V.iload_n (q := 56) dX2_performRun_55 rfl rfl ?_
            refine V.iload_n (q := 57) dX2_performRun_56 rfl rfl ?_
            refine V.icmp_ge (tgt := 73) (q := 60) dX2_performRun_57 (by decide) rfl (fun c57 => ?_) (fun c57 => ?_)
            · have hke : k = y1.1 := Nat.le_antisymm hk9 (nle c57 (by omega) (by omega))
              subst hke
              refine V.iconst (q := 74) dX2_performRun_73 (v := 1) rfl rfl ?_
              exact V.zret (ty := .boolean) rfl dX2_performRun_74 rfl (by
              have hres : (runS o (nx o P) u : Er ⊕ (Nat × Vw)) = .inr (y1.2, tks y1.1 u) := by
                unfold runS
                rw [hx1]
                exact if_neg h9
              exact ⟨_, _, rfl, rfl, rfl, by rw [hres]; rfl, hFk, by rw [hres]; exact ⟨⟨⟨i2, hi, hatk, hst⟩, h7k, h8k⟩, h6k, _, hRk⟩⟩)
            · have hlt : k < y1.1 := nnle c57 (by omega) (by omega)
              have hIk := tks_Iu hI k (by omega)
              refine V.aload_n (q := 61) dX2_performRun_60 rfl rfl ?_
              refine V.gSim (q := 64) dX2_performRun_61 hS bw_142 rfl ?_
              refine V.cVSP (q := 67) (As := []) dX2_performRun_64 rfl (cS_tick rfl hR hIk.1) MX3_tick bw_920 rfl rfl rfl rfl (by decide) rfl (fun v4 τ4 h4 => ?_)
              obtain ⟨rfl, hf4, hR⟩ := h4
              refine V.iinc (q := 70) dX2_performRun_67 rfl (by first | exact nI_inc _ | rfl) rfl rfl rfl ?_
              refine V.goto (tgt := 55) dX2_performRun_70 (by decide) ?_
              refine ih _ (by omega) (k + 1) τ4 q9 rfl (by omega) (hFk.trans hf4.P8) (hf4.P8.sS hSk) ((congrFun (hf4.1 19 (by decide)) 4).trans hatk) ((congrFun (hf4.1 19 (by decide)) 7).trans h7k) ((congrFun (hf4.1 19 (by decide)) 8).trans h8k) ((congrFun (hf4.1 19 (by decide)) 6).trans h6k) hR
        exact loop _ 0 _ _ rfl (Nat.zero_le _) hF hS hat h7 h8 h6 hR
      · have h9 : 999 < uT u + y1.1 := nnle (b := 999) c38 (by omega) (by decide)
        refine V.aload_n (q := 42) dX2_performRun_41 rfl rfl ?_
        refine V.iconst (q := 43) dX2_performRun_42 (v := 4) rfl rfl ?_
        refine V.aload_n (q := 44) dX2_performRun_43 rfl rfl ?_
        refine V.gP (q := 47) dX2_performRun_44 (j := 4) (by first | rfl | assumption) bw_141 rfl rfl rfl rfl ?_
        rw [hat]
        refine V.iconst (q := 48) dX2_performRun_47 (v := 1) rfl rfl ?_
        refine V.isub (q := 49) dX2_performRun_48 rfl ?_
        rw [show nI i2 - 1 = nI i1 from by rw [hi21]; exact nI_pred i1]
        refine V.cVP (q := 52) dX2_performRun_49 (As := [_, _]) rfl (kP_fail hT hi1) MX2_fail bw_865 (by first | rfl | assumption) rfl rfl rfl (by decide) rfl ?_
        exact V.zret (ty := .boolean) rfl dX2_performRun_52 rfl (by
      have hres : (runS o (nx o P) u : Er ⊕ (Nat × Vw)) = .inl (4, nx o P) := by
        unfold runS
        rw [hx1]
        exact if_pos h9
      exact ⟨_, _, rfl, rfl, rfl, by rw [hres]; rfl, hF.trans ((FrP.f (by decide)).trans (FrP.f (by decide))), by rw [hres]; exact (by rw [← hst1]; exact CE.of rfl rfl)⟩)
    · exact absurd c21 (nne1 (by have := (numR_r hx1).2.2.2.2; omega))
