/-! the class performs all commands -/
theorem cmd_l {o : Txt} {s : PSt} {e : Er} (ho : o.1 ≤ 500) (h : s.1 ≤ o.1) (hk : ¬ kn o s.1 = 25) (h2 : cmdR o s = .inl e) : cmds o s = .inl e := by rw [cmds_step ho h, if_neg hk, h2]; rfl
theorem cmd_r {o : Txt} {s t : PSt} (ho : o.1 ≤ 500) (h : s.1 ≤ o.1) (hk : ¬ kn o s.1 = 25) (h2 : cmdR o s = .inr t) : cmds o s = cmds o t := by rw [cmds_step ho h, if_neg hk, h2]; rfl
theorem tkS_l1 {o : Txt} {K : Nat} {r : Er ⊕ PSt} {e : Er} (h : r = .inl e) : tkS o K r = .inl e := by rw [h]; rfl
theorem tkS_l2 {o : Txt} {K : Nat} {r : Er ⊕ PSt} {s : PSt} {e : Er} (h : r = .inr s) (h2 : tkR o K s.1 = .inl e) : tkS o K r = .inl e := by
  rw [h]
  show bnd (tkR o K s.1) _ = _
  rw [h2]; rfl
theorem tkS_i {o : Txt} {K p : Nat} {r : Er ⊕ PSt} {s : PSt} (h : r = .inr s) (h2 : tkR o K s.1 = .inr p) : tkS o K r = .inr (p, s.2) := by
  rw [h]
  show bnd (tkR o K s.1) _ = _
  rw [h2]; rfl
set_option maxHeartbeats 4000000 in
theorem kP_performCommands {l : Launch} {G : GG} {σ : St} {o : Txt} {n P e : Nat} {u : Vw} (hT : TK G σ o n) (hO : Ok u) (hC : CP σ o n (P, u, e)) (ho : o.1 ≤ 500) : CtP l G TX2_performCommands 6 [.ref (gB G + 19), .ref (gB G + 8)] σ (fun v τ => v = some (.int (bI (cB (cmds o (P, u, e))))) ∧ FrP (stS σ (some (gB G + 8))) τ ∧ CW τ o n (cmds o (P, u, e))) := by
  have hn5 := hT.1
  have hT1 : TK G (stS σ (some (gB G + 8))) o n := hT.of rfl rfl rfl rfl
  refine CtP.ofV (by decide +kernel) rfl rfl (Nat.le_of_ble_eq_true rfl) ?_
  refine V.inj (fun hinj => ?_)
  refine V.aload_n (q := 1) dX2_performCommands_0 rfl rfl ?_
  refine V.aload_n (q := 2) dX2_performCommands_1 rfl rfl ?_
  refine V.pSim (q := 5) dX2_performCommands_2 bw_142 rfl ?_
  refine V.iconst (q := 6) dX2_performCommands_5 (v := 0) rfl rfl ?_
  refine V.istore_n (q := 7) dX2_performCommands_6 rfl rfl rfl rfl ?_
  have loop : ∀ (m c : Nat) (s2 : PSt) (τ : St) (L3 : Option Value), m = 501 - c → c ≤ s2.1 → cmds o s2 = cmds o (P, u, e) → Ok s2.2.1 → FrP (stS σ (some (gB G + 8))) τ → CP τ o n s2 → V l G TX2_performCommands 6 0 0 (RetP G (fun v τ => v = some (.int (bI (cB (cmds o (P, u, e))))) ∧ FrP (stS σ (some (gB G + 8))) τ ∧ CW τ o n (cmds o (P, u, e)))) 0 0 7 [some (.ref (gB G + 19)), some (.ref (gB G + 8)), some (.int (nI c)), L3] [] (hof G τ) NC := by
    intro m
    induction m using Nat.strongRecOn with
    | _ m ih =>
      intro c s2 τ L3 hm hc2 hcm hO2 hF2 hC2
      have hTi := hT1.frP hF2
      have hSi := hF2.sS (a := some (gB G + 8)) rfl
      have hs2 := hC2.top hTi
      obtain ⟨⟨⟨i5, hi5, hat5, hst5⟩, h75, h85⟩, h65, q5, hR5⟩ := id hC2
      refine V.iload_n (q := 8) dX2_performCommands_7 rfl rfl ?_
      refine V.sipush (q := 11) dX2_performCommands_8 (v := 501) rfl rfl ?_
      refine V.icmp_ge (tgt := 68) (q := 14) dX2_performCommands_11 (by decide) rfl (fun c11 => ?_) (fun c11 => ?_)
      · exact absurd (nle (a := 501) (b := c) c11 (by decide) (by omega)) (by omega)
      · refine V.aload_n (q := 15) dX2_performCommands_14 rfl rfl ?_
        refine V.cVP (q := 18) dX2_performCommands_15 (As := []) rfl (kP_nextKind hTi hi5 hat5) MX2_nextKind bw_861 (by first | rfl | assumption) rfl rfl rfl (by decide) rfl ?_
        refine V.gets (q := 21) dX2_performCommands_18 (st_kind (i := 25) (by decide) rfl) bw_849 rfl ?_
        refine V.acmp_eq (tgt := 68) (q := 24) dX2_performCommands_21 (by decide) rfl (fun c26 => ?_) (fun c26 => ?_)
        · have hk25 : kn o s2.1 = 25 := by rw [← hst5]; exact hinj _ _ kn_b (by decide) c26
          refine V.iconst (q := 69) dX2_performCommands_68 (v := 1) rfl rfl ?_
          exact V.zret (ty := .boolean) rfl dX2_performCommands_69 rfl (by
        have hres : cmds o (P, u, e) = .inr s2 := by rw [← hcm, cmds_step ho hs2, if_pos hk25]
        exact ⟨_, _, rfl, rfl, rfl, by rw [hres]; rfl, hF2, by rw [hres]; exact hC2⟩)
        · have hk25 : ¬ kn o s2.1 = 25 := fun z => c26 (by rw [hst5, z])
          refine V.aload_n (q := 25) dX2_performCommands_24 rfl rfl ?_
          refine V.cVP (q := 28) dX2_performCommands_25 (As := []) rfl (kP_nextKind hTi hi5 hat5) MX2_nextKind bw_861 (by first | rfl | assumption) rfl rfl rfl (by decide) rfl ?_
          refine V.gets (q := 31) dX2_performCommands_28 (st_kind (i := 4) (by decide) rfl) bw_892 rfl ?_
          refine V.acmp_ne (tgt := 41) (q := 34) dX2_performCommands_31 (by decide) rfl (fun c41 => ?_) (fun c41 => ?_)
          · have hk4 : ¬ kn o s2.1 = 4 := fun z => c41 (by rw [hst5, z])
            have hcr : cmdR o s2 = smpR o s2 := if_neg hk4
            refine V.aload_n (q := 42) dX2_performCommands_41 rfl rfl ?_
            refine V.cVPP (q := 45) (As := []) dX2_performCommands_42 rfl (kP_performSimple hTi hSi hO2 (show CP τ o n (s2.1, s2.2.1, s2.2.2) from hC2)) MX2_performSimple bw_902 (by first | rfl | assumption) rfl rfl rfl (by decide) rfl (fun v6 τ6 h6 => ?_)
            obtain ⟨rfl, hf6, hC6⟩ := h6
            have hT6 := hTi.frP hf6
            refine V.istore_n (q := 46) dX2_performCommands_45 rfl rfl rfl rfl ?_
            refine V.iload_n (q := 47) dX2_performCommands_46 rfl rfl ?_
            refine V.if_eq (tgt := 60) (q := 50) dX2_performCommands_47 (by decide) rfl (fun c57 => ?_) (fun c57 => ?_)
            · obtain ⟨e6, hx6⟩ := cB_f (bI0.mp c57)
              rw [hx6] at hC6
              have hsm : cmdR o s2 = .inl e6 := by rw [hcr]; exact smp_l1 hx6
              refine V.iconst (q := 61) dX2_performCommands_60 (v := 0) rfl rfl ?_
              exact V.zret (ty := .boolean) rfl dX2_performCommands_61 rfl (by
        have hres : cmds o (P, u, e) = .inl e6 := by rw [← hcm]; exact cmd_l ho hs2 hk25 hsm
        exact ⟨_, _, rfl, rfl, rfl, by rw [hres]; rfl, hF2.trans hf6, by rw [hres]; exact hC6⟩)
            · obtain ⟨y6, hx6⟩ := cB_t (bI1.mp c57)
              rw [hx6] at hC6
              have hC6 : CP τ6 o n (y6.1, y6.2, s2.2.2 + 1) := hC6
              refine V.aload_n (q := 51) dX2_performCommands_50 rfl rfl ?_
              refine V.gets (q := 54) dX2_performCommands_51 (st_kind (i := 20) (by decide) rfl) bw_886 rfl ?_
              refine V.cVPP (q := 57) (As := [_]) dX2_performCommands_54 rfl (kP_take hT6 hC6.1 (K := 20) (by decide)) MX2_take bw_857 (by first | rfl | assumption) rfl rfl rfl (by decide) rfl (fun v7 τ7 h7 => ?_)
              obtain ⟨rfl, hf7, hA7⟩ := h7
              refine V.if_ne (tgt := 62) (q := 60) dX2_performCommands_57 (by decide) rfl (fun c67 => ?_) (fun c67 => ?_)
              · obtain ⟨p7, hx7⟩ := cB_t (bI1.mp c67)
                rw [hx7] at hA7
                have hsm : cmdR o s2 = .inr (p7, y6.2, s2.2.2 + 1) := by rw [hcr]; exact smp_r hx6 hx7
                have hpp := cmdR_p ho hsm
                refine V.iinc (q := 65) dX2_performCommands_62 rfl (by first | exact nI_inc _ | rfl) rfl rfl rfl ?_
                refine V.goto (tgt := 7) dX2_performCommands_65 (by decide) ?_
                refine ih _ (by omega) (c + 1) (p7, y6.2, s2.2.2 + 1) τ7 (some (.int (bI _))) rfl ?_ ?_ (cmdR_ok hO2 hsm) ((hF2.trans hf6).trans hf7.P) (hC6.fr hf7 hA7)
                · show c + 1 ≤ p7
                  have hpp1 : s2.1 < p7 := hpp.1
                  omega
                · rw [← hcm]; exact (cmd_r ho hs2 hk25 hsm).symm
              · obtain ⟨e7, hx7⟩ := cB_f (bI0.mp c67)
                rw [hx7] at hA7
                have hsm : cmdR o s2 = .inl e7 := by rw [hcr]; exact smp_l2 hx6 hx7
                refine V.iconst (q := 61) dX2_performCommands_60 (v := 0) rfl rfl ?_
                exact V.zret (ty := .boolean) rfl dX2_performCommands_61 rfl (by
        have hres : cmds o (P, u, e) = .inl e7 := by rw [← hcm]; exact cmd_l ho hs2 hk25 hsm
        exact ⟨_, _, rfl, rfl, rfl, by rw [hres]; rfl, (hF2.trans hf6).trans hf7.P, by rw [hres]; exact hA7⟩)
          · have hk4 : kn o s2.1 = 4 := by rw [← hst5]; exact hinj _ _ kn_b (by decide) c41
            have hcr : cmdR o s2 = tkS o 20 (rptS o (nx o s2.1) s2.2) := if_pos hk4
            refine V.aload_n (q := 35) dX2_performCommands_34 rfl rfl ?_
            refine V.cVPP (q := 38) (As := []) dX2_performCommands_35 rfl (kP_performRepeat hTi hSi hO2 (show CP τ o n (s2.1, s2.2.1, s2.2.2) from hC2) ho hk4) MX2_performRepeat bw_894 (by first | rfl | assumption) rfl rfl rfl (by decide) rfl (fun v6 τ6 h6 => ?_)
            obtain ⟨rfl, hf6, hC6⟩ := h6
            have hT6 := hTi.frP hf6
            refine V.goto (tgt := 45) dX2_performCommands_38 (by decide) ?_
            refine V.istore_n (q := 46) dX2_performCommands_45 rfl rfl rfl rfl ?_
            refine V.iload_n (q := 47) dX2_performCommands_46 rfl rfl ?_
            refine V.if_eq (tgt := 60) (q := 50) dX2_performCommands_47 (by decide) rfl (fun c57 => ?_) (fun c57 => ?_)
            · obtain ⟨e6, hx6⟩ := cB_f (bI0.mp c57)
              rw [hx6] at hC6
              have hsm : cmdR o s2 = .inl e6 := by rw [hcr]; exact tkS_l1 hx6
              refine V.iconst (q := 61) dX2_performCommands_60 (v := 0) rfl rfl ?_
              exact V.zret (ty := .boolean) rfl dX2_performCommands_61 rfl (by
        have hres : cmds o (P, u, e) = .inl e6 := by rw [← hcm]; exact cmd_l ho hs2 hk25 hsm
        exact ⟨_, _, rfl, rfl, rfl, by rw [hres]; rfl, hF2.trans hf6, by rw [hres]; exact hC6⟩)
            · obtain ⟨y6, hx6⟩ := cB_t (bI1.mp c57)
              rw [hx6] at hC6
              have hC6 : CP τ6 o n y6 := hC6
              refine V.aload_n (q := 51) dX2_performCommands_50 rfl rfl ?_
              refine V.gets (q := 54) dX2_performCommands_51 (st_kind (i := 20) (by decide) rfl) bw_886 rfl ?_
              refine V.cVPP (q := 57) (As := [_]) dX2_performCommands_54 rfl (kP_take hT6 hC6.1 (K := 20) (by decide)) MX2_take bw_857 (by first | rfl | assumption) rfl rfl rfl (by decide) rfl (fun v7 τ7 h7 => ?_)
              obtain ⟨rfl, hf7, hA7⟩ := h7
              refine V.if_ne (tgt := 62) (q := 60) dX2_performCommands_57 (by decide) rfl (fun c67 => ?_) (fun c67 => ?_)
              · obtain ⟨p7, hx7⟩ := cB_t (bI1.mp c67)
                rw [hx7] at hA7
                have hsm : cmdR o s2 = .inr (p7, y6.2) := by rw [hcr]; exact tkS_i hx6 hx7
                have hpp := cmdR_p ho hsm
                refine V.iinc (q := 65) dX2_performCommands_62 rfl (by first | exact nI_inc _ | rfl) rfl rfl rfl ?_
                refine V.goto (tgt := 7) dX2_performCommands_65 (by decide) ?_
                refine ih _ (by omega) (c + 1) (p7, y6.2) τ7 (some (.int (bI _))) rfl ?_ ?_ (cmdR_ok hO2 hsm) ((hF2.trans hf6).trans hf7.P) (hC6.fr hf7 hA7)
                · show c + 1 ≤ p7
                  have hpp1 : s2.1 < p7 := hpp.1
                  omega
                · rw [← hcm]; exact (cmd_r ho hs2 hk25 hsm).symm
              · obtain ⟨e7, hx7⟩ := cB_f (bI0.mp c67)
                rw [hx7] at hA7
                have hsm : cmdR o s2 = .inl e7 := by rw [hcr]; exact tkS_l2 hx6 hx7
                refine V.iconst (q := 61) dX2_performCommands_60 (v := 0) rfl rfl ?_
                exact V.zret (ty := .boolean) rfl dX2_performCommands_61 rfl (by
        have hres : cmds o (P, u, e) = .inl e7 := by rw [← hcm]; exact cmd_l ho hs2 hk25 hsm
        exact ⟨_, _, rfl, rfl, rfl, by rw [hres]; rfl, (hF2.trans hf6).trans hf7.P, by rw [hres]; exact hA7⟩)
  exact loop _ 0 (P, u, e) _ none rfl (Nat.zero_le _) rfl hO FrP.rf hC
