/-! the class performs: repeat -/
theorem cB_t {α : Type} {r : Er ⊕ α} (h : cB r = true) : ∃ a, r = .inr a := by
  cases r with
  | inl e => cases h
  | inr a => exact ⟨a, rfl⟩
theorem cB_f {α : Type} {r : Er ⊕ α} (h : cB r = false) : ∃ e, r = .inl e := by
  cases r with
  | inl e => exact ⟨e, rfl⟩
  | inr a => cases h
theorem cB_bnd {r : Er ⊕ Nat} {x : Vw × Nat} : cB (bnd r fun p => (.inr (p, x) : Er ⊕ PSt)) = cB r := by cases r <;> rfl
theorem CW.tk {σ τ : St} {o : Txt} {n : Nat} {s : PSt} {r : Er ⊕ Nat} (h : CT (fun p => p) τ o n r) (hC : CP σ o n s) (hf : FrT σ τ) : CW τ o n (bnd r fun p => .inr (p, s.2)) := by
  cases r with
  | inl e => exact h
  | inr p => exact hC.fr hf h
theorem CP.top {G : GG} {σ : St} {o : Txt} {n : Nat} {s : PSt} (hT : TK G σ o n) (h : CP σ o n s) : s.1 ≤ o.1 := by
  obtain ⟨⟨⟨i, hi, -, hst⟩, -, -⟩, -, -⟩ := h
  rw [← hst, ← hT.2.1]
  exact st_le hi
theorem smp_l1 {o : Txt} {s : PSt} {e : Er} (h : cmdS o s.1 s.2.1 = .inl e) : smpR o s = .inl e := by unfold smpR smc; rw [h]; rfl
theorem smp_l2 {o : Txt} {s : PSt} {e : Er} {y : Nat × Vw} (h : cmdS o s.1 s.2.1 = .inr y) (h2 : tkR o 20 y.1 = .inl e) : smpR o s = .inl e := by
  unfold smpR smc
  rw [h]
  show bnd (bnd (tkR o 20 y.1) _) _ = _
  rw [h2]; rfl
theorem smp_r {o : Txt} {s : PSt} {p : Nat} {y : Nat × Vw} (h : cmdS o s.1 s.2.1 = .inr y) (h2 : tkR o 20 y.1 = .inr p) : smpR o s = .inr (p, y.2, s.2.2 + 1) := by
  unfold smpR smc
  rw [h]
  show bnd (bnd (tkR o 20 y.1) _) _ = _
  rw [h2]; rfl
theorem rpt_n {o : Txt} {P : Nat} {x : Vw × Nat} {e : Er} (h : numR o P 1 9 = .inl e) : rptS o P x = .inl e := by unfold rptS; rw [h]; rfl
theorem rpt_o {o : Txt} {P : Nat} {x : Vw × Nat} {e : Er} {y : Nat × Nat} (h : numR o P 1 9 = .inr y) (h2 : tkR o 21 y.2 = .inl e) : rptS o P x = .inl e := by
  unfold rptS
  rw [h]
  show bnd (tkR o 21 y.2) _ = _
  rw [h2]; rfl
theorem rpt_s {o : Txt} {P b : Nat} {x : Vw × Nat} {y : Nat × Nat} (h : numR o P 1 9 = .inr y) (h2 : tkR o 21 y.2 = .inr b) : rptS o P x = tkS o 22 (rnd o b y.1 (b, x)) := by
  unfold rptS
  rw [h]
  show bnd (tkR o 21 y.2) _ = _
  rw [h2]; rfl
theorem rnd_step {o : Txt} {b k t : Nat} {s : PSt} (hk : k < t) : rnd o b (t - k) s = bnd (blk o (b, s.2)) (rnd o b (t - (k + 1))) := by
  rw [show t - k = (t - (k + 1)) + 1 by omega]; rfl
set_option maxHeartbeats 4000000 in
theorem kP_performRepeat {l : Launch} {G : GG} {σ : St} {o : Txt} {n P e : Nat} {u : Vw} (hT : TK G σ o n) (hS : sS σ = some (gB G + 8)) (hO : Ok u) (hC : CP σ o n (P, u, e)) (ho : o.1 ≤ 500) (hk : kn o P = 4) : CtP l G TX2_performRepeat 5 [.ref (gB G + 19)] σ (fun v τ => v = some (.int (bI (cB (rptS o (nx o P) (u, e))))) ∧ FrP σ τ ∧ CW τ o n (rptS o (nx o P) (u, e))) := by
  obtain ⟨⟨⟨i, hi, hat, hst⟩, h7, h8⟩, h6, qq, hR⟩ := hC
  have hn5 := hT.1
  have hI := hO.1
  obtain ⟨hF0, hN0, hFN0, h20, h2⟩ := hI.F
  have hfl : us u 0 - 1 = nI (uN u - 1) := by rw [hN0]; exact pk_sub (b := 1) (by omega)
  have hF : FrP σ σ := FrP.rf
  have hR : RC σ 8 u qq := hR
  have h6 : sF σ 19 6 = nI e := h6
  have hn40 : un u ≤ 40 := hR.1
  have ht9 := hO.2
  have hP : st o i = P := hst
  have hT0 := hT
  have hS0 := hS
  refine CtP.ofV (by decide +kernel) rfl rfl (Nat.le_of_ble_eq_true rfl) ?_
  refine V.inj (fun hinj => ?_)
  refine V.aload_n (q := 1) dX2_performRepeat_0 rfl rfl ?_
  refine V.dup (q := 2) dX2_performRepeat_1 rfl rfl ?_
  refine V.gP (q := 5) dX2_performRepeat_2 (j := 4) (by first | rfl | assumption) bw_141 rfl rfl rfl rfl ?_
  rw [hat]
  refine V.iconst (q := 6) dX2_performRepeat_5 (v := 1) rfl rfl ?_
  refine V.iadd (q := 7) dX2_performRepeat_6 rfl ?_
  refine V.pP (q := 10) dX2_performRepeat_7 (j := 4) (by first | rfl | assumption) bw_141 rfl rfl rfl rfl rfl rfl ?_
  have hf := FrT.f (σ := σ) (j := 4) (x := nI i + 1) (by decide)
  have hA := CA.next hT hi (by rw [hP, hk]; decide) h7 h8 (x := nI i + 1) rfl
  have hT := hT.frT hf
  have hS := hf.sS hS
  obtain ⟨qq, hR⟩ := hf.RC ⟨qq, hR⟩
  have h6 := hf.ex h6
  have hF := hF.trans hf.P
  generalize stF σ 19 4 (nI i + 1) = τ1 at hf hA hT hS hR h6 hF ⊢
  rw [hP] at hA
  refine V.aload_n (q := 11) dX2_performRepeat_10 rfl rfl ?_
  refine V.iconst (q := 12) dX2_performRepeat_11 (v := 1) rfl rfl ?_
  refine V.bipush (q := 14) dX2_performRepeat_12 (v := 9) rfl rfl ?_
  refine V.cVPP (q := 17) (As := [_, _]) dX2_performRepeat_14 rfl (kP_takeNumber hT hA (lo := 1) (hi9 := 9) (by omega) (by omega)) MX2_takeNumber bw_869 (by first | rfl | assumption) rfl rfl rfl (by decide) rfl (fun v1 τ1 h1 => ?_)
  rcases hx1 : numR o (nx o P) 1 9 with e1 | y1
  · rw [hx1] at h1
    obtain ⟨rfl, hf1, hE1⟩ := h1
    show V _ _ _ _ _ _ _ _ _ _ _ (.int (-1) :: _) _ _
    refine V.istore_n (q := 18) dX2_performRepeat_17 rfl rfl rfl rfl ?_
    refine V.iload_n (q := 19) dX2_performRepeat_18 rfl rfl ?_
    refine V.iconst (q := 20) dX2_performRepeat_19 (v := -1) rfl rfl ?_
    refine V.icmp_eq (tgt := 33) (q := 23) dX2_performRepeat_20 (by decide) rfl (fun c20 => ?_) (fun c20 => ?_)
    · refine V.iconst (q := 34) dX2_performRepeat_33 (v := 0) rfl rfl ?_
      exact V.zret (ty := .boolean) rfl dX2_performRepeat_34 rfl ⟨_, _, rfl, rfl, rfl, by rw [rpt_n hx1]; rfl, hF.trans hf1.P, by rw [rpt_n hx1]; exact hE1⟩
    · exact absurd rfl c20
  · (rw [hx1] at h1)
    obtain ⟨rfl, hf1, hA⟩ := h1
    have hA : CA τ1 o n y1.2 := hA
    have hT := hT.frT hf1
    have hS := hf1.sS hS
    obtain ⟨qq, hR⟩ := hf1.RC ⟨qq, hR⟩
    have h6 := hf1.ex h6
    have hF := hF.trans hf1.P
    obtain ⟨⟨i1, hi, hat, hst⟩, h7, h8⟩ := hA
    have hi1 := hi
    have hsti1 := hst
    show V _ _ _ _ _ _ _ _ _ _ _ (.int (nI y1.1) :: _) _ _
    have hA : CA τ1 o n y1.2 := ⟨⟨i1, hi, hat, hst⟩, h7, h8⟩
    have hy9 := (numR_r hx1).2.2.2
    refine V.istore_n (q := 18) dX2_performRepeat_17 rfl rfl rfl rfl ?_
    refine V.iload_n (q := 19) dX2_performRepeat_18 rfl rfl ?_
    refine V.iconst (q := 20) dX2_performRepeat_19 (v := -1) rfl rfl ?_
    refine V.icmp_eq (tgt := 33) (q := 23) dX2_performRepeat_20 (by decide) rfl (fun c20 => ?_) (fun c20 => ?_)
    · exact absurd c20 (nne1 (by have := (numR_r hx1).2.2.2.2; omega))
    · refine V.aload_n (q := 24) dX2_performRepeat_23 rfl rfl ?_
      refine V.gets (q := 27) dX2_performRepeat_24 (st_kind (i := 21) (by decide) rfl) bw_898 rfl ?_
      refine V.cVPP (q := 30) (As := [_]) dX2_performRepeat_27 rfl (kP_take hT hA (K := 21) (by decide)) MX2_take bw_857 (by first | rfl | assumption) rfl rfl rfl (by decide) rfl (fun v2 τ2 h2 => ?_)
      obtain ⟨rfl, hf2, hA3⟩ := h2
      have hT := hT.frT hf2
      have hS := hf2.sS hS
      obtain ⟨qq, hR⟩ := hf2.RC ⟨qq, hR⟩
      have h6 := hf2.ex h6
      have hF := hF.trans hf2.P
      refine V.if_ne (tgt := 35) (q := 33) dX2_performRepeat_30 (by decide) rfl (fun c30 => ?_) (fun c30 => ?_)
      · obtain ⟨b2, hx2⟩ := cB_t (bI1.mp c30)
        rw [hx2] at hA3
        have hA : CA τ2 o n b2 := hA3
        obtain ⟨⟨ib, hib, hatb, hstb⟩, h7b, h8b⟩ := hA
        refine V.aload_n (q := 36) dX2_performRepeat_35 rfl rfl ?_
        refine V.gP (q := 39) dX2_performRepeat_36 (j := 4) (by first | rfl | assumption) bw_141 rfl rfl rfl rfl ?_
        rw [hatb]
        refine V.istore_n (q := 40) dX2_performRepeat_39 rfl rfl rfl rfl ?_
        refine V.iconst (q := 41) dX2_performRepeat_40 (v := 0) rfl rfl ?_
        refine V.istore_n (q := 42) dX2_performRepeat_41 rfl rfl rfl rfl ?_
        have loop : ∀ (m k : Nat) (s : PSt) (τ : St) (L4 : Option Value), m = y1.1 - k → k ≤ y1.1 → rnd o b2 (y1.1 - k) s = rnd o b2 y1.1 (b2, u, e) → Ok s.2.1 → FrP σ τ → CP τ o n s → V l G TX2_performRepeat 5 0 0 (RetP G (fun v τ => v = some (.int (bI (cB (rptS o (nx o P) (u, e))))) ∧ FrP σ τ ∧ CW τ o n (rptS o (nx o P) (u, e)))) 0 0 42 [some (.ref (gB G + 19)), some (.int (nI y1.1)), some (.int (nI ib)), some (.int (nI k)), L4] [] (hof G τ) NC := by
          intro m
          induction m using Nat.strongRecOn with
          | _ m ih =>
            intro k s τ L4 hm hk9 hrd hOk hFk hCk
            have hTk := hT0.frP hFk
            refine V.iload_n (q := 43) dX2_performRepeat_42 rfl rfl ?_
            refine V.iload_n (q := 44) dX2_performRepeat_43 rfl rfl ?_
            refine V.icmp_ge (tgt := 104) (q := 47) dX2_performRepeat_44 (by decide) rfl (fun c44 => ?_) (fun c44 => ?_)
            · have hke : k = y1.1 := Nat.le_antisymm hk9 (nle c44 (by omega) (by omega))
              have hrr : rnd o b2 y1.1 (b2, u, e) = .inr s := by rw [← hrd, hke, Nat.sub_self]; rfl
              refine V.aload_n (q := 105) dX2_performRepeat_104 rfl rfl ?_
              refine V.gets (q := 108) dX2_performRepeat_105 (st_kind (i := 22) (by decide) rfl) bw_900 rfl ?_
              refine V.cVPP (q := 111) (As := [_]) dX2_performRepeat_108 rfl (kP_take hTk hCk.1 (K := 22) (by decide)) MX2_take bw_857 (by first | rfl | assumption) rfl rfl rfl (by decide) rfl (fun v8 τ8 h8 => ?_)
              obtain ⟨rfl, hf8, hA8⟩ := h8
              exact V.zret (ty := .boolean) (bI_z _) dX2_performRepeat_111 rfl (by
              have hres : rptS o (nx o P) (u, e) = bnd (tkR o 22 s.1) fun p => .inr (p, s.2) := by
                rw [rpt_s hx1 hx2, hrr]; rfl
              exact ⟨_, _, rfl, rfl, rfl, by rw [hres, cB_bnd], hFk.trans hf8.P, by rw [hres]; exact CW.tk hA8 hCk hf8⟩)
            · have hlt : k < y1.1 := nnle c44 (by omega) (by omega)
              refine V.aload_n (q := 48) dX2_performRepeat_47 rfl rfl ?_
              refine V.iload_n (q := 49) dX2_performRepeat_48 rfl rfl ?_
              refine V.pP (q := 52) dX2_performRepeat_49 (j := 4) (by first | rfl | assumption) bw_141 rfl rfl rfl rfl rfl rfl ?_
              have hf5 := FrT.f (σ := τ) (j := 4) (x := nI ib) (by decide)
              have hC5 : CP (stF τ 19 4 (nI ib)) o n (b2, s.2) := ⟨⟨⟨ib, hib, stF_at, hstb⟩, (stF_in (by decide)).trans hCk.1.2.1, (stF_in (by decide)).trans hCk.1.2.2⟩, (stF_in (by decide)).trans hCk.2.1, hf5.RC hCk.2.2⟩
              have hF5 := hFk.trans hf5.P
              generalize stF τ 19 4 (nI ib) = τ5 at hf5 hC5 hF5 ⊢
              refine V.iconst (q := 53) dX2_performRepeat_52 (v := 0) rfl rfl ?_
              refine V.istore (q := 55) dX2_performRepeat_53 rfl rfl rfl ?_
              have inner : ∀ (m2 c : Nat) (s2 : PSt) (τ : St), m2 = 501 - c → c ≤ s2.1 → blk o s2 = blk o (b2, s.2) → Ok s2.2.1 → FrP σ τ → CP τ o n s2 → V l G TX2_performRepeat 5 0 0 (RetP G (fun v τ => v = some (.int (bI (cB (rptS o (nx o P) (u, e))))) ∧ FrP σ τ ∧ CW τ o n (rptS o (nx o P) (u, e)))) 0 0 55 [some (.ref (gB G + 19)), some (.int (nI y1.1)), some (.int (nI ib)), some (.int (nI k)), some (.int (nI c))] [] (hof G τ) NC := by
                intro m2
                induction m2 using Nat.strongRecOn with
                | _ m2 ih2 =>
                  intro c s2 τ hm2 hc2 hbk hO2 hF2 hC2
                  have hTi := hT0.frP hF2
                  have hSi := hF2.sS hS0
                  have hs2 := hC2.top hTi
                  obtain ⟨⟨⟨i5, hi5, hat5, hst5⟩, h75, h85⟩, h65, q5, hR5⟩ := id hC2
                  refine V.iload (q := 57) dX2_performRepeat_55 rfl rfl ?_
                  refine V.sipush (q := 60) dX2_performRepeat_57 (v := 501) rfl rfl ?_
                  refine V.icmp_ge (tgt := 98) (q := 63) dX2_performRepeat_60 (by decide) rfl (fun c60 => ?_) (fun c60 => ?_)
                  · exact absurd (nle (a := 501) (b := c) c60 (by decide) (by omega)) (by omega)
                  · refine V.aload_n (q := 64) dX2_performRepeat_63 rfl rfl ?_
                    refine V.cVP (q := 67) dX2_performRepeat_64 (As := []) rfl (kP_nextKind hTi hi5 hat5) MX2_nextKind bw_861 (by first | rfl | assumption) rfl rfl rfl (by decide) rfl ?_
                    refine V.gets (q := 70) dX2_performRepeat_67 (st_kind (i := 22) (by decide) rfl) bw_900 rfl ?_
                    refine V.acmp_eq (tgt := 98) (q := 73) dX2_performRepeat_70 (by decide) rfl (fun c75 => ?_) (fun c75 => ?_)
                    · have hk22 : kn o s2.1 = 22 := by rw [← hst5]; exact hinj _ _ kn_b (by decide) c75
                      have hb : blk o (b2, s.2) = .inr s2 := by rw [← hbk, blk_step hs2, if_pos hk22]
                      refine V.iinc (q := 101) dX2_performRepeat_98 rfl (by first | exact nI_inc _ | rfl) rfl rfl rfl ?_
                      refine V.goto (tgt := 42) dX2_performRepeat_101 (by decide) ?_
                      refine ih _ (by omega) (k + 1) s2 τ (some (.int (nI c))) rfl (by omega) ?_ hO2 hF2 hC2
                      rw [← hrd, rnd_step hlt, hb]; rfl
                    · have hk22 : ¬ kn o s2.1 = 22 := fun z => c75 (by rw [hst5, z])
                      refine V.aload_n (q := 74) dX2_performRepeat_73 rfl rfl ?_
                      refine V.cVPP (q := 77) (As := []) dX2_performRepeat_74 rfl (kP_performSimple hTi hSi hO2 (show CP τ o n (s2.1, s2.2.1, s2.2.2) from hC2)) MX2_performSimple bw_902 (by first | rfl | assumption) rfl rfl rfl (by decide) rfl (fun v6 τ6 h6 => ?_)
                      obtain ⟨rfl, hf6, hC6⟩ := h6
                      have hT6 := hTi.frP hf6
                      refine V.if_eq (tgt := 90) (q := 80) dX2_performRepeat_77 (by decide) rfl (fun c82 => ?_) (fun c82 => ?_)
                      · obtain ⟨e6, hx6⟩ := cB_f (bI0.mp c82)
                        rw [hx6] at hC6
                        have hsm := smp_l1 hx6
                        refine V.iconst (q := 91) dX2_performRepeat_90 (v := 0) rfl rfl ?_
                        exact V.zret (ty := .boolean) rfl dX2_performRepeat_91 rfl (by
                    have hbl : blk o (b2, s.2) = .inl e6 := by rw [← hbk, blk_step hs2, if_neg hk22, hsm]; rfl
                    have hres : rptS o (nx o P) (u, e) = .inl e6 := by
                      rw [rpt_s hx1 hx2, ← hrd, rnd_step hlt, hbl]; rfl
                    exact ⟨_, _, rfl, rfl, rfl, by rw [hres]; rfl, hF2.trans hf6, by rw [hres]; exact hC6⟩)
                      · obtain ⟨y6, hx6⟩ := cB_t (bI1.mp c82)
                        rw [hx6] at hC6
                        have hC6 : CP τ6 o n (y6.1, y6.2, s2.2.2 + 1) := hC6
                        refine V.aload_n (q := 81) dX2_performRepeat_80 rfl rfl ?_
                        refine V.gets (q := 84) dX2_performRepeat_81 (st_kind (i := 20) (by decide) rfl) bw_886 rfl ?_
                        refine V.cVPP (q := 87) (As := [_]) dX2_performRepeat_84 rfl (kP_take hT6 hC6.1 (K := 20) (by decide)) MX2_take bw_857 (by first | rfl | assumption) rfl rfl rfl (by decide) rfl (fun v7 τ7 h7 => ?_)
                        obtain ⟨rfl, hf7, hA7⟩ := h7
                        refine V.if_ne (tgt := 92) (q := 90) dX2_performRepeat_87 (by decide) rfl (fun c92 => ?_) (fun c92 => ?_)
                        · obtain ⟨p7, hx7⟩ := cB_t (bI1.mp c92)
                          rw [hx7] at hA7
                          have hsm := smp_r hx6 hx7
                          have hpp := smpR_p hsm
                          refine V.iinc (q := 95) dX2_performRepeat_92 rfl (by first | exact nI_inc _ | rfl) rfl rfl rfl ?_
                          refine V.goto (tgt := 55) dX2_performRepeat_95 (by decide) ?_
                          refine ih2 _ (by omega) (c + 1) (p7, y6.2, s2.2.2 + 1) τ7 rfl ?_ ?_ (smpR_ok hO2 hsm) ((hF2.trans hf6).trans hf7.P) (hC6.fr hf7 hA7)
                          · show c + 1 ≤ p7
                            have hpp1 : s2.1 < p7 := hpp.1
                            omega
                          · rw [← hbk, blk_step (s := s2) hs2, if_neg hk22, hsm]; rfl
                        · obtain ⟨e7, hx7⟩ := cB_f (bI0.mp c92)
                          rw [hx7] at hA7
                          have hsm := smp_l2 hx6 hx7
                          refine V.iconst (q := 91) dX2_performRepeat_90 (v := 0) rfl rfl ?_
                          exact V.zret (ty := .boolean) rfl dX2_performRepeat_91 rfl (by
                    have hbl : blk o (b2, s.2) = .inl e7 := by rw [← hbk, blk_step hs2, if_neg hk22, hsm]; rfl
                    have hres : rptS o (nx o P) (u, e) = .inl e7 := by
                      rw [rpt_s hx1 hx2, ← hrd, rnd_step hlt, hbl]; rfl
                    exact ⟨_, _, rfl, rfl, rfl, by rw [hres]; rfl, (hF2.trans hf6).trans hf7.P, by rw [hres]; exact hA7⟩)
              exact inner _ 0 (b2, s.2) τ5 rfl (Nat.zero_le _) rfl hOk hF5 hC5
        exact loop _ 0 (b2, u, e) _ none rfl (Nat.zero_le _) rfl hO hF ⟨⟨⟨ib, hib, hatb, hstb⟩, h7b, h8b⟩, h6, _, hR⟩
      · obtain ⟨e2, hx2⟩ := cB_f (bI0.mp c30)
        rw [hx2] at hA3
        refine V.iconst (q := 34) dX2_performRepeat_33 (v := 0) rfl rfl ?_
        exact V.zret (ty := .boolean) rfl dX2_performRepeat_34 rfl ⟨_, _, rfl, rfl, rfl, by rw [rpt_o hx1 hx2]; rfl, hF, by rw [rpt_o hx1 hx2]; exact hA3⟩
