/-! the model's parser: simple commands, repeat, all commands -/
theorem MOk.ex {σ : St} {o : Txt} {P e e2 : Nat} {u : Vw} {x : Int32} (h : MOk σ o (P, u, e)) (hx : x = nI e2) : MOk (stF σ 94 13 x) o (P, u, e2) := by
  obtain ⟨⟨k, h1, h2, h3⟩, a, b, c, d⟩ := h
  exact ⟨⟨k, h1, (stF_in (by decide)).trans h2, h3⟩, (stF_in (by decide)).trans a, (stF_in (by decide)).trans b, stF_at.trans hx, d⟩
theorem MFl.ar {σ : St} {o : Txt} {e : Er} {j : Nat} {x : Int32} (h : MFl σ o e) : MFl (stA σ 95 j x) o e := h
theorem MFl.ex {σ : St} {o : Txt} {e : Er} {x : Int32} (h : MFl σ o e) : MFl (stF σ 94 13 x) o e := by
  obtain ⟨⟨k, h1, h2⟩, a, b, c⟩ := h
  exact ⟨⟨k, h1, (stF_in (by decide)).trans h2⟩, (stF_in (by decide)).trans a, b, (stF_in (by decide)).trans c⟩
theorem MC.mr {τ : St} {o : Txt} {P e : Nat} {u : Vw} (h : MC τ o (e + 1) (smc o (cmdS o P u))) : MR τ o (smpR o (P, u, e)) := by
  unfold smpR
  show MR τ o (bnd (smc o (cmdS o P u)) _)
  cases hx : smc o (cmdS o P u) with
  | inl x => rw [hx] at h; exact h
  | inr y => rw [hx] at h; exact h
theorem kn_lt5 {k : Nat} (h : k < 20) (h5 : ¬ k = 5) (h7 : ¬ k = 7) (h8 : ¬ k = 8) (h9 : ¬ k = 9) (h10 : ¬ k = 10) (h11 : ¬ k = 11) (h12 : ¬ k = 12) (h13 : ¬ k = 13) : k ≠ 5 ∧ k ≠ 7 ∧ k ≠ 8 ∧ k ≠ 9 ∧ k ≠ 10 ∧ k ≠ 11 ∧ k ≠ 12 ∧ k ≠ 13 := ⟨h5, h7, h8, h9, h10, h11, h12, h13⟩
/-- a place that is no letter begins no command -/
theorem smp_no {o : Txt} {s : PSt} (h : leN (bc o s.1) = false) : smpR o s = .inl (1, s.1) := by
  have h2 : ¬ kn o s.1 < 20 := fun z => by rw [kn_le z] at h; cases h
  exact smp_l1 (cmd_no ⟨by omega, by omega, by omega, by omega, by omega, by omega, by omega, by omega⟩)
set_option maxHeartbeats 16000000 in
theorem kU_simple {l : Launch} {G : GG} {σ : St} {o : Txt} {P e : Nat} {u : Vw} (hb : byT o) (ho : o.1 ≤ 500) (hB : MB σ o) (hM : MOk σ o (P, u, e)) (hO : Ok u) : CtP l G TX5_simple 10 [.ref (gB G + 94)] σ (fun v τ => v = none ∧ FrU σ τ ∧ MR τ o (smpR o (P, u, e))) := by
  obtain ⟨⟨h, hh, hat, hsp⟩, hM1, hM2, hM3, hMR⟩ := id hM
  have hsp : spE o h = P := hsp
  have hPo : P ≤ o.1 := by rw [← hsp]; exact spE_top hh
  have hPP : spE o P = P := spE_at (by rw [← hsp]; exact spE_no hh)
  have hI := hO.1
  obtain ⟨hF0, hN0, hFN0, h20, h2⟩ := hI.F
  have hfl : us u 0 - 1 = nI (uN u - 1) := by rw [hN0]; exact pk_sub (b := 1) (by omega)
  have ht9 : uT u ≤ 999 := hO.2
  have hR : RM σ u := hM.2.2.2.2
  have hF : FrU σ σ := FrU.rf
  refine CtP.ofV (by decide +kernel) rfl rfl (Nat.le_of_ble_eq_true rfl) ?_
  refine V.aload_n (q := 1) dX5_simple_0 rfl rfl ?_
  refine V.dup (q := 2) dX5_simple_1 rfl rfl ?_
  refine V.gM (q := 5) dX5_simple_2 (j := 13) rfl bw_1024 rfl rfl rfl rfl ?_
  rw [hM.2.2.2.1]
  refine V.iconst (q := 6) dX5_simple_5 (v := 1) rfl rfl ?_
  refine V.iadd (q := 7) dX5_simple_6 rfl ?_
  refine V.pM (q := 10) dX5_simple_7 (j := 13) rfl bw_1024 rfl rfl rfl rfl rfl rfl ?_
  have hf0 : FrU σ (stF σ 94 13 (nI e + 1)) := FrU.f (by decide)
  have hM : MOk (stF σ 94 13 (nI e + 1)) o (P, u, e + 1) := hM.ex (nI_1 e)
  have hB := hB.fr hf0
  have hF := hF.trans hf0
  have hat : sF (stF σ 94 13 (nI e + 1)) 94 9 = nI h := (stF_in (by decide)).trans hat
  generalize stF σ 94 13 (nI e + 1) = τ0 at hf0 hM hB hF hat ⊢
  refine V.aload_n (q := 11) dX5_simple_10 rfl rfl ?_
  refine V.cVMP (q := 14) (As := []) dX5_simple_11 rfl (kU_peek hb ho hB hh hat) MX5_peek bw_1089 rfl rfl rfl rfl (by decide) rfl (fun v10 τ10 h10 => ?_)
  obtain ⟨rfl, hf9, hat⟩ := h10
  rw [hsp] at hat ⊢
  have hB := hB.fr hf9.u
  have hM : MOk τ10 o (P, u, e + 1) := hM.at hf9 ⟨P, hPo, hat, hPP⟩
  have hF := hF.trans hf9.u
  have hR : RM τ10 u := hM.2.2.2.2
  refine V.istore_n (q := 15) dX5_simple_14 rfl rfl rfl rfl ?_
  refine V.aload_n (q := 16) dX5_simple_15 rfl rfl ?_
  refine V.gM (q := 19) dX5_simple_16 (j := 9) rfl bw_1020 rfl rfl rfl rfl ?_
  rw [hat]
  refine V.istore_n (q := 20) dX5_simple_19 rfl rfl rfl rfl ?_
  refine V.aload_n (q := 21) dX5_simple_20 rfl rfl ?_
  refine V.ldcS (q := 23) dX5_simple_21 (tx := "") (j := 21) (by decide) (by decide +kernel) rfl ?_
  refine V.cVMP (q := 26) (As := [_]) dX5_simple_23 rfl (kU_accepts hb ho hB hM (K := 5) (j := 21) (by decide) (by decide) (by decide +kernel)) MX5_accepts bw_1085 rfl rfl rfl rfl (by decide) rfl (fun v1 τ1 h1 => ?_)
  obtain ⟨rfl, hf1, hy, hn⟩ := h1
  have hB := hB.fr hf1
  have hF := hF.trans hf1
  refine V.if_eq (tgt := 54) (q := 29) dX5_simple_26 (by decide) rfl (fun c26 => ?_) (fun c26 => ?_)
  · have k1 : ¬ kn o P = 5 := of_decide_eq_false (bI0.mp c26)
    obtain ⟨hM, hat⟩ := hn k1
    have hM : MOk τ1 o (P, u, e + 1) := hM
    have hat : sF τ1 94 9 = nI P := hat
    have hR : RM τ1 u := hM.2.2.2.2
    refine V.aload_n (q := 55) dX5_simple_54 rfl rfl ?_
    refine V.ldcS (q := 57) dX5_simple_55 (tx := "") (j := 23) (by decide) (by decide +kernel) rfl ?_
    refine V.cVMP (q := 60) (As := [_]) dX5_simple_57 rfl (kU_accepts hb ho hB hM (K := 7) (j := 23) (by decide) (by decide) (by decide +kernel)) MX5_accepts bw_1085 rfl rfl rfl rfl (by decide) rfl (fun v2 τ2 h2 => ?_)
    obtain ⟨rfl, hf2, hy, hn⟩ := h2
    have hB := hB.fr hf2
    have hF := hF.trans hf2
    refine V.if_eq (tgt := 70) (q := 63) dX5_simple_60 (by decide) rfl (fun c60 => ?_) (fun c60 => ?_)
    · have k2 : ¬ kn o P = 7 := of_decide_eq_false (bI0.mp c60)
      obtain ⟨hM, hat⟩ := hn k2
      have hM : MOk τ2 o (P, u, e + 1) := hM
      have hat : sF τ2 94 9 = nI P := hat
      have hR : RM τ2 u := hM.2.2.2.2
      refine V.aload_n (q := 71) dX5_simple_70 rfl rfl ?_
      refine V.ldcS (q := 73) dX5_simple_71 (tx := "") (j := 24) (by decide) (by decide +kernel) rfl ?_
      refine V.cVMP (q := 76) (As := [_]) dX5_simple_73 rfl (kU_accepts hb ho hB hM (K := 8) (j := 24) (by decide) (by decide) (by decide +kernel)) MX5_accepts bw_1085 rfl rfl rfl rfl (by decide) rfl (fun v3 τ3 h3 => ?_)
      obtain ⟨rfl, hf3, hy, hn⟩ := h3
      have hB := hB.fr hf3
      have hF := hF.trans hf3
      refine V.if_eq (tgt := 105) (q := 79) dX5_simple_76 (by decide) rfl (fun c76 => ?_) (fun c76 => ?_)
      · have k3 : ¬ kn o P = 8 := of_decide_eq_false (bI0.mp c76)
        obtain ⟨hM, hat⟩ := hn k3
        have hM : MOk τ3 o (P, u, e + 1) := hM
        have hat : sF τ3 94 9 = nI P := hat
        have hR : RM τ3 u := hM.2.2.2.2
        refine V.aload_n (q := 106) dX5_simple_105 rfl rfl ?_
        refine V.ldcS (q := 108) dX5_simple_106 (tx := "") (j := 25) (by decide) (by decide +kernel) rfl ?_
        refine V.cVMP (q := 111) (As := [_]) dX5_simple_108 rfl (kU_accepts hb ho hB hM (K := 9) (j := 25) (by decide) (by decide) (by decide +kernel)) MX5_accepts bw_1085 rfl rfl rfl rfl (by decide) rfl (fun v4 τ4 h4 => ?_)
        obtain ⟨rfl, hf4, hy, hn⟩ := h4
        have hB := hB.fr hf4
        have hF := hF.trans hf4
        refine V.if_eq (tgt := 121) (q := 114) dX5_simple_111 (by decide) rfl (fun c111 => ?_) (fun c111 => ?_)
        · have k4 : ¬ kn o P = 9 := of_decide_eq_false (bI0.mp c111)
          obtain ⟨hM, hat⟩ := hn k4
          have hM : MOk τ4 o (P, u, e + 1) := hM
          have hat : sF τ4 94 9 = nI P := hat
          have hR : RM τ4 u := hM.2.2.2.2
          refine V.aload_n (q := 122) dX5_simple_121 rfl rfl ?_
          refine V.ldcS (q := 124) dX5_simple_122 (tx := "") (j := 32) (by decide) (by decide +kernel) rfl ?_
          refine V.cVMP (q := 127) (As := [_]) dX5_simple_124 rfl (kU_accepts hb ho hB hM (K := 10) (j := 32) (by decide) (by decide) (by decide +kernel)) MX5_accepts bw_1085 rfl rfl rfl rfl (by decide) rfl (fun v5 τ5 h5 => ?_)
          obtain ⟨rfl, hf5, hy, hn⟩ := h5
          have hB := hB.fr hf5
          have hF := hF.trans hf5
          refine V.if_eq (tgt := 167) (q := 130) dX5_simple_127 (by decide) rfl (fun c127 => ?_) (fun c127 => ?_)
          · have k5 : ¬ kn o P = 10 := of_decide_eq_false (bI0.mp c127)
            obtain ⟨hM, hat⟩ := hn k5
            have hM : MOk τ5 o (P, u, e + 1) := hM
            have hat : sF τ5 94 9 = nI P := hat
            have hR : RM τ5 u := hM.2.2.2.2
            refine V.aload_n (q := 168) dX5_simple_167 rfl rfl ?_
            refine V.ldcS (q := 170) dX5_simple_168 (tx := "") (j := 33) (by decide) (by decide +kernel) rfl ?_
            refine V.cVMP (q := 173) (As := [_]) dX5_simple_170 rfl (kU_accepts hb ho hB hM (K := 11) (j := 33) (by decide) (by decide) (by decide +kernel)) MX5_accepts bw_1085 rfl rfl rfl rfl (by decide) rfl (fun v6 τ6 h6 => ?_)
            obtain ⟨rfl, hf6, hy, hn⟩ := h6
            have hB := hB.fr hf6
            have hF := hF.trans hf6
            refine V.if_eq (tgt := 183) (q := 176) dX5_simple_173 (by decide) rfl (fun c173 => ?_) (fun c173 => ?_)
            · have k6 : ¬ kn o P = 11 := of_decide_eq_false (bI0.mp c173)
              obtain ⟨hM, hat⟩ := hn k6
              have hM : MOk τ6 o (P, u, e + 1) := hM
              have hat : sF τ6 94 9 = nI P := hat
              have hR : RM τ6 u := hM.2.2.2.2
              refine V.aload_n (q := 184) dX5_simple_183 rfl rfl ?_
              refine V.ldcS (q := 186) dX5_simple_184 (tx := "") (j := 34) (by decide) (by decide +kernel) rfl ?_
              refine V.cVMP (q := 189) (As := [_]) dX5_simple_186 rfl (kU_accepts hb ho hB hM (K := 12) (j := 34) (by decide) (by decide) (by decide +kernel)) MX5_accepts bw_1085 rfl rfl rfl rfl (by decide) rfl (fun v7 τ7 h7 => ?_)
              obtain ⟨rfl, hf7, hy, hn⟩ := h7
              have hB := hB.fr hf7
              have hF := hF.trans hf7
              refine V.if_eq (tgt := 199) (q := 192) dX5_simple_189 (by decide) rfl (fun c189 => ?_) (fun c189 => ?_)
              · have k7 : ¬ kn o P = 12 := of_decide_eq_false (bI0.mp c189)
                obtain ⟨hM, hat⟩ := hn k7
                have hM : MOk τ7 o (P, u, e + 1) := hM
                have hat : sF τ7 94 9 = nI P := hat
                have hR : RM τ7 u := hM.2.2.2.2
                refine V.aload_n (q := 200) dX5_simple_199 rfl rfl ?_
                refine V.ldcS (q := 202) dX5_simple_200 (tx := "") (j := 35) (by decide) (by decide +kernel) rfl ?_
                refine V.cVMP (q := 205) (As := [_]) dX5_simple_202 rfl (kU_accepts hb ho hB hM (K := 13) (j := 35) (by decide) (by decide) (by decide +kernel)) MX5_accepts bw_1085 rfl rfl rfl rfl (by decide) rfl (fun v8 τ8 h8 => ?_)
                obtain ⟨rfl, hf8, hy, hn⟩ := h8
                have hB := hB.fr hf8
                have hF := hF.trans hf8
                refine V.if_eq (tgt := 216) (q := 208) dX5_simple_205 (by decide) rfl (fun c205 => ?_) (fun c205 => ?_)
                · have k8 : ¬ kn o P = 13 := of_decide_eq_false (bI0.mp c205)
                  obtain ⟨hM, hat⟩ := hn k8
                  have hM : MOk τ8 o (P, u, e + 1) := hM
                  have hat : sF τ8 94 9 = nI P := hat
                  have hR : RM τ8 u := hM.2.2.2.2
                  refine V.aload_n (q := 217) dX5_simple_216 rfl rfl ?_
                  refine V.iconst (q := 218) dX5_simple_217 (v := 1) rfl rfl ?_
                  refine V.aload_n (q := 219) dX5_simple_218 rfl rfl ?_
                  refine V.gM (q := 222) dX5_simple_219 (j := 9) rfl bw_1020 rfl rfl rfl rfl ?_
                  rw [hat]
                  refine V.cVM (q := 225) dX5_simple_222 (As := [_, _]) rfl (kU_fail hM) MX5_fail bw_1106 rfl rfl rfl rfl (by decide) rfl ?_
                  exact V.vret dX5_simple_225 rfl (by
      have hres : smpR o (P, u, e) = .inl (1, P) := smp_l1 (cmd_no ⟨k1, k2, k3, k4, k5, k6, k7, k8⟩)
      exact ⟨_, _, rfl, rfl, rfl, rfl, hF.trans ((FrU.f (by decide)).trans (FrU.f (by decide))), by rw [hres]; exact hM.fl (by decide) rfl rfl⟩)
                · have k8 : kn o P = 13 := of_decide_eq_true (bI1.mp c205)
                  have hM : MOk τ8 o (nx o P, u, e + 1) := hy k8
                  have hR : RM τ8 u := hM.2.2.2.2
                  refine V.aload_n (q := 209) dX5_simple_208 rfl rfl ?_
                  refine V.iload_n (q := 210) dX5_simple_209 rfl rfl ?_
                  refine V.cVMP (q := 213) (As := [_]) dX5_simple_210 rfl (kU_readsExpectation hb ho hB hM hO (P0 := P)) MX5_readsExpectation bw_1287 rfl rfl rfl rfl (by decide) rfl (fun v12 τ12 h12 => ?_)
                  obtain ⟨rfl, hf12, hM⟩ := h12
                  have hF := hF.trans hf12
                  refine V.goto (tgt := 225) dX5_simple_213 (by decide) ?_
                  exact V.vret dX5_simple_225 rfl (by
      have hr := cmd_13 (u := u) k8
      exact ⟨_, _, rfl, rfl, rfl, rfl, hF, MC.mr (by rw [hr]; exact hM)⟩)
              · have k7 : kn o P = 12 := of_decide_eq_true (bI1.mp c189)
                have hM : MOk τ7 o (nx o P, u, e + 1) := hy k7
                have hR : RM τ7 u := hM.2.2.2.2
                refine V.aload_n (q := 193) dX5_simple_192 rfl rfl ?_
                refine V.cVMP (q := 196) (As := []) dX5_simple_193 rfl (kU_readsCapacity hb ho hB hM hO) MX5_readsCapacity bw_1282 rfl rfl rfl rfl (by decide) rfl (fun v12 τ12 h12 => ?_)
                obtain ⟨rfl, hf12, hM⟩ := h12
                have hF := hF.trans hf12
                refine V.goto (tgt := 225) dX5_simple_196 (by decide) ?_
                exact V.vret dX5_simple_225 rfl (by
      have hr := cmd_12 (u := u) k7
      exact ⟨_, _, rfl, rfl, rfl, rfl, hF, MC.mr (by rw [hr]; exact hM)⟩)
            · have k6 : kn o P = 11 := of_decide_eq_true (bI1.mp c173)
              have hM : MOk τ6 o (nx o P, u, e + 1) := hy k6
              have hR : RM τ6 u := hM.2.2.2.2
              refine V.aload_n (q := 177) dX5_simple_176 rfl rfl ?_
              refine V.cVMP (q := 180) (As := []) dX5_simple_177 rfl (kU_readsPolicy hb ho hB hM hO) MX5_readsPolicy bw_1277 rfl rfl rfl rfl (by decide) rfl (fun v12 τ12 h12 => ?_)
              obtain ⟨rfl, hf12, hM⟩ := h12
              have hF := hF.trans hf12
              refine V.goto (tgt := 225) dX5_simple_180 (by decide) ?_
              exact V.vret dX5_simple_225 rfl (by
      have hr := cmd_11 (u := u) k6
      exact ⟨_, _, rfl, rfl, rfl, rfl, hF, MC.mr (by rw [hr]; exact hM)⟩)
          · have k5 : kn o P = 10 := of_decide_eq_true (bI1.mp c127)
            have hM : MOk τ5 o (nx o P, u, e + 1) := hy k5
            have hR : RM τ5 u := hM.2.2.2.2
            refine V.aload_n (q := 131) dX5_simple_130 rfl rfl ?_
            refine V.cVMP (q := 134) (As := []) dX5_simple_131 rfl (kU_semicolon hb ho hB hM) MX5_semicolon bw_1121 rfl rfl rfl rfl (by decide) rfl (fun v15 τ15 h15 => ?_)
            rcases hx15 : tkR o 20 (nx o P) with e15 | q15
            · rw [hx15] at h15
              obtain ⟨rfl, hf15, hM⟩ := h15
              have hM : MFl τ15 o e15 := hM
              have hB := hB.fr hf15
              have hF := hF.trans hf15
              refine V.aload_n (q := 135) dX5_simple_134 rfl rfl ?_
              refine V.gM (q := 138) dX5_simple_135 (j := 1) rfl bw_1012 rfl rfl rfl rfl ?_
              refine V.iconst (q := 139) dX5_simple_138 (v := 5) rfl rfl ?_
              refine V.aload_n (q := 140) dX5_simple_139 rfl rfl ?_
              refine V.cVM (q := 143) dX5_simple_140 (As := []) rfl (kU_failedF hM) MX5_failed bw_1100 rfl rfl rfl rfl (by decide) rfl ?_
              refine V.if_eq (tgt := 155) (q := 146) dX5_simple_143 (by decide) rfl (fun c143 => ?_) (fun c143 => ?_)
              · exact absurd c143 (by decide)
              · refine V.aload_n (q := 147) dX5_simple_146 rfl rfl ?_
                refine V.gM (q := 150) dX5_simple_147 (j := 1) rfl bw_1012 rfl rfl rfl rfl ?_
                refine V.iconst (q := 151) dX5_simple_150 (v := 5) rfl rfl ?_
                refine V.ld12 (q := 152) dX5_simple_151 (i := 5) rfl rfl (by decide) rfl ?_
                refine V.goto (tgt := 163) dX5_simple_152 (by decide) ?_
                refine V.st12 (q := 164) dX5_simple_163 (i := 5) rfl rfl (by decide) rfl ?_
                have hM := hM.ar (j := 5) (x := sA τ15 95 5)
                have hf16 : FrM τ15 (stA τ15 95 5 (sA τ15 95 5)) := FrM.rf.ar
                have hF := hF.trans hf16.u
                refine V.goto (tgt := 225) dX5_simple_164 (by decide) ?_
                exact V.vret dX5_simple_225 rfl (by
      have hr : cmdS o P u = .inr (nx o P, uS u 5 (1 - us u 5)) := cmd_10 k5
      have hres := smc_l2 hr hx15
      exact ⟨_, _, rfl, rfl, rfl, rfl, hF, MC.mr (by rw [hres]; exact hM)⟩)
            · (rw [hx15] at h15)
              obtain ⟨rfl, hf15, hM⟩ := h15
              have hM : MOk τ15 o (q15, u, e + 1) := hM
              have hR : RM τ15 u := hM.2.2.2.2
              have hB := hB.fr hf15
              have hF := hF.trans hf15
              refine V.aload_n (q := 135) dX5_simple_134 rfl rfl ?_
              refine V.gM (q := 138) dX5_simple_135 (j := 1) rfl bw_1012 rfl rfl rfl rfl ?_
              refine V.iconst (q := 139) dX5_simple_138 (v := 5) rfl rfl ?_
              refine V.aload_n (q := 140) dX5_simple_139 rfl rfl ?_
              refine V.cVM (q := 143) dX5_simple_140 (As := []) rfl (kU_failed hM) MX5_failed bw_1100 rfl rfl rfl rfl (by decide) rfl ?_
              refine V.if_eq (tgt := 155) (q := 146) dX5_simple_143 (by decide) rfl (fun c143 => ?_) (fun c143 => ?_)
              · refine V.iconst (q := 156) dX5_simple_155 (v := 1) rfl rfl ?_
                refine V.aload_n (q := 157) dX5_simple_156 rfl rfl ?_
                refine V.gM (q := 160) dX5_simple_157 (j := 1) rfl bw_1012 rfl rfl rfl rfl ?_
                refine V.iconst (q := 161) dX5_simple_160 (v := 5) rfl rfl ?_
                refine V.ldMu (q := 162) 5 dX5_simple_161 hR rfl rfl rfl ?_
                refine V.isub (q := 163) dX5_simple_162 rfl ?_
                refine V.st12 (q := 164) dX5_simple_163 (i := 5) rfl rfl (by decide) rfl ?_
                have hR1 := hR.sc 5 (1 - us u 5) (by decide)
                have hf16 : FrM τ15 (stA τ15 95 5 (1 - us u 5)) := FrM.rf.ar
                have hM := hM.m hf16 hR1
                have hF := hF.trans hf16.u
                refine V.goto (tgt := 225) dX5_simple_164 (by decide) ?_
                exact V.vret dX5_simple_225 rfl (by
      have hr : cmdS o P u = .inr (nx o P, uS u 5 (1 - us u 5)) := cmd_10 k5
      have hres := smc_r hr hx15
      exact ⟨_, _, rfl, rfl, rfl, rfl, hF, MC.mr (by rw [hres]; exact hM)⟩)
              · exact absurd rfl c143
        · have k4 : kn o P = 9 := of_decide_eq_true (bI1.mp c111)
          have hM : MOk τ4 o (nx o P, u, e + 1) := hy k4
          have hR : RM τ4 u := hM.2.2.2.2
          refine V.aload_n (q := 115) dX5_simple_114 rfl rfl ?_
          refine V.cVMP (q := 118) (As := []) dX5_simple_115 rfl (kU_readsUntil hb ho hB hM hO) MX5_readsUntil bw_1257 rfl rfl rfl rfl (by decide) rfl (fun v12 τ12 h12 => ?_)
          obtain ⟨rfl, hf12, hM⟩ := h12
          have hF := hF.trans hf12
          refine V.goto (tgt := 225) dX5_simple_118 (by decide) ?_
          exact V.vret dX5_simple_225 rfl (by
      have hr := cmd_9 (u := u) k4
      exact ⟨_, _, rfl, rfl, rfl, rfl, hF, MC.mr (by rw [hr]; exact hM)⟩)
      · have k3 : kn o P = 8 := of_decide_eq_true (bI1.mp c76)
        have hM : MOk τ3 o (nx o P, u, e + 1) := hy k3
        have hR : RM τ3 u := hM.2.2.2.2
        refine V.aload_n (q := 80) dX5_simple_79 rfl rfl ?_
        refine V.cVMP (q := 83) (As := []) dX5_simple_80 rfl (kU_semicolon hb ho hB hM) MX5_semicolon bw_1121 rfl rfl rfl rfl (by decide) rfl (fun v13 τ13 h13 => ?_)
        rcases hx13 : tkR o 20 (nx o P) with e13 | q13
        · rw [hx13] at h13
          obtain ⟨rfl, hf13, hM⟩ := h13
          have hM : MFl τ13 o e13 := hM
          have hB := hB.fr hf13
          have hF := hF.trans hf13
          refine V.aload_n (q := 84) dX5_simple_83 rfl rfl ?_
          refine V.cVM (q := 87) dX5_simple_84 (As := []) rfl (kU_failedF hM) MX5_failed bw_1100 rfl rfl rfl rfl (by decide) rfl ?_
          refine V.if_eq (tgt := 94) (q := 90) dX5_simple_87 (by decide) rfl (fun c87 => ?_) (fun c87 => ?_)
          · exact absurd c87 (by decide)
          · refine V.iconst (q := 91) dX5_simple_90 (v := 0) rfl rfl ?_
            refine V.goto (tgt := 101) dX5_simple_91 (by decide) ?_
            refine V.istore_n (q := 102) dX5_simple_101 rfl rfl rfl rfl ?_
            refine V.goto (tgt := 225) dX5_simple_102 (by decide) ?_
            exact V.vret dX5_simple_225 rfl (by
      have hr : cmdS o P u = .inr (nx o P, fzu (999 - uT u) u) := cmd_8 k3
      have hres := smc_l2 hr hx13
      exact ⟨_, _, rfl, rfl, rfl, rfl, hF, MC.mr (by rw [hres]; exact hM)⟩)
        · (rw [hx13] at h13)
          obtain ⟨rfl, hf13, hM⟩ := h13
          have hM : MOk τ13 o (q13, u, e + 1) := hM
          have hR : RM τ13 u := hM.2.2.2.2
          have hB := hB.fr hf13
          have hF := hF.trans hf13
          refine V.aload_n (q := 84) dX5_simple_83 rfl rfl ?_
          refine V.cVM (q := 87) dX5_simple_84 (As := []) rfl (kU_failed hM) MX5_failed bw_1100 rfl rfl rfl rfl (by decide) rfl ?_
          refine V.if_eq (tgt := 94) (q := 90) dX5_simple_87 (by decide) rfl (fun c87 => ?_) (fun c87 => ?_)
          · refine V.aload_n (q := 95) dX5_simple_94 rfl rfl ?_
            refine V.sipush (q := 98) dX5_simple_95 (v := 999) rfl rfl ?_
            refine V.cVMP (q := 101) (As := [_]) dX5_simple_98 rfl (cM_finishes hR hI (K := 999) (by decide)) MX5_finishes bw_1248 rfl rfl rfl rfl (by decide) rfl (fun v14 τ14 h14 => ?_)
            obtain ⟨rfl, hf14, hR⟩ := h14
            have hM := hM.m hf14 hR
            have hF := hF.trans hf14.u
            refine V.istore_n (q := 102) dX5_simple_101 rfl rfl rfl rfl ?_
            refine V.goto (tgt := 225) dX5_simple_102 (by decide) ?_
            exact V.vret dX5_simple_225 rfl (by
      have hr : cmdS o P u = .inr (nx o P, fzu (999 - uT u) u) := cmd_8 k3
      have hres := smc_r hr hx13
      exact ⟨_, _, rfl, rfl, rfl, rfl, hF, MC.mr (by rw [hres]; exact hM)⟩)
          · exact absurd rfl c87
    · have k2 : kn o P = 7 := of_decide_eq_true (bI1.mp c60)
      have hM : MOk τ2 o (nx o P, u, e + 1) := hy k2
      have hR : RM τ2 u := hM.2.2.2.2
      refine V.aload_n (q := 64) dX5_simple_63 rfl rfl ?_
      refine V.cVMP (q := 67) (As := []) dX5_simple_64 rfl (kU_readsRun hb ho hB hM hO) MX5_readsRun bw_1164 rfl rfl rfl rfl (by decide) rfl (fun v12 τ12 h12 => ?_)
      obtain ⟨rfl, hf12, hM⟩ := h12
      have hF := hF.trans hf12
      refine V.goto (tgt := 225) dX5_simple_67 (by decide) ?_
      exact V.vret dX5_simple_225 rfl (by
      have hr := cmd_7 (u := u) k2
      exact ⟨_, _, rfl, rfl, rfl, rfl, hF, MC.mr (by rw [hr]; exact hM)⟩)
  · have k1 : kn o P = 5 := of_decide_eq_true (bI1.mp c26)
    have hM : MOk τ1 o (nx o P, u, e + 1) := hy k1
    have hR : RM τ1 u := hM.2.2.2.2
    refine V.aload_n (q := 30) dX5_simple_29 rfl rfl ?_
    refine V.gM (q := 33) dX5_simple_30 (j := 1) rfl bw_1012 rfl rfl rfl rfl ?_
    refine V.bipush (q := 35) dX5_simple_33 (v := 10) rfl rfl ?_
    refine V.ldMn (q := 36) dX5_simple_35 hR rfl rfl ?_
    refine V.bipush (q := 38) dX5_simple_36 (v := 40) rfl rfl ?_
    refine V.icmp_ne (tgt := 47) (q := 41) dX5_simple_38 (by decide) rfl (fun c38 => ?_) (fun c38 => ?_)
    · have hn41 : un u ≤ 40 := hI.1
      have h40 : ¬ un u = 40 := fun z => c38 (by rw [z]; rfl)
      refine V.aload_n (q := 48) dX5_simple_47 rfl rfl ?_
      refine V.cVMP (q := 51) (As := []) dX5_simple_48 rfl (kU_readsCall hb ho hB hM hO (by omega)) MX5_readsCall bw_1147 rfl rfl rfl rfl (by decide) rfl (fun v12 τ12 h12 => ?_)
      obtain ⟨rfl, hf12, hM⟩ := h12
      have hF := hF.trans hf12
      refine V.goto (tgt := 225) dX5_simple_51 (by decide) ?_
      exact V.vret dX5_simple_225 rfl (by
      have hr : cmdS o P u = calS o (nx o P) u := (cmd_5 k1).trans (if_neg h40)
      exact ⟨_, _, rfl, rfl, rfl, rfl, hF, MC.mr (by rw [hr]; exact hM)⟩)
    · have hn41 : un u ≤ 40 := hI.1
      have h40 : un u = 40 := neq (b := 40) c38 (by omega) (by decide)
      refine V.aload_n (q := 42) dX5_simple_41 rfl rfl ?_
      refine V.iconst (q := 43) dX5_simple_42 (v := 3) rfl rfl ?_
      refine V.iload_n (q := 44) dX5_simple_43 rfl rfl ?_
      refine V.cVM (q := 47) dX5_simple_44 (As := [_, _]) rfl (kU_fail hM) MX5_fail bw_1106 rfl rfl rfl rfl (by decide) rfl ?_
      have hM : MFl (stF (stF τ1 94 11 3) 94 10 (nI P)) o (3, P) := hM.fl (by decide) rfl rfl
      have hf11 : FrU τ1 (stF (stF τ1 94 11 3) 94 10 (nI P)) := (FrU.f (by decide)).trans (FrU.f (by decide))
      have hB := hB.fr hf11
      have hF := hF.trans hf11
      generalize stF (stF τ1 94 11 3) 94 10 (nI P) = τ11 at hM hf11 hB hF ⊢
      refine V.aload_n (q := 48) dX5_simple_47 rfl rfl ?_
      refine V.cVMP (q := 51) (As := []) dX5_simple_48 rfl (kU_readsCallF hb ho hB hM) MX5_readsCall bw_1147 rfl rfl rfl rfl (by decide) rfl (fun v12 τ12 h12 => ?_)
      obtain ⟨rfl, hf12, hM⟩ := h12
      have hF := hF.trans hf12
      refine V.goto (tgt := 225) dX5_simple_51 (by decide) ?_
      exact V.vret dX5_simple_225 rfl (by
      have hr : cmdS o P u = .inl (3, P) := (cmd_5 k1).trans (if_pos h40)
      have hres := smc_l (o := o) hr
      exact ⟨_, _, rfl, rfl, rfl, rfl, hF, MC.mr (by rw [hres]; exact hM)⟩)
set_option maxHeartbeats 16000000 in
theorem kU_repeats {l : Launch} {G : GG} {σ : St} {o : Txt} {P e : Nat} {u : Vw} (hb : byT o) (ho : o.1 ≤ 500) (hB : MB σ o) (hM : MOk σ o (P, u, e)) (hO : Ok u) : CtP l G TX5_repeats 11 [.ref (gB G + 94)] σ (fun v τ => v = none ∧ FrU σ τ ∧ MR τ o (tkS o 20 (rptS o P (u, e)))) := by
  have hI := hO.1
  obtain ⟨hF0, hN0, hFN0, h20, h2⟩ := hI.F
  have hfl : us u 0 - 1 = nI (uN u - 1) := by rw [hN0]; exact pk_sub (b := 1) (by omega)
  have ht9 : uT u ≤ 999 := hO.2
  have hR : RM σ u := hM.2.2.2.2
  have hF : FrU σ σ := FrU.rf
  refine CtP.ofV (by decide +kernel) rfl rfl (Nat.le_of_ble_eq_true rfl) ?_
  refine V.aload_n (q := 1) dX5_repeats_0 rfl rfl ?_
  refine V.iconst (q := 2) dX5_repeats_1 (v := 1) rfl rfl ?_
  refine V.bipush (q := 4) dX5_repeats_2 (v := 9) rfl rfl ?_
  refine V.cVMP (q := 7) (As := [_, _]) dX5_repeats_4 rfl (kU_number hb ho hB hM (lo := 1) (hi := 9) (by omega) (by omega)) MX5_number bw_1110 rfl rfl rfl rfl (by decide) rfl (fun v1 τ1 h1 => ?_)
  rcases hx1 : numR o P 1 9 with e1 | q1
  · rw [hx1] at h1
    obtain ⟨rfl, hf1, hM⟩ := h1
    have hM : MFl τ1 o e1 := hM
    have hB := hB.fr hf1
    have hF := hF.trans hf1
    show V _ _ _ _ _ _ _ _ _ _ _ (.int (nI 1) :: _) _ _
    refine V.istore_n (q := 8) dX5_repeats_7 rfl rfl rfl rfl ?_
    refine V.aload_n (q := 9) dX5_repeats_8 rfl rfl ?_
    refine V.bipush (q := 11) dX5_repeats_9 (v := 40) rfl rfl ?_
    refine V.cVM (q := 14) dX5_repeats_11 (As := [_]) rfl (kU_bracketF hM) MX5_bracket bw_1138 rfl rfl rfl rfl (by decide) rfl ?_
    refine V.aload_n (q := 15) dX5_repeats_14 rfl rfl ?_
    refine V.gM (q := 18) dX5_repeats_15 (j := 9) rfl bw_1020 rfl rfl rfl rfl ?_
    refine V.istore_n (q := 19) dX5_repeats_18 rfl rfl rfl rfl ?_
    refine V.iconst (q := 20) dX5_repeats_19 (v := 0) rfl rfl ?_
    refine V.istore_n (q := 21) dX5_repeats_20 rfl rfl rfl rfl ?_
    refine V.iload_n (q := 22) dX5_repeats_21 rfl rfl ?_
    refine V.iload_n (q := 23) dX5_repeats_22 rfl rfl ?_
    refine V.icmp_ge (tgt := 78) (q := 26) dX5_repeats_23 (by decide) rfl (fun c23 => ?_) (fun c23 => ?_)
    · refine V.aload_n (q := 79) dX5_repeats_78 rfl rfl ?_
      refine V.cVM (q := 82) dX5_repeats_79 (As := []) rfl (kU_semicolonF hM) MX5_semicolon bw_1121 rfl rfl rfl rfl (by decide) rfl ?_
      exact V.vret dX5_repeats_82 rfl (by
      have hr : rptS o P (u, e) = .inl e1 := by
        exact rpt_n hx1
      have hres := tkS_l1 (o := o) (K := 20) hr
      exact ⟨_, _, rfl, rfl, rfl, rfl, hF, by rw [hres]; exact hM⟩)
    · refine V.aload_n (q := 27) dX5_repeats_26 rfl rfl ?_
      refine V.cVM (q := 30) dX5_repeats_27 (As := []) rfl (kU_failedF hM) MX5_failed bw_1100 rfl rfl rfl rfl (by decide) rfl ?_
      refine V.if_ne (tgt := 78) (q := 33) dX5_repeats_30 (by decide) rfl (fun c30 => ?_) (fun c30 => ?_)
      · refine V.aload_n (q := 79) dX5_repeats_78 rfl rfl ?_
        refine V.cVM (q := 82) dX5_repeats_79 (As := []) rfl (kU_semicolonF hM) MX5_semicolon bw_1121 rfl rfl rfl rfl (by decide) rfl ?_
        exact V.vret dX5_repeats_82 rfl (by
      have hr : rptS o P (u, e) = .inl e1 := by
        exact rpt_n hx1
      have hres := tkS_l1 (o := o) (K := 20) hr
      exact ⟨_, _, rfl, rfl, rfl, rfl, hF, by rw [hres]; exact hM⟩)
      · exact absurd c30 (by decide)
  · (rw [hx1] at h1)
    obtain ⟨rfl, hf1, hM, hbg⟩ := h1
    have hM : MOk τ1 o (q1.2, u, e) := hM
    have hR : RM τ1 u := hM.2.2.2.2
    have hbg : sF τ1 94 12 = nI P := hbg
    have hn1 := numR_r hx1
    have hB := hB.fr hf1
    have hF := hF.trans hf1
    show V _ _ _ _ _ _ _ _ _ _ _ (.int (nI q1.1) :: _) _ _
    refine V.istore_n (q := 8) dX5_repeats_7 rfl rfl rfl rfl ?_
    refine V.aload_n (q := 9) dX5_repeats_8 rfl rfl ?_
    refine V.bipush (q := 11) dX5_repeats_9 (v := 40) rfl rfl ?_
    refine V.cVMP (q := 14) (As := [_]) dX5_repeats_11 rfl (kU_bracket (c := 40) hb ho hB hM (kn_open hb) (by decide) (by decide) rfl rfl) MX5_bracket bw_1138 rfl rfl rfl rfl (by decide) rfl (fun v2 τ2 h2 => ?_)
    rcases hx2 : tkR o 21 q1.2 with e2 | q2
    · rw [hx2] at h2
      obtain ⟨rfl, hf2, hM⟩ := h2
      have hM : MFl τ2 o e2 := hM
      have hB := hB.fr hf2
      have hF := hF.trans hf2
      refine V.aload_n (q := 15) dX5_repeats_14 rfl rfl ?_
      refine V.gM (q := 18) dX5_repeats_15 (j := 9) rfl bw_1020 rfl rfl rfl rfl ?_
      refine V.istore_n (q := 19) dX5_repeats_18 rfl rfl rfl rfl ?_
      refine V.iconst (q := 20) dX5_repeats_19 (v := 0) rfl rfl ?_
      refine V.istore_n (q := 21) dX5_repeats_20 rfl rfl rfl rfl ?_
      refine V.iload_n (q := 22) dX5_repeats_21 rfl rfl ?_
      refine V.iload_n (q := 23) dX5_repeats_22 rfl rfl ?_
      refine V.icmp_ge (tgt := 78) (q := 26) dX5_repeats_23 (by decide) rfl (fun c23 => ?_) (fun c23 => ?_)
      · refine V.aload_n (q := 79) dX5_repeats_78 rfl rfl ?_
        refine V.cVM (q := 82) dX5_repeats_79 (As := []) rfl (kU_semicolonF hM) MX5_semicolon bw_1121 rfl rfl rfl rfl (by decide) rfl ?_
        exact V.vret dX5_repeats_82 rfl (by
      have hr : rptS o P (u, e) = .inl e2 := by
        exact rpt_o hx1 hx2
      have hres := tkS_l1 (o := o) (K := 20) hr
      exact ⟨_, _, rfl, rfl, rfl, rfl, hF, by rw [hres]; exact hM⟩)
      · refine V.aload_n (q := 27) dX5_repeats_26 rfl rfl ?_
        refine V.cVM (q := 30) dX5_repeats_27 (As := []) rfl (kU_failedF hM) MX5_failed bw_1100 rfl rfl rfl rfl (by decide) rfl ?_
        refine V.if_ne (tgt := 78) (q := 33) dX5_repeats_30 (by decide) rfl (fun c30 => ?_) (fun c30 => ?_)
        · refine V.aload_n (q := 79) dX5_repeats_78 rfl rfl ?_
          refine V.cVM (q := 82) dX5_repeats_79 (As := []) rfl (kU_semicolonF hM) MX5_semicolon bw_1121 rfl rfl rfl rfl (by decide) rfl ?_
          exact V.vret dX5_repeats_82 rfl (by
      have hr : rptS o P (u, e) = .inl e2 := by
        exact rpt_o hx1 hx2
      have hres := tkS_l1 (o := o) (K := 20) hr
      exact ⟨_, _, rfl, rfl, rfl, rfl, hF, by rw [hres]; exact hM⟩)
        · exact absurd c30 (by decide)
    · (rw [hx2] at h2)
      obtain ⟨rfl, hf2, hM⟩ := h2
      have hM : MOk τ2 o (q2, u, e) := hM
      have hR : RM τ2 u := hM.2.2.2.2
      have hB := hB.fr hf2
      have hF := hF.trans hf2
      refine V.aload_n (q := 15) dX5_repeats_14 rfl rfl ?_
      refine V.gM (q := 18) dX5_repeats_15 (j := 9) rfl bw_1020 rfl rfl rfl rfl ?_
      obtain ⟨hk, hk1, hk2, hk3⟩ := id hM.1
      rw [hk2]
      refine V.istore_n (q := 19) dX5_repeats_18 rfl rfl rfl rfl ?_
      refine V.iconst (q := 20) dX5_repeats_19 (v := 0) rfl rfl ?_
      refine V.istore_n (q := 21) dX5_repeats_20 rfl rfl rfl rfl ?_
      have hq2 : q2 ≤ o.1 := (tkR_p hx2 (by decide)).2
      have loop : ∀ (m k : Nat) (Q : Nat) (s : PSt) (τ : St), m = q1.1 - k → k ≤ q1.1 → rnd o q2 (q1.1 - k) s = rnd o q2 q1.1 (q2, u, e) → (k = q1.1 → tkR o 22 s.1 = .inr Q) → Ok s.2.1 → FrU σ τ → MB τ o → MOk τ o (Q, s.2) → V l G TX5_repeats 11 0 0 (RetP G (fun v τ => v = none ∧ FrU σ τ ∧ MR τ o (tkS o 20 (rptS o P (u, e))))) 0 0 21 [some (.ref (gB G + 94)), some (.int (nI q1.1)), some (.int (nI hk)), some (.int (nI k))] [] (hof G τ) NC := by
        intro m
        induction m using Nat.strongRecOn with
        | _ m ih =>
          intro k Q s τ hm hk9 hrd hQk hOk hF hB hM
          refine V.iload_n (q := 22) dX5_repeats_21 rfl rfl ?_
          refine V.iload_n (q := 23) dX5_repeats_22 rfl rfl ?_
          refine V.icmp_ge (tgt := 78) (q := 26) dX5_repeats_23 (by decide) rfl (fun c23 => ?_) (fun c23 => ?_)
          · have hke : k = q1.1 := Nat.le_antisymm hk9 (nle c23 (by omega) (by omega))
            have hrr : rnd o q2 q1.1 (q2, u, e) = .inr s := by rw [← hrd, hke, Nat.sub_self]; rfl
            have htk := hQk hke
            have hx8 : rptS o P (u, e) = .inr (Q, s.2) := (rpt_s hx1 hx2).trans (tkS_i hrr htk)
            obtain ⟨s1, v, e9⟩ := s
            refine V.aload_n (q := 79) dX5_repeats_78 rfl rfl ?_
            refine V.cVMP (q := 82) (As := []) dX5_repeats_79 rfl (kU_semicolon hb ho hB hM) MX5_semicolon bw_1121 rfl rfl rfl rfl (by decide) rfl (fun v9 τ9 h9 => ?_)
            rcases hx9 : tkR o 20 Q with e9 | q9
            · rw [hx9] at h9
              obtain ⟨rfl, hf9, hM⟩ := h9
              have hM : MFl τ9 o e9 := hM
              have hB := hB.fr hf9
              have hF := hF.trans hf9
              exact V.vret dX5_repeats_82 rfl (by
            have hres := tkS_l2 (o := o) (K := 20) hx8 hx9
            exact ⟨_, _, rfl, rfl, rfl, rfl, hF, by rw [hres]; exact hM⟩)
            · (rw [hx9] at h9)
              obtain ⟨rfl, hf9, hM⟩ := h9
              have hM : MOk τ9 o (q9, v, e9) := hM
              have hR : RM τ9 v := hM.2.2.2.2
              have hB := hB.fr hf9
              have hF := hF.trans hf9
              exact V.vret dX5_repeats_82 rfl (by
            have hres := tkS_i (o := o) (K := 20) hx8 hx9
            exact ⟨_, _, rfl, rfl, rfl, rfl, hF, by rw [hres]; exact hM⟩)
          · have hlt : k < q1.1 := nnle c23 (by omega) (by omega)
            refine V.aload_n (q := 27) dX5_repeats_26 rfl rfl ?_
            refine V.cVM (q := 30) dX5_repeats_27 (As := []) rfl (kU_failed hM) MX5_failed bw_1100 rfl rfl rfl rfl (by decide) rfl ?_
            refine V.if_ne (tgt := 78) (q := 33) dX5_repeats_30 (by decide) rfl (fun c30 => ?_) (fun c30 => ?_)
            · exact absurd rfl c30
            · refine V.aload_n (q := 34) dX5_repeats_33 rfl rfl ?_
              refine V.iload_n (q := 35) dX5_repeats_34 rfl rfl ?_
              refine V.pM (q := 38) dX5_repeats_35 (j := 9) rfl bw_1020 rfl rfl rfl rfl rfl rfl ?_
              have hf5 : Fr9 τ (stF τ 94 9 (nI hk)) := Fr9.f
              have hM5 : MOk (stF τ 94 9 (nI hk)) o (q2, s.2) := hM.at hf5 ⟨hk, hk1, stF_at, hk3⟩
              have hF5 := hF.trans hf5.u
              have hB5 := hB.fr hf5.u
              generalize stF τ 94 9 (nI hk) = τ5 at hf5 hM5 hF5 hB5 ⊢
              have inner : ∀ (m2 : Nat) (s2 : PSt) (τ : St), m2 = o.1 - s2.1 → s2.1 ≤ o.1 → blk o s2 = blk o (q2, s.2) → Ok s2.2.1 → FrU σ τ → MB τ o → MOk τ o s2 → V l G TX5_repeats 11 0 0 (RetP G (fun v τ => v = none ∧ FrU σ τ ∧ MR τ o (tkS o 20 (rptS o P (u, e))))) 0 0 38 [some (.ref (gB G + 94)), some (.int (nI q1.1)), some (.int (nI hk)), some (.int (nI k))] [] (hof G τ) NC := by
                intro m2
                induction m2 using Nat.strongRecOn with
                | _ m2 ih2 =>
                  intro s2 τ hm2 hs2 hbk hO2 hF hB hM
                  obtain ⟨⟨h6, hh6, hat6, hsp6⟩, -⟩ := id hM
                  have hPP6 : spE o s2.1 = s2.1 := spE_at (by rw [← hsp6]; exact spE_no hh6)
                  refine V.aload_n (q := 39) dX5_repeats_38 rfl rfl ?_
                  refine V.cVM (q := 42) dX5_repeats_39 (As := []) rfl (kU_failed hM) MX5_failed bw_1100 rfl rfl rfl rfl (by decide) rfl ?_
                  refine V.if_ne (tgt := 66) (q := 45) dX5_repeats_42 (by decide) rfl (fun c42 => ?_) (fun c42 => ?_)
                  · exact absurd rfl c42
                  · refine V.aload_n (q := 46) dX5_repeats_45 rfl rfl ?_
                    refine V.cVMP (q := 49) (As := []) dX5_repeats_46 rfl (kU_peek hb ho hB hh6 hat6) MX5_peek bw_1089 rfl rfl rfl rfl (by decide) rfl (fun v6 τ6 h6 => ?_)
                    obtain ⟨rfl, hf6, hat⟩ := h6
                    rw [hsp6] at hat ⊢
                    have hB := hB.fr hf6.u
                    have hM : MOk τ6 o s2 := hM.at hf6 ⟨s2.1, hs2, hat, hPP6⟩
                    have hF := hF.trans hf6.u
                    refine V.bipush (q := 51) dX5_repeats_49 (v := 97) rfl rfl ?_
                    refine V.bipush (q := 53) dX5_repeats_51 (v := 122) rfl rfl ?_
                    refine V.cSt (q := 56) dX5_repeats_53 (As := [_, _, _]) rfl cM_inRange MX5_inRange bw_1097 rfl rfl (by decide) rfl ?_
                    rw [show (decide ((97 : Int32) ≤ bcI o s2.1) && decide (bcI o s2.1 ≤ 122)) = leN (bc o s2.1) from bcI_rng (a := 97) (b := 122) hb (by decide) (by decide)]
                    refine V.if_eq (tgt := 66) (q := 59) dX5_repeats_56 (by decide) rfl (fun c56 => ?_) (fun c56 => ?_)
                    · have hl0 := bI0.mp c56
                      refine V.aload_n (q := 67) dX5_repeats_66 rfl rfl ?_
                      refine V.bipush (q := 69) dX5_repeats_67 (v := 41) rfl rfl ?_
                      refine V.cVMP (q := 72) (As := [_]) dX5_repeats_69 rfl (kU_bracket (c := 41) hb ho hB (show MOk τ6 o (s2.1, s2.2.1, s2.2.2) from hM) (kn_close hb) (by decide) (by decide) rfl rfl) MX5_bracket bw_1138 rfl rfl rfl rfl (by decide) rfl (fun v8 τ8 h8 => ?_)
                      rcases hx8 : tkR o 22 s2.1 with e8 | q8
                      · rw [hx8] at h8
                        obtain ⟨rfl, hf8, hM⟩ := h8
                        have hM : MFl τ8 o e8 := hM
                        have hB := hB.fr hf8
                        have hF := hF.trans hf8
                        have hk22 : ¬ kn o s2.1 = 22 := fun z => by rw [show tkR o 22 s2.1 = .inr (nx o s2.1) from if_pos z] at hx8; cases hx8
                        have he8 : e8 = (1, s2.1) := by rw [show tkR o 22 s2.1 = .inl (1, s2.1) from if_neg hk22] at hx8; exact (Sum.inl.inj hx8).symm
                        have hbl : blk o (q2, s.2) = .inl e8 := by rw [← hbk, blk_step hs2, if_neg hk22, smp_no hl0, he8]; rfl
                        refine V.iinc (q := 75) dX5_repeats_72 rfl (by first | exact nI_inc _ | rfl) rfl rfl rfl ?_
                        refine V.goto (tgt := 21) dX5_repeats_75 (by decide) ?_
                        refine V.iload_n (q := 22) dX5_repeats_21 rfl rfl ?_
                        refine V.iload_n (q := 23) dX5_repeats_22 rfl rfl ?_
                        refine V.icmp_ge (tgt := 78) (q := 26) dX5_repeats_23 (by decide) rfl (fun c23 => ?_) (fun c23 => ?_)
                        · refine V.aload_n (q := 79) dX5_repeats_78 rfl rfl ?_
                          refine V.cVM (q := 82) dX5_repeats_79 (As := []) rfl (kU_semicolonF hM) MX5_semicolon bw_1121 rfl rfl rfl rfl (by decide) rfl ?_
                          exact V.vret dX5_repeats_82 rfl (by
                    have hr : rptS o P (u, e) = .inl e8 := by
                      rw [rpt_s hx1 hx2, ← hrd, rnd_step hlt, hbl]; rfl
                    have hres := tkS_l1 (o := o) (K := 20) hr
                    exact ⟨_, _, rfl, rfl, rfl, rfl, hF, by rw [hres]; exact hM⟩)
                        · refine V.aload_n (q := 27) dX5_repeats_26 rfl rfl ?_
                          refine V.cVM (q := 30) dX5_repeats_27 (As := []) rfl (kU_failedF hM) MX5_failed bw_1100 rfl rfl rfl rfl (by decide) rfl ?_
                          refine V.if_ne (tgt := 78) (q := 33) dX5_repeats_30 (by decide) rfl (fun c30 => ?_) (fun c30 => ?_)
                          · refine V.aload_n (q := 79) dX5_repeats_78 rfl rfl ?_
                            refine V.cVM (q := 82) dX5_repeats_79 (As := []) rfl (kU_semicolonF hM) MX5_semicolon bw_1121 rfl rfl rfl rfl (by decide) rfl ?_
                            exact V.vret dX5_repeats_82 rfl (by
                    have hr : rptS o P (u, e) = .inl e8 := by
                      rw [rpt_s hx1 hx2, ← hrd, rnd_step hlt, hbl]; rfl
                    have hres := tkS_l1 (o := o) (K := 20) hr
                    exact ⟨_, _, rfl, rfl, rfl, rfl, hF, by rw [hres]; exact hM⟩)
                          · exact absurd c30 (by decide)
                      · (rw [hx8] at h8)
                        obtain ⟨rfl, hf8, hM⟩ := h8
                        have hM : MOk τ8 o (q8, s2.2) := hM
                        have hB := hB.fr hf8
                        have hF := hF.trans hf8
                        have hk22 : kn o s2.1 = 22 := (tkR_r hx8).1
                        have hbl : blk o (q2, s.2) = .inr s2 := by rw [← hbk, blk_step hs2, if_pos hk22]
                        refine V.iinc (q := 75) dX5_repeats_72 rfl (by first | exact nI_inc _ | rfl) rfl rfl rfl ?_
                        refine V.goto (tgt := 21) dX5_repeats_75 (by decide) ?_
                        refine ih _ (by omega) (k + 1) q8 s2 τ8 rfl (by omega) ?_ (fun _ => hx8) hO2 hF hB hM
                        rw [← hrd, rnd_step hlt, hbl]; rfl
                    · have hl1 := bI1.mp c56
                      have hk22 : ¬ kn o s2.1 = 22 := fun z => by rw [(kn_close hb).mp z] at hl1; cases hl1
                      refine V.aload_n (q := 60) dX5_repeats_59 rfl rfl ?_
                      refine V.cVMP (q := 63) (As := []) dX5_repeats_60 rfl (kU_simple hb ho hB (show MOk τ6 o (s2.1, s2.2.1, s2.2.2) from hM) hO2) MX5_simple bw_1142 rfl rfl rfl rfl (by decide) rfl (fun v7 τ7 h7 => ?_)
                      rcases hx7 : smpR o (s2.1, s2.2.1, s2.2.2) with e7 | q7
                      · rw [hx7] at h7
                        obtain ⟨rfl, hf7, hM⟩ := h7
                        have hM : MFl τ7 o e7 := hM
                        have hB := hB.fr hf7
                        have hF := hF.trans hf7
                        have hbl : blk o (q2, s.2) = .inl e7 := by rw [← hbk, blk_step hs2, if_neg hk22, show smpR o s2 = .inl e7 from hx7]; rfl
                        refine V.goto (tgt := 38) dX5_repeats_63 (by decide) ?_
                        refine V.aload_n (q := 39) dX5_repeats_38 rfl rfl ?_
                        refine V.cVM (q := 42) dX5_repeats_39 (As := []) rfl (kU_failedF hM) MX5_failed bw_1100 rfl rfl rfl rfl (by decide) rfl ?_
                        refine V.if_ne (tgt := 66) (q := 45) dX5_repeats_42 (by decide) rfl (fun c42 => ?_) (fun c42 => ?_)
                        · refine V.aload_n (q := 67) dX5_repeats_66 rfl rfl ?_
                          refine V.bipush (q := 69) dX5_repeats_67 (v := 41) rfl rfl ?_
                          refine V.cVM (q := 72) dX5_repeats_69 (As := [_]) rfl (kU_bracketF hM) MX5_bracket bw_1138 rfl rfl rfl rfl (by decide) rfl ?_
                          refine V.iinc (q := 75) dX5_repeats_72 rfl (by first | exact nI_inc _ | rfl) rfl rfl rfl ?_
                          refine V.goto (tgt := 21) dX5_repeats_75 (by decide) ?_
                          refine V.iload_n (q := 22) dX5_repeats_21 rfl rfl ?_
                          refine V.iload_n (q := 23) dX5_repeats_22 rfl rfl ?_
                          refine V.icmp_ge (tgt := 78) (q := 26) dX5_repeats_23 (by decide) rfl (fun c23 => ?_) (fun c23 => ?_)
                          · refine V.aload_n (q := 79) dX5_repeats_78 rfl rfl ?_
                            refine V.cVM (q := 82) dX5_repeats_79 (As := []) rfl (kU_semicolonF hM) MX5_semicolon bw_1121 rfl rfl rfl rfl (by decide) rfl ?_
                            exact V.vret dX5_repeats_82 rfl (by
                    have hr : rptS o P (u, e) = .inl e7 := by
                      rw [rpt_s hx1 hx2, ← hrd, rnd_step hlt, hbl]; rfl
                    have hres := tkS_l1 (o := o) (K := 20) hr
                    exact ⟨_, _, rfl, rfl, rfl, rfl, hF, by rw [hres]; exact hM⟩)
                          · refine V.aload_n (q := 27) dX5_repeats_26 rfl rfl ?_
                            refine V.cVM (q := 30) dX5_repeats_27 (As := []) rfl (kU_failedF hM) MX5_failed bw_1100 rfl rfl rfl rfl (by decide) rfl ?_
                            refine V.if_ne (tgt := 78) (q := 33) dX5_repeats_30 (by decide) rfl (fun c30 => ?_) (fun c30 => ?_)
                            · refine V.aload_n (q := 79) dX5_repeats_78 rfl rfl ?_
                              refine V.cVM (q := 82) dX5_repeats_79 (As := []) rfl (kU_semicolonF hM) MX5_semicolon bw_1121 rfl rfl rfl rfl (by decide) rfl ?_
                              exact V.vret dX5_repeats_82 rfl (by
                    have hr : rptS o P (u, e) = .inl e7 := by
                      rw [rpt_s hx1 hx2, ← hrd, rnd_step hlt, hbl]; rfl
                    have hres := tkS_l1 (o := o) (K := 20) hr
                    exact ⟨_, _, rfl, rfl, rfl, rfl, hF, by rw [hres]; exact hM⟩)
                            · exact absurd c30 (by decide)
                        · exact absurd c42 (by decide)
                      · (rw [hx7] at h7)
                        obtain ⟨rfl, hf7, hM⟩ := h7
                        have hM : MOk τ7 o q7 := hM
                        have hB := hB.fr hf7
                        have hF := hF.trans hf7
                        have hx7 : smpR o s2 = .inr q7 := hx7
                        have hpp := smpR_p hx7
                        refine V.goto (tgt := 38) dX5_repeats_63 (by decide) ?_
                        refine ih2 _ (by omega) q7 τ7 rfl hpp.2 ?_ (smpR_ok hO2 hx7) hF hB hM
                        rw [← hbk, blk_step hs2, if_neg hk22, hx7]; rfl
              exact inner _ (q2, s.2) τ5 rfl hq2 rfl hOk hF5 hB5 hM5
      exact loop _ 0 q2 (q2, u, e) _ rfl (Nat.zero_le _) rfl (fun z => absurd z (by omega)) hO hF hB hM
set_option maxHeartbeats 2000000 in
theorem kU_command {l : Launch} {G : GG} {σ : St} {o : Txt} {P e : Nat} {u : Vw} (hb : byT o) (ho : o.1 ≤ 500) (hB : MB σ o) (hM : MOk σ o (P, u, e)) (hO : Ok u) : CtP l G TX5_command 12 [.ref (gB G + 94)] σ (fun v τ => v = none ∧ FrU σ τ ∧ MR τ o (cmdR o (P, u, e))) := by
  have hI := hO.1
  obtain ⟨hF0, hN0, hFN0, h20, h2⟩ := hI.F
  have hfl : us u 0 - 1 = nI (uN u - 1) := by rw [hN0]; exact pk_sub (b := 1) (by omega)
  have ht9 : uT u ≤ 999 := hO.2
  have hR : RM σ u := hM.2.2.2.2
  have hF : FrU σ σ := FrU.rf
  refine CtP.ofV (by decide +kernel) rfl rfl (Nat.le_of_ble_eq_true rfl) ?_
  refine V.aload_n (q := 1) dX5_command_0 rfl rfl ?_
  refine V.ldcS (q := 3) dX5_command_1 (tx := "") (j := 20) (by decide) (by decide +kernel) rfl ?_
  refine V.cVMP (q := 6) (As := [_]) dX5_command_3 rfl (kU_accepts hb ho hB hM (K := 4) (j := 20) (by decide) (by decide) (by decide +kernel)) MX5_accepts bw_1085 rfl rfl rfl rfl (by decide) rfl (fun v1 τ1 h1 => ?_)
  obtain ⟨rfl, hf1, hy, hn⟩ := h1
  have hB := hB.fr hf1
  have hF := hF.trans hf1
  refine V.if_eq (tgt := 16) (q := 9) dX5_command_6 (by decide) rfl (fun c6 => ?_) (fun c6 => ?_)
  · have k1 : ¬ kn o P = 4 := of_decide_eq_false (bI0.mp c6)
    obtain ⟨hM, hat⟩ := hn k1
    have hM : MOk τ1 o (P, u, e) := hM
    have hat : sF τ1 94 9 = nI P := hat
    have hres : cmdR o (P, u, e) = smpR o (P, u, e) := if_neg k1
    refine V.aload_n (q := 17) dX5_command_16 rfl rfl ?_
    refine V.cVMP (q := 20) (As := []) dX5_command_17 rfl (kU_simple hb ho hB hM hO) MX5_simple bw_1142 rfl rfl rfl rfl (by decide) rfl (fun v2 τ2 h2 => ?_)
    obtain ⟨rfl, hf2, hM⟩ := h2
    exact V.vret dX5_command_20 rfl ⟨_, _, rfl, rfl, rfl, rfl, hF.trans hf2, by rw [hres]; exact hM⟩
  · have k1 : kn o P = 4 := of_decide_eq_true (bI1.mp c6)
    have hM : MOk τ1 o (nx o P, u, e) := hy k1
    have hres : cmdR o (P, u, e) = tkS o 20 (rptS o (nx o P) (u, e)) := if_pos k1
    refine V.aload_n (q := 10) dX5_command_9 rfl rfl ?_
    refine V.cVMP (q := 13) (As := []) dX5_command_10 rfl (kU_repeats hb ho hB hM hO) MX5_repeats bw_1134 rfl rfl rfl rfl (by decide) rfl (fun v2 τ2 h2 => ?_)
    obtain ⟨rfl, hf2, hM⟩ := h2
    refine V.goto (tgt := 20) dX5_command_13 (by decide) ?_
    exact V.vret dX5_command_20 rfl ⟨_, _, rfl, rfl, rfl, rfl, hF.trans hf2, by rw [hres]; exact hM⟩
