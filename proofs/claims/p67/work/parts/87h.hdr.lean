/-! the class reads the head of a text -/
def CD (τ : St) (o : Txt) (n : Nat) (r : Er ⊕ (Nat × Vw)) : Prop := match r with
  | .inl e => CE τ e
  | .inr y => CA τ o n y.1 ∧ ∃ qq, RC τ 8 y.2 qq
theorem CD.tk {σ τ : St} {o : Txt} {n : Nat} {v : Vw} {r : Er ⊕ Nat} (h : CT (fun p => p) τ o n r) (hR : ∃ qq, RC σ 8 v qq) (hf : FrT σ τ) : CD τ o n (bnd r fun p => .inr (p, v)) := by
  cases r with
  | inl e => exact h
  | inr p => exact ⟨h, hf.RC hR⟩
theorem cB_bnd2 {r : Er ⊕ Nat} {v : Vw} : cB (bnd r fun p => (.inr (p, v) : Er ⊕ (Nat × Vw))) = cB r := by cases r <;> rfl
set_option maxHeartbeats 2000000 in
theorem kP_performHeader {l : Launch} {G : GG} {σ : St} {o : Txt} {n P : Nat} (hT : TK G σ o n) (hA : CA σ o n P) : CtP l G TX2_performHeader 2 [.ref (gB G + 19), .ref (gB G + 8)] σ (fun v τ => v = some (.int (bI (cB (hdrS o P)))) ∧ FrP σ τ ∧ sF τ 19 6 = sF σ 19 6 ∧ CD τ o n (hdrS o P)) := by
  have hF : FrT σ σ := FrT.rf
  refine CtP.ofV (by decide +kernel) rfl rfl (Nat.le_of_ble_eq_true rfl) ?_
  refine V.aload_n (q := 1) dX2_performHeader_0 rfl rfl ?_
  refine V.gets (q := 4) dX2_performHeader_1 (st_kind (i := 0) (by decide) rfl) bw_855 rfl ?_
  refine V.cVPP (q := 7) (As := [_]) dX2_performHeader_4 rfl (kP_take hT hA (K := 0) (by decide)) MX2_take bw_857 (by first | rfl | assumption) rfl rfl rfl (by decide) rfl (fun v1 τ1 h1 => ?_)
  obtain ⟨rfl, hf1, hA1⟩ := h1
  have hT := hT.frT hf1
  have hF := hF.trans hf1
  refine V.if_ne (tgt := 12) (q := 10) dX2_performHeader_7 (by decide) rfl (fun c7 => ?_) (fun c7 => ?_)
  · obtain ⟨p1, hx1⟩ := cB_t (bI1.mp c7)
    rw [hx1] at hA1
    have hA : CA τ1 o n p1 := hA1
    refine V.aload_n (q := 13) dX2_performHeader_12 rfl rfl ?_
    refine V.iconst (q := 14) dX2_performHeader_13 (v := 2) rfl rfl ?_
    refine V.bipush (q := 16) dX2_performHeader_14 (v := 20) rfl rfl ?_
    refine V.cVPP (q := 19) (As := [_, _]) dX2_performHeader_16 rfl (kP_takeNumber hT hA (lo := 2) (hi9 := 20) (by decide) (by decide)) MX2_takeNumber bw_869 (by first | rfl | assumption) rfl rfl rfl (by decide) rfl (fun v2 τ2 h2 => ?_)
    rcases hx2 : numR o p1 2 20 with e2 | y2
    · rw [hx2] at h2
      obtain ⟨rfl, hf2, hE2⟩ := h2
      show V _ _ _ _ _ _ _ _ _ _ _ (.int (-1) :: _) _ _
      refine V.istore_n (q := 20) dX2_performHeader_19 rfl rfl rfl rfl ?_
      refine V.iload_n (q := 21) dX2_performHeader_20 rfl rfl ?_
      refine V.iconst (q := 22) dX2_performHeader_21 (v := -1) rfl rfl ?_
      refine V.icmp_ne (tgt := 27) (q := 25) dX2_performHeader_22 (by decide) rfl (fun c22 => ?_) (fun c22 => ?_)
      · exact absurd rfl c22
      · refine V.iconst (q := 26) dX2_performHeader_25 (v := 0) rfl rfl ?_
        exact V.zret (ty := .boolean) rfl dX2_performHeader_26 rfl (by
      have hres : hdrS o P = .inl e2 := by
        unfold hdrS
        rw [hx1]
        show bnd (numR o p1 2 20) _ = _
        rw [hx2]; rfl
      exact ⟨_, _, rfl, rfl, rfl, by rw [hres]; rfl, (hF.trans hf2).P, (hF.trans hf2).1 19 6 (by decide), by rw [hres]; exact hE2⟩)
    · (rw [hx2] at h2)
      obtain ⟨rfl, hf2, hA⟩ := h2
      have hA : CA τ2 o n y2.2 := hA
      have hT := hT.frT hf2
      have hF := hF.trans hf2
      show V _ _ _ _ _ _ _ _ _ _ _ (.int (nI y2.1) :: _) _ _
      refine V.istore_n (q := 20) dX2_performHeader_19 rfl rfl rfl rfl ?_
      refine V.iload_n (q := 21) dX2_performHeader_20 rfl rfl ?_
      refine V.iconst (q := 22) dX2_performHeader_21 (v := -1) rfl rfl ?_
      refine V.icmp_ne (tgt := 27) (q := 25) dX2_performHeader_22 (by decide) rfl (fun c22 => ?_) (fun c22 => ?_)
      · refine V.aload_n (q := 28) dX2_performHeader_27 rfl rfl ?_
        refine V.iconst (q := 29) dX2_performHeader_28 (v := 1) rfl rfl ?_
        refine V.bipush (q := 31) dX2_performHeader_29 (v := 8) rfl rfl ?_
        refine V.cVPP (q := 34) (As := [_, _]) dX2_performHeader_31 rfl (kP_takeNumber hT hA (lo := 1) (hi9 := 8) (by decide) (by decide)) MX2_takeNumber bw_869 (by first | rfl | assumption) rfl rfl rfl (by decide) rfl (fun v3 τ3 h3 => ?_)
        rcases hx3 : numR o y2.2 1 8 with e3 | y3
        · rw [hx3] at h3
          obtain ⟨rfl, hf3, hE3⟩ := h3
          show V _ _ _ _ _ _ _ _ _ _ _ (.int (-1) :: _) _ _
          refine V.istore_n (q := 35) dX2_performHeader_34 rfl rfl rfl rfl ?_
          refine V.iload_n (q := 36) dX2_performHeader_35 rfl rfl ?_
          refine V.iconst (q := 37) dX2_performHeader_36 (v := -1) rfl rfl ?_
          refine V.icmp_ne (tgt := 42) (q := 40) dX2_performHeader_37 (by decide) rfl (fun c37 => ?_) (fun c37 => ?_)
          · exact absurd rfl c37
          · refine V.iconst (q := 41) dX2_performHeader_40 (v := 0) rfl rfl ?_
            exact V.zret (ty := .boolean) rfl dX2_performHeader_41 rfl (by
      have hres : hdrS o P = .inl e3 := by
        unfold hdrS
        rw [hx1]
        show bnd (numR o p1 2 20) _ = _
        rw [hx2]
        show bnd (numR o y2.2 1 8) _ = _
        rw [hx3]; rfl
      exact ⟨_, _, rfl, rfl, rfl, by rw [hres]; rfl, (hF.trans hf3).P, (hF.trans hf3).1 19 6 (by decide), by rw [hres]; exact hE3⟩)
        · (rw [hx3] at h3)
          obtain ⟨rfl, hf3, hA⟩ := h3
          have hA : CA τ3 o n y3.2 := hA
          have hT := hT.frT hf3
          have hF := hF.trans hf3
          show V _ _ _ _ _ _ _ _ _ _ _ (.int (nI y3.1) :: _) _ _
          refine V.istore_n (q := 35) dX2_performHeader_34 rfl rfl rfl rfl ?_
          refine V.iload_n (q := 36) dX2_performHeader_35 rfl rfl ?_
          refine V.iconst (q := 37) dX2_performHeader_36 (v := -1) rfl rfl ?_
          refine V.icmp_ne (tgt := 42) (q := 40) dX2_performHeader_37 (by decide) rfl (fun c37 => ?_) (fun c37 => ?_)
          · refine V.aload_n (q := 43) dX2_performHeader_42 rfl rfl ?_
            refine V.cVPP (q := 46) (As := []) dX2_performHeader_43 rfl (kP_takePolicy hT hA) MX2_takePolicy bw_873 (by first | rfl | assumption) rfl rfl rfl (by decide) rfl (fun v4 τ4 h4 => ?_)
            rcases hx4 : polR o y3.2 with e4 | y4
            · rw [hx4] at h4
              obtain ⟨rfl, hf4, hE4⟩ := h4
              show V _ _ _ _ _ _ _ _ _ _ _ (.int (-1) :: _) _ _
              refine V.istore (q := 48) dX2_performHeader_46 rfl rfl rfl ?_
              refine V.iload (q := 50) dX2_performHeader_48 rfl rfl ?_
              refine V.iconst (q := 51) dX2_performHeader_50 (v := -1) rfl rfl ?_
              refine V.icmp_ne (tgt := 56) (q := 54) dX2_performHeader_51 (by decide) rfl (fun c51 => ?_) (fun c51 => ?_)
              · exact absurd rfl c51
              · refine V.iconst (q := 55) dX2_performHeader_54 (v := 0) rfl rfl ?_
                exact V.zret (ty := .boolean) rfl dX2_performHeader_55 rfl (by
      have hres : hdrS o P = .inl e4 := by
        unfold hdrS
        rw [hx1]
        show bnd (numR o p1 2 20) _ = _
        rw [hx2]
        show bnd (numR o y2.2 1 8) _ = _
        rw [hx3]
        show bnd (polR o y3.2) _ = _
        rw [hx4]; rfl
      exact ⟨_, _, rfl, rfl, rfl, by rw [hres]; rfl, (hF.trans hf4).P, (hF.trans hf4).1 19 6 (by decide), by rw [hres]; exact hE4⟩)
            · (rw [hx4] at h4)
              obtain ⟨rfl, hf4, hA⟩ := h4
              have hA : CA τ4 o n y4.2 := hA
              have hT := hT.frT hf4
              have hF := hF.trans hf4
              show V _ _ _ _ _ _ _ _ _ _ _ (.int (nI y4.1) :: _) _ _
              refine V.istore (q := 48) dX2_performHeader_46 rfl rfl rfl ?_
              refine V.iload (q := 50) dX2_performHeader_48 rfl rfl ?_
              refine V.iconst (q := 51) dX2_performHeader_50 (v := -1) rfl rfl ?_
              refine V.icmp_ne (tgt := 56) (q := 54) dX2_performHeader_51 (by decide) rfl (fun c51 => ?_) (fun c51 => ?_)
              · refine V.aload_n (q := 57) dX2_performHeader_56 rfl rfl ?_
                refine V.iload_n (q := 58) dX2_performHeader_57 rfl rfl ?_
                refine V.iload_n (q := 59) dX2_performHeader_58 rfl rfl ?_
                refine V.iload (q := 61) dX2_performHeader_59 rfl rfl ?_
                refine V.cVSP (q := 64) (As := [_, _, _]) dX2_performHeader_61 rfl (cS_begin rfl) MX3_begin bw_885 rfl rfl rfl rfl (by decide) rfl (fun v5 τ5 h5 => ?_)
                obtain ⟨rfl, hf5, hR⟩ := h5
                have hT := hT.frP hf5.P8
                have hA : CA τ5 o n y4.2 := by
                  obtain ⟨⟨i, hi, hat, hst⟩, h7, h8⟩ := hA
                  exact ⟨⟨i, hi, (congrFun (hf5.1 19 (by decide)) 4).trans hat, hst⟩, (congrFun (hf5.1 19 (by decide)) 7).trans h7, (congrFun (hf5.1 19 (by decide)) 8).trans h8⟩
                refine V.aload_n (q := 65) dX2_performHeader_64 rfl rfl ?_
                refine V.gets (q := 68) dX2_performHeader_65 (st_kind (i := 20) (by decide) rfl) bw_886 rfl ?_
                refine V.cVPP (q := 71) (As := [_]) dX2_performHeader_68 rfl (kP_take hT hA (K := 20) (by decide)) MX2_take bw_857 (by first | rfl | assumption) rfl rfl rfl (by decide) rfl (fun v6 τ6 h6 => ?_)
                obtain ⟨rfl, hf6, hA6⟩ := h6
                exact V.zret (ty := .boolean) (bI_z _) dX2_performHeader_71 rfl (by
      have hres : hdrS o P = bnd (tkR o 20 y4.2) fun p => .inr (p, begu (nI y2.1) (nI y3.1) (nI y4.1)) := by
        unfold hdrS
        rw [hx1]
        show bnd (numR o p1 2 20) _ = _
        rw [hx2]
        show bnd (numR o y2.2 1 8) _ = _
        rw [hx3]
        show bnd (polR o y3.2) _ = _
        rw [hx4]; rfl
      exact ⟨_, _, rfl, rfl, rfl, by rw [hres, cB_bnd2], (hF.P.trans hf5.P8).trans hf6.P, (hf6.1 19 6 (by decide)).trans ((congrFun (hf5.1 19 (by decide)) 6).trans (hF.1 19 6 (by decide))), by rw [hres]; exact CD.tk hA6 ⟨_, hR⟩ hf6⟩)
              · exact absurd c51 (nne1 (by have := (polR_r hx4).1; omega))
          · exact absurd c37 (nne1 (by have := (numR_r hx3).2.2.2.2; omega))
      · exact absurd c22 (nne1 (by have := (numR_r hx2).2.2.2.2; omega))
  · obtain ⟨e1, hx1⟩ := cB_f (bI0.mp c7)
    rw [hx1] at hA1
    refine V.iconst (q := 11) dX2_performHeader_10 (v := 0) rfl rfl ?_
    exact V.zret (ty := .boolean) rfl dX2_performHeader_11 rfl (by
      have hres : hdrS o P = .inl e1 := by
        unfold hdrS
        rw [hx1]; rfl
      exact ⟨_, _, rfl, rfl, rfl, by rw [hres]; rfl, (hF).P, (hF).1 19 6 (by decide), by rw [hres]; exact hA1⟩)
