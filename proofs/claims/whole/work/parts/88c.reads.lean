/-! the model's parser: one command -/
def MC (τ : St) (o : Txt) (e : Nat) (r : Er ⊕ (Nat × Vw)) : Prop := match r with
  | .inl x => MFl τ o x
  | .inr y => MOk τ o (y.1, y.2, e)
theorem MOk.m {σ τ : St} {o : Txt} {P e : Nat} {u v : Vw} (h : MOk σ o (P, u, e)) (hf : FrM σ τ) (hR : RM τ v) : MOk τ o (P, v, e) := by
  obtain ⟨⟨k, h1, h2, h3⟩, a, b, c, d⟩ := h
  exact ⟨⟨k, h1, by rw [hf.1]; exact h2, h3⟩, by rw [hf.1]; exact a, by rw [hf.1]; exact b, by rw [hf.1]; exact c, hR⟩
theorem smc_l {o : Txt} {r : Er ⊕ (Nat × Vw)} {x : Er} (h : r = .inl x) : smc o r = .inl x := by rw [h]; rfl
theorem smc_l2 {o : Txt} {r : Er ⊕ (Nat × Vw)} {y : Nat × Vw} {x : Er} (h : r = .inr y) (h2 : tkR o 20 y.1 = .inl x) : smc o r = .inl x := by
  rw [h]
  show bnd (tkR o 20 y.1) _ = _
  rw [h2]; rfl
theorem smc_r {o : Txt} {r : Er ⊕ (Nat × Vw)} {y : Nat × Vw} {p : Nat} (h : r = .inr y) (h2 : tkR o 20 y.1 = .inr p) : smc o r = .inr (p, y.2) := by
  rw [h]
  show bnd (tkR o 20 y.1) _ = _
  rw [h2]; rfl
set_option maxHeartbeats 2000000 in
theorem kU_floorNumber {l : Launch} {G : GG} {σ : St} {o : Txt} {P e : Nat} {u : Vw} (hb : byT o) (ho : o.1 ≤ 500) (hB : MB σ o) (hM : MOk σ o (P, u, e)) (hO : Ok u) : CtP l G TX5_floorNumber 3 [.ref (gB G + 94)] σ (fun v τ => v = some (.int (nI (nV 0 (numR o P 0 (uN u - 1))))) ∧ FrU σ τ ∧ MN τ o P (u, e) (numR o P 0 (uN u - 1))) := by
  have hI := hO.1
  obtain ⟨hF0, hN0, hFN0, h20, h2⟩ := hI.F
  have hfl : us u 0 - 1 = nI (uN u - 1) := by rw [hN0]; exact pk_sub (b := 1) (by omega)
  have ht9 : uT u ≤ 999 := hO.2
  have hR : RM σ u := hM.2.2.2.2
  have hF : FrU σ σ := FrU.rf
  refine CtP.ofV (by decide +kernel) rfl rfl (Nat.le_of_ble_eq_true rfl) ?_
  refine V.aload_n (q := 1) dX5_floorNumber_0 rfl rfl ?_
  refine V.iconst (q := 2) dX5_floorNumber_1 (v := 0) rfl rfl ?_
  refine V.aload_n (q := 3) dX5_floorNumber_2 rfl rfl ?_
  refine V.gM (q := 6) dX5_floorNumber_3 (j := 1) rfl bw_1012 rfl rfl rfl rfl ?_
  refine V.iconst (q := 7) dX5_floorNumber_6 (v := 0) rfl rfl ?_
  refine V.ldMu (q := 8) 0 dX5_floorNumber_7 hR rfl rfl rfl ?_
  refine V.iconst (q := 9) dX5_floorNumber_8 (v := 1) rfl rfl ?_
  refine V.isub (q := 10) dX5_floorNumber_9 rfl ?_
  rw [hfl]
  refine V.cVMP (q := 13) (As := [_, _]) dX5_floorNumber_10 rfl (kU_number hb ho hB hM (lo := 0) (hi := uN u - 1) (by omega) (by omega)) MX5_number bw_1110 rfl rfl rfl rfl (by decide) rfl (fun v1 τ1 h1 => ?_)
  obtain ⟨rfl, hf1, h1⟩ := h1
  exact V.iret dX5_floorNumber_13 rfl ⟨_, _, rfl, rfl, rfl, rfl, hf1, h1⟩
set_option maxHeartbeats 2000000 in
theorem kU_floorNumberF {l : Launch} {G : GG} {σ : St} {o : Txt} {e : Er} (hM : MFl σ o e) : CtS l G TX5_floorNumber 3 [.ref (gB G + 94)] σ (some (.int 0)) σ := by
  refine CtS.ofV (by decide +kernel) rfl rfl (Nat.le_of_ble_eq_true rfl) ?_
  refine V.aload_n (q := 1) dX5_floorNumber_0 rfl rfl ?_
  refine V.iconst (q := 2) dX5_floorNumber_1 (v := 0) rfl rfl ?_
  refine V.aload_n (q := 3) dX5_floorNumber_2 rfl rfl ?_
  refine V.gM (q := 6) dX5_floorNumber_3 (j := 1) rfl bw_1012 rfl rfl rfl rfl ?_
  refine V.iconst (q := 7) dX5_floorNumber_6 (v := 0) rfl rfl ?_
  refine V.ld12 (q := 8) dX5_floorNumber_7 (i := 0) rfl rfl (by decide) rfl ?_
  refine V.iconst (q := 9) dX5_floorNumber_8 (v := 1) rfl rfl ?_
  refine V.isub (q := 10) dX5_floorNumber_9 rfl ?_
  refine V.cVM (q := 13) dX5_floorNumber_10 (As := [_, _]) rfl (kU_numberF hM) MX5_number bw_1110 rfl rfl rfl rfl (by decide) rfl ?_
  exact V.iret dX5_floorNumber_13 rfl ⟨rfl, rfl, rfl⟩
set_option maxHeartbeats 8000000 in
theorem kU_readsCall {l : Launch} {G : GG} {σ : St} {o : Txt} {P e : Nat} {u : Vw} (hb : byT o) (ho : o.1 ≤ 500) (hB : MB σ o) (hM : MOk σ o (P, u, e)) (hO : Ok u) (hn40 : un u < 40) : CtP l G TX5_readsCall 5 [.ref (gB G + 94)] σ (fun v τ => v = none ∧ FrU σ τ ∧ MC τ o e (smc o (calS o P u))) := by
  have hI := hO.1
  obtain ⟨hF0, hN0, hFN0, h20, h2⟩ := hI.F
  have hfl : us u 0 - 1 = nI (uN u - 1) := by rw [hN0]; exact pk_sub (b := 1) (by omega)
  have ht9 : uT u ≤ 999 := hO.2
  have hR : RM σ u := hM.2.2.2.2
  have hF : FrU σ σ := FrU.rf
  refine CtP.ofV (by decide +kernel) rfl rfl (Nat.le_of_ble_eq_true rfl) ?_
  refine V.aload_n (q := 1) dX5_readsCall_0 rfl rfl ?_
  refine V.cVMP (q := 4) (As := []) dX5_readsCall_1 rfl (kU_floorNumber hb ho hB hM hO) MX5_floorNumber bw_1151 rfl rfl rfl rfl (by decide) rfl (fun v1 τ1 h1 => ?_)
  rcases hx1 : numR o P 0 (uN u - 1) with e1 | q1
  · rw [hx1] at h1
    obtain ⟨rfl, hf1, hM⟩ := h1
    have hM : MFl τ1 o e1 := hM
    have hB := hB.fr hf1
    have hF := hF.trans hf1
    show V _ _ _ _ _ _ _ _ _ _ _ (.int (nI 0) :: _) _ _
    refine V.istore_n (q := 5) dX5_readsCall_4 rfl rfl rfl rfl ?_
    refine V.aload_n (q := 6) dX5_readsCall_5 rfl rfl ?_
    refine V.cVM (q := 9) dX5_readsCall_6 (As := []) rfl (kU_floorNumberF hM) MX5_floorNumber bw_1151 rfl rfl rfl rfl (by decide) rfl ?_
    refine V.istore_n (q := 10) dX5_readsCall_9 rfl rfl rfl rfl ?_
    refine V.aload_n (q := 11) dX5_readsCall_10 rfl rfl ?_
    refine V.cVM (q := 14) dX5_readsCall_11 (As := []) rfl (kU_failedF hM) MX5_failed bw_1100 rfl rfl rfl rfl (by decide) rfl ?_
    refine V.if_ne (tgt := 31) (q := 17) dX5_readsCall_14 (by decide) rfl (fun c14 => ?_) (fun c14 => ?_)
    · refine V.aload_n (q := 32) dX5_readsCall_31 rfl rfl ?_
      refine V.ldcS (q := 34) dX5_readsCall_32 (tx := "") (j := 22) (by decide) (by decide +kernel) rfl ?_
      refine V.cVMP (q := 37) (As := [_]) dX5_readsCall_34 rfl (kU_acceptsF hb ho hB hM (j := 22) (by decide)) MX5_accepts bw_1085 rfl rfl rfl rfl (by decide) rfl (fun v3 τ3 h3 => ?_)
      obtain ⟨rfl, hf3, hM⟩ := h3
      have hB := hB.fr hf3
      have hF := hF.trans hf3
      refine V.if_eq (tgt := 56) (q := 40) dX5_readsCall_37 (by decide) rfl (fun c37 => ?_) (fun c37 => ?_)
      · refine V.aload_n (q := 57) dX5_readsCall_56 rfl rfl ?_
        refine V.gM (q := 60) dX5_readsCall_57 (j := 1) rfl bw_1012 rfl rfl rfl rfl ?_
        refine V.iconst (q := 61) dX5_readsCall_60 (v := 3) rfl rfl ?_
        refine V.ld12 (q := 62) dX5_readsCall_61 (i := 3) rfl rfl (by decide) rfl ?_
        refine V.istore_n (q := 63) dX5_readsCall_62 rfl rfl rfl rfl ?_
        refine V.aload_n (q := 64) dX5_readsCall_63 rfl rfl ?_
        refine V.cVM (q := 67) dX5_readsCall_64 (As := []) rfl (kU_semicolonF hM) MX5_semicolon bw_1121 rfl rfl rfl rfl (by decide) rfl ?_
        refine V.aload_n (q := 68) dX5_readsCall_67 rfl rfl ?_
        refine V.cVM (q := 71) dX5_readsCall_68 (As := []) rfl (kU_failedF hM) MX5_failed bw_1100 rfl rfl rfl rfl (by decide) rfl ?_
        refine V.if_ne (tgt := 81) (q := 74) dX5_readsCall_71 (by decide) rfl (fun c71 => ?_) (fun c71 => ?_)
        · exact V.vret dX5_readsCall_81 rfl (by
      have hr : calS o P u = .inl e1 := by
        unfold calS
        rw [hx1]; rfl
      have hres := smc_l (o := o) hr
      exact ⟨_, _, rfl, rfl, rfl, rfl, hF, by rw [hres]; exact hM⟩)
        · exact absurd c71 (by decide)
      · exact absurd rfl c37
    · exact absurd c14 (by decide)
  · (rw [hx1] at h1)
    obtain ⟨rfl, hf1, hM, hbg⟩ := h1
    have hM : MOk τ1 o (q1.2, u, e) := hM
    have hR : RM τ1 u := hM.2.2.2.2
    have hbg : sF τ1 94 12 = nI P := hbg
    have hn1 := numR_r hx1
    have hB := hB.fr hf1
    have hF := hF.trans hf1
    show V _ _ _ _ _ _ _ _ _ _ _ (.int (nI q1.1) :: _) _ _
    refine V.istore_n (q := 5) dX5_readsCall_4 rfl rfl rfl rfl ?_
    refine V.aload_n (q := 6) dX5_readsCall_5 rfl rfl ?_
    refine V.cVMP (q := 9) (As := []) dX5_readsCall_6 rfl (kU_floorNumber hb ho hB hM hO) MX5_floorNumber bw_1151 rfl rfl rfl rfl (by decide) rfl (fun v2 τ2 h2 => ?_)
    rcases hx2 : numR o q1.2 0 (uN u - 1) with e2 | q2
    · rw [hx2] at h2
      obtain ⟨rfl, hf2, hM⟩ := h2
      have hM : MFl τ2 o e2 := hM
      have hB := hB.fr hf2
      have hF := hF.trans hf2
      show V _ _ _ _ _ _ _ _ _ _ _ (.int (nI 0) :: _) _ _
      refine V.istore_n (q := 10) dX5_readsCall_9 rfl rfl rfl rfl ?_
      refine V.aload_n (q := 11) dX5_readsCall_10 rfl rfl ?_
      refine V.cVM (q := 14) dX5_readsCall_11 (As := []) rfl (kU_failedF hM) MX5_failed bw_1100 rfl rfl rfl rfl (by decide) rfl ?_
      refine V.if_ne (tgt := 31) (q := 17) dX5_readsCall_14 (by decide) rfl (fun c14 => ?_) (fun c14 => ?_)
      · refine V.aload_n (q := 32) dX5_readsCall_31 rfl rfl ?_
        refine V.ldcS (q := 34) dX5_readsCall_32 (tx := "") (j := 22) (by decide) (by decide +kernel) rfl ?_
        refine V.cVMP (q := 37) (As := [_]) dX5_readsCall_34 rfl (kU_acceptsF hb ho hB hM (j := 22) (by decide)) MX5_accepts bw_1085 rfl rfl rfl rfl (by decide) rfl (fun v3 τ3 h3 => ?_)
        obtain ⟨rfl, hf3, hM⟩ := h3
        have hB := hB.fr hf3
        have hF := hF.trans hf3
        refine V.if_eq (tgt := 56) (q := 40) dX5_readsCall_37 (by decide) rfl (fun c37 => ?_) (fun c37 => ?_)
        · refine V.aload_n (q := 57) dX5_readsCall_56 rfl rfl ?_
          refine V.gM (q := 60) dX5_readsCall_57 (j := 1) rfl bw_1012 rfl rfl rfl rfl ?_
          refine V.iconst (q := 61) dX5_readsCall_60 (v := 3) rfl rfl ?_
          refine V.ld12 (q := 62) dX5_readsCall_61 (i := 3) rfl rfl (by decide) rfl ?_
          refine V.istore_n (q := 63) dX5_readsCall_62 rfl rfl rfl rfl ?_
          refine V.aload_n (q := 64) dX5_readsCall_63 rfl rfl ?_
          refine V.cVM (q := 67) dX5_readsCall_64 (As := []) rfl (kU_semicolonF hM) MX5_semicolon bw_1121 rfl rfl rfl rfl (by decide) rfl ?_
          refine V.aload_n (q := 68) dX5_readsCall_67 rfl rfl ?_
          refine V.cVM (q := 71) dX5_readsCall_68 (As := []) rfl (kU_failedF hM) MX5_failed bw_1100 rfl rfl rfl rfl (by decide) rfl ?_
          refine V.if_ne (tgt := 81) (q := 74) dX5_readsCall_71 (by decide) rfl (fun c71 => ?_) (fun c71 => ?_)
          · exact V.vret dX5_readsCall_81 rfl (by
      have hr : calS o P u = .inl e2 := by
        unfold calS
        rw [hx1]
        show bnd (numR o q1.2 0 (uN u - 1)) _ = _
        rw [hx2]; rfl
      have hres := smc_l (o := o) hr
      exact ⟨_, _, rfl, rfl, rfl, rfl, hF, by rw [hres]; exact hM⟩)
          · exact absurd c71 (by decide)
        · exact absurd rfl c37
      · exact absurd c14 (by decide)
    · (rw [hx2] at h2)
      obtain ⟨rfl, hf2, hM, hbg⟩ := h2
      have hM : MOk τ2 o (q2.2, u, e) := hM
      have hR : RM τ2 u := hM.2.2.2.2
      have hbg : sF τ2 94 12 = nI q1.2 := hbg
      have hn2 := numR_r hx2
      have hB := hB.fr hf2
      have hF := hF.trans hf2
      show V _ _ _ _ _ _ _ _ _ _ _ (.int (nI q2.1) :: _) _ _
      refine V.istore_n (q := 10) dX5_readsCall_9 rfl rfl rfl rfl ?_
      refine V.aload_n (q := 11) dX5_readsCall_10 rfl rfl ?_
      refine V.cVM (q := 14) dX5_readsCall_11 (As := []) rfl (kU_failed hM) MX5_failed bw_1100 rfl rfl rfl rfl (by decide) rfl ?_
      refine V.if_ne (tgt := 31) (q := 17) dX5_readsCall_14 (by decide) rfl (fun c14 => ?_) (fun c14 => ?_)
      · exact absurd rfl c14
      · refine V.iload_n (q := 18) dX5_readsCall_17 rfl rfl ?_
        refine V.iload_n (q := 19) dX5_readsCall_18 rfl rfl ?_
        refine V.icmp_ne (tgt := 31) (q := 22) dX5_readsCall_19 (by decide) rfl (fun c19 => ?_) (fun c19 => ?_)
        · have hab : ¬ q2.1 = q1.1 := fun z => c19 (by rw [z])
          refine V.aload_n (q := 32) dX5_readsCall_31 rfl rfl ?_
          refine V.ldcS (q := 34) dX5_readsCall_32 (tx := "") (j := 22) (by decide) (by decide +kernel) rfl ?_
          refine V.cVMP (q := 37) (As := [_]) dX5_readsCall_34 rfl (kU_accepts hb ho hB hM (K := 6) (j := 22) (by decide) (by decide) (by decide +kernel)) MX5_accepts bw_1085 rfl rfl rfl rfl (by decide) rfl (fun v3 τ3 h3 => ?_)
          obtain ⟨rfl, hf3, hy, hn⟩ := h3
          have hB := hB.fr hf3
          have hF := hF.trans hf3
          refine V.if_eq (tgt := 56) (q := 40) dX5_readsCall_37 (by decide) rfl (fun c37 => ?_) (fun c37 => ?_)
          · have k3 : ¬ kn o q2.2 = 6 := of_decide_eq_false (bI0.mp c37)
            obtain ⟨hM, hat⟩ := hn k3
            have hM : MOk τ3 o (q2.2, u, e) := hM
            have hat : sF τ3 94 9 = nI q2.2 := hat
            have hR : RM τ3 u := hM.2.2.2.2
            refine V.aload_n (q := 57) dX5_readsCall_56 rfl rfl ?_
            refine V.gM (q := 60) dX5_readsCall_57 (j := 1) rfl bw_1012 rfl rfl rfl rfl ?_
            refine V.iconst (q := 61) dX5_readsCall_60 (v := 3) rfl rfl ?_
            refine V.ldMu (q := 62) 3 dX5_readsCall_61 hR rfl rfl rfl ?_
            rw [RC.u3 hI]
            refine V.istore_n (q := 63) dX5_readsCall_62 rfl rfl rfl rfl ?_
            refine V.aload_n (q := 64) dX5_readsCall_63 rfl rfl ?_
            refine V.cVMP (q := 67) (As := []) dX5_readsCall_64 rfl (kU_semicolon hb ho hB hM) MX5_semicolon bw_1121 rfl rfl rfl rfl (by decide) rfl (fun v5 τ5 h5 => ?_)
            rcases hx5 : tkR o 20 q2.2 with e5 | q5
            · rw [hx5] at h5
              obtain ⟨rfl, hf5, hM⟩ := h5
              have hM : MFl τ5 o e5 := hM
              have hB := hB.fr hf5
              have hF := hF.trans hf5
              refine V.aload_n (q := 68) dX5_readsCall_67 rfl rfl ?_
              refine V.cVM (q := 71) dX5_readsCall_68 (As := []) rfl (kU_failedF hM) MX5_failed bw_1100 rfl rfl rfl rfl (by decide) rfl ?_
              refine V.if_ne (tgt := 81) (q := 74) dX5_readsCall_71 (by decide) rfl (fun c71 => ?_) (fun c71 => ?_)
              · exact V.vret dX5_readsCall_81 rfl (by
      have hr : calS o P u = .inr (q2.2, addu u (nI q1.1) (nI q2.1) (nI (uT u))) := by
        unfold calS
        rw [hx1]
        show bnd (numR o q1.2 0 (uN u - 1)) _ = _
        rw [hx2]
        show (if q2.1 = q1.1 then _ else _) = _
        rw [if_neg hab]
        show bnd (if kn o q2.2 = 6 then _ else _) _ = _
        rw [if_neg k3]; rfl
      have hres := smc_l2 hr hx5
      exact ⟨_, _, rfl, rfl, rfl, rfl, hF, by rw [hres]; exact hM⟩)
              · exact absurd c71 (by decide)
            · (rw [hx5] at h5)
              obtain ⟨rfl, hf5, hM⟩ := h5
              have hM : MOk τ5 o (q5, u, e) := hM
              have hR : RM τ5 u := hM.2.2.2.2
              have hB := hB.fr hf5
              have hF := hF.trans hf5
              refine V.aload_n (q := 68) dX5_readsCall_67 rfl rfl ?_
              refine V.cVM (q := 71) dX5_readsCall_68 (As := []) rfl (kU_failed hM) MX5_failed bw_1100 rfl rfl rfl rfl (by decide) rfl ?_
              refine V.if_ne (tgt := 81) (q := 74) dX5_readsCall_71 (by decide) rfl (fun c71 => ?_) (fun c71 => ?_)
              · exact absurd rfl c71
              · refine V.aload_n (q := 75) dX5_readsCall_74 rfl rfl ?_
                refine V.iload_n (q := 76) dX5_readsCall_75 rfl rfl ?_
                refine V.iload_n (q := 77) dX5_readsCall_76 rfl rfl ?_
                refine V.iload_n (q := 78) dX5_readsCall_77 rfl rfl ?_
                refine V.cVMP (q := 81) (As := [_, _, _]) dX5_readsCall_78 rfl (cM_adds hR hn40) MX5_adds bw_1156 rfl rfl rfl rfl (by decide) rfl (fun v7 τ7 h7 => ?_)
                obtain ⟨rfl, hf7, hR⟩ := h7
                have hM := hM.m hf7 hR
                have hF := hF.trans hf7.u
                exact V.vret dX5_readsCall_81 rfl (by
      have hr : calS o P u = .inr (q2.2, addu u (nI q1.1) (nI q2.1) (nI (uT u))) := by
        unfold calS
        rw [hx1]
        show bnd (numR o q1.2 0 (uN u - 1)) _ = _
        rw [hx2]
        show (if q2.1 = q1.1 then _ else _) = _
        rw [if_neg hab]
        show bnd (if kn o q2.2 = 6 then _ else _) _ = _
        rw [if_neg k3]; rfl
      have hres := smc_r hr hx5
      exact ⟨_, _, rfl, rfl, rfl, rfl, hF, by rw [hres]; exact hM⟩)
          · have k3 : kn o q2.2 = 6 := of_decide_eq_true (bI1.mp c37)
            have hM : MOk τ3 o (nx o q2.2, u, e) := hy k3
            have hR : RM τ3 u := hM.2.2.2.2
            refine V.aload_n (q := 41) dX5_readsCall_40 rfl rfl ?_
            refine V.aload_n (q := 42) dX5_readsCall_41 rfl rfl ?_
            refine V.gM (q := 45) dX5_readsCall_42 (j := 1) rfl bw_1012 rfl rfl rfl rfl ?_
            refine V.iconst (q := 46) dX5_readsCall_45 (v := 3) rfl rfl ?_
            refine V.ldMu (q := 47) 3 dX5_readsCall_46 hR rfl rfl rfl ?_
            rw [RC.u3 hI]
            refine V.sipush (q := 50) dX5_readsCall_47 (v := 999) rfl rfl ?_
            refine V.cVMP (q := 53) (As := [_, _]) dX5_readsCall_50 rfl (kU_number hb ho hB hM (lo := (uT u)) (hi := 999) (by omega) (by omega)) MX5_number bw_1110 rfl rfl rfl rfl (by decide) rfl (fun v4 τ4 h4 => ?_)
            rcases hx4 : numR o (nx o q2.2) (uT u) 999 with e4 | q4
            · rw [hx4] at h4
              obtain ⟨rfl, hf4, hM⟩ := h4
              have hM : MFl τ4 o e4 := hM
              have hB := hB.fr hf4
              have hF := hF.trans hf4
              show V _ _ _ _ _ _ _ _ _ _ _ (.int (nI (uT u)) :: _) _ _
              refine V.goto (tgt := 62) dX5_readsCall_53 (by decide) ?_
              refine V.istore_n (q := 63) dX5_readsCall_62 rfl rfl rfl rfl ?_
              refine V.aload_n (q := 64) dX5_readsCall_63 rfl rfl ?_
              refine V.cVM (q := 67) dX5_readsCall_64 (As := []) rfl (kU_semicolonF hM) MX5_semicolon bw_1121 rfl rfl rfl rfl (by decide) rfl ?_
              refine V.aload_n (q := 68) dX5_readsCall_67 rfl rfl ?_
              refine V.cVM (q := 71) dX5_readsCall_68 (As := []) rfl (kU_failedF hM) MX5_failed bw_1100 rfl rfl rfl rfl (by decide) rfl ?_
              refine V.if_ne (tgt := 81) (q := 74) dX5_readsCall_71 (by decide) rfl (fun c71 => ?_) (fun c71 => ?_)
              · exact V.vret dX5_readsCall_81 rfl (by
      have hr : calS o P u = .inl e4 := by
        unfold calS
        rw [hx1]
        show bnd (numR o q1.2 0 (uN u - 1)) _ = _
        rw [hx2]
        show (if q2.1 = q1.1 then _ else _) = _
        rw [if_neg hab]
        show bnd (if kn o q2.2 = 6 then _ else _) _ = _
        rw [if_pos k3, hx4]; rfl
      have hres := smc_l (o := o) hr
      exact ⟨_, _, rfl, rfl, rfl, rfl, hF, by rw [hres]; exact hM⟩)
              · exact absurd c71 (by decide)
            · (rw [hx4] at h4)
              obtain ⟨rfl, hf4, hM, hbg⟩ := h4
              have hM : MOk τ4 o (q4.2, u, e) := hM
              have hR : RM τ4 u := hM.2.2.2.2
              have hbg : sF τ4 94 12 = nI (nx o q2.2) := hbg
              have hn4 := numR_r hx4
              have hB := hB.fr hf4
              have hF := hF.trans hf4
              show V _ _ _ _ _ _ _ _ _ _ _ (.int (nI q4.1) :: _) _ _
              refine V.goto (tgt := 62) dX5_readsCall_53 (by decide) ?_
              refine V.istore_n (q := 63) dX5_readsCall_62 rfl rfl rfl rfl ?_
              refine V.aload_n (q := 64) dX5_readsCall_63 rfl rfl ?_
              refine V.cVMP (q := 67) (As := []) dX5_readsCall_64 rfl (kU_semicolon hb ho hB hM) MX5_semicolon bw_1121 rfl rfl rfl rfl (by decide) rfl (fun v5 τ5 h5 => ?_)
              rcases hx5 : tkR o 20 q4.2 with e5 | q5
              · rw [hx5] at h5
                obtain ⟨rfl, hf5, hM⟩ := h5
                have hM : MFl τ5 o e5 := hM
                have hB := hB.fr hf5
                have hF := hF.trans hf5
                refine V.aload_n (q := 68) dX5_readsCall_67 rfl rfl ?_
                refine V.cVM (q := 71) dX5_readsCall_68 (As := []) rfl (kU_failedF hM) MX5_failed bw_1100 rfl rfl rfl rfl (by decide) rfl ?_
                refine V.if_ne (tgt := 81) (q := 74) dX5_readsCall_71 (by decide) rfl (fun c71 => ?_) (fun c71 => ?_)
                · exact V.vret dX5_readsCall_81 rfl (by
      have hr : calS o P u = .inr (q4.2, addu u (nI q1.1) (nI q2.1) (nI q4.1)) := by
        unfold calS
        rw [hx1]
        show bnd (numR o q1.2 0 (uN u - 1)) _ = _
        rw [hx2]
        show (if q2.1 = q1.1 then _ else _) = _
        rw [if_neg hab]
        show bnd (if kn o q2.2 = 6 then _ else _) _ = _
        rw [if_pos k3, hx4]; rfl
      have hres := smc_l2 hr hx5
      exact ⟨_, _, rfl, rfl, rfl, rfl, hF, by rw [hres]; exact hM⟩)
                · exact absurd c71 (by decide)
              · (rw [hx5] at h5)
                obtain ⟨rfl, hf5, hM⟩ := h5
                have hM : MOk τ5 o (q5, u, e) := hM
                have hR : RM τ5 u := hM.2.2.2.2
                have hB := hB.fr hf5
                have hF := hF.trans hf5
                refine V.aload_n (q := 68) dX5_readsCall_67 rfl rfl ?_
                refine V.cVM (q := 71) dX5_readsCall_68 (As := []) rfl (kU_failed hM) MX5_failed bw_1100 rfl rfl rfl rfl (by decide) rfl ?_
                refine V.if_ne (tgt := 81) (q := 74) dX5_readsCall_71 (by decide) rfl (fun c71 => ?_) (fun c71 => ?_)
                · exact absurd rfl c71
                · refine V.aload_n (q := 75) dX5_readsCall_74 rfl rfl ?_
                  refine V.iload_n (q := 76) dX5_readsCall_75 rfl rfl ?_
                  refine V.iload_n (q := 77) dX5_readsCall_76 rfl rfl ?_
                  refine V.iload_n (q := 78) dX5_readsCall_77 rfl rfl ?_
                  refine V.cVMP (q := 81) (As := [_, _, _]) dX5_readsCall_78 rfl (cM_adds hR hn40) MX5_adds bw_1156 rfl rfl rfl rfl (by decide) rfl (fun v7 τ7 h7 => ?_)
                  obtain ⟨rfl, hf7, hR⟩ := h7
                  have hM := hM.m hf7 hR
                  have hF := hF.trans hf7.u
                  exact V.vret dX5_readsCall_81 rfl (by
      have hr : calS o P u = .inr (q4.2, addu u (nI q1.1) (nI q2.1) (nI q4.1)) := by
        unfold calS
        rw [hx1]
        show bnd (numR o q1.2 0 (uN u - 1)) _ = _
        rw [hx2]
        show (if q2.1 = q1.1 then _ else _) = _
        rw [if_neg hab]
        show bnd (if kn o q2.2 = 6 then _ else _) _ = _
        rw [if_pos k3, hx4]; rfl
      have hres := smc_r hr hx5
      exact ⟨_, _, rfl, rfl, rfl, rfl, hF, by rw [hres]; exact hM⟩)
        · have hab : q2.1 = q1.1 := (neq c19 (by omega) (by omega)).symm
          refine V.aload_n (q := 23) dX5_readsCall_22 rfl rfl ?_
          refine V.iconst (q := 24) dX5_readsCall_23 (v := 2) rfl rfl ?_
          refine V.aload_n (q := 25) dX5_readsCall_24 rfl rfl ?_
          refine V.gM (q := 28) dX5_readsCall_25 (j := 12) rfl bw_1023 rfl rfl rfl rfl ?_
          rw [hbg]
          refine V.cVM (q := 31) dX5_readsCall_28 (As := [_, _]) rfl (kU_fail hM) MX5_fail bw_1106 rfl rfl rfl rfl (by decide) rfl ?_
          have hM : MFl (stF (stF τ2 94 11 2) 94 10 (nI q1.2)) o (2, q1.2) := hM.fl (by decide) rfl rfl
          have hf6 : FrU τ2 (stF (stF τ2 94 11 2) 94 10 (nI q1.2)) := (FrU.f (by decide)).trans (FrU.f (by decide))
          have hB := hB.fr hf6
          have hF := hF.trans hf6
          generalize stF (stF τ2 94 11 2) 94 10 (nI q1.2) = τ6 at hM hf6 hB hF ⊢
          refine V.aload_n (q := 32) dX5_readsCall_31 rfl rfl ?_
          refine V.ldcS (q := 34) dX5_readsCall_32 (tx := "") (j := 22) (by decide) (by decide +kernel) rfl ?_
          refine V.cVMP (q := 37) (As := [_]) dX5_readsCall_34 rfl (kU_acceptsF hb ho hB hM (j := 22) (by decide)) MX5_accepts bw_1085 rfl rfl rfl rfl (by decide) rfl (fun v3 τ3 h3 => ?_)
          obtain ⟨rfl, hf3, hM⟩ := h3
          have hB := hB.fr hf3
          have hF := hF.trans hf3
          refine V.if_eq (tgt := 56) (q := 40) dX5_readsCall_37 (by decide) rfl (fun c37 => ?_) (fun c37 => ?_)
          · refine V.aload_n (q := 57) dX5_readsCall_56 rfl rfl ?_
            refine V.gM (q := 60) dX5_readsCall_57 (j := 1) rfl bw_1012 rfl rfl rfl rfl ?_
            refine V.iconst (q := 61) dX5_readsCall_60 (v := 3) rfl rfl ?_
            refine V.ld12 (q := 62) dX5_readsCall_61 (i := 3) rfl rfl (by decide) rfl ?_
            refine V.istore_n (q := 63) dX5_readsCall_62 rfl rfl rfl rfl ?_
            refine V.aload_n (q := 64) dX5_readsCall_63 rfl rfl ?_
            refine V.cVM (q := 67) dX5_readsCall_64 (As := []) rfl (kU_semicolonF hM) MX5_semicolon bw_1121 rfl rfl rfl rfl (by decide) rfl ?_
            refine V.aload_n (q := 68) dX5_readsCall_67 rfl rfl ?_
            refine V.cVM (q := 71) dX5_readsCall_68 (As := []) rfl (kU_failedF hM) MX5_failed bw_1100 rfl rfl rfl rfl (by decide) rfl ?_
            refine V.if_ne (tgt := 81) (q := 74) dX5_readsCall_71 (by decide) rfl (fun c71 => ?_) (fun c71 => ?_)
            · exact V.vret dX5_readsCall_81 rfl (by
      have hr : calS o P u = .inl (2, q1.2) := by
        unfold calS
        rw [hx1]
        show bnd (numR o q1.2 0 (uN u - 1)) _ = _
        rw [hx2]
        show (if q2.1 = q1.1 then _ else _) = _
        exact if_pos hab
      have hres := smc_l (o := o) hr
      exact ⟨_, _, rfl, rfl, rfl, rfl, hF, by rw [hres]; exact hM⟩)
            · exact absurd c71 (by decide)
          · exact absurd rfl c37
set_option maxHeartbeats 2000000 in
theorem kU_readsCallF {l : Launch} {G : GG} {σ : St} {o : Txt} {e : Er} (hb : byT o) (ho : o.1 ≤ 500) (hB : MB σ o) (hM : MFl σ o e) : CtP l G TX5_readsCall 5 [.ref (gB G + 94)] σ (fun v τ => v = none ∧ FrU σ τ ∧ MFl τ o e) := by
  have hF : FrU σ σ := FrU.rf
  refine CtP.ofV (by decide +kernel) rfl rfl (Nat.le_of_ble_eq_true rfl) ?_
  refine V.aload_n (q := 1) dX5_readsCall_0 rfl rfl ?_
  refine V.cVM (q := 4) dX5_readsCall_1 (As := []) rfl (kU_floorNumberF hM) MX5_floorNumber bw_1151 rfl rfl rfl rfl (by decide) rfl ?_
  refine V.istore_n (q := 5) dX5_readsCall_4 rfl rfl rfl rfl ?_
  refine V.aload_n (q := 6) dX5_readsCall_5 rfl rfl ?_
  refine V.cVM (q := 9) dX5_readsCall_6 (As := []) rfl (kU_floorNumberF hM) MX5_floorNumber bw_1151 rfl rfl rfl rfl (by decide) rfl ?_
  refine V.istore_n (q := 10) dX5_readsCall_9 rfl rfl rfl rfl ?_
  refine V.aload_n (q := 11) dX5_readsCall_10 rfl rfl ?_
  refine V.cVM (q := 14) dX5_readsCall_11 (As := []) rfl (kU_failedF hM) MX5_failed bw_1100 rfl rfl rfl rfl (by decide) rfl ?_
  refine V.if_ne (tgt := 31) (q := 17) dX5_readsCall_14 (by decide) rfl (fun c14 => ?_) (fun c14 => ?_)
  · refine V.aload_n (q := 32) dX5_readsCall_31 rfl rfl ?_
    refine V.ldcS (q := 34) dX5_readsCall_32 (tx := "") (j := 22) (by decide) (by decide +kernel) rfl ?_
    refine V.cVMP (q := 37) (As := [_]) dX5_readsCall_34 rfl (kU_acceptsF hb ho hB hM (j := 22) (by decide)) MX5_accepts bw_1085 rfl rfl rfl rfl (by decide) rfl (fun v3 τ3 h3 => ?_)
    obtain ⟨rfl, hf3, hM⟩ := h3
    have hB := hB.fr hf3
    have hF := hF.trans hf3
    refine V.if_eq (tgt := 56) (q := 40) dX5_readsCall_37 (by decide) rfl (fun c37 => ?_) (fun c37 => ?_)
    · refine V.aload_n (q := 57) dX5_readsCall_56 rfl rfl ?_
      refine V.gM (q := 60) dX5_readsCall_57 (j := 1) rfl bw_1012 rfl rfl rfl rfl ?_
      refine V.iconst (q := 61) dX5_readsCall_60 (v := 3) rfl rfl ?_
      refine V.ld12 (q := 62) dX5_readsCall_61 (i := 3) rfl rfl (by decide) rfl ?_
      refine V.istore_n (q := 63) dX5_readsCall_62 rfl rfl rfl rfl ?_
      refine V.aload_n (q := 64) dX5_readsCall_63 rfl rfl ?_
      refine V.cVM (q := 67) dX5_readsCall_64 (As := []) rfl (kU_semicolonF hM) MX5_semicolon bw_1121 rfl rfl rfl rfl (by decide) rfl ?_
      refine V.aload_n (q := 68) dX5_readsCall_67 rfl rfl ?_
      refine V.cVM (q := 71) dX5_readsCall_68 (As := []) rfl (kU_failedF hM) MX5_failed bw_1100 rfl rfl rfl rfl (by decide) rfl ?_
      refine V.if_ne (tgt := 81) (q := 74) dX5_readsCall_71 (by decide) rfl (fun c71 => ?_) (fun c71 => ?_)
      · exact V.vret dX5_readsCall_81 rfl ⟨_, _, rfl, rfl, rfl, rfl, hF, hM⟩
      · exact absurd c71 (by decide)
    · exact absurd rfl c37
  · exact absurd c14 (by decide)
set_option maxHeartbeats 4000000 in
theorem kU_readsRun {l : Launch} {G : GG} {σ : St} {o : Txt} {P e : Nat} {u : Vw} (hb : byT o) (ho : o.1 ≤ 500) (hB : MB σ o) (hM : MOk σ o (P, u, e)) (hO : Ok u) : CtP l G TX5_readsRun 9 [.ref (gB G + 94)] σ (fun v τ => v = none ∧ FrU σ τ ∧ MC τ o e (smc o (runS o P u))) := by
  have hI := hO.1
  obtain ⟨hF0, hN0, hFN0, h20, h2⟩ := hI.F
  have hfl : us u 0 - 1 = nI (uN u - 1) := by rw [hN0]; exact pk_sub (b := 1) (by omega)
  have ht9 : uT u ≤ 999 := hO.2
  have hR : RM σ u := hM.2.2.2.2
  have hF : FrU σ σ := FrU.rf
  refine CtP.ofV (by decide +kernel) rfl rfl (Nat.le_of_ble_eq_true rfl) ?_
  refine V.aload_n (q := 1) dX5_readsRun_0 rfl rfl ?_
  refine V.iconst (q := 2) dX5_readsRun_1 (v := 1) rfl rfl ?_
  refine V.sipush (q := 5) dX5_readsRun_2 (v := 999) rfl rfl ?_
  refine V.cVMP (q := 8) (As := [_, _]) dX5_readsRun_5 rfl (kU_number hb ho hB hM (lo := 1) (hi := 999) (by omega) (by omega)) MX5_number bw_1110 rfl rfl rfl rfl (by decide) rfl (fun v1 τ1 h1 => ?_)
  rcases hx1 : numR o P 1 999 with e1 | q1
  · rw [hx1] at h1
    obtain ⟨rfl, hf1, hM⟩ := h1
    have hM : MFl τ1 o e1 := hM
    have hB := hB.fr hf1
    have hF := hF.trans hf1
    show V _ _ _ _ _ _ _ _ _ _ _ (.int (nI 1) :: _) _ _
    refine V.istore_n (q := 9) dX5_readsRun_8 rfl rfl rfl rfl ?_
    refine V.aload_n (q := 10) dX5_readsRun_9 rfl rfl ?_
    refine V.cVM (q := 13) dX5_readsRun_10 (As := []) rfl (kU_failedF hM) MX5_failed bw_1100 rfl rfl rfl rfl (by decide) rfl ?_
    refine V.if_ne (tgt := 39) (q := 16) dX5_readsRun_13 (by decide) rfl (fun c13 => ?_) (fun c13 => ?_)
    · refine V.aload_n (q := 40) dX5_readsRun_39 rfl rfl ?_
      refine V.cVM (q := 43) dX5_readsRun_40 (As := []) rfl (kU_semicolonF hM) MX5_semicolon bw_1121 rfl rfl rfl rfl (by decide) rfl ?_
      refine V.iconst (q := 44) dX5_readsRun_43 (v := 0) rfl rfl ?_
      refine V.istore_n (q := 45) dX5_readsRun_44 rfl rfl rfl rfl ?_
      refine V.iload_n (q := 46) dX5_readsRun_45 rfl rfl ?_
      refine V.iload_n (q := 47) dX5_readsRun_46 rfl rfl ?_
      refine V.icmp_ge (tgt := 67) (q := 50) dX5_readsRun_47 (by decide) rfl (fun c47 => ?_) (fun c47 => ?_)
      · exact V.vret dX5_readsRun_67 rfl (by
      have hr : runS o P u = .inl e1 := by
        unfold runS
        rw [hx1]; rfl
      have hres := smc_l (o := o) hr
      exact ⟨_, _, rfl, rfl, rfl, rfl, hF, by rw [hres]; exact hM⟩)
      · refine V.aload_n (q := 51) dX5_readsRun_50 rfl rfl ?_
        refine V.cVM (q := 54) dX5_readsRun_51 (As := []) rfl (kU_failedF hM) MX5_failed bw_1100 rfl rfl rfl rfl (by decide) rfl ?_
        refine V.if_ne (tgt := 67) (q := 57) dX5_readsRun_54 (by decide) rfl (fun c54 => ?_) (fun c54 => ?_)
        · exact V.vret dX5_readsRun_67 rfl (by
      have hr : runS o P u = .inl e1 := by
        unfold runS
        rw [hx1]; rfl
      have hres := smc_l (o := o) hr
      exact ⟨_, _, rfl, rfl, rfl, rfl, hF, by rw [hres]; exact hM⟩)
        · exact absurd c54 (by decide)
    · exact absurd c13 (by decide)
  · (rw [hx1] at h1)
    obtain ⟨rfl, hf1, hM, hbg⟩ := h1
    have hM : MOk τ1 o (q1.2, u, e) := hM
    have hR : RM τ1 u := hM.2.2.2.2
    have hbg : sF τ1 94 12 = nI P := hbg
    have hn1 := numR_r hx1
    have hB := hB.fr hf1
    have hF := hF.trans hf1
    show V _ _ _ _ _ _ _ _ _ _ _ (.int (nI q1.1) :: _) _ _
    refine V.istore_n (q := 9) dX5_readsRun_8 rfl rfl rfl rfl ?_
    refine V.aload_n (q := 10) dX5_readsRun_9 rfl rfl ?_
    refine V.cVM (q := 13) dX5_readsRun_10 (As := []) rfl (kU_failed hM) MX5_failed bw_1100 rfl rfl rfl rfl (by decide) rfl ?_
    refine V.if_ne (tgt := 39) (q := 16) dX5_readsRun_13 (by decide) rfl (fun c13 => ?_) (fun c13 => ?_)
    · exact absurd rfl c13
    · refine V.aload_n (q := 17) dX5_readsRun_16 rfl rfl ?_
      refine V.gM (q := 20) dX5_readsRun_17 (j := 1) rfl bw_1012 rfl rfl rfl rfl ?_
      refine V.iconst (q := 21) dX5_readsRun_20 (v := 3) rfl rfl ?_
      refine V.ldMu (q := 22) 3 dX5_readsRun_21 hR rfl rfl rfl ?_
      rw [RC.u3 hI]
      refine V.iload_n (q := 23) dX5_readsRun_22 rfl rfl ?_
      refine V.iadd (q := 24) dX5_readsRun_23 rfl ?_
      rw [nI_add]
      refine V.sipush (q := 27) dX5_readsRun_24 (v := 999) rfl rfl ?_
      refine V.icmp_le (tgt := 39) (q := 30) dX5_readsRun_27 (by decide) rfl (fun c27 => ?_) (fun c27 => ?_)
      · have h9 : ¬ 999 < uT u + q1.1 := fun z => by have := nle (b := 999) c27 (by omega) (by decide); omega
        refine V.aload_n (q := 40) dX5_readsRun_39 rfl rfl ?_
        refine V.cVMP (q := 43) (As := []) dX5_readsRun_40 rfl (kU_semicolon hb ho hB hM) MX5_semicolon bw_1121 rfl rfl rfl rfl (by decide) rfl (fun v3 τ3 h3 => ?_)
        rcases hx3 : tkR o 20 q1.2 with e3 | q3
        · rw [hx3] at h3
          obtain ⟨rfl, hf3, hM⟩ := h3
          have hM : MFl τ3 o e3 := hM
          have hB := hB.fr hf3
          have hF := hF.trans hf3
          refine V.iconst (q := 44) dX5_readsRun_43 (v := 0) rfl rfl ?_
          refine V.istore_n (q := 45) dX5_readsRun_44 rfl rfl rfl rfl ?_
          refine V.iload_n (q := 46) dX5_readsRun_45 rfl rfl ?_
          refine V.iload_n (q := 47) dX5_readsRun_46 rfl rfl ?_
          refine V.icmp_ge (tgt := 67) (q := 50) dX5_readsRun_47 (by decide) rfl (fun c47 => ?_) (fun c47 => ?_)
          · exact V.vret dX5_readsRun_67 rfl (by
      have hr : runS o P u = .inr (q1.2, tks q1.1 u) := by
        unfold runS
        rw [hx1]
        exact if_neg h9
      have hres := smc_l2 hr hx3
      exact ⟨_, _, rfl, rfl, rfl, rfl, hF, by rw [hres]; exact hM⟩)
          · refine V.aload_n (q := 51) dX5_readsRun_50 rfl rfl ?_
            refine V.cVM (q := 54) dX5_readsRun_51 (As := []) rfl (kU_failedF hM) MX5_failed bw_1100 rfl rfl rfl rfl (by decide) rfl ?_
            refine V.if_ne (tgt := 67) (q := 57) dX5_readsRun_54 (by decide) rfl (fun c54 => ?_) (fun c54 => ?_)
            · exact V.vret dX5_readsRun_67 rfl (by
      have hr : runS o P u = .inr (q1.2, tks q1.1 u) := by
        unfold runS
        rw [hx1]
        exact if_neg h9
      have hres := smc_l2 hr hx3
      exact ⟨_, _, rfl, rfl, rfl, rfl, hF, by rw [hres]; exact hM⟩)
            · exact absurd c54 (by decide)
        · (rw [hx3] at h3)
          obtain ⟨rfl, hf3, hM⟩ := h3
          have hM : MOk τ3 o (q3, u, e) := hM
          have hR : RM τ3 u := hM.2.2.2.2
          have hB := hB.fr hf3
          have hF := hF.trans hf3
          refine V.iconst (q := 44) dX5_readsRun_43 (v := 0) rfl rfl ?_
          refine V.istore_n (q := 45) dX5_readsRun_44 rfl rfl rfl rfl ?_
          have loop : ∀ (m : Nat) (k : Nat) (τ : St), m = q1.1 - k → k ≤ q1.1 → FrU σ τ → MOk τ o (q3, tks k u, e) → V l G TX5_readsRun 9 0 0 (RetP G (fun v τ => v = none ∧ FrU σ τ ∧ MC τ o e (smc o (runS o P u)))) 0 0 45 [some (.ref (gB G + 94)), some (.int (nI q1.1)), some (.int (nI k))] [] (hof G τ) NC := by
            intro m
            induction m using Nat.strongRecOn with
            | _ m ih =>
              intro k τ hm hk9 hF hM
              have hR : RM τ (tks k u) := hM.2.2.2.2
              refine V.iload_n (q := 46) dX5_readsRun_45 rfl rfl ?_
              refine V.iload_n (q := 47) dX5_readsRun_46 rfl rfl ?_
              refine V.icmp_ge (tgt := 67) (q := 50) dX5_readsRun_47 (by decide) rfl (fun c47 => ?_) (fun c47 => ?_)
              · have hke : k = q1.1 := Nat.le_antisymm hk9 (nle c47 (by omega) (by omega))
                subst hke
                exact V.vret dX5_readsRun_67 rfl (by
              have hr : runS o P u = .inr (q1.2, tks q1.1 u) := by
                unfold runS
                rw [hx1]
                exact if_neg h9
              have hres := smc_r hr hx3
              exact ⟨_, _, rfl, rfl, rfl, rfl, hF, by rw [hres]; exact hM⟩)
              · have hlt : k < q1.1 := nnle c47 (by omega) (by omega)
                have hIk := tks_Iu hI k (by omega)
                refine V.aload_n (q := 51) dX5_readsRun_50 rfl rfl ?_
                refine V.cVM (q := 54) dX5_readsRun_51 (As := []) rfl (kU_failed hM) MX5_failed bw_1100 rfl rfl rfl rfl (by decide) rfl ?_
                refine V.if_ne (tgt := 67) (q := 57) dX5_readsRun_54 (by decide) rfl (fun c54 => ?_) (fun c54 => ?_)
                · exact absurd rfl c54
                · refine V.aload_n (q := 58) dX5_readsRun_57 rfl rfl ?_
                  refine V.cVMP (q := 61) (As := []) dX5_readsRun_58 rfl (cM_ticks hR hIk.1) MX5_ticks bw_1168 rfl rfl rfl rfl (by decide) rfl (fun v4 τ4 h4 => ?_)
                  obtain ⟨rfl, hf4, hR⟩ := h4
                  refine V.iinc (q := 64) dX5_readsRun_61 rfl (by first | exact nI_inc _ | rfl) rfl rfl rfl ?_
                  refine V.goto (tgt := 45) dX5_readsRun_64 (by decide) ?_
                  refine ih _ (by omega) (k + 1) τ4 rfl (by omega) (hF.trans hf4.u) (hM.m hf4 hR)
          exact loop _ 0 _ rfl (Nat.zero_le _) hF hM
      · have h9 : 999 < uT u + q1.1 := nnle (b := 999) c27 (by omega) (by decide)
        refine V.aload_n (q := 31) dX5_readsRun_30 rfl rfl ?_
        refine V.iconst (q := 32) dX5_readsRun_31 (v := 4) rfl rfl ?_
        refine V.aload_n (q := 33) dX5_readsRun_32 rfl rfl ?_
        refine V.gM (q := 36) dX5_readsRun_33 (j := 12) rfl bw_1023 rfl rfl rfl rfl ?_
        rw [hbg]
        refine V.cVM (q := 39) dX5_readsRun_36 (As := [_, _]) rfl (kU_fail hM) MX5_fail bw_1106 rfl rfl rfl rfl (by decide) rfl ?_
        have hM : MFl (stF (stF τ1 94 11 4) 94 10 (nI P)) o (4, P) := hM.fl (by decide) rfl rfl
        have hf2 : FrU τ1 (stF (stF τ1 94 11 4) 94 10 (nI P)) := (FrU.f (by decide)).trans (FrU.f (by decide))
        have hB := hB.fr hf2
        have hF := hF.trans hf2
        generalize stF (stF τ1 94 11 4) 94 10 (nI P) = τ2 at hM hf2 hB hF ⊢
        refine V.aload_n (q := 40) dX5_readsRun_39 rfl rfl ?_
        refine V.cVM (q := 43) dX5_readsRun_40 (As := []) rfl (kU_semicolonF hM) MX5_semicolon bw_1121 rfl rfl rfl rfl (by decide) rfl ?_
        refine V.iconst (q := 44) dX5_readsRun_43 (v := 0) rfl rfl ?_
        refine V.istore_n (q := 45) dX5_readsRun_44 rfl rfl rfl rfl ?_
        refine V.iload_n (q := 46) dX5_readsRun_45 rfl rfl ?_
        refine V.iload_n (q := 47) dX5_readsRun_46 rfl rfl ?_
        refine V.icmp_ge (tgt := 67) (q := 50) dX5_readsRun_47 (by decide) rfl (fun c47 => ?_) (fun c47 => ?_)
        · exact V.vret dX5_readsRun_67 rfl (by
      have hr : runS o P u = .inl (4, P) := by
        unfold runS
        rw [hx1]
        exact if_pos h9
      have hres := smc_l (o := o) hr
      exact ⟨_, _, rfl, rfl, rfl, rfl, hF, by rw [hres]; exact hM⟩)
        · refine V.aload_n (q := 51) dX5_readsRun_50 rfl rfl ?_
          refine V.cVM (q := 54) dX5_readsRun_51 (As := []) rfl (kU_failedF hM) MX5_failed bw_1100 rfl rfl rfl rfl (by decide) rfl ?_
          refine V.if_ne (tgt := 67) (q := 57) dX5_readsRun_54 (by decide) rfl (fun c54 => ?_) (fun c54 => ?_)
          · exact V.vret dX5_readsRun_67 rfl (by
      have hr : runS o P u = .inl (4, P) := by
        unfold runS
        rw [hx1]
        exact if_pos h9
      have hres := smc_l (o := o) hr
      exact ⟨_, _, rfl, rfl, rfl, rfl, hF, by rw [hres]; exact hM⟩)
          · exact absurd c54 (by decide)
set_option maxHeartbeats 4000000 in
theorem kU_readsCapacity {l : Launch} {G : GG} {σ : St} {o : Txt} {P e : Nat} {u : Vw} (hb : byT o) (ho : o.1 ≤ 500) (hB : MB σ o) (hM : MOk σ o (P, u, e)) (hO : Ok u) : CtP l G TX5_readsCapacity 5 [.ref (gB G + 94)] σ (fun v τ => v = none ∧ FrU σ τ ∧ MC τ o e (smc o (capS o P u))) := by
  have hI := hO.1
  obtain ⟨hF0, hN0, hFN0, h20, h2⟩ := hI.F
  have hfl : us u 0 - 1 = nI (uN u - 1) := by rw [hN0]; exact pk_sub (b := 1) (by omega)
  have ht9 : uT u ≤ 999 := hO.2
  have hR : RM σ u := hM.2.2.2.2
  have hF : FrU σ σ := FrU.rf
  refine CtP.ofV (by decide +kernel) rfl rfl (Nat.le_of_ble_eq_true rfl) ?_
  refine V.aload_n (q := 1) dX5_readsCapacity_0 rfl rfl ?_
  refine V.iconst (q := 2) dX5_readsCapacity_1 (v := 1) rfl rfl ?_
  refine V.bipush (q := 4) dX5_readsCapacity_2 (v := 8) rfl rfl ?_
  refine V.cVMP (q := 7) (As := [_, _]) dX5_readsCapacity_4 rfl (kU_number hb ho hB hM (lo := 1) (hi := 8) (by omega) (by omega)) MX5_number bw_1110 rfl rfl rfl rfl (by decide) rfl (fun v1 τ1 h1 => ?_)
  rcases hx1 : numR o P 1 8 with e1 | q1
  · rw [hx1] at h1
    obtain ⟨rfl, hf1, hM⟩ := h1
    have hM : MFl τ1 o e1 := hM
    have hB := hB.fr hf1
    have hF := hF.trans hf1
    show V _ _ _ _ _ _ _ _ _ _ _ (.int (nI 1) :: _) _ _
    refine V.istore_n (q := 8) dX5_readsCapacity_7 rfl rfl rfl rfl ?_
    refine V.aload_n (q := 9) dX5_readsCapacity_8 rfl rfl ?_
    refine V.cVM (q := 12) dX5_readsCapacity_9 (As := []) rfl (kU_failedF hM) MX5_failed bw_1100 rfl rfl rfl rfl (by decide) rfl ?_
    refine V.if_ne (tgt := 33) (q := 15) dX5_readsCapacity_12 (by decide) rfl (fun c12 => ?_) (fun c12 => ?_)
    · refine V.aload_n (q := 34) dX5_readsCapacity_33 rfl rfl ?_
      refine V.cVM (q := 37) dX5_readsCapacity_34 (As := []) rfl (kU_semicolonF hM) MX5_semicolon bw_1121 rfl rfl rfl rfl (by decide) rfl ?_
      refine V.aload_n (q := 38) dX5_readsCapacity_37 rfl rfl ?_
      refine V.cVM (q := 41) dX5_readsCapacity_38 (As := []) rfl (kU_failedF hM) MX5_failed bw_1100 rfl rfl rfl rfl (by decide) rfl ?_
      refine V.if_ne (tgt := 51) (q := 44) dX5_readsCapacity_41 (by decide) rfl (fun c41 => ?_) (fun c41 => ?_)
      · exact V.vret dX5_readsCapacity_51 rfl (by
      have hr : capS o P u = .inl e1 := by
        unfold capS
        rw [hx1]; rfl
      have hres := smc_l (o := o) hr
      exact ⟨_, _, rfl, rfl, rfl, rfl, hF, by rw [hres]; exact hM⟩)
      · exact absurd c41 (by decide)
    · exact absurd c12 (by decide)
  · (rw [hx1] at h1)
    obtain ⟨rfl, hf1, hM, hbg⟩ := h1
    have hM : MOk τ1 o (q1.2, u, e) := hM
    have hR : RM τ1 u := hM.2.2.2.2
    have hbg : sF τ1 94 12 = nI P := hbg
    have hn1 := numR_r hx1
    have hB := hB.fr hf1
    have hF := hF.trans hf1
    show V _ _ _ _ _ _ _ _ _ _ _ (.int (nI q1.1) :: _) _ _
    refine V.istore_n (q := 8) dX5_readsCapacity_7 rfl rfl rfl rfl ?_
    refine V.aload_n (q := 9) dX5_readsCapacity_8 rfl rfl ?_
    refine V.cVM (q := 12) dX5_readsCapacity_9 (As := []) rfl (kU_failed hM) MX5_failed bw_1100 rfl rfl rfl rfl (by decide) rfl ?_
    refine V.if_ne (tgt := 33) (q := 15) dX5_readsCapacity_12 (by decide) rfl (fun c12 => ?_) (fun c12 => ?_)
    · exact absurd rfl c12
    · refine V.aload_n (q := 16) dX5_readsCapacity_15 rfl rfl ?_
      refine V.iconst (q := 17) dX5_readsCapacity_16 (v := 2) rfl rfl ?_
      refine V.cVM (q := 20) dX5_readsCapacity_17 (As := [_]) rfl (cM_many hR) MX5_many bw_1180 rfl rfl rfl rfl (by decide) rfl ?_
      refine V.iload_n (q := 21) dX5_readsCapacity_20 rfl rfl ?_
      refine V.icmp_le (tgt := 33) (q := 24) dX5_readsCapacity_21 (by decide) rfl (fun c21 => ?_) (fun c21 => ?_)
      · have h9 : ¬ q1.1 < many u 2 := fun z => by have := nle c21 (by have := cnt_le (fun i => stat u i == 2) (un u); have := hI.1; show cnt _ _ < _; omega) (by omega); omega
        refine V.aload_n (q := 34) dX5_readsCapacity_33 rfl rfl ?_
        refine V.cVMP (q := 37) (As := []) dX5_readsCapacity_34 rfl (kU_semicolon hb ho hB hM) MX5_semicolon bw_1121 rfl rfl rfl rfl (by decide) rfl (fun v3 τ3 h3 => ?_)
        rcases hx3 : tkR o 20 q1.2 with e3 | q3
        · rw [hx3] at h3
          obtain ⟨rfl, hf3, hM⟩ := h3
          have hM : MFl τ3 o e3 := hM
          have hB := hB.fr hf3
          have hF := hF.trans hf3
          refine V.aload_n (q := 38) dX5_readsCapacity_37 rfl rfl ?_
          refine V.cVM (q := 41) dX5_readsCapacity_38 (As := []) rfl (kU_failedF hM) MX5_failed bw_1100 rfl rfl rfl rfl (by decide) rfl ?_
          refine V.if_ne (tgt := 51) (q := 44) dX5_readsCapacity_41 (by decide) rfl (fun c41 => ?_) (fun c41 => ?_)
          · exact V.vret dX5_readsCapacity_51 rfl (by
      have hr : capS o P u = .inr (q1.2, uS u 1 (nI q1.1)) := by
        unfold capS
        rw [hx1]
        exact if_neg h9
      have hres := smc_l2 hr hx3
      exact ⟨_, _, rfl, rfl, rfl, rfl, hF, by rw [hres]; exact hM⟩)
          · exact absurd c41 (by decide)
        · (rw [hx3] at h3)
          obtain ⟨rfl, hf3, hM⟩ := h3
          have hM : MOk τ3 o (q3, u, e) := hM
          have hR : RM τ3 u := hM.2.2.2.2
          have hB := hB.fr hf3
          have hF := hF.trans hf3
          refine V.aload_n (q := 38) dX5_readsCapacity_37 rfl rfl ?_
          refine V.cVM (q := 41) dX5_readsCapacity_38 (As := []) rfl (kU_failed hM) MX5_failed bw_1100 rfl rfl rfl rfl (by decide) rfl ?_
          refine V.if_ne (tgt := 51) (q := 44) dX5_readsCapacity_41 (by decide) rfl (fun c41 => ?_) (fun c41 => ?_)
          · exact absurd rfl c41
          · refine V.aload_n (q := 45) dX5_readsCapacity_44 rfl rfl ?_
            refine V.gM (q := 48) dX5_readsCapacity_45 (j := 1) rfl bw_1012 rfl rfl rfl rfl ?_
            refine V.iconst (q := 49) dX5_readsCapacity_48 (v := 1) rfl rfl ?_
            refine V.iload_n (q := 50) dX5_readsCapacity_49 rfl rfl ?_
            refine V.st12 (q := 51) dX5_readsCapacity_50 (i := 1) rfl rfl (by decide) rfl ?_
            have hR1 := hR.sc 1 (nI q1.1) (by decide)
            have hf5 : FrM τ3 (stA τ3 95 1 (nI q1.1)) := FrM.rf.ar
            have hM := hM.m hf5 hR1
            have hF := hF.trans hf5.u
            exact V.vret dX5_readsCapacity_51 rfl (by
      have hr : capS o P u = .inr (q1.2, uS u 1 (nI q1.1)) := by
        unfold capS
        rw [hx1]
        exact if_neg h9
      have hres := smc_r hr hx3
      exact ⟨_, _, rfl, rfl, rfl, rfl, hF, by rw [hres]; exact hM⟩)
      · have h9 : q1.1 < many u 2 := nnle c21 (by have := cnt_le (fun i => stat u i == 2) (un u); have := hI.1; show cnt _ _ < _; omega) (by omega)
        refine V.aload_n (q := 25) dX5_readsCapacity_24 rfl rfl ?_
        refine V.iconst (q := 26) dX5_readsCapacity_25 (v := 4) rfl rfl ?_
        refine V.aload_n (q := 27) dX5_readsCapacity_26 rfl rfl ?_
        refine V.gM (q := 30) dX5_readsCapacity_27 (j := 12) rfl bw_1023 rfl rfl rfl rfl ?_
        rw [hbg]
        refine V.cVM (q := 33) dX5_readsCapacity_30 (As := [_, _]) rfl (kU_fail hM) MX5_fail bw_1106 rfl rfl rfl rfl (by decide) rfl ?_
        have hM : MFl (stF (stF τ1 94 11 4) 94 10 (nI P)) o (4, P) := hM.fl (by decide) rfl rfl
        have hf2 : FrU τ1 (stF (stF τ1 94 11 4) 94 10 (nI P)) := (FrU.f (by decide)).trans (FrU.f (by decide))
        have hB := hB.fr hf2
        have hF := hF.trans hf2
        generalize stF (stF τ1 94 11 4) 94 10 (nI P) = τ2 at hM hf2 hB hF ⊢
        refine V.aload_n (q := 34) dX5_readsCapacity_33 rfl rfl ?_
        refine V.cVM (q := 37) dX5_readsCapacity_34 (As := []) rfl (kU_semicolonF hM) MX5_semicolon bw_1121 rfl rfl rfl rfl (by decide) rfl ?_
        refine V.aload_n (q := 38) dX5_readsCapacity_37 rfl rfl ?_
        refine V.cVM (q := 41) dX5_readsCapacity_38 (As := []) rfl (kU_failedF hM) MX5_failed bw_1100 rfl rfl rfl rfl (by decide) rfl ?_
        refine V.if_ne (tgt := 51) (q := 44) dX5_readsCapacity_41 (by decide) rfl (fun c41 => ?_) (fun c41 => ?_)
        · exact V.vret dX5_readsCapacity_51 rfl (by
      have hr : capS o P u = .inl (4, P) := by
        unfold capS
        rw [hx1]
        exact if_pos h9
      have hres := smc_l (o := o) hr
      exact ⟨_, _, rfl, rfl, rfl, rfl, hF, by rw [hres]; exact hM⟩)
        · exact absurd c41 (by decide)
set_option maxHeartbeats 4000000 in
theorem kU_readsPolicy {l : Launch} {G : GG} {σ : St} {o : Txt} {P e : Nat} {u : Vw} (hb : byT o) (ho : o.1 ≤ 500) (hB : MB σ o) (hM : MOk σ o (P, u, e)) (hO : Ok u) : CtP l G TX5_readsPolicy 6 [.ref (gB G + 94)] σ (fun v τ => v = none ∧ FrU σ τ ∧ MC τ o e (smc o (polS o P u))) := by
  have hI := hO.1
  obtain ⟨hF0, hN0, hFN0, h20, h2⟩ := hI.F
  have hfl : us u 0 - 1 = nI (uN u - 1) := by rw [hN0]; exact pk_sub (b := 1) (by omega)
  have ht9 : uT u ≤ 999 := hO.2
  have hR : RM σ u := hM.2.2.2.2
  have hF : FrU σ σ := FrU.rf
  refine CtP.ofV (by decide +kernel) rfl rfl (Nat.le_of_ble_eq_true rfl) ?_
  refine V.aload_n (q := 1) dX5_readsPolicy_0 rfl rfl ?_
  refine V.cVMP (q := 4) (As := []) dX5_readsPolicy_1 rfl (kU_policyWord hb ho hB hM) MX5_policyWord bw_1114 rfl rfl rfl rfl (by decide) rfl (fun v1 τ1 h1 => ?_)
  rcases hx1 : polR o P with e1 | q1
  · rw [hx1] at h1
    obtain ⟨rfl, hf1, hM⟩ := h1
    have hM : MFl τ1 o e1 := hM
    have hB := hB.fr hf1
    have hF := hF.trans hf1
    show V _ _ _ _ _ _ _ _ _ _ _ (.int (-1) :: _) _ _
    refine V.istore_n (q := 5) dX5_readsPolicy_4 rfl rfl rfl rfl ?_
    refine V.aload_n (q := 6) dX5_readsPolicy_5 rfl rfl ?_
    refine V.cVM (q := 9) dX5_readsPolicy_6 (As := []) rfl (kU_semicolonF hM) MX5_semicolon bw_1121 rfl rfl rfl rfl (by decide) rfl ?_
    refine V.aload_n (q := 10) dX5_readsPolicy_9 rfl rfl ?_
    refine V.cVM (q := 13) dX5_readsPolicy_10 (As := []) rfl (kU_failedF hM) MX5_failed bw_1100 rfl rfl rfl rfl (by decide) rfl ?_
    refine V.if_ne (tgt := 23) (q := 16) dX5_readsPolicy_13 (by decide) rfl (fun c13 => ?_) (fun c13 => ?_)
    · exact V.vret dX5_readsPolicy_23 rfl (by
      have hr : polS o P u = .inl e1 := by
        unfold polS
        rw [hx1]; rfl
      have hres := smc_l (o := o) hr
      exact ⟨_, _, rfl, rfl, rfl, rfl, hF, by rw [hres]; exact hM⟩)
    · exact absurd c13 (by decide)
  · (rw [hx1] at h1)
    obtain ⟨rfl, hf1, hM⟩ := h1
    have hM : MOk τ1 o (q1.2, u, e) := hM
    have hR : RM τ1 u := hM.2.2.2.2
    have hB := hB.fr hf1
    have hF := hF.trans hf1
    show V _ _ _ _ _ _ _ _ _ _ _ (.int (nI q1.1) :: _) _ _
    refine V.istore_n (q := 5) dX5_readsPolicy_4 rfl rfl rfl rfl ?_
    refine V.aload_n (q := 6) dX5_readsPolicy_5 rfl rfl ?_
    refine V.cVMP (q := 9) (As := []) dX5_readsPolicy_6 rfl (kU_semicolon hb ho hB hM) MX5_semicolon bw_1121 rfl rfl rfl rfl (by decide) rfl (fun v3 τ3 h3 => ?_)
    rcases hx3 : tkR o 20 q1.2 with e3 | q3
    · rw [hx3] at h3
      obtain ⟨rfl, hf3, hM⟩ := h3
      have hM : MFl τ3 o e3 := hM
      have hB := hB.fr hf3
      have hF := hF.trans hf3
      refine V.aload_n (q := 10) dX5_readsPolicy_9 rfl rfl ?_
      refine V.cVM (q := 13) dX5_readsPolicy_10 (As := []) rfl (kU_failedF hM) MX5_failed bw_1100 rfl rfl rfl rfl (by decide) rfl ?_
      refine V.if_ne (tgt := 23) (q := 16) dX5_readsPolicy_13 (by decide) rfl (fun c13 => ?_) (fun c13 => ?_)
      · exact V.vret dX5_readsPolicy_23 rfl (by
      have hr : polS o P u = .inr (q1.2, uS u 2 (nI q1.1)) := by
        unfold polS
        rw [hx1]; rfl
      have hres := smc_l2 hr hx3
      exact ⟨_, _, rfl, rfl, rfl, rfl, hF, by rw [hres]; exact hM⟩)
      · exact absurd c13 (by decide)
    · (rw [hx3] at h3)
      obtain ⟨rfl, hf3, hM⟩ := h3
      have hM : MOk τ3 o (q3, u, e) := hM
      have hR : RM τ3 u := hM.2.2.2.2
      have hB := hB.fr hf3
      have hF := hF.trans hf3
      refine V.aload_n (q := 10) dX5_readsPolicy_9 rfl rfl ?_
      refine V.cVM (q := 13) dX5_readsPolicy_10 (As := []) rfl (kU_failed hM) MX5_failed bw_1100 rfl rfl rfl rfl (by decide) rfl ?_
      refine V.if_ne (tgt := 23) (q := 16) dX5_readsPolicy_13 (by decide) rfl (fun c13 => ?_) (fun c13 => ?_)
      · exact absurd rfl c13
      · refine V.aload_n (q := 17) dX5_readsPolicy_16 rfl rfl ?_
        refine V.gM (q := 20) dX5_readsPolicy_17 (j := 1) rfl bw_1012 rfl rfl rfl rfl ?_
        refine V.iconst (q := 21) dX5_readsPolicy_20 (v := 2) rfl rfl ?_
        refine V.iload_n (q := 22) dX5_readsPolicy_21 rfl rfl ?_
        refine V.st12 (q := 23) dX5_readsPolicy_22 (i := 2) rfl rfl (by decide) rfl ?_
        have hR1 := hR.sc 2 (nI q1.1) (by decide)
        have hf5 : FrM τ3 (stA τ3 95 2 (nI q1.1)) := FrM.rf.ar
        have hM := hM.m hf5 hR1
        have hF := hF.trans hf5.u
        exact V.vret dX5_readsPolicy_23 rfl (by
      have hr : polS o P u = .inr (q1.2, uS u 2 (nI q1.1)) := by
        unfold polS
        rw [hx1]; rfl
      have hres := smc_r hr hx3
      exact ⟨_, _, rfl, rfl, rfl, rfl, hF, by rw [hres]; exact hM⟩)
set_option maxHeartbeats 4000000 in
theorem kU_readsExpectation {l : Launch} {G : GG} {σ : St} {o : Txt} {P e : Nat} {u : Vw} (hb : byT o) (ho : o.1 ≤ 500) (hB : MB σ o) (hM : MOk σ o (P, u, e)) (hO : Ok u) {P0 : Nat} : CtP l G TX5_readsExpectation 6 [.ref (gB G + 94), .int (nI P0)] σ (fun v τ => v = none ∧ FrU σ τ ∧ MC τ o e (smc o (expS o P0 P u))) := by
  have hI := hO.1
  obtain ⟨hF0, hN0, hFN0, h20, h2⟩ := hI.F
  have hfl : us u 0 - 1 = nI (uN u - 1) := by rw [hN0]; exact pk_sub (b := 1) (by omega)
  have ht9 : uT u ≤ 999 := hO.2
  have hR : RM σ u := hM.2.2.2.2
  have hF : FrU σ σ := FrU.rf
  refine CtP.ofV (by decide +kernel) rfl rfl (Nat.le_of_ble_eq_true rfl) ?_
  refine V.aload_n (q := 1) dX5_readsExpectation_0 rfl rfl ?_
  refine V.cVMP (q := 4) (As := []) dX5_readsExpectation_1 rfl (kU_counterWord hb ho hB hM) MX5_counterWord bw_1261 rfl rfl rfl rfl (by decide) rfl (fun v1 τ1 h1 => ?_)
  rcases hx1 : ctrR o P with e1 | q1
  · rw [hx1] at h1
    obtain ⟨rfl, hf1, hM⟩ := h1
    have hM : MFl τ1 o e1 := hM
    have hB := hB.fr hf1
    have hF := hF.trans hf1
    show V _ _ _ _ _ _ _ _ _ _ _ (.int (-1) :: _) _ _
    refine V.istore_n (q := 5) dX5_readsExpectation_4 rfl rfl rfl rfl ?_
    refine V.aload_n (q := 6) dX5_readsExpectation_5 rfl rfl ?_
    refine V.iconst (q := 7) dX5_readsExpectation_6 (v := 0) rfl rfl ?_
    refine V.sipush (q := 10) dX5_readsExpectation_7 (v := 999) rfl rfl ?_
    refine V.cVM (q := 13) dX5_readsExpectation_10 (As := [_, _]) rfl (kU_numberF hM) MX5_number bw_1110 rfl rfl rfl rfl (by decide) rfl ?_
    refine V.istore_n (q := 14) dX5_readsExpectation_13 rfl rfl rfl rfl ?_
    refine V.aload_n (q := 15) dX5_readsExpectation_14 rfl rfl ?_
    refine V.cVM (q := 18) dX5_readsExpectation_15 (As := []) rfl (kU_failedF hM) MX5_failed bw_1100 rfl rfl rfl rfl (by decide) rfl ?_
    refine V.if_ne (tgt := 36) (q := 21) dX5_readsExpectation_18 (by decide) rfl (fun c18 => ?_) (fun c18 => ?_)
    · refine V.aload_n (q := 37) dX5_readsExpectation_36 rfl rfl ?_
      refine V.cVM (q := 40) dX5_readsExpectation_37 (As := []) rfl (kU_semicolonF hM) MX5_semicolon bw_1121 rfl rfl rfl rfl (by decide) rfl ?_
      exact V.vret dX5_readsExpectation_40 rfl (by
      have hcv : cvR o P = .inl e1 := by
        unfold cvR
        rw [hx1]; rfl
      have hr : expS o P0 P u = .inl e1 := by
        unfold expS
        rw [hcv]; rfl
      have hres := smc_l (o := o) hr
      exact ⟨_, _, rfl, rfl, rfl, rfl, hF, by rw [hres]; exact hM⟩)
    · exact absurd c18 (by decide)
  · (rw [hx1] at h1)
    obtain ⟨rfl, hf1, hM⟩ := h1
    have hM : MOk τ1 o (q1.2, u, e) := hM
    have hR : RM τ1 u := hM.2.2.2.2
    have hc := (ctrR_r hx1).2.2
    have hB := hB.fr hf1
    have hF := hF.trans hf1
    show V _ _ _ _ _ _ _ _ _ _ _ (.int (nI (q1.1 - 14)) :: _) _ _
    refine V.istore_n (q := 5) dX5_readsExpectation_4 rfl rfl rfl rfl ?_
    refine V.aload_n (q := 6) dX5_readsExpectation_5 rfl rfl ?_
    refine V.iconst (q := 7) dX5_readsExpectation_6 (v := 0) rfl rfl ?_
    refine V.sipush (q := 10) dX5_readsExpectation_7 (v := 999) rfl rfl ?_
    refine V.cVMP (q := 13) (As := [_, _]) dX5_readsExpectation_10 rfl (kU_number hb ho hB hM (lo := 0) (hi := 999) (by omega) (by omega)) MX5_number bw_1110 rfl rfl rfl rfl (by decide) rfl (fun v2 τ2 h2 => ?_)
    rcases hx2 : numR o q1.2 0 999 with e2 | q2
    · rw [hx2] at h2
      obtain ⟨rfl, hf2, hM⟩ := h2
      have hM : MFl τ2 o e2 := hM
      have hB := hB.fr hf2
      have hF := hF.trans hf2
      show V _ _ _ _ _ _ _ _ _ _ _ (.int (nI 0) :: _) _ _
      refine V.istore_n (q := 14) dX5_readsExpectation_13 rfl rfl rfl rfl ?_
      refine V.aload_n (q := 15) dX5_readsExpectation_14 rfl rfl ?_
      refine V.cVM (q := 18) dX5_readsExpectation_15 (As := []) rfl (kU_failedF hM) MX5_failed bw_1100 rfl rfl rfl rfl (by decide) rfl ?_
      refine V.if_ne (tgt := 36) (q := 21) dX5_readsExpectation_18 (by decide) rfl (fun c18 => ?_) (fun c18 => ?_)
      · refine V.aload_n (q := 37) dX5_readsExpectation_36 rfl rfl ?_
        refine V.cVM (q := 40) dX5_readsExpectation_37 (As := []) rfl (kU_semicolonF hM) MX5_semicolon bw_1121 rfl rfl rfl rfl (by decide) rfl ?_
        exact V.vret dX5_readsExpectation_40 rfl (by
      have hcv : cvR o P = .inl e2 := by
        unfold cvR
        rw [hx1]
        show bnd (numR o q1.2 0 999) _ = _
        rw [hx2]; rfl
      have hr : expS o P0 P u = .inl e2 := by
        unfold expS
        rw [hcv]; rfl
      have hres := smc_l (o := o) hr
      exact ⟨_, _, rfl, rfl, rfl, rfl, hF, by rw [hres]; exact hM⟩)
      · exact absurd c18 (by decide)
    · (rw [hx2] at h2)
      obtain ⟨rfl, hf2, hM, hbg⟩ := h2
      have hM : MOk τ2 o (q2.2, u, e) := hM
      have hR : RM τ2 u := hM.2.2.2.2
      have hbg : sF τ2 94 12 = nI q1.2 := hbg
      have hn2 := numR_r hx2
      have hB := hB.fr hf2
      have hF := hF.trans hf2
      show V _ _ _ _ _ _ _ _ _ _ _ (.int (nI q2.1) :: _) _ _
      refine V.istore_n (q := 14) dX5_readsExpectation_13 rfl rfl rfl rfl ?_
      refine V.aload_n (q := 15) dX5_readsExpectation_14 rfl rfl ?_
      refine V.cVM (q := 18) dX5_readsExpectation_15 (As := []) rfl (kU_failed hM) MX5_failed bw_1100 rfl rfl rfl rfl (by decide) rfl ?_
      refine V.if_ne (tgt := 36) (q := 21) dX5_readsExpectation_18 (by decide) rfl (fun c18 => ?_) (fun c18 => ?_)
      · exact absurd rfl c18
      · refine V.aload_n (q := 22) dX5_readsExpectation_21 rfl rfl ?_
        refine V.iload_n (q := 23) dX5_readsExpectation_22 rfl rfl ?_
        refine V.cVM (q := 26) dX5_readsExpectation_23 (As := [_]) rfl (kU_counted hR hc) MX5_counted bw_1271 rfl rfl rfl rfl (by decide) rfl ?_
        refine V.iload_n (q := 27) dX5_readsExpectation_26 rfl rfl ?_
        refine V.icmp_eq (tgt := 36) (q := 30) dX5_readsExpectation_27 (by decide) rfl (fun c27 => ?_) (fun c27 => ?_)
        · refine V.aload_n (q := 37) dX5_readsExpectation_36 rfl rfl ?_
          refine V.cVMP (q := 40) (As := []) dX5_readsExpectation_37 rfl (kU_semicolon hb ho hB hM) MX5_semicolon bw_1121 rfl rfl rfl rfl (by decide) rfl (fun v3 τ3 h3 => ?_)
          rcases hx3 : tkR o 20 q2.2 with e3 | q3
          · rw [hx3] at h3
            obtain ⟨rfl, hf3, hM⟩ := h3
            have hM : MFl τ3 o e3 := hM
            have hB := hB.fr hf3
            have hF := hF.trans hf3
            exact V.vret dX5_readsExpectation_40 rfl (by
      have hcv : cvR o P = .inr (q1.1, q2.1, q1.2, q2.2) := by
        unfold cvR
        rw [hx1]
        show bnd (numR o q1.2 0 999) _ = _
        rw [hx2]; rfl
      have hr : expS o P0 P u = .inr (q2.2, u) := by
        unfold expS
        rw [hcv]
        exact if_pos c27
      have hres := smc_l2 hr hx3
      exact ⟨_, _, rfl, rfl, rfl, rfl, hF, by rw [hres]; exact hM⟩)
          · (rw [hx3] at h3)
            obtain ⟨rfl, hf3, hM⟩ := h3
            have hM : MOk τ3 o (q3, u, e) := hM
            have hR : RM τ3 u := hM.2.2.2.2
            have hB := hB.fr hf3
            have hF := hF.trans hf3
            exact V.vret dX5_readsExpectation_40 rfl (by
      have hcv : cvR o P = .inr (q1.1, q2.1, q1.2, q2.2) := by
        unfold cvR
        rw [hx1]
        show bnd (numR o q1.2 0 999) _ = _
        rw [hx2]; rfl
      have hr : expS o P0 P u = .inr (q2.2, u) := by
        unfold expS
        rw [hcv]
        exact if_pos c27
      have hres := smc_r hr hx3
      exact ⟨_, _, rfl, rfl, rfl, rfl, hF, by rw [hres]; exact hM⟩)
        · refine V.aload_n (q := 31) dX5_readsExpectation_30 rfl rfl ?_
          refine V.iconst (q := 32) dX5_readsExpectation_31 (v := 5) rfl rfl ?_
          refine V.iload_n (q := 33) dX5_readsExpectation_32 rfl rfl ?_
          refine V.cVM (q := 36) dX5_readsExpectation_33 (As := [_, _]) rfl (kU_fail hM) MX5_fail bw_1106 rfl rfl rfl rfl (by decide) rfl ?_
          have hM : MFl (stF (stF τ2 94 11 5) 94 10 (nI P0)) o (5, P0) := hM.fl (by decide) rfl rfl
          have hf4 : FrU τ2 (stF (stF τ2 94 11 5) 94 10 (nI P0)) := (FrU.f (by decide)).trans (FrU.f (by decide))
          have hB := hB.fr hf4
          have hF := hF.trans hf4
          generalize stF (stF τ2 94 11 5) 94 10 (nI P0) = τ4 at hM hf4 hB hF ⊢
          refine V.aload_n (q := 37) dX5_readsExpectation_36 rfl rfl ?_
          refine V.cVM (q := 40) dX5_readsExpectation_37 (As := []) rfl (kU_semicolonF hM) MX5_semicolon bw_1121 rfl rfl rfl rfl (by decide) rfl ?_
          exact V.vret dX5_readsExpectation_40 rfl (by
      have hcv : cvR o P = .inr (q1.1, q2.1, q1.2, q2.2) := by
        unfold cvR
        rw [hx1]
        show bnd (numR o q1.2 0 999) _ = _
        rw [hx2]; rfl
      have hr : expS o P0 P u = .inl (5, P0) := by
        unfold expS
        rw [hcv]
        exact if_neg c27
      have hres := smc_l (o := o) hr
      exact ⟨_, _, rfl, rfl, rfl, rfl, hF, by rw [hres]; exact hM⟩)
set_option maxHeartbeats 8000000 in
theorem kU_readsUntil {l : Launch} {G : GG} {σ : St} {o : Txt} {P e : Nat} {u : Vw} (hb : byT o) (ho : o.1 ≤ 500) (hB : MB σ o) (hM : MOk σ o (P, u, e)) (hO : Ok u) : CtP l G TX5_readsUntil 9 [.ref (gB G + 94)] σ (fun v τ => v = none ∧ FrU σ τ ∧ MC τ o e (smc o (untS o P u))) := by
  have hI := hO.1
  obtain ⟨hF0, hN0, hFN0, h20, h2⟩ := hI.F
  have hfl : us u 0 - 1 = nI (uN u - 1) := by rw [hN0]; exact pk_sub (b := 1) (by omega)
  have ht9 : uT u ≤ 999 := hO.2
  have hR : RM σ u := hM.2.2.2.2
  have hF : FrU σ σ := FrU.rf
  refine CtP.ofV (by decide +kernel) rfl rfl (Nat.le_of_ble_eq_true rfl) ?_
  refine V.aload_n (q := 1) dX5_readsUntil_0 rfl rfl ?_
  refine V.cVMP (q := 4) (As := []) dX5_readsUntil_1 rfl (kU_counterWord hb ho hB hM) MX5_counterWord bw_1261 rfl rfl rfl rfl (by decide) rfl (fun v1 τ1 h1 => ?_)
  rcases hx1 : ctrR o P with e1 | q1
  · rw [hx1] at h1
    obtain ⟨rfl, hf1, hM⟩ := h1
    have hM : MFl τ1 o e1 := hM
    have hB := hB.fr hf1
    have hF := hF.trans hf1
    show V _ _ _ _ _ _ _ _ _ _ _ (.int (-1) :: _) _ _
    refine V.istore_n (q := 5) dX5_readsUntil_4 rfl rfl rfl rfl ?_
    refine V.aload_n (q := 6) dX5_readsUntil_5 rfl rfl ?_
    refine V.iconst (q := 7) dX5_readsUntil_6 (v := 0) rfl rfl ?_
    refine V.sipush (q := 10) dX5_readsUntil_7 (v := 999) rfl rfl ?_
    refine V.cVM (q := 13) dX5_readsUntil_10 (As := [_, _]) rfl (kU_numberF hM) MX5_number bw_1110 rfl rfl rfl rfl (by decide) rfl ?_
    refine V.istore_n (q := 14) dX5_readsUntil_13 rfl rfl rfl rfl ?_
    refine V.aload_n (q := 15) dX5_readsUntil_14 rfl rfl ?_
    refine V.cVM (q := 18) dX5_readsUntil_15 (As := []) rfl (kU_failedF hM) MX5_failed bw_1100 rfl rfl rfl rfl (by decide) rfl ?_
    refine V.if_ne (tgt := 49) (q := 21) dX5_readsUntil_18 (by decide) rfl (fun c18 => ?_) (fun c18 => ?_)
    · refine V.aload_n (q := 50) dX5_readsUntil_49 rfl rfl ?_
      refine V.cVM (q := 53) dX5_readsUntil_50 (As := []) rfl (kU_failedF hM) MX5_failed bw_1100 rfl rfl rfl rfl (by decide) rfl ?_
      refine V.if_ne (tgt := 74) (q := 56) dX5_readsUntil_53 (by decide) rfl (fun c53 => ?_) (fun c53 => ?_)
      · refine V.aload_n (q := 75) dX5_readsUntil_74 rfl rfl ?_
        refine V.cVM (q := 78) dX5_readsUntil_75 (As := []) rfl (kU_semicolonF hM) MX5_semicolon bw_1121 rfl rfl rfl rfl (by decide) rfl ?_
        exact V.vret dX5_readsUntil_78 rfl (by
      have hcv : cvR o P = .inl e1 := by
        unfold cvR
        rw [hx1]; rfl
      have hr : untS o P u = .inl e1 := by
        unfold untS
        rw [hcv]; rfl
      have hres := smc_l (o := o) hr
      exact ⟨_, _, rfl, rfl, rfl, rfl, hF, by rw [hres]; exact hM⟩)
      · exact absurd c53 (by decide)
    · exact absurd c18 (by decide)
  · (rw [hx1] at h1)
    obtain ⟨rfl, hf1, hM⟩ := h1
    have hM : MOk τ1 o (q1.2, u, e) := hM
    have hR : RM τ1 u := hM.2.2.2.2
    have hc := (ctrR_r hx1).2.2
    have hB := hB.fr hf1
    have hF := hF.trans hf1
    show V _ _ _ _ _ _ _ _ _ _ _ (.int (nI (q1.1 - 14)) :: _) _ _
    refine V.istore_n (q := 5) dX5_readsUntil_4 rfl rfl rfl rfl ?_
    refine V.aload_n (q := 6) dX5_readsUntil_5 rfl rfl ?_
    refine V.iconst (q := 7) dX5_readsUntil_6 (v := 0) rfl rfl ?_
    refine V.sipush (q := 10) dX5_readsUntil_7 (v := 999) rfl rfl ?_
    refine V.cVMP (q := 13) (As := [_, _]) dX5_readsUntil_10 rfl (kU_number hb ho hB hM (lo := 0) (hi := 999) (by omega) (by omega)) MX5_number bw_1110 rfl rfl rfl rfl (by decide) rfl (fun v2 τ2 h2 => ?_)
    rcases hx2 : numR o q1.2 0 999 with e2 | q2
    · rw [hx2] at h2
      obtain ⟨rfl, hf2, hM⟩ := h2
      have hM : MFl τ2 o e2 := hM
      have hB := hB.fr hf2
      have hF := hF.trans hf2
      show V _ _ _ _ _ _ _ _ _ _ _ (.int (nI 0) :: _) _ _
      refine V.istore_n (q := 14) dX5_readsUntil_13 rfl rfl rfl rfl ?_
      refine V.aload_n (q := 15) dX5_readsUntil_14 rfl rfl ?_
      refine V.cVM (q := 18) dX5_readsUntil_15 (As := []) rfl (kU_failedF hM) MX5_failed bw_1100 rfl rfl rfl rfl (by decide) rfl ?_
      refine V.if_ne (tgt := 49) (q := 21) dX5_readsUntil_18 (by decide) rfl (fun c18 => ?_) (fun c18 => ?_)
      · refine V.aload_n (q := 50) dX5_readsUntil_49 rfl rfl ?_
        refine V.cVM (q := 53) dX5_readsUntil_50 (As := []) rfl (kU_failedF hM) MX5_failed bw_1100 rfl rfl rfl rfl (by decide) rfl ?_
        refine V.if_ne (tgt := 74) (q := 56) dX5_readsUntil_53 (by decide) rfl (fun c53 => ?_) (fun c53 => ?_)
        · refine V.aload_n (q := 75) dX5_readsUntil_74 rfl rfl ?_
          refine V.cVM (q := 78) dX5_readsUntil_75 (As := []) rfl (kU_semicolonF hM) MX5_semicolon bw_1121 rfl rfl rfl rfl (by decide) rfl ?_
          exact V.vret dX5_readsUntil_78 rfl (by
      have hcv : cvR o P = .inl e2 := by
        unfold cvR
        rw [hx1]
        show bnd (numR o q1.2 0 999) _ = _
        rw [hx2]; rfl
      have hr : untS o P u = .inl e2 := by
        unfold untS
        rw [hcv]; rfl
      have hres := smc_l (o := o) hr
      exact ⟨_, _, rfl, rfl, rfl, rfl, hF, by rw [hres]; exact hM⟩)
        · exact absurd c53 (by decide)
      · exact absurd c18 (by decide)
    · (rw [hx2] at h2)
      obtain ⟨rfl, hf2, hM, hbg⟩ := h2
      have hM : MOk τ2 o (q2.2, u, e) := hM
      have hR : RM τ2 u := hM.2.2.2.2
      have hbg : sF τ2 94 12 = nI q1.2 := hbg
      have hn2 := numR_r hx2
      have hB := hB.fr hf2
      have hF := hF.trans hf2
      show V _ _ _ _ _ _ _ _ _ _ _ (.int (nI q2.1) :: _) _ _
      refine V.istore_n (q := 14) dX5_readsUntil_13 rfl rfl rfl rfl ?_
      have loop : ∀ (m : Nat) (v : Vw) (τ : St), m = 999 - uT v → uT v ≤ 999 → Iu v → untU q1.1 q2.1 (999 - uT v) v = untU q1.1 q2.1 (999 - uT u) u → FrU σ τ → MB τ o → MOk τ o (q2.2, v, e) → sF τ 94 12 = nI q1.2 → V l G TX5_readsUntil 9 0 0 (RetP G (fun v τ => v = none ∧ FrU σ τ ∧ MC τ o e (smc o (untS o P u)))) 0 0 14 [some (.ref (gB G + 94)), some (.int (nI (q1.1 - 14))), some (.int (nI q2.1))] [] (hof G τ) NC := by
        intro m
        induction m using Nat.strongRecOn with
        | _ m ih =>
          intro v τ hm hv9 hIv hU hF hB hM hbg
          have hR : RM τ v := hM.2.2.2.2
          refine V.aload_n (q := 15) dX5_readsUntil_14 rfl rfl ?_
          refine V.cVM (q := 18) dX5_readsUntil_15 (As := []) rfl (kU_failed hM) MX5_failed bw_1100 rfl rfl rfl rfl (by decide) rfl ?_
          refine V.if_ne (tgt := 49) (q := 21) dX5_readsUntil_18 (by decide) rfl (fun c18 => ?_) (fun c18 => ?_)
          · exact absurd rfl c18
          · refine V.aload_n (q := 22) dX5_readsUntil_21 rfl rfl ?_
            refine V.iload_n (q := 23) dX5_readsUntil_22 rfl rfl ?_
            refine V.cVM (q := 26) dX5_readsUntil_23 (As := [_]) rfl (kU_counted hR hc) MX5_counted bw_1271 rfl rfl rfl rfl (by decide) rfl ?_
            refine V.iload_n (q := 27) dX5_readsUntil_26 rfl rfl ?_
            refine V.icmp_ge (tgt := 49) (q := 30) dX5_readsUntil_27 (by decide) rfl (fun c27 => ?_) (fun c27 => ?_)
            · have hW : v = untU q1.1 q2.1 (999 - uT u) u := by
                rw [← hU]
                cases 999 - uT v with
                | zero => rfl
                | succ j => exact (if_neg (Int32.not_lt.mpr c27)).symm
              refine V.aload_n (q := 50) dX5_readsUntil_49 rfl rfl ?_
              refine V.cVM (q := 53) dX5_readsUntil_50 (As := []) rfl (kU_failed hM) MX5_failed bw_1100 rfl rfl rfl rfl (by decide) rfl ?_
              refine V.if_ne (tgt := 74) (q := 56) dX5_readsUntil_53 (by decide) rfl (fun c53 => ?_) (fun c53 => ?_)
              · exact absurd rfl c53
              · refine V.aload_n (q := 57) dX5_readsUntil_56 rfl rfl ?_
                refine V.iload_n (q := 58) dX5_readsUntil_57 rfl rfl ?_
                refine V.cVM (q := 61) dX5_readsUntil_58 (As := [_]) rfl (kU_counted hR hc) MX5_counted bw_1271 rfl rfl rfl rfl (by decide) rfl ?_
                refine V.iload_n (q := 62) dX5_readsUntil_61 rfl rfl ?_
                refine V.icmp_ge (tgt := 74) (q := 65) dX5_readsUntil_62 (by decide) rfl (fun c62 => ?_) (fun c62 => ?_)
                · refine V.aload_n (q := 75) dX5_readsUntil_74 rfl rfl ?_
                  refine V.cVMP (q := 78) (As := []) dX5_readsUntil_75 rfl (kU_semicolon hb ho hB hM) MX5_semicolon bw_1121 rfl rfl rfl rfl (by decide) rfl (fun v3 τ3 h3 => ?_)
                  rcases hx3 : tkR o 20 q2.2 with e3 | q3
                  · rw [hx3] at h3
                    obtain ⟨rfl, hf3, hM⟩ := h3
                    have hM : MFl τ3 o e3 := hM
                    have hB := hB.fr hf3
                    have hF := hF.trans hf3
                    exact V.vret dX5_readsUntil_78 rfl (by
          have hcv : cvR o P = .inr (q1.1, q2.1, q1.2, q2.2) := by
            unfold cvR
            rw [hx1]
            show bnd (numR o q1.2 0 999) _ = _
            rw [hx2]; rfl
          have hr : untS o P u = .inr (q2.2, untU q1.1 q2.1 (999 - uT u) u) := by
            unfold untS
            rw [hcv]
            show (if _ < _ then _ else _) = _
            exact if_neg (by rw [← hW]; exact Int32.not_lt.mpr c62)
          have hres := smc_l2 hr hx3
          exact ⟨_, _, rfl, rfl, rfl, rfl, hF, by rw [hres]; exact hM⟩)
                  · (rw [hx3] at h3)
                    obtain ⟨rfl, hf3, hM⟩ := h3
                    have hM : MOk τ3 o (q3, v, e) := hM
                    have hR : RM τ3 v := hM.2.2.2.2
                    have hB := hB.fr hf3
                    have hF := hF.trans hf3
                    exact V.vret dX5_readsUntil_78 rfl (by
          have hcv : cvR o P = .inr (q1.1, q2.1, q1.2, q2.2) := by
            unfold cvR
            rw [hx1]
            show bnd (numR o q1.2 0 999) _ = _
            rw [hx2]; rfl
          have hr : untS o P u = .inr (q2.2, untU q1.1 q2.1 (999 - uT u) u) := by
            unfold untS
            rw [hcv]
            show (if _ < _ then _ else _) = _
            exact if_neg (by rw [← hW]; exact Int32.not_lt.mpr c62)
          have hres := smc_r hr hx3
          rw [hW] at hM
          exact ⟨_, _, rfl, rfl, rfl, rfl, hF, by rw [hres]; exact hM⟩)
                · refine V.aload_n (q := 66) dX5_readsUntil_65 rfl rfl ?_
                  refine V.iconst (q := 67) dX5_readsUntil_66 (v := 4) rfl rfl ?_
                  refine V.aload_n (q := 68) dX5_readsUntil_67 rfl rfl ?_
                  refine V.gM (q := 71) dX5_readsUntil_68 (j := 12) rfl bw_1023 rfl rfl rfl rfl ?_
                  rw [hbg]
                  refine V.cVM (q := 74) dX5_readsUntil_71 (As := [_, _]) rfl (kU_fail hM) MX5_fail bw_1106 rfl rfl rfl rfl (by decide) rfl ?_
                  have hM : MFl (stF (stF τ 94 11 4) 94 10 (nI q1.2)) o (4, q1.2) := hM.fl (by decide) rfl rfl
                  have hf6 : FrU τ (stF (stF τ 94 11 4) 94 10 (nI q1.2)) := (FrU.f (by decide)).trans (FrU.f (by decide))
                  have hB := hB.fr hf6
                  have hF := hF.trans hf6
                  generalize stF (stF τ 94 11 4) 94 10 (nI q1.2) = τ6 at hM hf6 hB hF ⊢
                  refine V.aload_n (q := 75) dX5_readsUntil_74 rfl rfl ?_
                  refine V.cVM (q := 78) dX5_readsUntil_75 (As := []) rfl (kU_semicolonF hM) MX5_semicolon bw_1121 rfl rfl rfl rfl (by decide) rfl ?_
                  exact V.vret dX5_readsUntil_78 rfl (by
          have hcv : cvR o P = .inr (q1.1, q2.1, q1.2, q2.2) := by
            unfold cvR
            rw [hx1]
            show bnd (numR o q1.2 0 999) _ = _
            rw [hx2]; rfl
          have hr : untS o P u = .inl (4, q1.2) := by
            unfold untS
            rw [hcv]
            show (if _ < _ then _ else _) = _
            exact if_pos (by rw [← hW]; exact Int32.not_le.mp c62)
          have hres := smc_l (o := o) hr
          exact ⟨_, _, rfl, rfl, rfl, rfl, hF, by rw [hres]; exact hM⟩)
            · have hlt := Int32.not_le.mp c27
              refine V.aload_n (q := 31) dX5_readsUntil_30 rfl rfl ?_
              refine V.gM (q := 34) dX5_readsUntil_31 (j := 1) rfl bw_1012 rfl rfl rfl rfl ?_
              refine V.iconst (q := 35) dX5_readsUntil_34 (v := 3) rfl rfl ?_
              refine V.ldMu (q := 36) 3 dX5_readsUntil_35 hR rfl rfl rfl ?_
              rw [RC.u3 hIv]
              refine V.sipush (q := 39) dX5_readsUntil_36 (v := 999) rfl rfl ?_
              refine V.icmp_ge (tgt := 49) (q := 42) dX5_readsUntil_39 (by decide) rfl (fun c39 => ?_) (fun c39 => ?_)
              · have h9 : 999 ≤ uT v := nle (a := 999) c39 (by decide) (by omega)
                have hW : v = untU q1.1 q2.1 (999 - uT u) u := by rw [← hU, show 999 - uT v = 0 by omega]; rfl
                refine V.aload_n (q := 50) dX5_readsUntil_49 rfl rfl ?_
                refine V.cVM (q := 53) dX5_readsUntil_50 (As := []) rfl (kU_failed hM) MX5_failed bw_1100 rfl rfl rfl rfl (by decide) rfl ?_
                refine V.if_ne (tgt := 74) (q := 56) dX5_readsUntil_53 (by decide) rfl (fun c53 => ?_) (fun c53 => ?_)
                · exact absurd rfl c53
                · refine V.aload_n (q := 57) dX5_readsUntil_56 rfl rfl ?_
                  refine V.iload_n (q := 58) dX5_readsUntil_57 rfl rfl ?_
                  refine V.cVM (q := 61) dX5_readsUntil_58 (As := [_]) rfl (kU_counted hR hc) MX5_counted bw_1271 rfl rfl rfl rfl (by decide) rfl ?_
                  refine V.iload_n (q := 62) dX5_readsUntil_61 rfl rfl ?_
                  refine V.icmp_ge (tgt := 74) (q := 65) dX5_readsUntil_62 (by decide) rfl (fun c62 => ?_) (fun c62 => ?_)
                  · refine V.aload_n (q := 75) dX5_readsUntil_74 rfl rfl ?_
                    refine V.cVMP (q := 78) (As := []) dX5_readsUntil_75 rfl (kU_semicolon hb ho hB hM) MX5_semicolon bw_1121 rfl rfl rfl rfl (by decide) rfl (fun v3 τ3 h3 => ?_)
                    rcases hx3 : tkR o 20 q2.2 with e3 | q3
                    · rw [hx3] at h3
                      obtain ⟨rfl, hf3, hM⟩ := h3
                      have hM : MFl τ3 o e3 := hM
                      have hB := hB.fr hf3
                      have hF := hF.trans hf3
                      exact V.vret dX5_readsUntil_78 rfl (by
          have hcv : cvR o P = .inr (q1.1, q2.1, q1.2, q2.2) := by
            unfold cvR
            rw [hx1]
            show bnd (numR o q1.2 0 999) _ = _
            rw [hx2]; rfl
          have hr : untS o P u = .inr (q2.2, untU q1.1 q2.1 (999 - uT u) u) := by
            unfold untS
            rw [hcv]
            show (if _ < _ then _ else _) = _
            exact if_neg (by rw [← hW]; exact Int32.not_lt.mpr c62)
          have hres := smc_l2 hr hx3
          exact ⟨_, _, rfl, rfl, rfl, rfl, hF, by rw [hres]; exact hM⟩)
                    · (rw [hx3] at h3)
                      obtain ⟨rfl, hf3, hM⟩ := h3
                      have hM : MOk τ3 o (q3, v, e) := hM
                      have hR : RM τ3 v := hM.2.2.2.2
                      have hB := hB.fr hf3
                      have hF := hF.trans hf3
                      exact V.vret dX5_readsUntil_78 rfl (by
          have hcv : cvR o P = .inr (q1.1, q2.1, q1.2, q2.2) := by
            unfold cvR
            rw [hx1]
            show bnd (numR o q1.2 0 999) _ = _
            rw [hx2]; rfl
          have hr : untS o P u = .inr (q2.2, untU q1.1 q2.1 (999 - uT u) u) := by
            unfold untS
            rw [hcv]
            show (if _ < _ then _ else _) = _
            exact if_neg (by rw [← hW]; exact Int32.not_lt.mpr c62)
          have hres := smc_r hr hx3
          rw [hW] at hM
          exact ⟨_, _, rfl, rfl, rfl, rfl, hF, by rw [hres]; exact hM⟩)
                  · refine V.aload_n (q := 66) dX5_readsUntil_65 rfl rfl ?_
                    refine V.iconst (q := 67) dX5_readsUntil_66 (v := 4) rfl rfl ?_
                    refine V.aload_n (q := 68) dX5_readsUntil_67 rfl rfl ?_
                    refine V.gM (q := 71) dX5_readsUntil_68 (j := 12) rfl bw_1023 rfl rfl rfl rfl ?_
                    rw [hbg]
                    refine V.cVM (q := 74) dX5_readsUntil_71 (As := [_, _]) rfl (kU_fail hM) MX5_fail bw_1106 rfl rfl rfl rfl (by decide) rfl ?_
                    have hM : MFl (stF (stF τ 94 11 4) 94 10 (nI q1.2)) o (4, q1.2) := hM.fl (by decide) rfl rfl
                    have hf6 : FrU τ (stF (stF τ 94 11 4) 94 10 (nI q1.2)) := (FrU.f (by decide)).trans (FrU.f (by decide))
                    have hB := hB.fr hf6
                    have hF := hF.trans hf6
                    generalize stF (stF τ 94 11 4) 94 10 (nI q1.2) = τ6 at hM hf6 hB hF ⊢
                    refine V.aload_n (q := 75) dX5_readsUntil_74 rfl rfl ?_
                    refine V.cVM (q := 78) dX5_readsUntil_75 (As := []) rfl (kU_semicolonF hM) MX5_semicolon bw_1121 rfl rfl rfl rfl (by decide) rfl ?_
                    exact V.vret dX5_readsUntil_78 rfl (by
          have hcv : cvR o P = .inr (q1.1, q2.1, q1.2, q2.2) := by
            unfold cvR
            rw [hx1]
            show bnd (numR o q1.2 0 999) _ = _
            rw [hx2]; rfl
          have hr : untS o P u = .inl (4, q1.2) := by
            unfold untS
            rw [hcv]
            show (if _ < _ then _ else _) = _
            exact if_pos (by rw [← hW]; exact Int32.not_le.mp c62)
          have hres := smc_l (o := o) hr
          exact ⟨_, _, rfl, rfl, rfl, rfl, hF, by rw [hres]; exact hM⟩)
              · have h9 : uT v < 999 := nnle (a := 999) c39 (by decide) (by omega)
                have hI2 := Iu_tkN hIv (by omega)
                have hT2 := (tk_T hIv).1
                refine V.aload_n (q := 43) dX5_readsUntil_42 rfl rfl ?_
                refine V.cVMP (q := 46) (As := []) dX5_readsUntil_43 rfl (cM_ticks hR hIv) MX5_ticks bw_1168 rfl rfl rfl rfl (by decide) rfl (fun v4 τ4 h4 => ?_)
                obtain ⟨rfl, hf4, hR⟩ := h4
                refine V.goto (tgt := 14) dX5_readsUntil_46 (by decide) ?_
                refine ih _ (by omega) (tk v) τ4 rfl (by omega) hI2 ?_ (hF.trans hf4.u) (hB.fr hf4.u) (hM.m hf4 hR) (by rw [hf4.1]; exact hbg)
                rw [← hU, hT2, show 999 - uT v = (999 - (uT v + 1)) + 1 by omega]
                exact (if_pos hlt).symm
      exact loop _ u _ rfl ht9 hI rfl hF hB hM hbg
