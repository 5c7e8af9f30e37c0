/-! the model: forecasts -/
set_option maxHeartbeats 2000000 in
theorem kM_ticksToFinish {l : Launch} {G : GG} {σ : St} {u : Vw} (hM : RM σ u) (hI : Iu u) (ht : uT u ≤ 999) : CtP l G TX5_ticksToFinish 11 [.ref (gB G + 94)] σ (fun v τ => v = some (.int (nI (fcn u (us u 2) (us u 1)))) ∧ FrX σ τ ∧ RM τ u ∧ thr τ = 0) := by
  have hn : un u ≤ 40 := hM.1
  refine CtP.ofV (by decide +kernel) rfl rfl (Nat.le_of_ble_eq_true rfl) ?_
  refine V.aload_n (q := 1) dX5_ticksToFinish_0 rfl rfl ?_
  refine V.iconst (q := 2) dX5_ticksToFinish_1 (v := 0) rfl rfl ?_
  refine V.pM (q := 5) dX5_ticksToFinish_2 (j := 0) rfl bw_1011 rfl rfl rfl rfl rfl rfl ?_
  have hM : RM (stF σ 94 0 0) u := hM.scF
  refine V.aload_n (q := 6) dX5_ticksToFinish_5 rfl rfl ?_
  refine V.bipush (q := 8) dX5_ticksToFinish_6 (v := 11) rfl rfl ?_
  refine V.cVMP (q := 11) (As := [_]) dX5_ticksToFinish_8 rfl (cM_keeps (pl := 11) (by decide)) MX5_keeps bw_1080 rfl rfl rfl rfl (by decide) rfl (fun v3 τ3 h3 => ?_)
  obtain ⟨rfl, hK⟩ := h3
  have hKM := hK.at hM
  have hM := hK.1.RM hM
  have ht3 := hK.1.thr
  refine V.aload_n (q := 12) dX5_ticksToFinish_11 rfl rfl ?_
  refine V.cVMP (q := 15) (As := []) dX5_ticksToFinish_12 rfl (cM_forecasts hM hI) MX5_forecasts bw_1519 rfl rfl rfl rfl (by decide) rfl (fun v4 τ4 h4 => ?_)
  obtain ⟨rfl, hF, hM⟩ := h4
  rw [(fc_own hI ht).1] at hM
  rw [(fc_own hI ht).2]
  refine V.istore_n (q := 16) dX5_ticksToFinish_15 rfl rfl rfl rfl ?_
  refine V.aload_n (q := 17) dX5_ticksToFinish_16 rfl rfl ?_
  refine V.bipush (q := 19) dX5_ticksToFinish_17 (v := 11) rfl rfl ?_
  refine V.cVMP (q := 22) (As := [_]) dX5_ticksToFinish_19 rfl (cM_bringsBack (pl := 11) (by decide)) MX5_bringsBack bw_1291 rfl rfl rfl rfl (by decide) rfl (fun v5 τ5 h5 => ?_)
  obtain ⟨rfl, hB⟩ := h5
  have hMe := hB.at (hF.KM hKM)
  have hX := hK.x.trans (hF.x |>.trans hB.x)
  have hT := (hB.1.thr).trans ((hF.thr).trans ht3)
  refine V.iload_n (q := 23) dX5_ticksToFinish_22 rfl rfl ?_
  exact V.iret dX5_ticksToFinish_23 rfl ⟨_, _, rfl, rfl, rfl, rfl, FrX.z.trans hX, hMe, hT.trans thr_z⟩
set_option maxHeartbeats 2000000 in
theorem kM_ticksWithPolicy {l : Launch} {G : GG} {σ : St} {u : Vw} (hM : RM σ u) (hI : Iu u) (ht : uT u ≤ 999) {x : Int32} : CtP l G TX5_ticksWithPolicy 11 [.ref (gB G + 94), .int x] σ (fun v τ => v = some (.int (if okI 0 2 x = true then nI (fcn u x (us u 1)) else 0)) ∧ FrX σ τ ∧ RM τ u ∧ thr τ = if okI 0 2 x = true then 0 else 1) := by
  have hn : un u ≤ 40 := hM.1
  refine CtP.ofV (by decide +kernel) rfl rfl (Nat.le_of_ble_eq_true rfl) ?_
  refine V.aload_n (q := 1) dX5_ticksWithPolicy_0 rfl rfl ?_
  refine V.iconst (q := 2) dX5_ticksWithPolicy_1 (v := 0) rfl rfl ?_
  refine V.pM (q := 5) dX5_ticksWithPolicy_2 (j := 0) rfl bw_1011 rfl rfl rfl rfl rfl rfl ?_
  have hM : RM (stF σ 94 0 0) u := hM.scF
  refine V.aload_n (q := 6) dX5_ticksWithPolicy_5 rfl rfl ?_
  refine V.iload_n (q := 7) dX5_ticksWithPolicy_6 rfl rfl ?_
  refine V.cVMP (q := 10) (As := [_]) dX5_ticksWithPolicy_7 rfl (kM_noY hM) MX5_noPolicy bw_1347 rfl rfl rfl rfl (by decide) rfl (fun v1 τ1 h1 => ?_)
  obtain ⟨rfl, h1⟩ := h1
  refine V.if_eq (tgt := 15) (q := 13) dX5_ticksWithPolicy_10 (by decide) rfl (fun c10 => ?_) (fun c10 => ?_)
  · have g : okI 0 2 x = true := by
      cases z : okI 0 2 x with
      | true => rfl
      | false => rw [z] at c10; exact absurd c10 (by decide)
    rw [if_pos g] at h1
    subst h1
    refine V.aload_n (q := 16) dX5_ticksWithPolicy_15 rfl rfl ?_
    refine V.bipush (q := 18) dX5_ticksWithPolicy_16 (v := 11) rfl rfl ?_
    refine V.cVMP (q := 21) (As := [_]) dX5_ticksWithPolicy_18 rfl (cM_keeps (pl := 11) (by decide)) MX5_keeps bw_1080 rfl rfl rfl rfl (by decide) rfl (fun v3 τ3 h3 => ?_)
    obtain ⟨rfl, hK⟩ := h3
    have hKM := hK.at hM
    have hM := hK.1.RM hM
    have ht3 := hK.1.thr
    refine V.aload_n (q := 22) dX5_ticksWithPolicy_21 rfl rfl ?_
    refine V.gM (q := 25) dX5_ticksWithPolicy_22 (j := 1) rfl bw_1012 rfl rfl rfl rfl ?_
    refine V.iconst (q := 26) dX5_ticksWithPolicy_25 (v := 2) rfl rfl ?_
    refine V.iload_n (q := 27) dX5_ticksWithPolicy_26 rfl rfl ?_
    refine V.st12 (q := 28) dX5_ticksWithPolicy_27 (i := 2) rfl rfl (by decide) rfl ?_
    have hI2 : Iu (uS u 2 x) := by have := hI.ownC g; rw [uS_pol] at this; exact this
    have hM := RM.sc hM 2 x (by decide)
    refine V.aload_n (q := 29) dX5_ticksWithPolicy_28 rfl rfl ?_
    refine V.cVMP (q := 32) (As := []) dX5_ticksWithPolicy_29 rfl (cM_forecasts hM hI2) MX5_forecasts bw_1519 rfl rfl rfl rfl (by decide) rfl (fun v4 τ4 h4 => ?_)
    obtain ⟨rfl, hF, hM⟩ := h4
    have eT : uT (uS u 2 x) = uT u := uT_sc (by decide)
    rw [eT, (fc_pol (hI.ownC g) ht).1] at hM
    rw [eT, (fc_pol (hI.ownC g) ht).2]
    refine V.istore_n (q := 33) dX5_ticksWithPolicy_32 rfl rfl rfl rfl ?_
    refine V.aload_n (q := 34) dX5_ticksWithPolicy_33 rfl rfl ?_
    refine V.bipush (q := 36) dX5_ticksWithPolicy_34 (v := 11) rfl rfl ?_
    refine V.cVMP (q := 39) (As := [_]) dX5_ticksWithPolicy_36 rfl (cM_bringsBack (pl := 11) (by decide)) MX5_bringsBack bw_1291 rfl rfl rfl rfl (by decide) rfl (fun v5 τ5 h5 => ?_)
    obtain ⟨rfl, hB⟩ := h5
    have hMe := hB.at (hF.KM (FrM.KM (FrM.ar FrM.rf) hKM))
    have hX := hK.x.trans (FrM.x (FrM.trans (FrM.ar FrM.rf) hF) |>.trans hB.x)
    have hT := (hB.1.thr).trans ((hF.thr).trans ht3)
    refine V.iload_n (q := 40) dX5_ticksWithPolicy_39 rfl rfl ?_
    exact V.iret dX5_ticksWithPolicy_40 rfl ⟨_, _, rfl, rfl, rfl, by rw [if_pos g], FrX.z.trans hX, hMe, by rw [if_pos g]; exact hT.trans thr_z⟩
  · have g : okI 0 2 x = false := by
      cases z : okI 0 2 x with
      | true => rw [z] at c10; exact absurd rfl c10
      | false => rfl
    rw [if_neg (by rw [g]; decide)] at h1
    subst h1
    refine V.iconst (q := 14) dX5_ticksWithPolicy_13 (v := 0) rfl rfl ?_
    exact V.iret dX5_ticksWithPolicy_14 rfl ⟨_, _, rfl, rfl, rfl, by rw [if_neg (by rw [g]; decide)], FrX.z.trans FrX.z, hM.scF, by rw [if_neg (by rw [g]; decide)]; exact thr_z⟩
set_option maxHeartbeats 2000000 in
theorem kM_longestWaitWithPolicy {l : Launch} {G : GG} {σ : St} {u : Vw} (hM : RM σ u) (hI : Iu u) (ht : uT u ≤ 999) {x : Int32} : CtP l G TX5_longestWaitWithPolicy 11 [.ref (gB G + 94), .int x] σ (fun v τ => v = some (.int (if okI 0 2 x = true then wmax (fcu u x (us u 1)) else 0)) ∧ FrX σ τ ∧ RM τ u ∧ thr τ = if okI 0 2 x = true then 0 else 1) := by
  have hn : un u ≤ 40 := hM.1
  refine CtP.ofV (by decide +kernel) rfl rfl (Nat.le_of_ble_eq_true rfl) ?_
  refine V.aload_n (q := 1) dX5_longestWaitWithPolicy_0 rfl rfl ?_
  refine V.iconst (q := 2) dX5_longestWaitWithPolicy_1 (v := 0) rfl rfl ?_
  refine V.pM (q := 5) dX5_longestWaitWithPolicy_2 (j := 0) rfl bw_1011 rfl rfl rfl rfl rfl rfl ?_
  have hM : RM (stF σ 94 0 0) u := hM.scF
  refine V.aload_n (q := 6) dX5_longestWaitWithPolicy_5 rfl rfl ?_
  refine V.iload_n (q := 7) dX5_longestWaitWithPolicy_6 rfl rfl ?_
  refine V.cVMP (q := 10) (As := [_]) dX5_longestWaitWithPolicy_7 rfl (kM_noY hM) MX5_noPolicy bw_1347 rfl rfl rfl rfl (by decide) rfl (fun v1 τ1 h1 => ?_)
  obtain ⟨rfl, h1⟩ := h1
  refine V.if_eq (tgt := 15) (q := 13) dX5_longestWaitWithPolicy_10 (by decide) rfl (fun c10 => ?_) (fun c10 => ?_)
  · have g : okI 0 2 x = true := by
      cases z : okI 0 2 x with
      | true => rfl
      | false => rw [z] at c10; exact absurd c10 (by decide)
    rw [if_pos g] at h1
    subst h1
    refine V.aload_n (q := 16) dX5_longestWaitWithPolicy_15 rfl rfl ?_
    refine V.bipush (q := 18) dX5_longestWaitWithPolicy_16 (v := 11) rfl rfl ?_
    refine V.cVMP (q := 21) (As := [_]) dX5_longestWaitWithPolicy_18 rfl (cM_keeps (pl := 11) (by decide)) MX5_keeps bw_1080 rfl rfl rfl rfl (by decide) rfl (fun v3 τ3 h3 => ?_)
    obtain ⟨rfl, hK⟩ := h3
    have hKM := hK.at hM
    have hM := hK.1.RM hM
    have ht3 := hK.1.thr
    refine V.aload_n (q := 22) dX5_longestWaitWithPolicy_21 rfl rfl ?_
    refine V.gM (q := 25) dX5_longestWaitWithPolicy_22 (j := 1) rfl bw_1012 rfl rfl rfl rfl ?_
    refine V.iconst (q := 26) dX5_longestWaitWithPolicy_25 (v := 2) rfl rfl ?_
    refine V.iload_n (q := 27) dX5_longestWaitWithPolicy_26 rfl rfl ?_
    refine V.st12 (q := 28) dX5_longestWaitWithPolicy_27 (i := 2) rfl rfl (by decide) rfl ?_
    have hI2 : Iu (uS u 2 x) := by have := hI.ownC g; rw [uS_pol] at this; exact this
    have hM := RM.sc hM 2 x (by decide)
    refine V.aload_n (q := 29) dX5_longestWaitWithPolicy_28 rfl rfl ?_
    refine V.cVMP (q := 32) (As := []) dX5_longestWaitWithPolicy_29 rfl (cM_forecasts hM hI2) MX5_forecasts bw_1519 rfl rfl rfl rfl (by decide) rfl (fun v4 τ4 h4 => ?_)
    obtain ⟨rfl, hF, hM⟩ := h4
    have eT : uT (uS u 2 x) = uT u := uT_sc (by decide)
    rw [eT, (fc_pol (hI.ownC g) ht).1] at hM
    rw [eT, (fc_pol (hI.ownC g) ht).2]
    refine V.istore_n (q := 33) dX5_longestWaitWithPolicy_32 rfl rfl rfl rfl ?_
    refine V.aload_n (q := 34) dX5_longestWaitWithPolicy_33 rfl rfl ?_
    refine V.cVM (q := 37) dX5_longestWaitWithPolicy_34 (As := []) rfl (kM_greatestWait hM) MX5_greatestWait bw_1503 rfl rfl rfl rfl (by decide) rfl ?_
    refine V.istore_n (q := 38) dX5_longestWaitWithPolicy_37 rfl rfl rfl rfl ?_
    refine V.aload_n (q := 39) dX5_longestWaitWithPolicy_38 rfl rfl ?_
    refine V.bipush (q := 41) dX5_longestWaitWithPolicy_39 (v := 11) rfl rfl ?_
    refine V.cVMP (q := 44) (As := [_]) dX5_longestWaitWithPolicy_41 rfl (cM_bringsBack (pl := 11) (by decide)) MX5_bringsBack bw_1291 rfl rfl rfl rfl (by decide) rfl (fun v5 τ5 h5 => ?_)
    obtain ⟨rfl, hB⟩ := h5
    have hMe := hB.at (hF.KM (FrM.KM (FrM.ar FrM.rf) hKM))
    have hX := hK.x.trans (FrM.x (FrM.trans (FrM.ar FrM.rf) hF) |>.trans hB.x)
    have hT := (hB.1.thr).trans ((hF.thr).trans ht3)
    refine V.iload_n (q := 45) dX5_longestWaitWithPolicy_44 rfl rfl ?_
    exact V.iret dX5_longestWaitWithPolicy_45 rfl ⟨_, _, rfl, rfl, rfl, by rw [if_pos g], FrX.z.trans hX, hMe, by rw [if_pos g]; exact hT.trans thr_z⟩
  · have g : okI 0 2 x = false := by
      cases z : okI 0 2 x with
      | true => rw [z] at c10; exact absurd rfl c10
      | false => rfl
    rw [if_neg (by rw [g]; decide)] at h1
    subst h1
    refine V.iconst (q := 14) dX5_longestWaitWithPolicy_13 (v := 0) rfl rfl ?_
    exact V.iret dX5_longestWaitWithPolicy_14 rfl ⟨_, _, rfl, rfl, rfl, by rw [if_neg (by rw [g]; decide)], FrX.z.trans FrX.z, hM.scF, by rw [if_neg (by rw [g]; decide)]; exact thr_z⟩
set_option maxHeartbeats 2000000 in
theorem kM_waitsBy {l : Launch} {G : GG} {σ : St} {u : Vw} (hM : RM σ u) (hI : Iu u) (ht : uT u ≤ 999) {x : Int32} (g : okI 0 2 x = true) : CtP l G TX5_waitsBy 11 [.ref (gB G + 94), .int x] σ (fun v τ => v = some (.int (fcw u x)) ∧ FrX σ τ ∧ RM τ u ∧ thr τ = thr σ) := by
  have hn : un u ≤ 40 := hM.1
  refine CtP.ofV (by decide +kernel) rfl rfl (Nat.le_of_ble_eq_true rfl) ?_
  refine V.aload_n (q := 1) dX5_waitsBy_0 rfl rfl ?_
  refine V.bipush (q := 3) dX5_waitsBy_1 (v := 11) rfl rfl ?_
  refine V.cVMP (q := 6) (As := [_]) dX5_waitsBy_3 rfl (cM_keeps (pl := 11) (by decide)) MX5_keeps bw_1080 rfl rfl rfl rfl (by decide) rfl (fun v3 τ3 h3 => ?_)
  obtain ⟨rfl, hK⟩ := h3
  have hKM := hK.at hM
  have hM := hK.1.RM hM
  have ht3 := hK.1.thr
  refine V.aload_n (q := 7) dX5_waitsBy_6 rfl rfl ?_
  refine V.gM (q := 10) dX5_waitsBy_7 (j := 1) rfl bw_1012 rfl rfl rfl rfl ?_
  refine V.iconst (q := 11) dX5_waitsBy_10 (v := 2) rfl rfl ?_
  refine V.iload_n (q := 12) dX5_waitsBy_11 rfl rfl ?_
  refine V.st12 (q := 13) dX5_waitsBy_12 (i := 2) rfl rfl (by decide) rfl ?_
  have hI2 : Iu (uS u 2 x) := by have := hI.ownC g; rw [uS_pol] at this; exact this
  have hM := RM.sc hM 2 x (by decide)
  refine V.aload_n (q := 14) dX5_waitsBy_13 rfl rfl ?_
  refine V.cVMP (q := 17) (As := []) dX5_waitsBy_14 rfl (cM_forecasts hM hI2) MX5_forecasts bw_1519 rfl rfl rfl rfl (by decide) rfl (fun v4 τ4 h4 => ?_)
  obtain ⟨rfl, hF, hM⟩ := h4
  have eT : uT (uS u 2 x) = uT u := uT_sc (by decide)
  rw [eT, (fc_pol (hI.ownC g) ht).1] at hM
  rw [eT, (fc_pol (hI.ownC g) ht).2]
  refine V.istore_n (q := 18) dX5_waitsBy_17 rfl rfl rfl rfl ?_
  refine V.aload_n (q := 19) dX5_waitsBy_18 rfl rfl ?_
  refine V.cVM (q := 22) dX5_waitsBy_19 (As := []) rfl (kM_waits hM) MX5_waits bw_1495 rfl rfl rfl rfl (by decide) rfl ?_
  refine V.istore_n (q := 23) dX5_waitsBy_22 rfl rfl rfl rfl ?_
  refine V.aload_n (q := 24) dX5_waitsBy_23 rfl rfl ?_
  refine V.bipush (q := 26) dX5_waitsBy_24 (v := 11) rfl rfl ?_
  refine V.cVMP (q := 29) (As := [_]) dX5_waitsBy_26 rfl (cM_bringsBack (pl := 11) (by decide)) MX5_bringsBack bw_1291 rfl rfl rfl rfl (by decide) rfl (fun v5 τ5 h5 => ?_)
  obtain ⟨rfl, hB⟩ := h5
  have hMe := hB.at (hF.KM (FrM.KM (FrM.ar FrM.rf) hKM))
  have hX := hK.x.trans (FrM.x (FrM.trans (FrM.ar FrM.rf) hF) |>.trans hB.x)
  have hT := (hB.1.thr).trans ((hF.thr).trans ht3)
  refine V.iload_n (q := 30) dX5_waitsBy_29 rfl rfl ?_
  exact V.iret dX5_waitsBy_30 rfl ⟨_, _, rfl, rfl, rfl, rfl, hX, hMe, hT⟩
set_option maxHeartbeats 2000000 in
theorem kM_waitWithPolicy {l : Launch} {G : GG} {σ : St} {u : Vw} (hM : RM σ u) (hI : Iu u) (ht : uT u ≤ 999) {x : Int32} : CtP l G TX5_waitWithPolicy 12 [.ref (gB G + 94), .int x] σ (fun v τ => v = some (.int (if okI 0 2 x = true then fcw u x else 0)) ∧ FrX σ τ ∧ RM τ u ∧ thr τ = if okI 0 2 x = true then 0 else 1) := by
  have hn : un u ≤ 40 := hM.1
  refine CtP.ofV (by decide +kernel) rfl rfl (Nat.le_of_ble_eq_true rfl) ?_
  refine V.aload_n (q := 1) dX5_waitWithPolicy_0 rfl rfl ?_
  refine V.iconst (q := 2) dX5_waitWithPolicy_1 (v := 0) rfl rfl ?_
  refine V.pM (q := 5) dX5_waitWithPolicy_2 (j := 0) rfl bw_1011 rfl rfl rfl rfl rfl rfl ?_
  have hM : RM (stF σ 94 0 0) u := hM.scF
  have hX : FrX σ (stF σ 94 0 0) := FrX.z
  have hT : thr (stF σ 94 0 0) = 0 := thr_z
  refine V.aload_n (q := 6) dX5_waitWithPolicy_5 rfl rfl ?_
  refine V.iload_n (q := 7) dX5_waitWithPolicy_6 rfl rfl ?_
  refine V.cVMP (q := 10) (As := [_]) dX5_waitWithPolicy_7 rfl (kM_noY hM) MX5_noPolicy bw_1347 rfl rfl rfl rfl (by decide) rfl (fun v1 τ1 h1 => ?_)
  obtain ⟨rfl, h1⟩ := h1
  refine V.if_eq (tgt := 17) (q := 13) dX5_waitWithPolicy_10 (by decide) rfl (fun c10 => ?_) (fun c10 => ?_)
  · have g : okI 0 2 x = true := by
      cases z : okI 0 2 x with
      | true => rfl
      | false => rw [z] at c10; exact absurd c10 (by decide)
    rw [if_pos g] at h1
    subst h1
    refine V.aload_n (q := 18) dX5_waitWithPolicy_17 rfl rfl ?_
    refine V.iload_n (q := 19) dX5_waitWithPolicy_18 rfl rfl ?_
    refine V.cVMP (q := 22) (As := [_]) dX5_waitWithPolicy_19 rfl (kM_waitsBy (x := x) hM hI ht g) MX5_waitsBy bw_1532 rfl rfl rfl rfl (by decide) rfl (fun v6 τ6 h6 => ?_)
    obtain ⟨rfl, hX6, hM, hT6⟩ := h6
    have hX := hX.trans hX6
    have hT := hT6.trans hT
    exact V.iret dX5_waitWithPolicy_22 rfl ⟨_, _, rfl, rfl, rfl, by rw [if_pos g], hX, hM, by rw [if_pos g]; exact hT⟩
  · have g : okI 0 2 x = false := by
      cases z : okI 0 2 x with
      | true => rw [z] at c10; exact absurd rfl c10
      | false => rfl
    rw [if_neg (by rw [g]; decide)] at h1
    subst h1
    refine V.iconst (q := 14) dX5_waitWithPolicy_13 (v := 0) rfl rfl ?_
    refine V.goto (tgt := 22) dX5_waitWithPolicy_14 (by decide) ?_
    exact V.iret dX5_waitWithPolicy_22 rfl ⟨_, _, rfl, rfl, rfl, by rw [if_neg (by rw [g]; decide)], FrX.z.trans FrX.z, hM.scF, by rw [if_neg (by rw [g]; decide)]; exact thr_z⟩
set_option maxHeartbeats 2000000 in
theorem kM_bestPolicy {l : Launch} {G : GG} {σ : St} {u : Vw} (hM : RM σ u) (hI : Iu u) (ht : uT u ≤ 999) : CtP l G TX5_bestPolicy 12 [.ref (gB G + 94)] σ (fun v τ => v = some (.int ((bpL u 2).1)) ∧ FrX σ τ ∧ RM τ u ∧ thr τ = 0) := by
  have hn : un u ≤ 40 := hM.1
  refine CtP.ofV (by decide +kernel) rfl rfl (Nat.le_of_ble_eq_true rfl) ?_
  refine V.aload_n (q := 1) dX5_bestPolicy_0 rfl rfl ?_
  refine V.iconst (q := 2) dX5_bestPolicy_1 (v := 0) rfl rfl ?_
  refine V.pM (q := 5) dX5_bestPolicy_2 (j := 0) rfl bw_1011 rfl rfl rfl rfl rfl rfl ?_
  have hM : RM (stF σ 94 0 0) u := hM.scF
  have hX : FrX σ (stF σ 94 0 0) := FrX.z
  have hT : thr (stF σ 94 0 0) = 0 := thr_z
  refine V.aload_n (q := 6) dX5_bestPolicy_5 rfl rfl ?_
  refine V.iconst (q := 7) dX5_bestPolicy_6 (v := 0) rfl rfl ?_
  refine V.cVMP (q := 10) (As := [_]) dX5_bestPolicy_7 rfl (kM_waitsBy (x := 0) hM hI ht (by decide)) MX5_waitsBy bw_1532 rfl rfl rfl rfl (by decide) rfl (fun v6 τ6 h6 => ?_)
  obtain ⟨rfl, hX6, hM, hT6⟩ := h6
  have hX := hX.trans hX6
  have hT := hT6.trans hT
  refine V.istore_n (q := 11) dX5_bestPolicy_10 rfl rfl rfl rfl ?_
  refine V.aload_n (q := 12) dX5_bestPolicy_11 rfl rfl ?_
  refine V.iconst (q := 13) dX5_bestPolicy_12 (v := 1) rfl rfl ?_
  refine V.cVMP (q := 16) (As := [_]) dX5_bestPolicy_13 rfl (kM_waitsBy (x := 1) hM hI ht (by decide)) MX5_waitsBy bw_1532 rfl rfl rfl rfl (by decide) rfl (fun v6 τ6 h6 => ?_)
  obtain ⟨rfl, hX6, hM, hT6⟩ := h6
  have hX := hX.trans hX6
  have hT := hT6.trans hT
  refine V.istore_n (q := 17) dX5_bestPolicy_16 rfl rfl rfl rfl ?_
  refine V.aload_n (q := 18) dX5_bestPolicy_17 rfl rfl ?_
  refine V.iconst (q := 19) dX5_bestPolicy_18 (v := 2) rfl rfl ?_
  refine V.cVMP (q := 22) (As := [_]) dX5_bestPolicy_19 rfl (kM_waitsBy (x := 2) hM hI ht (by decide)) MX5_waitsBy bw_1532 rfl rfl rfl rfl (by decide) rfl (fun v6 τ6 h6 => ?_)
  obtain ⟨rfl, hX6, hM, hT6⟩ := h6
  have hX := hX.trans hX6
  have hT := hT6.trans hT
  refine V.istore_n (q := 23) dX5_bestPolicy_22 rfl rfl rfl rfl ?_
  refine V.iload_n (q := 24) dX5_bestPolicy_23 rfl rfl ?_
  refine V.iload_n (q := 25) dX5_bestPolicy_24 rfl rfl ?_
  refine V.icmp_gt (tgt := 35) (q := 28) dX5_bestPolicy_25 (by decide) rfl (fun c25 => ?_) (fun c25 => ?_)
  · refine V.iload_n (q := 36) dX5_bestPolicy_35 rfl rfl ?_
    refine V.iload_n (q := 37) dX5_bestPolicy_36 rfl rfl ?_
    refine V.icmp_gt (tgt := 44) (q := 40) dX5_bestPolicy_37 (by decide) rfl (fun c37 => ?_) (fun c37 => ?_)
    · refine V.iconst (q := 45) dX5_bestPolicy_44 (v := 2) rfl rfl ?_
      exact V.iret dX5_bestPolicy_45 rfl ⟨_, _, rfl, rfl, rfl, by rw [bp_eq, if_neg (fun z => absurd z.1 (Int32.not_le.mpr c25)), if_neg (Int32.not_le.mpr c37)], hX, hM, hT⟩
    · refine V.iconst (q := 41) dX5_bestPolicy_40 (v := 1) rfl rfl ?_
      refine V.goto (tgt := 45) dX5_bestPolicy_41 (by decide) ?_
      exact V.iret dX5_bestPolicy_45 rfl ⟨_, _, rfl, rfl, rfl, by rw [bp_eq, if_neg (fun z => absurd z.1 (Int32.not_le.mpr c25)), if_pos (Int32.not_lt.mp c37)], hX, hM, hT⟩
  · refine V.iload_n (q := 29) dX5_bestPolicy_28 rfl rfl ?_
    refine V.iload_n (q := 30) dX5_bestPolicy_29 rfl rfl ?_
    refine V.icmp_gt (tgt := 35) (q := 33) dX5_bestPolicy_30 (by decide) rfl (fun c30 => ?_) (fun c30 => ?_)
    · refine V.iload_n (q := 36) dX5_bestPolicy_35 rfl rfl ?_
      refine V.iload_n (q := 37) dX5_bestPolicy_36 rfl rfl ?_
      refine V.icmp_gt (tgt := 44) (q := 40) dX5_bestPolicy_37 (by decide) rfl (fun c37 => ?_) (fun c37 => ?_)
      · refine V.iconst (q := 45) dX5_bestPolicy_44 (v := 2) rfl rfl ?_
        exact V.iret dX5_bestPolicy_45 rfl ⟨_, _, rfl, rfl, rfl, by rw [bp_eq, if_neg (fun z => absurd z.2 (Int32.not_le.mpr c30)), if_neg (Int32.not_le.mpr c37)], hX, hM, hT⟩
      · refine V.iconst (q := 41) dX5_bestPolicy_40 (v := 1) rfl rfl ?_
        refine V.goto (tgt := 45) dX5_bestPolicy_41 (by decide) ?_
        exact V.iret dX5_bestPolicy_45 rfl ⟨_, _, rfl, rfl, rfl, by rw [bp_eq, if_neg (fun z => absurd z.2 (Int32.not_le.mpr c30)), if_pos (Int32.not_lt.mp c37)], hX, hM, hT⟩
    · refine V.iconst (q := 34) dX5_bestPolicy_33 (v := 0) rfl rfl ?_
      exact V.iret dX5_bestPolicy_34 rfl ⟨_, _, rfl, rfl, rfl, by rw [bp_eq, if_pos ⟨Int32.not_lt.mp c25, Int32.not_lt.mp c30⟩], hX, hM, hT⟩
set_option maxHeartbeats 2000000 in
theorem kM_expectedAt {l : Launch} {G : GG} {σ : St} {u : Vw} (hM : RM σ u) (hI : Iu u) (ht : uT u ≤ 999) {x : Int32} : CtP l G TX5_expectedAt 11 [.ref (gB G + 94), .int x] σ (fun v τ => v = some (.int (if okP u x = true then ur (fcu u (us u 2) (us u 1)) 4 x.toNatClampNeg else 0)) ∧ FrX σ τ ∧ RM τ u ∧ thr τ = if okP u x = true then 0 else 1) := by
  have hn : un u ≤ 40 := hM.1
  refine CtP.ofV (by decide +kernel) rfl rfl (Nat.le_of_ble_eq_true rfl) ?_
  refine V.aload_n (q := 1) dX5_expectedAt_0 rfl rfl ?_
  refine V.iconst (q := 2) dX5_expectedAt_1 (v := 0) rfl rfl ?_
  refine V.pM (q := 5) dX5_expectedAt_2 (j := 0) rfl bw_1011 rfl rfl rfl rfl rfl rfl ?_
  have hM : RM (stF σ 94 0 0) u := hM.scF
  refine V.aload_n (q := 6) dX5_expectedAt_5 rfl rfl ?_
  refine V.iload_n (q := 7) dX5_expectedAt_6 rfl rfl ?_
  refine V.cVMP (q := 10) (As := [_]) dX5_expectedAt_7 rfl (kM_noP hM) MX5_noPassenger bw_1379 rfl rfl rfl rfl (by decide) rfl (fun v1 τ1 h1 => ?_)
  obtain ⟨rfl, h1⟩ := h1
  refine V.if_eq (tgt := 15) (q := 13) dX5_expectedAt_10 (by decide) rfl (fun c10 => ?_) (fun c10 => ?_)
  · have g : okP u x = true := by
      cases z : okP u x with
      | true => rfl
      | false => rw [z] at c10; exact absurd c10 (by decide)
    rw [if_pos g] at h1
    subst h1
    obtain ⟨hx, hi⟩ := okP_i hn g
    refine V.aload_n (q := 16) dX5_expectedAt_15 rfl rfl ?_
    refine V.bipush (q := 18) dX5_expectedAt_16 (v := 11) rfl rfl ?_
    refine V.cVMP (q := 21) (As := [_]) dX5_expectedAt_18 rfl (cM_keeps (pl := 11) (by decide)) MX5_keeps bw_1080 rfl rfl rfl rfl (by decide) rfl (fun v3 τ3 h3 => ?_)
    obtain ⟨rfl, hK⟩ := h3
    have hKM := hK.at hM
    have hM := hK.1.RM hM
    have ht3 := hK.1.thr
    refine V.aload_n (q := 22) dX5_expectedAt_21 rfl rfl ?_
    refine V.cVMP (q := 25) (As := []) dX5_expectedAt_22 rfl (cM_forecasts hM hI) MX5_forecasts bw_1519 rfl rfl rfl rfl (by decide) rfl (fun v4 τ4 h4 => ?_)
    obtain ⟨rfl, hF, hM⟩ := h4
    rw [(fc_own hI ht).1] at hM
    rw [(fc_own hI ht).2]
    have hi : x.toNatClampNeg < un (fcu u (us u 2) (us u 1)) := by rw [fcu_un]; exact hi
    refine V.istore_n (q := 26) dX5_expectedAt_25 rfl rfl rfl rfl ?_
    refine V.aload_n (q := 27) dX5_expectedAt_26 rfl rfl ?_
    refine V.iload_n (q := 28) dX5_expectedAt_27 rfl rfl ?_
    refine V.cVM (q := 31) dX5_expectedAt_28 (As := [_]) rfl (by have := cM_left (l := l) (G := G) hM hi; rw [← hx] at this; exact this) MX5_left bw_1188 rfl rfl rfl rfl (by decide) rfl ?_
    refine V.istore_n (q := 32) dX5_expectedAt_31 rfl rfl rfl rfl ?_
    refine V.aload_n (q := 33) dX5_expectedAt_32 rfl rfl ?_
    refine V.bipush (q := 35) dX5_expectedAt_33 (v := 11) rfl rfl ?_
    refine V.cVMP (q := 38) (As := [_]) dX5_expectedAt_35 rfl (cM_bringsBack (pl := 11) (by decide)) MX5_bringsBack bw_1291 rfl rfl rfl rfl (by decide) rfl (fun v5 τ5 h5 => ?_)
    obtain ⟨rfl, hB⟩ := h5
    have hMe := hB.at (hF.KM hKM)
    have hX := hK.x.trans (hF.x |>.trans hB.x)
    have hT := (hB.1.thr).trans ((hF.thr).trans ht3)
    refine V.iload_n (q := 39) dX5_expectedAt_38 rfl rfl ?_
    exact V.iret dX5_expectedAt_39 rfl ⟨_, _, rfl, rfl, rfl, by rw [if_pos g], FrX.z.trans hX, hMe, by rw [if_pos g]; exact hT.trans thr_z⟩
  · have g : okP u x = false := by
      cases z : okP u x with
      | true => rw [z] at c10; exact absurd rfl c10
      | false => rfl
    rw [if_neg (by rw [g]; decide)] at h1
    subst h1
    refine V.iconst (q := 14) dX5_expectedAt_13 (v := 0) rfl rfl ?_
    exact V.iret dX5_expectedAt_14 rfl ⟨_, _, rfl, rfl, rfl, by rw [if_neg (by rw [g]; decide)], FrX.z.trans FrX.z, hM.scF, by rw [if_neg (by rw [g]; decide)]; exact thr_z⟩
set_option maxHeartbeats 2000000 in
theorem kM_noC {l : Launch} {G : GG} {σ : St} {u : Vw} (hM : RM σ u) {x : Int32} : CtP l G TX5_noCapacity 4 [.ref (gB G + 94), .int x] σ (fun v τ => v = some (.int (bI (!(okI 1 8 x && decide (nI (many u 2) ≤ x))))) ∧ τ = if okI 1 8 x = true then (if decide (nI (many u 2) ≤ x) = true then σ else stF σ 94 0 2) else stF σ 94 0 1) := by
  have hn : un u ≤ 40 := hM.1
  refine CtP.ofV (by decide +kernel) rfl rfl (Nat.le_of_ble_eq_true rfl) ?_
  refine V.aload_n (q := 1) dX5_noCapacity_0 rfl rfl ?_
  refine V.iload_n (q := 2) dX5_noCapacity_1 rfl rfl ?_
  refine V.iconst (q := 3) dX5_noCapacity_2 (v := 1) rfl rfl ?_
  refine V.bipush (q := 5) dX5_noCapacity_3 (v := 8) rfl rfl ?_
  refine V.cSt (q := 8) dX5_noCapacity_5 (As := [_, _, _]) rfl cM_inRange MX5_inRange bw_1097 rfl rfl (by decide) rfl ?_
  refine V.if_ne (tgt := 15) (q := 11) dX5_noCapacity_8 (by decide) rfl (fun c8 => ?_) (fun c8 => ?_)
  · have g : okI 1 8 x = true := bI1.mp c8
    refine V.iconst (q := 16) dX5_noCapacity_15 (v := 0) rfl rfl ?_
    refine V.iconst (q := 17) dX5_noCapacity_16 (v := 1) rfl rfl ?_
    refine V.cVMP (q := 20) (As := [_, _]) dX5_noCapacity_17 rfl (kM_fails_false) MX5_fails bw_1351 rfl rfl rfl rfl (by decide) rfl (fun v1 τ1 h1 => ?_)
    obtain ⟨rfl, rfl⟩ := h1
    refine V.if_ne (tgt := 45) (q := 23) dX5_noCapacity_20 (by decide) rfl (fun c20 => ?_) (fun c20 => ?_)
    · exact absurd rfl c20
    · refine V.aload_n (q := 24) dX5_noCapacity_23 rfl rfl ?_
      refine V.aload_n (q := 25) dX5_noCapacity_24 rfl rfl ?_
      refine V.iconst (q := 26) dX5_noCapacity_25 (v := 2) rfl rfl ?_
      refine V.cVM (q := 29) dX5_noCapacity_26 (As := [_]) rfl (cM_many hM) MX5_many bw_1180 rfl rfl rfl rfl (by decide) rfl ?_
      refine V.iload_n (q := 30) dX5_noCapacity_29 rfl rfl ?_
      refine V.icmp_le (tgt := 37) (q := 33) dX5_noCapacity_30 (by decide) rfl (fun c30 => ?_) (fun c30 => ?_)
      · have g2 : decide (nI (many u 2) ≤ x) = true := decide_eq_true c30
        refine V.iconst (q := 38) dX5_noCapacity_37 (v := 0) rfl rfl ?_
        refine V.iconst (q := 39) dX5_noCapacity_38 (v := 2) rfl rfl ?_
        refine V.cVMP (q := 42) (As := [_, _]) dX5_noCapacity_39 rfl (kM_fails_false) MX5_fails bw_1351 rfl rfl rfl rfl (by decide) rfl (fun v1 τ1 h1 => ?_)
        obtain ⟨rfl, rfl⟩ := h1
        refine V.if_eq (tgt := 49) (q := 45) dX5_noCapacity_42 (by decide) rfl (fun c42 => ?_) (fun c42 => ?_)
        · refine V.iconst (q := 50) dX5_noCapacity_49 (v := 0) rfl rfl ?_
          exact V.zret (ty := .boolean) rfl dX5_noCapacity_50 rfl ⟨_, _, rfl, rfl, rfl, by rw [g, g2]; rfl, by rw [if_pos g, if_pos g2]⟩
        · exact absurd rfl c42
      · have g2 : decide (nI (many u 2) ≤ x) = false := decide_eq_false c30
        refine V.iconst (q := 34) dX5_noCapacity_33 (v := 1) rfl rfl ?_
        refine V.goto (tgt := 38) dX5_noCapacity_34 (by decide) ?_
        refine V.iconst (q := 39) dX5_noCapacity_38 (v := 2) rfl rfl ?_
        refine V.cVMP (q := 42) (As := [_, _]) dX5_noCapacity_39 rfl (kM_fails_true) MX5_fails bw_1351 rfl rfl rfl rfl (by decide) rfl (fun v1 τ1 h1 => ?_)
        obtain ⟨rfl, rfl⟩ := h1
        refine V.if_eq (tgt := 49) (q := 45) dX5_noCapacity_42 (by decide) rfl (fun c42 => ?_) (fun c42 => ?_)
        · exact absurd c42 (by decide)
        · refine V.iconst (q := 46) dX5_noCapacity_45 (v := 1) rfl rfl ?_
          refine V.goto (tgt := 50) dX5_noCapacity_46 (by decide) ?_
          exact V.zret (ty := .boolean) rfl dX5_noCapacity_50 rfl ⟨_, _, rfl, rfl, rfl, by rw [g, g2]; rfl, by rw [if_pos g, if_neg (by rw [g2]; decide)]⟩
  · have g : okI 1 8 x = false := bI0.mp c8
    refine V.iconst (q := 12) dX5_noCapacity_11 (v := 1) rfl rfl ?_
    refine V.goto (tgt := 16) dX5_noCapacity_12 (by decide) ?_
    refine V.iconst (q := 17) dX5_noCapacity_16 (v := 1) rfl rfl ?_
    refine V.cVMP (q := 20) (As := [_, _]) dX5_noCapacity_17 rfl (kM_fails_true) MX5_fails bw_1351 rfl rfl rfl rfl (by decide) rfl (fun v1 τ1 h1 => ?_)
    obtain ⟨rfl, rfl⟩ := h1
    refine V.if_ne (tgt := 45) (q := 23) dX5_noCapacity_20 (by decide) rfl (fun c20 => ?_) (fun c20 => ?_)
    · refine V.iconst (q := 46) dX5_noCapacity_45 (v := 1) rfl rfl ?_
      refine V.goto (tgt := 50) dX5_noCapacity_46 (by decide) ?_
      exact V.zret (ty := .boolean) rfl dX5_noCapacity_50 rfl ⟨_, _, rfl, rfl, rfl, by rw [g]; rfl, by rw [if_neg (by rw [g]; decide)]⟩
    · exact absurd c20 (by decide)
