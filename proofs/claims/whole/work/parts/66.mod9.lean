/-! the model: changes -/
set_option maxHeartbeats 2000000 in
theorem kM_ticksWithCapacity {l : Launch} {G : GG} {σ : St} {u : Vw} (hM : RM σ u) (hI : Iu u) (ht : uT u ≤ 999) {x : Int32} : CtP l G TX5_ticksWithCapacity 11 [.ref (gB G + 94), .int x] σ (fun v τ => v = some (.int (if (okI 1 8 x && decide (nI (many u 2) ≤ x)) = true then nI (fcn u (us u 2) x) else 0)) ∧ FrX σ τ ∧ RM τ u ∧ thr τ = (if okI 1 8 x = true then (if decide (nI (many u 2) ≤ x) = true then 0 else 2) else 1)) := by
  have hn : un u ≤ 40 := hM.1
  refine CtP.ofV (by decide +kernel) rfl rfl (Nat.le_of_ble_eq_true rfl) ?_
  refine V.aload_n (q := 1) dX5_ticksWithCapacity_0 rfl rfl ?_
  refine V.iconst (q := 2) dX5_ticksWithCapacity_1 (v := 0) rfl rfl ?_
  refine V.pM (q := 5) dX5_ticksWithCapacity_2 (j := 0) rfl bw_1011 rfl rfl rfl rfl rfl rfl ?_
  have hM : RM (stF σ 94 0 0) u := hM.scF
  refine V.aload_n (q := 6) dX5_ticksWithCapacity_5 rfl rfl ?_
  refine V.iload_n (q := 7) dX5_ticksWithCapacity_6 rfl rfl ?_
  refine V.cVMP (q := 10) (As := [_]) dX5_ticksWithCapacity_7 rfl (kM_noC hM) MX5_noCapacity bw_1548 rfl rfl rfl rfl (by decide) rfl (fun v1 τ1 h1 => ?_)
  obtain ⟨rfl, h1⟩ := h1
  refine V.if_eq (tgt := 15) (q := 13) dX5_ticksWithCapacity_10 (by decide) rfl (fun c10 => ?_) (fun c10 => ?_)
  · have g : (okI 1 8 x && decide (nI (many u 2) ≤ x)) = true := by
      cases z : (okI 1 8 x && decide (nI (many u 2) ≤ x)) with
      | true => rfl
      | false => rw [z] at c10; exact absurd c10 (by decide)
    have g1 : okI 1 8 x = true := by cases z : okI 1 8 x with
      | true => rfl
      | false => rw [okN1 z] at g; cases g
    have g2 : decide (nI (many u 2) ≤ x) = true := by cases z : decide (nI (many u 2) ≤ x) with
      | true => rfl
      | false => rw [okN2 z] at g; cases g
    rw [if_pos g1, if_pos g2] at h1
    subst h1
    refine V.aload_n (q := 16) dX5_ticksWithCapacity_15 rfl rfl ?_
    refine V.bipush (q := 18) dX5_ticksWithCapacity_16 (v := 11) rfl rfl ?_
    refine V.cVMP (q := 21) (As := [_]) dX5_ticksWithCapacity_18 rfl (cM_keeps (pl := 11) (by decide)) MX5_keeps bw_1080 rfl rfl rfl rfl (by decide) rfl (fun v3 τ3 h3 => ?_)
    obtain ⟨rfl, hK⟩ := h3
    have hKM := hK.at hM
    have hM := hK.1.RM hM
    have ht3 := hK.1.thr
    refine V.aload_n (q := 22) dX5_ticksWithCapacity_21 rfl rfl ?_
    refine V.gM (q := 25) dX5_ticksWithCapacity_22 (j := 1) rfl bw_1012 rfl rfl rfl rfl ?_
    refine V.iconst (q := 26) dX5_ticksWithCapacity_25 (v := 1) rfl rfl ?_
    refine V.iload_n (q := 27) dX5_ticksWithCapacity_26 rfl rfl ?_
    refine V.st12 (q := 28) dX5_ticksWithCapacity_27 (i := 1) rfl rfl (by decide) rfl ?_
    have hI2 : Iu (uS u 1 x) := by have := hI.ownP g1 g2; rw [uS_cap] at this; exact this
    have hM := RM.sc hM 1 x (by decide)
    refine V.aload_n (q := 29) dX5_ticksWithCapacity_28 rfl rfl ?_
    refine V.cVMP (q := 32) (As := []) dX5_ticksWithCapacity_29 rfl (cM_forecasts hM hI2) MX5_forecasts bw_1519 rfl rfl rfl rfl (by decide) rfl (fun v4 τ4 h4 => ?_)
    obtain ⟨rfl, hF, hM⟩ := h4
    have eT : uT (uS u 1 x) = uT u := uT_sc (by decide)
    rw [eT, (fc_cap (hI.ownP g1 g2) ht).1] at hM
    rw [eT, (fc_cap (hI.ownP g1 g2) ht).2]
    refine V.istore_n (q := 33) dX5_ticksWithCapacity_32 rfl rfl rfl rfl ?_
    refine V.aload_n (q := 34) dX5_ticksWithCapacity_33 rfl rfl ?_
    refine V.bipush (q := 36) dX5_ticksWithCapacity_34 (v := 11) rfl rfl ?_
    refine V.cVMP (q := 39) (As := [_]) dX5_ticksWithCapacity_36 rfl (cM_bringsBack (pl := 11) (by decide)) MX5_bringsBack bw_1291 rfl rfl rfl rfl (by decide) rfl (fun v5 τ5 h5 => ?_)
    obtain ⟨rfl, hB⟩ := h5
    have hMe := hB.at (hF.KM (FrM.KM (FrM.ar FrM.rf) hKM))
    have hX := hK.x.trans (FrM.x (FrM.trans (FrM.ar FrM.rf) hF) |>.trans hB.x)
    have hT := (hB.1.thr).trans ((hF.thr).trans ht3)
    refine V.iload_n (q := 40) dX5_ticksWithCapacity_39 rfl rfl ?_
    exact V.iret dX5_ticksWithCapacity_40 rfl ⟨_, _, rfl, rfl, rfl, by rw [if_pos g], FrX.z.trans hX, hMe, by rw [if_pos g1, if_pos g2]; exact hT.trans thr_z⟩
  · have g : (okI 1 8 x && decide (nI (many u 2) ≤ x)) = false := by
      cases z : (okI 1 8 x && decide (nI (many u 2) ≤ x)) with
      | true => rw [z] at c10; exact absurd rfl c10
      | false => rfl
    have key : FrX (stF σ 94 0 0) τ1 ∧ RM τ1 u ∧ thr τ1 = (if okI 1 8 x = true then (if decide (nI (many u 2) ≤ x) = true then 0 else 2) else 1) ∧ ∀ r hv, Hist (stF σ 94 0 0) r hv → Hist τ1 r hv := by
      by_cases y1 : okI 1 8 x = true
      · rw [if_pos y1] at h1 ⊢
        by_cases y2 : decide (nI (many u 2) ≤ x) = true
        · rw [okT y1 y2] at g; cases g
        · rw [if_neg y2] at h1 ⊢
          subst h1
          exact ⟨FrX.z, hM.scF, thr_z, fun _ _ h => h.z⟩
      · rw [if_neg y1] at h1 ⊢
        subst h1
        exact ⟨FrX.z, hM.scF, thr_z, fun _ _ h => h.z⟩
    obtain ⟨k1, k2, k3, k4⟩ := key
    refine V.iconst (q := 14) dX5_ticksWithCapacity_13 (v := 0) rfl rfl ?_
    exact V.iret dX5_ticksWithCapacity_14 rfl ⟨_, _, rfl, rfl, rfl, by rw [if_neg (by rw [g]; decide)], FrX.z.trans k1, k2, k3⟩
set_option maxHeartbeats 2000000 in
theorem kM_setPolicy {l : Launch} {G : GG} {σ : St} {u : Vw} (hM : RM σ u) (hI : Iu u) (ht : uT u ≤ 999) {r : Nat} {hv : Nat → Vw} (hH : Hist σ r hv) {x : Int32} : CtP l G TX5_setPolicy 2 [.ref (gB G + 94), .int x] σ (fun v τ => v = some (.int (if (okI 0 2 x) = true then us u 2 else 0)) ∧ MHG (okI 0 2 x) σ τ r hv u (uS u 2 x) ∧ thr τ = if okI 0 2 x = true then 0 else 1) := by
  have hn : un u ≤ 40 := hM.1
  refine CtP.ofV (by decide +kernel) rfl rfl (Nat.le_of_ble_eq_true rfl) ?_
  refine V.aload_n (q := 1) dX5_setPolicy_0 rfl rfl ?_
  refine V.iconst (q := 2) dX5_setPolicy_1 (v := 0) rfl rfl ?_
  refine V.pM (q := 5) dX5_setPolicy_2 (j := 0) rfl bw_1011 rfl rfl rfl rfl rfl rfl ?_
  have hM : RM (stF σ 94 0 0) u := hM.scF
  have hH : Hist (stF σ 94 0 0) r hv := hH.z
  refine V.aload_n (q := 6) dX5_setPolicy_5 rfl rfl ?_
  refine V.iload_n (q := 7) dX5_setPolicy_6 rfl rfl ?_
  refine V.cVMP (q := 10) (As := [_]) dX5_setPolicy_7 rfl (kM_noY hM) MX5_noPolicy bw_1347 rfl rfl rfl rfl (by decide) rfl (fun v1 τ1 h1 => ?_)
  obtain ⟨rfl, h1⟩ := h1
  refine V.if_eq (tgt := 15) (q := 13) dX5_setPolicy_10 (by decide) rfl (fun c10 => ?_) (fun c10 => ?_)
  · have g : okI 0 2 x = true := by
      cases z : okI 0 2 x with
      | true => rfl
      | false => rw [z] at c10; exact absurd c10 (by decide)
    rw [if_pos g] at h1
    subst h1
    refine V.aload_n (q := 16) dX5_setPolicy_15 rfl rfl ?_
    refine V.cVMP (q := 19) (As := []) dX5_setPolicy_16 rfl (cM_records hH hM) MX5_records bw_1299 rfl rfl rfl rfl (by decide) rfl (fun v3 τ3 h3 => ?_)
    obtain ⟨rfl, hF3, hH⟩ := h3
    have hM := hF3.RM hM
    have hfr := FrX.z.mc.trans hF3.mc
    have hT := hF3.thr.trans thr_z
    refine V.aload_n (q := 20) dX5_setPolicy_19 rfl rfl ?_
    refine V.gM (q := 23) dX5_setPolicy_20 (j := 1) rfl bw_1012 rfl rfl rfl rfl ?_
    refine V.iconst (q := 24) dX5_setPolicy_23 (v := 2) rfl rfl ?_
    refine V.ldMu (q := 25) 2 dX5_setPolicy_24 hM rfl rfl rfl ?_
    refine V.istore_n (q := 26) dX5_setPolicy_25 rfl rfl rfl rfl ?_
    refine V.aload_n (q := 27) dX5_setPolicy_26 rfl rfl ?_
    refine V.gM (q := 30) dX5_setPolicy_27 (j := 1) rfl bw_1012 rfl rfl rfl rfl ?_
    refine V.iconst (q := 31) dX5_setPolicy_30 (v := 2) rfl rfl ?_
    refine V.iload_n (q := 32) dX5_setPolicy_31 rfl rfl ?_
    refine V.st12 (q := 33) dX5_setPolicy_32 (i := 2) rfl rfl (by decide) rfl ?_
    have hM := RM.sc hM 2 x (by decide)
    refine V.iload_n (q := 34) dX5_setPolicy_33 rfl rfl ?_
    exact V.iret dX5_setPolicy_34 rfl ⟨_, _, rfl, rfl, rfl, by rw [if_pos g], MHG.yes g (hfr.trans (FrM.mc (FrM.ar FrM.rf))) ((FrM.ar FrM.rf).Hist hH) hM, by rw [if_pos g]; exact hT⟩
  · have g : okI 0 2 x = false := by
      cases z : okI 0 2 x with
      | true => rw [z] at c10; exact absurd rfl c10
      | false => rfl
    rw [if_neg (by rw [g]; decide)] at h1
    subst h1
    refine V.iconst (q := 14) dX5_setPolicy_13 (v := 0) rfl rfl ?_
    exact V.iret dX5_setPolicy_14 rfl ⟨_, _, rfl, rfl, rfl, by rw [if_neg (by rw [g]; decide)], MHG.no g (FrX.z.trans FrX.z).mc hH.z hM.scF, by rw [if_neg (by rw [g]; decide)]; exact thr_z⟩
set_option maxHeartbeats 2000000 in
theorem kM_setCapacity {l : Launch} {G : GG} {σ : St} {u : Vw} (hM : RM σ u) (hI : Iu u) (ht : uT u ≤ 999) {r : Nat} {hv : Nat → Vw} (hH : Hist σ r hv) {x : Int32} : CtP l G TX5_setCapacity 5 [.ref (gB G + 94), .int x] σ (fun v τ => v = some (.int (if (okI 1 8 x && decide (nI (many u 2) ≤ x)) = true then us u 1 else 0)) ∧ MHG (okI 1 8 x && decide (nI (many u 2) ≤ x)) σ τ r hv u (uS u 1 x) ∧ thr τ = (if okI 1 8 x = true then (if decide (nI (many u 2) ≤ x) = true then 0 else 2) else 1)) := by
  have hn : un u ≤ 40 := hM.1
  refine CtP.ofV (by decide +kernel) rfl rfl (Nat.le_of_ble_eq_true rfl) ?_
  refine V.aload_n (q := 1) dX5_setCapacity_0 rfl rfl ?_
  refine V.iconst (q := 2) dX5_setCapacity_1 (v := 0) rfl rfl ?_
  refine V.pM (q := 5) dX5_setCapacity_2 (j := 0) rfl bw_1011 rfl rfl rfl rfl rfl rfl ?_
  have hM : RM (stF σ 94 0 0) u := hM.scF
  have hH : Hist (stF σ 94 0 0) r hv := hH.z
  refine V.aload_n (q := 6) dX5_setCapacity_5 rfl rfl ?_
  refine V.iload_n (q := 7) dX5_setCapacity_6 rfl rfl ?_
  refine V.cVMP (q := 10) (As := [_]) dX5_setCapacity_7 rfl (kM_noC hM) MX5_noCapacity bw_1548 rfl rfl rfl rfl (by decide) rfl (fun v1 τ1 h1 => ?_)
  obtain ⟨rfl, h1⟩ := h1
  refine V.if_eq (tgt := 15) (q := 13) dX5_setCapacity_10 (by decide) rfl (fun c10 => ?_) (fun c10 => ?_)
  · have g : (okI 1 8 x && decide (nI (many u 2) ≤ x)) = true := by
      cases z : (okI 1 8 x && decide (nI (many u 2) ≤ x)) with
      | true => rfl
      | false => rw [z] at c10; exact absurd c10 (by decide)
    have g1 : okI 1 8 x = true := by cases z : okI 1 8 x with
      | true => rfl
      | false => rw [okN1 z] at g; cases g
    have g2 : decide (nI (many u 2) ≤ x) = true := by cases z : decide (nI (many u 2) ≤ x) with
      | true => rfl
      | false => rw [okN2 z] at g; cases g
    rw [if_pos g1, if_pos g2] at h1
    subst h1
    refine V.aload_n (q := 16) dX5_setCapacity_15 rfl rfl ?_
    refine V.cVMP (q := 19) (As := []) dX5_setCapacity_16 rfl (cM_records hH hM) MX5_records bw_1299 rfl rfl rfl rfl (by decide) rfl (fun v3 τ3 h3 => ?_)
    obtain ⟨rfl, hF3, hH⟩ := h3
    have hM := hF3.RM hM
    have hfr := FrX.z.mc.trans hF3.mc
    have hT := hF3.thr.trans thr_z
    refine V.aload_n (q := 20) dX5_setCapacity_19 rfl rfl ?_
    refine V.gM (q := 23) dX5_setCapacity_20 (j := 1) rfl bw_1012 rfl rfl rfl rfl ?_
    refine V.iconst (q := 24) dX5_setCapacity_23 (v := 1) rfl rfl ?_
    refine V.ldMu (q := 25) 1 dX5_setCapacity_24 hM rfl rfl rfl ?_
    refine V.istore_n (q := 26) dX5_setCapacity_25 rfl rfl rfl rfl ?_
    refine V.aload_n (q := 27) dX5_setCapacity_26 rfl rfl ?_
    refine V.gM (q := 30) dX5_setCapacity_27 (j := 1) rfl bw_1012 rfl rfl rfl rfl ?_
    refine V.iconst (q := 31) dX5_setCapacity_30 (v := 1) rfl rfl ?_
    refine V.iload_n (q := 32) dX5_setCapacity_31 rfl rfl ?_
    refine V.st12 (q := 33) dX5_setCapacity_32 (i := 1) rfl rfl (by decide) rfl ?_
    have hM := RM.sc hM 1 x (by decide)
    refine V.iload_n (q := 34) dX5_setCapacity_33 rfl rfl ?_
    exact V.iret dX5_setCapacity_34 rfl ⟨_, _, rfl, rfl, rfl, by rw [if_pos g], MHG.yes g (hfr.trans (FrM.mc (FrM.ar FrM.rf))) ((FrM.ar FrM.rf).Hist hH) hM, by rw [if_pos g1, if_pos g2]; exact hT⟩
  · have g : (okI 1 8 x && decide (nI (many u 2) ≤ x)) = false := by
      cases z : (okI 1 8 x && decide (nI (many u 2) ≤ x)) with
      | true => rw [z] at c10; exact absurd rfl c10
      | false => rfl
    have key : FrX (stF σ 94 0 0) τ1 ∧ RM τ1 u ∧ thr τ1 = (if okI 1 8 x = true then (if decide (nI (many u 2) ≤ x) = true then 0 else 2) else 1) ∧ ∀ r hv, Hist (stF σ 94 0 0) r hv → Hist τ1 r hv := by
      by_cases y1 : okI 1 8 x = true
      · rw [if_pos y1] at h1 ⊢
        by_cases y2 : decide (nI (many u 2) ≤ x) = true
        · rw [okT y1 y2] at g; cases g
        · rw [if_neg y2] at h1 ⊢
          subst h1
          exact ⟨FrX.z, hM.scF, thr_z, fun _ _ h => h.z⟩
      · rw [if_neg y1] at h1 ⊢
        subst h1
        exact ⟨FrX.z, hM.scF, thr_z, fun _ _ h => h.z⟩
    obtain ⟨k1, k2, k3, k4⟩ := key
    refine V.iconst (q := 14) dX5_setCapacity_13 (v := 0) rfl rfl ?_
    exact V.iret dX5_setCapacity_14 rfl ⟨_, _, rfl, rfl, rfl, by rw [if_neg (by rw [g]; decide)], MHG.no g (FrX.z.trans k1).mc (k4 _ _ hH) k2, k3⟩
set_option maxHeartbeats 2000000 in
theorem kM_runToEnd {l : Launch} {G : GG} {σ : St} {u : Vw} (hM : RM σ u) (hI : Iu u) (ht : uT u ≤ 999) {r : Nat} {hv : Nat → Vw} (hH : Hist σ r hv) : CtP l G TX5_runToEnd 10 [.ref (gB G + 94)] σ (fun v τ => v = some (.int (nI (fzn (999 - uT u) u))) ∧ MHG true σ τ r hv u (fzu (999 - uT u) u) ∧ thr τ = 0) := by
  have hn : un u ≤ 40 := hM.1
  refine CtP.ofV (by decide +kernel) rfl rfl (Nat.le_of_ble_eq_true rfl) ?_
  refine V.aload_n (q := 1) dX5_runToEnd_0 rfl rfl ?_
  refine V.iconst (q := 2) dX5_runToEnd_1 (v := 0) rfl rfl ?_
  refine V.pM (q := 5) dX5_runToEnd_2 (j := 0) rfl bw_1011 rfl rfl rfl rfl rfl rfl ?_
  have hM : RM (stF σ 94 0 0) u := hM.scF
  have hH : Hist (stF σ 94 0 0) r hv := hH.z
  refine V.aload_n (q := 6) dX5_runToEnd_5 rfl rfl ?_
  refine V.cVMP (q := 9) (As := []) dX5_runToEnd_6 rfl (cM_records hH hM) MX5_records bw_1299 rfl rfl rfl rfl (by decide) rfl (fun v3 τ3 h3 => ?_)
  obtain ⟨rfl, hF3, hH⟩ := h3
  have hM := hF3.RM hM
  have hfr := FrX.z.mc.trans hF3.mc
  have hT := hF3.thr.trans thr_z
  refine V.aload_n (q := 10) dX5_runToEnd_9 rfl rfl ?_
  refine V.sipush (q := 13) dX5_runToEnd_10 (v := 999) rfl rfl ?_
  refine V.cVMP (q := 16) (As := [_]) dX5_runToEnd_13 rfl (cM_finishes (K := 999) hM hI (by decide)) MX5_finishes bw_1248 rfl rfl rfl rfl (by decide) rfl (fun v4 τ4 h4 => ?_)
  obtain ⟨rfl, hF4, hM⟩ := h4
  exact V.iret dX5_runToEnd_16 rfl ⟨_, _, rfl, rfl, rfl, rfl, MHG.yes rfl (hfr.trans hF4.mc) (hF4.Hist hH) hM, hF4.thr.trans hT⟩
set_option maxHeartbeats 2000000 in
theorem kM_run {l : Launch} {G : GG} {σ : St} {u : Vw} (hM : RM σ u) (hI : Iu u) (ht : uT u ≤ 999) {r : Nat} {hv : Nat → Vw} (hH : Hist σ r hv) {x : Int32} : CtP l G TX5_run 9 [.ref (gB G + 94), .int x] σ (fun v τ => v = some (.int (if ((okI 1 999 x) && (decide (us u 3 + x ≤ 999))) = true then us (tks x.toNatClampNeg u) 4 else 0)) ∧ MHG ((okI 1 999 x) && (decide (us u 3 + x ≤ 999))) σ τ r hv u (tks x.toNatClampNeg u) ∧ thr τ = (if (okI 1 999 x) = true then (if (decide (us u 3 + x ≤ 999)) = true then 0 else 2) else 1)) := by
  have hn : un u ≤ 40 := hM.1
  refine CtP.ofV (by decide +kernel) rfl rfl (Nat.le_of_ble_eq_true rfl) ?_
  have loop : ∀ (m : Nat) (i : Nat) (τ : St), m = x.toNatClampNeg - i → i ≤ x.toNatClampNeg → (okI 1 999 x) = true → (decide (us u 3 + x ≤ 999)) = true → FrMC σ τ → Hist τ (pushN r) (pushV r hv u) → RM τ (tks i u) → thr τ = 0 → V l G TX5_run 9 0 0 (RetP G (fun v τ => v = some (.int (if ((okI 1 999 x) && (decide (us u 3 + x ≤ 999))) = true then us (tks x.toNatClampNeg u) 4 else 0)) ∧ MHG ((okI 1 999 x) && (decide (us u 3 + x ≤ 999))) σ τ r hv u (tks x.toNatClampNeg u) ∧ thr τ = (if (okI 1 999 x) = true then (if (decide (us u 3 + x ≤ 999)) = true then 0 else 2) else 1))) 0 0 64 [some (.ref (gB G + 94)), some (.int x), some (.int (nI i))] [] (hof G τ) NC := by
    intro m
    induction m using Nat.strongRecOn with
    | _ m ih =>
      intro i τ hm hile gB gC hfr hH hM hT
      have hnv : un (tks i u) ≤ 40 := hM.1
      obtain ⟨hx, hx1, hx2⟩ := okI_n (b := 999) (by decide) gB
      refine V.iload_n (q := 65) dX5_run_64 rfl rfl ?_
      refine V.iload_n (q := 66) dX5_run_65 rfl rfl ?_
      refine V.icmp_ge (tgt := 79) (q := 69) dX5_run_66 (by decide) rfl (fun c66 => ?_) (fun c66 => ?_)
      · have hie : i = x.toNatClampNeg := Nat.le_antisymm hile (nle (by rw [← hx]; exact c66) (by omega) (by omega))
        refine V.aload_n (q := 80) dX5_run_79 rfl rfl ?_
        refine V.gM (q := 83) dX5_run_80 (j := 1) rfl bw_1012 rfl rfl rfl rfl ?_
        refine V.iconst (q := 84) dX5_run_83 (v := 4) rfl rfl ?_
        refine V.ldMu (q := 85) 4 dX5_run_84 hM rfl rfl rfl ?_
        exact V.iret dX5_run_85 rfl ⟨_, _, rfl, rfl, rfl, by rw [if_pos (okT gB gC), hie], MHG.yes (okT gB gC) hfr hH (by rw [← hie]; exact hM), by rw [if_pos gB, if_pos gC]; exact hT⟩
      · have hlt : i < x.toNatClampNeg := nnle (a := x.toNatClampNeg) (b := i) (by rw [← hx]; exact c66) (by omega) (by omega)
        refine V.aload_n (q := 70) dX5_run_69 rfl rfl ?_
        refine V.cVMP (q := 73) (As := []) dX5_run_70 rfl (cM_ticks hM (tks_Iu hI i (by omega)).1) MX5_ticks bw_1168 rfl rfl rfl rfl (by decide) rfl (fun v3 τ3 h3 => ?_)
        obtain ⟨rfl, hF3, hM⟩ := h3
        refine V.iinc (q := 76) dX5_run_73 rfl (by first | exact nI_inc _ | rfl) rfl rfl rfl ?_
        refine V.goto (tgt := 64) dX5_run_76 (by decide) ?_
        exact ih _ (by omega) (i + 1) _ rfl (by omega) gB gC (hfr.trans hF3.mc) (hF3.Hist hH) hM (hF3.thr.trans hT)
  refine V.aload_n (q := 1) dX5_run_0 rfl rfl ?_
  refine V.iconst (q := 2) dX5_run_1 (v := 0) rfl rfl ?_
  refine V.pM (q := 5) dX5_run_2 (j := 0) rfl bw_1011 rfl rfl rfl rfl rfl rfl ?_
  have hM : RM (stF σ 94 0 0) u := hM.scF
  have hH : Hist (stF σ 94 0 0) r hv := hH.z
  refine V.aload_n (q := 6) dX5_run_5 rfl rfl ?_
  refine V.iload_n (q := 7) dX5_run_6 rfl rfl ?_
  refine V.iconst (q := 8) dX5_run_7 (v := 1) rfl rfl ?_
  refine V.sipush (q := 11) dX5_run_8 (v := 999) rfl rfl ?_
  refine V.cSt (q := 14) dX5_run_11 (As := [_, _, _]) rfl cM_inRange MX5_inRange bw_1097 rfl rfl (by decide) rfl ?_
  refine V.if_ne (tgt := 21) (q := 17) dX5_run_14 (by decide) rfl (fun c14 => ?_) (fun c14 => ?_)
  · have g : (okI 1 999 x) = true := bI1.mp c14
    refine V.iconst (q := 22) dX5_run_21 (v := 0) rfl rfl ?_
    refine V.iconst (q := 23) dX5_run_22 (v := 1) rfl rfl ?_
    refine V.cVMP (q := 26) (As := [_, _]) dX5_run_23 rfl (kM_fails_false) MX5_fails bw_1351 rfl rfl rfl rfl (by decide) rfl (fun v1 τ1 h1 => ?_)
    obtain ⟨rfl, rfl⟩ := h1
    refine V.if_ne (tgt := 56) (q := 29) dX5_run_26 (by decide) rfl (fun c26 => ?_) (fun c26 => ?_)
    · exact absurd rfl c26
    · refine V.aload_n (q := 30) dX5_run_29 rfl rfl ?_
      refine V.aload_n (q := 31) dX5_run_30 rfl rfl ?_
      refine V.gM (q := 34) dX5_run_31 (j := 1) rfl bw_1012 rfl rfl rfl rfl ?_
      refine V.iconst (q := 35) dX5_run_34 (v := 3) rfl rfl ?_
      refine V.ldMu (q := 36) 3 dX5_run_35 hM rfl rfl rfl ?_
      refine V.iload_n (q := 37) dX5_run_36 rfl rfl ?_
      refine V.iadd (q := 38) dX5_run_37 rfl ?_
      refine V.sipush (q := 41) dX5_run_38 (v := 999) rfl rfl ?_
      refine V.icmp_le (tgt := 48) (q := 44) dX5_run_41 (by decide) rfl (fun c41 => ?_) (fun c41 => ?_)
      · have g2 : (decide (us u 3 + x ≤ 999)) = true := decide_eq_true c41
        refine V.iconst (q := 49) dX5_run_48 (v := 0) rfl rfl ?_
        refine V.iconst (q := 50) dX5_run_49 (v := 2) rfl rfl ?_
        refine V.cVMP (q := 53) (As := [_, _]) dX5_run_50 rfl (kM_fails_false) MX5_fails bw_1351 rfl rfl rfl rfl (by decide) rfl (fun v1 τ1 h1 => ?_)
        obtain ⟨rfl, rfl⟩ := h1
        refine V.if_eq (tgt := 58) (q := 56) dX5_run_53 (by decide) rfl (fun c53 => ?_) (fun c53 => ?_)
        · refine V.aload_n (q := 59) dX5_run_58 rfl rfl ?_
          refine V.cVMP (q := 62) (As := []) dX5_run_59 rfl (cM_records hH hM) MX5_records bw_1299 rfl rfl rfl rfl (by decide) rfl (fun v3 τ3 h3 => ?_)
          obtain ⟨rfl, hF3, hH⟩ := h3
          have hM := hF3.RM hM
          have hfr := FrX.z.mc.trans hF3.mc
          have hT := hF3.thr.trans thr_z
          refine V.iconst (q := 63) dX5_run_62 (v := 0) rfl rfl ?_
          refine V.istore_n (q := 64) dX5_run_63 rfl rfl rfl rfl ?_
          exact loop _ 0 _ rfl (Nat.zero_le _) g g2 hfr hH hM hT
        · exact absurd rfl c53
      · have g2 : (decide (us u 3 + x ≤ 999)) = false := decide_eq_false c41
        refine V.iconst (q := 45) dX5_run_44 (v := 1) rfl rfl ?_
        refine V.goto (tgt := 49) dX5_run_45 (by decide) ?_
        refine V.iconst (q := 50) dX5_run_49 (v := 2) rfl rfl ?_
        refine V.cVMP (q := 53) (As := [_, _]) dX5_run_50 rfl (kM_fails_true) MX5_fails bw_1351 rfl rfl rfl rfl (by decide) rfl (fun v1 τ1 h1 => ?_)
        obtain ⟨rfl, rfl⟩ := h1
        refine V.if_eq (tgt := 58) (q := 56) dX5_run_53 (by decide) rfl (fun c53 => ?_) (fun c53 => ?_)
        · exact absurd c53 (by decide)
        · refine V.iconst (q := 57) dX5_run_56 (v := 0) rfl rfl ?_
          exact V.iret dX5_run_57 rfl ⟨_, _, rfl, rfl, rfl, by rw [okN2 g2]; rfl, MHG.no (okN2 g2) (FrX.z.trans FrX.z).mc hH.z hM.scF, by rw [if_pos g, if_neg (by rw [g2]; decide)]; exact thr_z⟩
  · have g : (okI 1 999 x) = false := bI0.mp c14
    refine V.iconst (q := 18) dX5_run_17 (v := 1) rfl rfl ?_
    refine V.goto (tgt := 22) dX5_run_18 (by decide) ?_
    refine V.iconst (q := 23) dX5_run_22 (v := 1) rfl rfl ?_
    refine V.cVMP (q := 26) (As := [_, _]) dX5_run_23 rfl (kM_fails_true) MX5_fails bw_1351 rfl rfl rfl rfl (by decide) rfl (fun v1 τ1 h1 => ?_)
    obtain ⟨rfl, rfl⟩ := h1
    refine V.if_ne (tgt := 56) (q := 29) dX5_run_26 (by decide) rfl (fun c26 => ?_) (fun c26 => ?_)
    · refine V.iconst (q := 57) dX5_run_56 (v := 0) rfl rfl ?_
      exact V.iret dX5_run_57 rfl ⟨_, _, rfl, rfl, rfl, by rw [okN1 g]; rfl, MHG.no (okN1 g) (FrX.z.trans FrX.z).mc hH.z hM.scF, by rw [if_neg (by rw [g]; decide)]; exact thr_z⟩
    · exact absurd c26 (by decide)
set_option maxHeartbeats 2000000 in
theorem kM_undoDepth {l : Launch} {G : GG} {σ : St} {u : Vw} (hM : RM σ u) {r : Nat} {hv : Nat → Vw} (hH : Hist σ r hv) : CtP l G TX5_undoDepth 0 [.ref (gB G + 94)] σ (fun v τ => v = some (.int (nI r)) ∧ FrX σ τ ∧ RM τ u ∧ thr τ = 0) := by
  have hn : un u ≤ 40 := hM.1
  refine CtP.ofV (by decide +kernel) rfl rfl (Nat.le_of_ble_eq_true rfl) ?_
  refine V.aload_n (q := 1) dX5_undoDepth_0 rfl rfl ?_
  refine V.iconst (q := 2) dX5_undoDepth_1 (v := 0) rfl rfl ?_
  refine V.pM (q := 5) dX5_undoDepth_2 (j := 0) rfl bw_1011 rfl rfl rfl rfl rfl rfl ?_
  have hM : RM (stF σ 94 0 0) u := hM.scF
  have hH : Hist (stF σ 94 0 0) r hv := hH.z
  refine V.aload_n (q := 6) dX5_undoDepth_5 rfl rfl ?_
  refine V.gM (q := 9) dX5_undoDepth_6 (j := 3) rfl bw_1014 rfl rfl rfl rfl ?_
  rw [hH.1]
  exact V.iret dX5_undoDepth_9 rfl ⟨_, _, rfl, rfl, rfl, rfl, FrX.z, hM, thr_z⟩
