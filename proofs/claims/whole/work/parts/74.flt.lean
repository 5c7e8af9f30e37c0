/-! shares and means -/
def msF (u : Vw) : UInt32 := if us u 3 = 0 then 0 else FP.fdiv (FP.i2f (us u 6)) (FP.i2f (us u 3))
def mwD (u : Vw) : UInt64 := if nI (many u 2) + nI (many u 3) = 0 then 0 else FP.ddiv (FP.i2d (wsum u)) (FP.i2d (nI (many u 2) + nI (many u 3)))
theorem ms_n {u : Vw} (hI : Iu u) (ht : uT u ≤ 999) (h : ¬ us u 3 = 0) : vf_n32 (FP.fdiv (FP.i2f (us u 6)) (FP.i2f (us u 3))) := by
  rw [hI.T.1] at h ⊢
  exact fdiv_n (by omega) (Nat.pos_of_ne_zero (fun z => h (by rw [z]; rfl)))
theorem mw_n {u : Vw} (hn : un u ≤ 40) (h : ¬ nI (many u 2) + nI (many u 3) = 0) : vf_n64 (FP.ddiv (FP.i2d (wsum u)) (FP.i2d (nI (many u 2) + nI (many u 3)))) := by
  have h1 : many u 2 ≤ un u := cnt_le _ _
  have h2 : many u 3 ≤ un u := cnt_le _ _
  rw [nI_add] at h ⊢
  exact ddiv_n (by omega) (Nat.pos_of_ne_zero (fun z => h (by rw [z]; rfl)))
theorem ms_d {u : Vw} (hI : Iu u) (ht : uT u ≤ 999) : vf_n64 (FP.f2d (msF u)) := by
  refine f2d_n ?_
  unfold msF
  by_cases h : us u 3 = 0
  · rw [if_pos h]; decide
  · rw [if_neg h]
    rw [hI.T.1] at h ⊢
    exact fdiv_d (by omega) (Nat.pos_of_ne_zero (fun z => h (by rw [z]; rfl)))
set_option maxHeartbeats 2000000 in
theorem kL_movingShare {l : Launch} {G : GG} {σ : St} {u : Vw} {qq : Nat → Nat} (hR : RC σ 1 u qq) (hI : Iu u) (ht : uT u ≤ 999) : CtS l G TX4_movingShare 0 [.ref (gB G + 0)] σ (some (.float (msF u))) σ := by
  have hn : un u ≤ 40 := hR.1
  refine CtS.ofV (by decide +kernel) rfl rfl (Nat.le_of_ble_eq_true rfl) ?_
  refine V.aload_n (q := 1) dX4_movingShare_0 rfl rfl ?_
  refine V.gL (q := 4) dX4_movingShare_1 (j := 0) rfl bw_168 rfl rfl rfl rfl ?_
  refine V.gSu (q := 7) 3 dX4_movingShare_4 hR rfl bw_48 rfl rfl ?_
  refine V.if_ne (tgt := 12) (q := 10) dX4_movingShare_7 (by decide) rfl (fun c7 => ?_) (fun c7 => ?_)
  · refine V.aload_n (q := 13) dX4_movingShare_12 rfl rfl ?_
    refine V.gL (q := 16) dX4_movingShare_13 (j := 0) rfl bw_168 rfl rfl rfl rfl ?_
    refine V.gSu (q := 19) 6 dX4_movingShare_16 hR rfl bw_57 rfl rfl ?_
    refine V.i2f (q := 20) dX4_movingShare_19 rfl ?_
    refine V.aload_n (q := 21) dX4_movingShare_20 rfl rfl ?_
    refine V.gL (q := 24) dX4_movingShare_21 (j := 0) rfl bw_168 rfl rfl rfl rfl ?_
    refine V.gSu (q := 27) 3 dX4_movingShare_24 hR rfl bw_48 rfl rfl ?_
    refine V.i2f (q := 28) dX4_movingShare_27 rfl ?_
    refine V.fdiv (q := 29) dX4_movingShare_28 (ms_n hI ht c7) rfl ?_
    exact V.fret dX4_movingShare_29 rfl ⟨by unfold msF; rw [if_neg c7], rfl, rfl⟩
  · refine V.fconst0 (q := 11) dX4_movingShare_10 rfl ?_
    exact V.fret dX4_movingShare_11 rfl ⟨by unfold msF; rw [if_pos c7], rfl, rfl⟩
set_option maxHeartbeats 2000000 in
theorem kL_meanWait {l : Launch} {G : GG} {σ : St} {u : Vw} {qq : Nat → Nat} (hR : RC σ 1 u qq) (hI : Iu u) : CtS l G TX4_meanWait 2 [.ref (gB G + 0)] σ (some (.double (mwD u))) σ := by
  have hn : un u ≤ 40 := hR.1
  refine CtS.ofV (by decide +kernel) rfl rfl (Nat.le_of_ble_eq_true rfl) ?_
  refine V.aload_n (q := 1) dX4_meanWait_0 rfl rfl ?_
  refine V.gL (q := 4) dX4_meanWait_1 (j := 0) rfl bw_168 rfl rfl rfl rfl ?_
  refine V.gSr (q := 7) dX4_meanWait_4 hR rfl bw_69 rfl ?_
  refine V.aload_n (q := 8) dX4_meanWait_7 rfl rfl ?_
  refine V.gL (q := 11) dX4_meanWait_8 (j := 0) rfl bw_168 rfl rfl rfl rfl ?_
  refine V.gSd (q := 14) dX4_meanWait_11 hR rfl bw_73 rfl ?_
  refine V.iadd (q := 15) dX4_meanWait_14 rfl ?_
  refine V.istore_n (q := 16) dX4_meanWait_15 rfl rfl rfl rfl ?_
  refine V.iload_n (q := 17) dX4_meanWait_16 rfl rfl ?_
  refine V.if_ne (tgt := 22) (q := 20) dX4_meanWait_17 (by decide) rfl (fun c17 => ?_) (fun c17 => ?_)
  · refine V.aload_n (q := 23) dX4_meanWait_22 rfl rfl ?_
    refine V.gL (q := 26) dX4_meanWait_23 (j := 0) rfl bw_168 rfl rfl rfl rfl ?_
    refine V.cVS (q := 29) dX4_meanWait_26 (As := []) rfl (cS_sumWaits rfl hR hI.hw) MX3_sumWaits bw_324 rfl rfl rfl rfl (by decide) rfl ?_
    refine V.i2d (q := 30) dX4_meanWait_29 rfl ?_
    refine V.iload_n (q := 31) dX4_meanWait_30 rfl rfl ?_
    refine V.i2d (q := 32) dX4_meanWait_31 rfl ?_
    refine V.ddiv (q := 33) dX4_meanWait_32 (mw_n hn c17) rfl ?_
    exact V.dret dX4_meanWait_33 rfl ⟨by unfold mwD; rw [if_neg c17], rfl, rfl⟩
  · refine V.dconst0 (q := 21) dX4_meanWait_20 rfl ?_
    exact V.dret dX4_meanWait_21 rfl ⟨by unfold mwD; rw [if_pos c17], rfl, rfl⟩
set_option maxHeartbeats 2000000 in
theorem kM_movingShare {l : Launch} {G : GG} {σ : St} {u : Vw} (hM : RM σ u) (hI : Iu u) (ht : uT u ≤ 999) : CtP l G TX5_movingShare 0 [.ref (gB G + 94)] σ (fun w τ => w = some (.float (msF u)) ∧ FrX σ τ ∧ RM τ u ∧ thr τ = 0) := by
  have hn : un u ≤ 40 := hM.1
  refine CtP.ofV (by decide +kernel) rfl rfl (Nat.le_of_ble_eq_true rfl) ?_
  refine V.aload_n (q := 1) dX5_movingShare_0 rfl rfl ?_
  refine V.iconst (q := 2) dX5_movingShare_1 (v := 0) rfl rfl ?_
  refine V.pM (q := 5) dX5_movingShare_2 (j := 0) rfl bw_1011 rfl rfl rfl rfl rfl rfl ?_
  have hM : RM (stF σ 94 0 0) u := hM.scF
  refine V.aload_n (q := 6) dX5_movingShare_5 rfl rfl ?_
  refine V.gM (q := 9) dX5_movingShare_6 (j := 1) rfl bw_1012 rfl rfl rfl rfl ?_
  refine V.iconst (q := 10) dX5_movingShare_9 (v := 3) rfl rfl ?_
  refine V.ldMu (q := 11) 3 dX5_movingShare_10 hM rfl rfl rfl ?_
  refine V.if_ne (tgt := 18) (q := 14) dX5_movingShare_11 (by decide) rfl (fun c11 => ?_) (fun c11 => ?_)
  · refine V.aload_n (q := 19) dX5_movingShare_18 rfl rfl ?_
    refine V.gM (q := 22) dX5_movingShare_19 (j := 1) rfl bw_1012 rfl rfl rfl rfl ?_
    refine V.bipush (q := 24) dX5_movingShare_22 (v := 6) rfl rfl ?_
    refine V.ldMu (q := 25) 6 dX5_movingShare_24 hM rfl rfl rfl ?_
    refine V.i2f (q := 26) dX5_movingShare_25 rfl ?_
    refine V.aload_n (q := 27) dX5_movingShare_26 rfl rfl ?_
    refine V.gM (q := 30) dX5_movingShare_27 (j := 1) rfl bw_1012 rfl rfl rfl rfl ?_
    refine V.iconst (q := 31) dX5_movingShare_30 (v := 3) rfl rfl ?_
    refine V.ldMu (q := 32) 3 dX5_movingShare_31 hM rfl rfl rfl ?_
    refine V.i2f (q := 33) dX5_movingShare_32 rfl ?_
    refine V.fdiv (q := 34) dX5_movingShare_33 (ms_n hI ht c11) rfl ?_
    exact V.fret dX5_movingShare_34 rfl ⟨_, _, rfl, rfl, rfl, by unfold msF; rw [if_neg c11], FrX.z, hM, thr_z⟩
  · refine V.fconst0 (q := 15) dX5_movingShare_14 rfl ?_
    refine V.goto (tgt := 34) dX5_movingShare_15 (by decide) ?_
    exact V.fret dX5_movingShare_34 rfl ⟨_, _, rfl, rfl, rfl, by unfold msF; rw [if_pos c11], FrX.z, hM, thr_z⟩
set_option maxHeartbeats 2000000 in
theorem kM_meanWait {l : Launch} {G : GG} {σ : St} {u : Vw} (hM : RM σ u)  : CtP l G TX5_meanWait 4 [.ref (gB G + 94)] σ (fun w τ => w = some (.double (mwD u)) ∧ FrX σ τ ∧ RM τ u ∧ thr τ = 0) := by
  have hn : un u ≤ 40 := hM.1
  refine CtP.ofV (by decide +kernel) rfl rfl (Nat.le_of_ble_eq_true rfl) ?_
  refine V.aload_n (q := 1) dX5_meanWait_0 rfl rfl ?_
  refine V.iconst (q := 2) dX5_meanWait_1 (v := 0) rfl rfl ?_
  refine V.pM (q := 5) dX5_meanWait_2 (j := 0) rfl bw_1011 rfl rfl rfl rfl rfl rfl ?_
  have hM : RM (stF σ 94 0 0) u := hM.scF
  refine V.aload_n (q := 6) dX5_meanWait_5 rfl rfl ?_
  refine V.iconst (q := 7) dX5_meanWait_6 (v := 2) rfl rfl ?_
  refine V.cVM (q := 10) dX5_meanWait_7 (As := [_]) rfl (cM_many hM) MX5_many bw_1180 rfl rfl rfl rfl (by decide) rfl ?_
  refine V.aload_n (q := 11) dX5_meanWait_10 rfl rfl ?_
  refine V.iconst (q := 12) dX5_meanWait_11 (v := 3) rfl rfl ?_
  refine V.cVM (q := 15) dX5_meanWait_12 (As := [_]) rfl (cM_many hM) MX5_many bw_1180 rfl rfl rfl rfl (by decide) rfl ?_
  refine V.iadd (q := 16) dX5_meanWait_15 rfl ?_
  refine V.istore_n (q := 17) dX5_meanWait_16 rfl rfl rfl rfl ?_
  refine V.iload_n (q := 18) dX5_meanWait_17 rfl rfl ?_
  refine V.if_ne (tgt := 25) (q := 21) dX5_meanWait_18 (by decide) rfl (fun c18 => ?_) (fun c18 => ?_)
  · refine V.aload_n (q := 26) dX5_meanWait_25 rfl rfl ?_
    refine V.cVM (q := 29) dX5_meanWait_26 (As := []) rfl (kM_waits hM) MX5_waits bw_1495 rfl rfl rfl rfl (by decide) rfl ?_
    refine V.i2d (q := 30) dX5_meanWait_29 rfl ?_
    refine V.iload_n (q := 31) dX5_meanWait_30 rfl rfl ?_
    refine V.i2d (q := 32) dX5_meanWait_31 rfl ?_
    refine V.ddiv (q := 33) dX5_meanWait_32 (mw_n hn c18) rfl ?_
    exact V.dret dX5_meanWait_33 rfl ⟨_, _, rfl, rfl, rfl, by unfold mwD; rw [if_neg c18]; rfl, FrX.z, hM, thr_z⟩
  · refine V.dconst0 (q := 22) dX5_meanWait_21 rfl ?_
    refine V.goto (tgt := 33) dX5_meanWait_22 (by decide) ?_
    exact V.dret dX5_meanWait_33 rfl ⟨_, _, rfl, rfl, rfl, by unfold mwD; rw [if_pos c18], FrX.z, hM, thr_z⟩
