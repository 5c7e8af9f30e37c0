/-! LiftScheduler: forecasts, changes -/
set_option maxHeartbeats 2000000 in
theorem kL_reqC {l : Launch} {G : GG} {σ : St} {u : Vw} {qq : Nat → Nat} (hR : RC σ 1 u qq) {x : Int32} : CtX l G TX4_requireCapacity 6 1 6 [.ref (gB G + 0), .int x] σ (fun a τ => τ = σ ∧ a = req2 (okI 1 8 x) (decide (nI (many u 2) ≤ x)) "java/lang/IllegalArgumentException" "java/lang/IllegalStateException") := by
  have hn : un u ≤ 40 := hR.1
  refine CtX.ofV (by decide +kernel) rfl rfl (Nat.le_of_ble_eq_true rfl) ?_
  refine V.iload_n (q := 1) dX4_requireCapacity_0 rfl rfl ?_
  refine V.iconst (q := 2) dX4_requireCapacity_1 (v := 1) rfl rfl ?_
  refine V.icmp_lt (tgt := 11) (q := 5) dX4_requireCapacity_2 (by decide) rfl (fun c2 => ?_) (fun c2 => ?_)
  · exact V.throwW (j := 6) thr_IA dX4_requireCapacity_11 dX4_requireCapacity_14 dX4_requireCapacity_15 dX4_requireCapacity_18 dX4_requireCapacity_21 (by decide) (by decide +kernel) rfl rfl (by decide) (by decide) (by decide) rfl ⟨_, rfl, rfl, rfl, by rw [req2, if_neg (by rw [show okI 1 8 x = false from okN1 (nge c2)]; decide)]⟩
  · refine V.iload_n (q := 6) dX4_requireCapacity_5 rfl rfl ?_
    refine V.bipush (q := 8) dX4_requireCapacity_6 (v := 8) rfl rfl ?_
    refine V.icmp_le (tgt := 22) (q := 11) dX4_requireCapacity_8 (by decide) rfl (fun c8 => ?_) (fun c8 => ?_)
    · refine V.aload_n (q := 23) dX4_requireCapacity_22 rfl rfl ?_
      refine V.gL (q := 26) dX4_requireCapacity_23 (j := 0) rfl bw_168 rfl rfl rfl rfl ?_
      refine V.gSr (q := 29) dX4_requireCapacity_26 hR rfl bw_69 rfl ?_
      refine V.iload_n (q := 30) dX4_requireCapacity_29 rfl rfl ?_
      refine V.icmp_le (tgt := 44) (q := 33) dX4_requireCapacity_30 (by decide) rfl (fun c30 => ?_) (fun c30 => ?_)
      · exact V.vret dX4_requireCapacity_44 rfl ⟨_, rfl, rfl, rfl, by rw [req2, if_pos (show okI 1 8 x = true from okT (geT c2) (leT c8)), leT c30]; rfl⟩
      · exact V.throwW (j := 7) thr_IS dX4_requireCapacity_33 dX4_requireCapacity_36 dX4_requireCapacity_37 dX4_requireCapacity_40 dX4_requireCapacity_43 (by decide) (by decide +kernel) rfl rfl (by decide) (by decide) (by decide) rfl ⟨_, rfl, rfl, rfl, by rw [req2, if_pos (show okI 1 8 x = true from okT (geT c2) (leT c8)), nleT c30]; rfl⟩
    · exact V.throwW (j := 6) thr_IA dX4_requireCapacity_11 dX4_requireCapacity_14 dX4_requireCapacity_15 dX4_requireCapacity_18 dX4_requireCapacity_21 (by decide) (by decide +kernel) rfl rfl (by decide) (by decide) (by decide) rfl ⟨_, rfl, rfl, rfl, by rw [req2, if_neg (by rw [show okI 1 8 x = false from okN2 (nleT c8)]; decide)]⟩
set_option maxHeartbeats 4000000 in
theorem kL_ticksToFinish {l : Launch} {G : GG} {σ : St} {u : Vw} {qq : Nat → Nat} (hR : RC σ 1 u qq) (hI : Iu u) (ht : uT u ≤ 999) : CtP l G TX4_ticksToFinish 5 [.ref (gB G + 0)] σ (fun v τ => v = some (.int (nI (fcn u (us u 2) (us u 1)))) ∧ FrS 8 σ τ) := by
  have hn : un u ≤ 40 := hR.1
  refine CtP.ofV (by decide +kernel) rfl rfl (Nat.le_of_ble_eq_true rfl) ?_
  refine V.aload_n (q := 1) dX4_ticksToFinish_0 rfl rfl ?_
  refine V.aload_n (q := 2) dX4_ticksToFinish_1 rfl rfl ?_
  refine V.gL (q := 5) dX4_ticksToFinish_2 (j := 0) rfl bw_168 rfl rfl rfl rfl ?_
  refine V.gSu (q := 8) 2 dX4_ticksToFinish_5 hR rfl bw_45 rfl rfl ?_
  refine V.aload_n (q := 9) dX4_ticksToFinish_8 rfl rfl ?_
  refine V.gL (q := 12) dX4_ticksToFinish_9 (j := 0) rfl bw_168 rfl rfl rfl rfl ?_
  refine V.gSu (q := 15) 1 dX4_ticksToFinish_12 hR rfl bw_42 rfl rfl ?_
  refine V.cVLP (q := 18) (As := [_, _]) dX4_ticksToFinish_15 rfl (kL_forecast (x := us u 2) (y := us u 1) hR hI ht hI.own) MX4_forecast bw_357 rfl rfl rfl rfl (by decide) rfl (fun v1 τ1 h1 => ?_)
  obtain ⟨rfl, hfr, hRt⟩ := h1
  have hR1 := hR.fr hfr (Or.inl (by decide))
  exact V.iret dX4_ticksToFinish_18 rfl ⟨_, _, rfl, rfl, rfl, rfl, hfr⟩
set_option maxHeartbeats 4000000 in
theorem kL_ticksWithPolicy {l : Launch} {G : GG} {σ : St} {u : Vw} {qq : Nat → Nat} (hR : RC σ 1 u qq) (hI : Iu u) (ht : uT u ≤ 999) {x : Int32} : CtX l G TX4_ticksWithPolicy 7 1 6 [.ref (gB G + 0), .int x] σ (fun a τ => FrS 8 σ τ ∧ a = ansA (okI 0 2 x) "java/lang/IllegalArgumentException" (.int (nI (fcn u x (us u 1))))) := by
  have hn : un u ≤ 40 := hR.1
  refine CtX.ofV (by decide +kernel) rfl rfl (Nat.le_of_ble_eq_true rfl) ?_
  refine V.aload_n (q := 1) dX4_ticksWithPolicy_0 rfl rfl ?_
  refine V.iload_n (q := 2) dX4_ticksWithPolicy_1 rfl rfl ?_
  refine V.cVLX (q := 5) (As := [_]) dX4_ticksWithPolicy_2 rfl (kL_reqY hR) MX4_requirePolicy bw_749 rfl rfl rfl rfl (by decide) rfl (by decide) (by decide) (fun v9 τ9 h9 => ?_) (fun E9 τ9 h9 => ?_)
  · obtain ⟨rfl, h9⟩ := h9
    obtain ⟨g, rfl⟩ := reqA_inl h9
    refine V.aload_n (q := 6) dX4_ticksWithPolicy_5 rfl rfl ?_
    refine V.iload_n (q := 7) dX4_ticksWithPolicy_6 rfl rfl ?_
    refine V.aload_n (q := 8) dX4_ticksWithPolicy_7 rfl rfl ?_
    refine V.gL (q := 11) dX4_ticksWithPolicy_8 (j := 0) rfl bw_168 rfl rfl rfl rfl ?_
    refine V.gSu (q := 14) 1 dX4_ticksWithPolicy_11 hR rfl bw_42 rfl rfl ?_
    refine V.cVLP (q := 17) (As := [_, _]) dX4_ticksWithPolicy_14 rfl (kL_forecast (x := x) (y := us u 1) hR hI ht (hI.ownC g)) MX4_forecast bw_357 rfl rfl rfl rfl (by decide) rfl (fun v1 τ1 h1 => ?_)
    obtain ⟨rfl, hfr, hRt⟩ := h1
    have hR1 := hR.fr hfr (Or.inl (by decide))
    exact V.iret dX4_ticksWithPolicy_17 rfl ⟨_, rfl, rfl, hfr, ansA_t g rfl⟩
  · obtain ⟨rfl, h9⟩ := h9
    obtain ⟨g, rfl⟩ := reqA_inr h9
    exact VX.out rfl (by decide) (by decide) ⟨_, rfl, rfl, ⟨FrS.rf, ansA_f g⟩⟩
set_option maxHeartbeats 4000000 in
theorem kL_forecastWaits {l : Launch} {G : GG} {σ : St} {u : Vw} {qq : Nat → Nat} (hR : RC σ 1 u qq) (hI : Iu u) (ht : uT u ≤ 999) {x : Int32} (g : okI 0 2 x = true) : CtP l G TX4_forecastWaits 5 [.ref (gB G + 0), .int x] σ (fun v τ => v = some (.int (fcw u x)) ∧ FrS 8 σ τ) := by
  have hn : un u ≤ 40 := hR.1
  refine CtP.ofV (by decide +kernel) rfl rfl (Nat.le_of_ble_eq_true rfl) ?_
  refine V.aload_n (q := 1) dX4_forecastWaits_0 rfl rfl ?_
  refine V.iload_n (q := 2) dX4_forecastWaits_1 rfl rfl ?_
  refine V.aload_n (q := 3) dX4_forecastWaits_2 rfl rfl ?_
  refine V.gL (q := 6) dX4_forecastWaits_3 (j := 0) rfl bw_168 rfl rfl rfl rfl ?_
  refine V.gSu (q := 9) 1 dX4_forecastWaits_6 hR rfl bw_42 rfl rfl ?_
  refine V.cVLP (q := 12) (As := [_, _]) dX4_forecastWaits_9 rfl (kL_forecast (x := x) (y := us u 1) hR hI ht (hI.ownC g)) MX4_forecast bw_357 rfl rfl rfl rfl (by decide) rfl (fun v1 τ1 h1 => ?_)
  obtain ⟨rfl, hfr, hRt⟩ := h1
  have hR1 := hR.fr hfr (Or.inl (by decide))
  refine V.pop (q := 13) dX4_forecastWaits_12 rfl rfl ?_
  refine V.aload_n (q := 14) dX4_forecastWaits_13 rfl rfl ?_
  refine V.gL (q := 17) dX4_forecastWaits_14 (j := 1) rfl bw_169 rfl rfl rfl rfl ?_
  refine V.cVS (q := 20) dX4_forecastWaits_17 (As := []) rfl (cS_sumWaits (p := 8) rfl hRt (fc_Iu (hI.ownC g) ht).hw) MX3_sumWaits bw_324 rfl rfl rfl rfl (by decide) rfl ?_
  exact V.iret dX4_forecastWaits_20 rfl ⟨_, _, rfl, rfl, rfl, rfl, hfr⟩
set_option maxHeartbeats 4000000 in
theorem kL_waitWithPolicy {l : Launch} {G : GG} {σ : St} {u : Vw} {qq : Nat → Nat} (hR : RC σ 1 u qq) (hI : Iu u) (ht : uT u ≤ 999) {x : Int32} : CtX l G TX4_waitWithPolicy 7 1 6 [.ref (gB G + 0), .int x] σ (fun a τ => FrS 8 σ τ ∧ a = ansA (okI 0 2 x) "java/lang/IllegalArgumentException" (.int (fcw u x))) := by
  have hn : un u ≤ 40 := hR.1
  refine CtX.ofV (by decide +kernel) rfl rfl (Nat.le_of_ble_eq_true rfl) ?_
  refine V.aload_n (q := 1) dX4_waitWithPolicy_0 rfl rfl ?_
  refine V.iload_n (q := 2) dX4_waitWithPolicy_1 rfl rfl ?_
  refine V.cVLX (q := 5) (As := [_]) dX4_waitWithPolicy_2 rfl (kL_reqY hR) MX4_requirePolicy bw_749 rfl rfl rfl rfl (by decide) rfl (by decide) (by decide) (fun v9 τ9 h9 => ?_) (fun E9 τ9 h9 => ?_)
  · obtain ⟨rfl, h9⟩ := h9
    obtain ⟨g, rfl⟩ := reqA_inl h9
    refine V.aload_n (q := 6) dX4_waitWithPolicy_5 rfl rfl ?_
    refine V.iload_n (q := 7) dX4_waitWithPolicy_6 rfl rfl ?_
    refine V.cVLP (q := 10) (As := [_]) dX4_waitWithPolicy_7 rfl (kL_forecastWaits (x := x) hR hI ht g) MX4_forecastWaits bw_408 rfl rfl rfl rfl (by decide) rfl (fun v1 τ1 h1 => ?_)
    obtain ⟨rfl, hfr⟩ := h1
    exact V.iret dX4_waitWithPolicy_10 rfl ⟨_, rfl, rfl, hfr, ansA_t g rfl⟩
  · obtain ⟨rfl, h9⟩ := h9
    obtain ⟨g, rfl⟩ := reqA_inr h9
    exact VX.out rfl (by decide) (by decide) ⟨_, rfl, rfl, ⟨FrS.rf, ansA_f g⟩⟩
set_option maxHeartbeats 4000000 in
theorem kL_longestWaitWithPolicy {l : Launch} {G : GG} {σ : St} {u : Vw} {qq : Nat → Nat} (hR : RC σ 1 u qq) (hI : Iu u) (ht : uT u ≤ 999) {x : Int32} : CtX l G TX4_longestWaitWithPolicy 7 1 6 [.ref (gB G + 0), .int x] σ (fun a τ => FrS 8 σ τ ∧ a = ansA (okI 0 2 x) "java/lang/IllegalArgumentException" (.int (wmax (fcu u x (us u 1))))) := by
  have hn : un u ≤ 40 := hR.1
  refine CtX.ofV (by decide +kernel) rfl rfl (Nat.le_of_ble_eq_true rfl) ?_
  refine V.aload_n (q := 1) dX4_longestWaitWithPolicy_0 rfl rfl ?_
  refine V.iload_n (q := 2) dX4_longestWaitWithPolicy_1 rfl rfl ?_
  refine V.cVLX (q := 5) (As := [_]) dX4_longestWaitWithPolicy_2 rfl (kL_reqY hR) MX4_requirePolicy bw_749 rfl rfl rfl rfl (by decide) rfl (by decide) (by decide) (fun v9 τ9 h9 => ?_) (fun E9 τ9 h9 => ?_)
  · obtain ⟨rfl, h9⟩ := h9
    obtain ⟨g, rfl⟩ := reqA_inl h9
    refine V.aload_n (q := 6) dX4_longestWaitWithPolicy_5 rfl rfl ?_
    refine V.iload_n (q := 7) dX4_longestWaitWithPolicy_6 rfl rfl ?_
    refine V.aload_n (q := 8) dX4_longestWaitWithPolicy_7 rfl rfl ?_
    refine V.gL (q := 11) dX4_longestWaitWithPolicy_8 (j := 0) rfl bw_168 rfl rfl rfl rfl ?_
    refine V.gSu (q := 14) 1 dX4_longestWaitWithPolicy_11 hR rfl bw_42 rfl rfl ?_
    refine V.cVLP (q := 17) (As := [_, _]) dX4_longestWaitWithPolicy_14 rfl (kL_forecast (x := x) (y := us u 1) hR hI ht (hI.ownC g)) MX4_forecast bw_357 rfl rfl rfl rfl (by decide) rfl (fun v1 τ1 h1 => ?_)
    obtain ⟨rfl, hfr, hRt⟩ := h1
    have hR1 := hR.fr hfr (Or.inl (by decide))
    refine V.pop (q := 18) dX4_longestWaitWithPolicy_17 rfl rfl ?_
    refine V.aload_n (q := 19) dX4_longestWaitWithPolicy_18 rfl rfl ?_
    refine V.gL (q := 22) dX4_longestWaitWithPolicy_19 (j := 1) rfl bw_169 rfl rfl rfl rfl ?_
    refine V.cVS (q := 25) dX4_longestWaitWithPolicy_22 (As := []) rfl (cS_findLongestWait (p := 8) rfl hRt) MX3_findLongestWait bw_337 rfl rfl rfl rfl (by decide) rfl ?_
    exact V.iret dX4_longestWaitWithPolicy_25 rfl ⟨_, rfl, rfl, hfr, ansA_t g rfl⟩
  · obtain ⟨rfl, h9⟩ := h9
    obtain ⟨g, rfl⟩ := reqA_inr h9
    exact VX.out rfl (by decide) (by decide) ⟨_, rfl, rfl, ⟨FrS.rf, ansA_f g⟩⟩
set_option maxHeartbeats 4000000 in
theorem kL_bestPolicy {l : Launch} {G : GG} {σ : St} {u : Vw} {qq : Nat → Nat} (hR : RC σ 1 u qq) (hI : Iu u) (ht : uT u ≤ 999) : CtP l G TX4_bestPolicy 6 [.ref (gB G + 0)] σ (fun v τ => v = some (.int (bpL u 2).1) ∧ FrS 8 σ τ) := by
  have hn : un u ≤ 40 := hR.1
  have hfr : FrS 8 σ σ := FrS.rf
  refine CtP.ofV (by decide +kernel) rfl rfl (Nat.le_of_ble_eq_true rfl) ?_
  have loop : ∀ (m : Nat) (k : Nat) (τ : St) (L4 : Option Value), m = 2 - k → k ≤ 2 → RC τ 1 u qq → FrS 8 σ τ → V l G TX4_bestPolicy 6 0 0 (RetP G (fun v τ => v = some (.int (bpL u 2).1) ∧ FrS 8 σ τ)) 0 0 10 [some (.ref (gB G + 0)), some (.int (bpL u k).1), some (.int (bpL u k).2), some (.int (nI (k + 1))), L4] [] (hof G τ) NC := by
    intro m
    induction m using Nat.strongRecOn with
    | _ m ih =>
      intro k τ L4 hm hk hR hfr
      refine V.iload_n (q := 11) dX4_bestPolicy_10 rfl rfl ?_
      refine V.iconst (q := 12) dX4_bestPolicy_11 (v := 2) rfl rfl ?_
      refine V.icmp_gt (tgt := 39) (q := 15) dX4_bestPolicy_12 (by decide) rfl (fun c12 => ?_) (fun c12 => ?_)
      · have hk2 : k = 2 := by have := nnle (a := k + 1) (b := 2) (Int32.not_le.mpr c12) (by omega) (by decide); omega
        refine V.iload_n (q := 40) dX4_bestPolicy_39 rfl rfl ?_
        exact V.iret dX4_bestPolicy_40 rfl ⟨_, _, rfl, rfl, rfl, by rw [hk2], hfr⟩
      · have hk2 : k < 2 := by have := nle (a := k + 1) (b := 2) (Int32.not_lt.mp c12) (by omega) (by decide); omega
        refine V.aload_n (q := 16) dX4_bestPolicy_15 rfl rfl ?_
        refine V.iload_n (q := 17) dX4_bestPolicy_16 rfl rfl ?_
        refine V.cVLP (q := 20) (As := [_]) dX4_bestPolicy_17 rfl (kL_forecastWaits (x := nI (k + 1)) hR hI ht (by rcases (show k = 0 ∨ k = 1 by omega) with rfl | rfl <;> decide)) MX4_forecastWaits bw_408 rfl rfl rfl rfl (by decide) rfl (fun v1 τ1 h1 => ?_)
        obtain ⟨rfl, hfr1⟩ := h1
        have hR := hR.fr hfr1 (Or.inl (by decide))
        have hfr := hfr.trans hfr1
        refine V.istore (q := 22) dX4_bestPolicy_20 rfl rfl rfl ?_
        refine V.iload (q := 24) dX4_bestPolicy_22 rfl rfl ?_
        refine V.iload_n (q := 25) dX4_bestPolicy_24 rfl rfl ?_
        refine V.icmp_ge (tgt := 33) (q := 28) dX4_bestPolicy_25 (by decide) rfl (fun c25 => ?_) (fun c25 => ?_)
        · refine V.iinc (q := 36) dX4_bestPolicy_33 rfl (by first | exact nI_inc _ | rfl) rfl rfl rfl ?_
          refine V.goto (tgt := 10) dX4_bestPolicy_36 (by decide) ?_
          refine V.to (L2 := [some (.ref (gB G + 0)), some (.int (bpL u (k + 1)).1), some (.int (bpL u (k + 1)).2), some (.int (nI (k + 1 + 1))), some (.int (fcw u (nI (k + 1))))]) ?_ rfl rfl rfl (ih _ (by omega) (k + 1) _ _ rfl (by omega) hR hfr)
          simp only [bpL]
          rw [if_neg (Int32.not_lt.mpr c25)]
          rfl
        · refine V.iload (q := 30) dX4_bestPolicy_28 rfl rfl ?_
          refine V.istore_n (q := 31) dX4_bestPolicy_30 rfl rfl rfl rfl ?_
          refine V.iload_n (q := 32) dX4_bestPolicy_31 rfl rfl ?_
          refine V.istore_n (q := 33) dX4_bestPolicy_32 rfl rfl rfl rfl ?_
          refine V.iinc (q := 36) dX4_bestPolicy_33 rfl (by first | exact nI_inc _ | rfl) rfl rfl rfl ?_
          refine V.goto (tgt := 10) dX4_bestPolicy_36 (by decide) ?_
          refine V.to (L2 := [some (.ref (gB G + 0)), some (.int (bpL u (k + 1)).1), some (.int (bpL u (k + 1)).2), some (.int (nI (k + 1 + 1))), some (.int (fcw u (nI (k + 1))))]) ?_ rfl rfl rfl (ih _ (by omega) (k + 1) _ _ rfl (by omega) hR hfr)
          simp only [bpL]
          rw [if_pos (Int32.not_le.mp c25)]
          rfl
  refine V.iconst (q := 1) dX4_bestPolicy_0 (v := 0) rfl rfl ?_
  refine V.istore_n (q := 2) dX4_bestPolicy_1 rfl rfl rfl rfl ?_
  refine V.aload_n (q := 3) dX4_bestPolicy_2 rfl rfl ?_
  refine V.iconst (q := 4) dX4_bestPolicy_3 (v := 0) rfl rfl ?_
  refine V.cVLP (q := 7) (As := [_]) dX4_bestPolicy_4 rfl (kL_forecastWaits (x := 0) hR hI ht (by decide)) MX4_forecastWaits bw_408 rfl rfl rfl rfl (by decide) rfl (fun v1 τ1 h1 => ?_)
  obtain ⟨rfl, hfr1⟩ := h1
  have hR := hR.fr hfr1 (Or.inl (by decide))
  have hfr := hfr.trans hfr1
  refine V.istore_n (q := 8) dX4_bestPolicy_7 rfl rfl rfl rfl ?_
  refine V.iconst (q := 9) dX4_bestPolicy_8 (v := 1) rfl rfl ?_
  refine V.istore_n (q := 10) dX4_bestPolicy_9 rfl rfl rfl rfl ?_
  exact loop _ 0 _ _ rfl (by decide) hR hfr
set_option maxHeartbeats 4000000 in
theorem kL_ticksWithCapacity {l : Launch} {G : GG} {σ : St} {u : Vw} {qq : Nat → Nat} (hR : RC σ 1 u qq) (hI : Iu u) (ht : uT u ≤ 999) {x : Int32} : CtX l G TX4_ticksWithCapacity 7 1 6 [.ref (gB G + 0), .int x] σ (fun a τ => FrS 8 σ τ ∧ a = ans2 (okI 1 8 x) (decide (nI (many u 2) ≤ x)) "java/lang/IllegalArgumentException" "java/lang/IllegalStateException" (.int (nI (fcn u (us u 2) x)))) := by
  have hn : un u ≤ 40 := hR.1
  refine CtX.ofV (by decide +kernel) rfl rfl (Nat.le_of_ble_eq_true rfl) ?_
  refine V.aload_n (q := 1) dX4_ticksWithCapacity_0 rfl rfl ?_
  refine V.iload_n (q := 2) dX4_ticksWithCapacity_1 rfl rfl ?_
  refine V.cVLX (q := 5) (As := [_]) dX4_ticksWithCapacity_2 rfl (kL_reqC hR) MX4_requireCapacity bw_914 rfl rfl rfl rfl (by decide) rfl (by decide) (by decide) (fun v9 τ9 h9 => ?_) (fun E9 τ9 h9 => ?_)
  · obtain ⟨rfl, h9⟩ := h9
    obtain ⟨g, g2, rfl⟩ := req2_inl h9
    refine V.aload_n (q := 6) dX4_ticksWithCapacity_5 rfl rfl ?_
    refine V.aload_n (q := 7) dX4_ticksWithCapacity_6 rfl rfl ?_
    refine V.gL (q := 10) dX4_ticksWithCapacity_7 (j := 0) rfl bw_168 rfl rfl rfl rfl ?_
    refine V.gSu (q := 13) 2 dX4_ticksWithCapacity_10 hR rfl bw_45 rfl rfl ?_
    refine V.iload_n (q := 14) dX4_ticksWithCapacity_13 rfl rfl ?_
    refine V.cVLP (q := 17) (As := [_, _]) dX4_ticksWithCapacity_14 rfl (kL_forecast (x := us u 2) (y := x) hR hI ht (hI.ownP g g2)) MX4_forecast bw_357 rfl rfl rfl rfl (by decide) rfl (fun v1 τ1 h1 => ?_)
    obtain ⟨rfl, hfr, hRt⟩ := h1
    have hR1 := hR.fr hfr (Or.inl (by decide))
    exact V.iret dX4_ticksWithCapacity_17 rfl ⟨_, rfl, rfl, hfr, ans2_t g g2 rfl⟩
  · obtain ⟨rfl, h9⟩ := h9
    obtain ⟨g, g2⟩ := req2_inr h9
    exact VX.out rfl (by decide) (by decide) ⟨_, rfl, rfl, ⟨FrS.rf, g2 _⟩⟩
theorem tk_un (u : Vw) : un (tk u) = un u := by
  unfold tk tk0
  split
  · rfl
  · split
    · show un (opn u) = un u
      unfold opn
      exact (brd_un _ _).trans rfl
    · exact mv_un
theorem fzu_un : ∀ (k : Nat) (u : Vw), un (fzu k u) = un u
  | 0, u => rfl
  | k + 1, u => by
    by_cases h : many u 3 = un u
    · rw [fzu_fin h]
    · rw [fzu_step h, fzu_un k (tk u), tk_un]
theorem fcu_un {u : Vw} {p c : Int32} : un (fcu u p c) = un u := fzu_un _ _
set_option maxHeartbeats 4000000 in
theorem kL_expectedAt {l : Launch} {G : GG} {σ : St} {u : Vw} {qq : Nat → Nat} (hR : RC σ 1 u qq) (hI : Iu u) (ht : uT u ≤ 999) {x : Int32} : CtX l G TX4_expectedAt 7 1 6 [.ref (gB G + 0), .int x] σ (fun a τ => FrS 8 σ τ ∧ a = ansA (okP u x) "java/lang/IndexOutOfBoundsException" (.int (ur (fcu u (us u 2) (us u 1)) 4 x.toNatClampNeg))) := by
  have hn : un u ≤ 40 := hR.1
  refine CtX.ofV (by decide +kernel) rfl rfl (Nat.le_of_ble_eq_true rfl) ?_
  refine V.aload_n (q := 1) dX4_expectedAt_0 rfl rfl ?_
  refine V.iload_n (q := 2) dX4_expectedAt_1 rfl rfl ?_
  refine V.cVLX (q := 5) (As := [_]) dX4_expectedAt_2 rfl (kL_reqP hR) MX4_requirePassenger bw_763 rfl rfl rfl rfl (by decide) rfl (by decide) (by decide) (fun v9 τ9 h9 => ?_) (fun E9 τ9 h9 => ?_)
  · obtain ⟨rfl, h9⟩ := h9
    obtain ⟨g, rfl⟩ := reqA_inl h9
    obtain ⟨hx, hi⟩ := okP_i hn g
    refine V.aload_n (q := 6) dX4_expectedAt_5 rfl rfl ?_
    refine V.aload_n (q := 7) dX4_expectedAt_6 rfl rfl ?_
    refine V.gL (q := 10) dX4_expectedAt_7 (j := 0) rfl bw_168 rfl rfl rfl rfl ?_
    refine V.gSu (q := 13) 2 dX4_expectedAt_10 hR rfl bw_45 rfl rfl ?_
    refine V.aload_n (q := 14) dX4_expectedAt_13 rfl rfl ?_
    refine V.gL (q := 17) dX4_expectedAt_14 (j := 0) rfl bw_168 rfl rfl rfl rfl ?_
    refine V.gSu (q := 20) 1 dX4_expectedAt_17 hR rfl bw_42 rfl rfl ?_
    refine V.cVLP (q := 23) (As := [_, _]) dX4_expectedAt_20 rfl (kL_forecast (x := us u 2) (y := us u 1) hR hI ht hI.own) MX4_forecast bw_357 rfl rfl rfl rfl (by decide) rfl (fun v1 τ1 h1 => ?_)
    obtain ⟨rfl, hfr, hRt⟩ := h1
    have hi : x.toNatClampNeg < un (fcu u (us u 2) (us u 1)) := by rw [fcu_un]; exact hi
    refine V.pop (q := 24) dX4_expectedAt_23 rfl rfl ?_
    refine V.aload_n (q := 25) dX4_expectedAt_24 rfl rfl ?_
    refine V.gL (q := 28) dX4_expectedAt_25 (j := 1) rfl bw_169 rfl rfl rfl rfl ?_
    refine V.gS (q := 31) dX4_expectedAt_28 (j := 17) rfl bw_83 rfl rfl rfl rfl ?_
    refine V.iload_n (q := 32) dX4_expectedAt_31 rfl rfl ?_
    refine V.ldSu (q := 33) 4 dX4_expectedAt_32 hRt rfl rfl hx hi rfl ?_
    exact V.iret dX4_expectedAt_33 rfl ⟨_, rfl, rfl, hfr, ansA_t g rfl⟩
  · obtain ⟨rfl, h9⟩ := h9
    obtain ⟨g, rfl⟩ := reqA_inr h9
    exact VX.out rfl (by decide) (by decide) ⟨_, rfl, rfl, ⟨FrS.rf, ansA_f g⟩⟩
set_option maxHeartbeats 4000000 in
theorem kL_setPolicy {l : Launch} {G : GG} {σ : St} {u : Vw} {qq : Nat → Nat} (hR : RC σ 1 u qq) (hI : Iu u) (ht : uT u ≤ 999) {r : Nat} {hv : Nat → Vw} (hH : CH σ r hv) {x : Int32} : CtX l G TX4_setPolicy 7 1 6 [.ref (gB G + 0), .int x] σ (fun a τ => CHG (okI 0 2 x) σ τ r hv u (uS u 2 x) ∧ a = ansA (okI 0 2 x) "java/lang/IllegalArgumentException" (.int (us u 2))) := by
  have hn : un u ≤ 40 := hR.1
  refine CtX.ofV (by decide +kernel) rfl rfl (Nat.le_of_ble_eq_true rfl) ?_
  refine V.aload_n (q := 1) dX4_setPolicy_0 rfl rfl ?_
  refine V.iload_n (q := 2) dX4_setPolicy_1 rfl rfl ?_
  refine V.cVLX (q := 5) (As := [_]) dX4_setPolicy_2 rfl (kL_reqY hR) MX4_requirePolicy bw_749 rfl rfl rfl rfl (by decide) rfl (by decide) (by decide) (fun v9 τ9 h9 => ?_) (fun E9 τ9 h9 => ?_)
  · obtain ⟨rfl, h9⟩ := h9
    obtain ⟨g, rfl⟩ := reqA_inl h9
    refine V.aload_n (q := 6) dX4_setPolicy_5 rfl rfl ?_
    refine V.cVLP (q := 9) (As := []) dX4_setPolicy_6 rfl (kL_remember hR hI hH) MX4_rememberState bw_416 rfl rfl rfl rfl (by decide) rfl (fun v2 τ2 h2 => ?_)
    obtain ⟨rfl, hrm, hH2⟩ := h2
    have hR := hrm.RC (Or.inl rfl) hR
    have hfr : FrS 1 τ2 τ2 := FrS.rf
    refine V.aload_n (q := 10) dX4_setPolicy_9 rfl rfl ?_
    refine V.gL (q := 13) dX4_setPolicy_10 (j := 0) rfl bw_168 rfl rfl rfl rfl ?_
    refine V.gSu (q := 16) 2 dX4_setPolicy_13 hR rfl bw_45 rfl rfl ?_
    refine V.istore_n (q := 17) dX4_setPolicy_16 rfl rfl rfl rfl ?_
    refine V.aload_n (q := 18) dX4_setPolicy_17 rfl rfl ?_
    refine V.gL (q := 21) dX4_setPolicy_18 (j := 0) rfl bw_168 rfl rfl rfl rfl ?_
    refine V.iload_n (q := 22) dX4_setPolicy_21 rfl rfl ?_
    refine V.pS (q := 25) dX4_setPolicy_22 (j := 2) rfl bw_45 rfl rfl rfl rfl rfl rfl ?_
    refine V.iload_n (q := 26) dX4_setPolicy_25 rfl rfl ?_
    exact V.iret dX4_setPolicy_26 rfl ⟨_, rfl, rfl, CHG.yes g hrm hH2 hfr.sc (hR.sc 2 x (by decide)), ansA_t g rfl⟩
  · obtain ⟨rfl, h9⟩ := h9
    obtain ⟨g, rfl⟩ := reqA_inr h9
    exact VX.out rfl (by decide) (by decide) ⟨_, rfl, rfl, ⟨CHG.no g, ansA_f g⟩⟩
set_option maxHeartbeats 4000000 in
theorem kL_setCapacity {l : Launch} {G : GG} {σ : St} {u : Vw} {qq : Nat → Nat} (hR : RC σ 1 u qq) (hI : Iu u) (ht : uT u ≤ 999) {r : Nat} {hv : Nat → Vw} (hH : CH σ r hv) {x : Int32} : CtX l G TX4_setCapacity 7 1 6 [.ref (gB G + 0), .int x] σ (fun a τ => CHG (okI 1 8 x && decide (nI (many u 2) ≤ x)) σ τ r hv u (uS u 1 x) ∧ a = ans2 (okI 1 8 x) (decide (nI (many u 2) ≤ x)) "java/lang/IllegalArgumentException" "java/lang/IllegalStateException" (.int (us u 1))) := by
  have hn : un u ≤ 40 := hR.1
  refine CtX.ofV (by decide +kernel) rfl rfl (Nat.le_of_ble_eq_true rfl) ?_
  refine V.aload_n (q := 1) dX4_setCapacity_0 rfl rfl ?_
  refine V.iload_n (q := 2) dX4_setCapacity_1 rfl rfl ?_
  refine V.cVLX (q := 5) (As := [_]) dX4_setCapacity_2 rfl (kL_reqC hR) MX4_requireCapacity bw_914 rfl rfl rfl rfl (by decide) rfl (by decide) (by decide) (fun v9 τ9 h9 => ?_) (fun E9 τ9 h9 => ?_)
  · obtain ⟨rfl, h9⟩ := h9
    obtain ⟨g, g2, rfl⟩ := req2_inl h9
    refine V.aload_n (q := 6) dX4_setCapacity_5 rfl rfl ?_
    refine V.cVLP (q := 9) (As := []) dX4_setCapacity_6 rfl (kL_remember hR hI hH) MX4_rememberState bw_416 rfl rfl rfl rfl (by decide) rfl (fun v2 τ2 h2 => ?_)
    obtain ⟨rfl, hrm, hH2⟩ := h2
    have hR := hrm.RC (Or.inl rfl) hR
    have hfr : FrS 1 τ2 τ2 := FrS.rf
    refine V.aload_n (q := 10) dX4_setCapacity_9 rfl rfl ?_
    refine V.gL (q := 13) dX4_setCapacity_10 (j := 0) rfl bw_168 rfl rfl rfl rfl ?_
    refine V.gSu (q := 16) 1 dX4_setCapacity_13 hR rfl bw_42 rfl rfl ?_
    refine V.istore_n (q := 17) dX4_setCapacity_16 rfl rfl rfl rfl ?_
    refine V.aload_n (q := 18) dX4_setCapacity_17 rfl rfl ?_
    refine V.gL (q := 21) dX4_setCapacity_18 (j := 0) rfl bw_168 rfl rfl rfl rfl ?_
    refine V.iload_n (q := 22) dX4_setCapacity_21 rfl rfl ?_
    refine V.pS (q := 25) dX4_setCapacity_22 (j := 1) rfl bw_42 rfl rfl rfl rfl rfl rfl ?_
    refine V.iload_n (q := 26) dX4_setCapacity_25 rfl rfl ?_
    exact V.iret dX4_setCapacity_26 rfl ⟨_, rfl, rfl, CHG.yes (okT g g2) hrm hH2 hfr.sc (hR.sc 1 x (by decide)), ans2_t g g2 rfl⟩
  · obtain ⟨rfl, h9⟩ := h9
    obtain ⟨g, g2⟩ := req2_inr h9
    exact VX.out rfl (by decide) (by decide) ⟨_, rfl, rfl, ⟨CHG.no g, g2 _⟩⟩
set_option maxHeartbeats 4000000 in
theorem kL_runToEnd {l : Launch} {G : GG} {σ : St} {u : Vw} {qq : Nat → Nat} (hR : RC σ 1 u qq) (hI : Iu u) (ht : uT u ≤ 999) {r : Nat} {hv : Nat → Vw} (hH : CH σ r hv) : CtP l G TX4_runToEnd 4 [.ref (gB G + 0)] σ (fun v τ => v = some (.int (nI (fzn (999 - uT u) u))) ∧ CHG true σ τ r hv u (fzu (999 - uT u) u)) := by
  have hn : un u ≤ 40 := hR.1
  refine CtP.ofV (by decide +kernel) rfl rfl (Nat.le_of_ble_eq_true rfl) ?_
  refine V.aload_n (q := 1) dX4_runToEnd_0 rfl rfl ?_
  refine V.cVLP (q := 4) (As := []) dX4_runToEnd_1 rfl (kL_remember hR hI hH) MX4_rememberState bw_416 rfl rfl rfl rfl (by decide) rfl (fun v2 τ2 h2 => ?_)
  obtain ⟨rfl, hrm, hH2⟩ := h2
  have hR := hrm.RC (Or.inl rfl) hR
  have hfr : FrS 1 τ2 τ2 := FrS.rf
  refine V.aload_n (q := 5) dX4_runToEnd_4 rfl rfl ?_
  refine V.gL (q := 8) dX4_runToEnd_5 (j := 0) rfl bw_168 rfl rfl rfl rfl ?_
  refine V.sipush (q := 11) dX4_runToEnd_8 (v := 999) rfl rfl ?_
  refine V.aload_n (q := 12) dX4_runToEnd_11 rfl rfl ?_
  refine V.gL (q := 15) dX4_runToEnd_12 (j := 0) rfl bw_168 rfl rfl rfl rfl ?_
  refine V.gSu (q := 18) 3 dX4_runToEnd_15 hR rfl bw_48 rfl rfl ?_
  refine V.isub (q := 19) dX4_runToEnd_18 rfl ?_
  rw [show (999 : Int32) - us u 3 = nI (999 - uT u) by rw [hI.T.1]; exact pk_sub (a := 999) (by omega)]
  refine V.cVSP (q := 22) (As := [_]) dX4_runToEnd_19 rfl (cS_tickToEnd (p := 1) (K := 999 - uT u) rfl hR hI (by omega)) MX3_tickToEnd bw_369 rfl rfl rfl rfl (by decide) rfl (fun v3 τ3 h3 => ?_)
  obtain ⟨rfl, hfr3, hR⟩ := h3
  exact V.iret dX4_runToEnd_22 rfl ⟨_, _, rfl, rfl, rfl, rfl, CHG.yes rfl hrm hH2 hfr3 hR⟩
