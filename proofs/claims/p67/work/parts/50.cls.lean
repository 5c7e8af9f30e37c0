/-! LiftScheduler: what only reads -/
def reqA (b : Bool) (E : String) : Ans := if b then .inl none else .inr E
def ansA (b : Bool) (E : String) (v : Value) : Ans := if b then .inl (some v) else .inr E
theorem reqA_inl {b : Bool} {E : String} {v : Option Value} (h : (.inl v : Ans) = reqA b E) : b = true ∧ v = none := by
  cases b with
  | true => exact ⟨rfl, Sum.inl.inj h⟩
  | false => cases h
theorem reqA_inr {b : Bool} {E E2 : String} (h : (.inr E2 : Ans) = reqA b E) : b = false ∧ E2 = E := by
  cases b with
  | true => cases h
  | false => exact ⟨rfl, Sum.inr.inj h⟩
theorem reqA_t {b : Bool} {E : String} (h : b = true) : (.inl none : Ans) = reqA b E := by rw [h]; rfl
theorem reqA_f {b : Bool} {E : String} (h : b = false) : (.inr E : Ans) = reqA b E := by rw [h]; rfl
theorem ansA_t {b : Bool} {E : String} {v w : Value} (h : b = true) (e : w = v) : (.inl (some w) : Ans) = ansA b E v := by rw [h, e]; rfl
theorem ansA_f {b : Bool} {E : String} {v : Value} (h : b = false) : (.inr E : Ans) = ansA b E v := by rw [h]; rfl
set_option maxHeartbeats 2000000 in
theorem kL_floorCount {l : Launch} {G : GG} {σ : St} {u : Vw} {qq : Nat → Nat} (hR : RC σ 1 u qq)  : CtS l G TX4_floorCount 0 [.ref (gB G + 0)] σ (some (.int (us u 0))) σ := by
  have hn : un u ≤ 40 := hR.1
  refine CtS.ofV (by decide +kernel) rfl rfl (Nat.le_of_ble_eq_true rfl) ?_
  refine V.aload_n (q := 1) dX4_floorCount_0 rfl rfl ?_
  refine V.gL (q := 4) dX4_floorCount_1 (j := 0) rfl bw_168 rfl rfl rfl rfl ?_
  refine V.gSu (q := 7) 0 dX4_floorCount_4 hR rfl bw_44 rfl rfl ?_
  exact V.iret dX4_floorCount_7 rfl ⟨rfl, rfl, rfl⟩
set_option maxHeartbeats 2000000 in
theorem kL_capacity {l : Launch} {G : GG} {σ : St} {u : Vw} {qq : Nat → Nat} (hR : RC σ 1 u qq)  : CtS l G TX4_capacity 0 [.ref (gB G + 0)] σ (some (.int (us u 1))) σ := by
  have hn : un u ≤ 40 := hR.1
  refine CtS.ofV (by decide +kernel) rfl rfl (Nat.le_of_ble_eq_true rfl) ?_
  refine V.aload_n (q := 1) dX4_capacity_0 rfl rfl ?_
  refine V.gL (q := 4) dX4_capacity_1 (j := 0) rfl bw_168 rfl rfl rfl rfl ?_
  refine V.gSu (q := 7) 1 dX4_capacity_4 hR rfl bw_47 rfl rfl ?_
  exact V.iret dX4_capacity_7 rfl ⟨rfl, rfl, rfl⟩
set_option maxHeartbeats 2000000 in
theorem kL_policy {l : Launch} {G : GG} {σ : St} {u : Vw} {qq : Nat → Nat} (hR : RC σ 1 u qq)  : CtS l G TX4_policy 0 [.ref (gB G + 0)] σ (some (.int (us u 2))) σ := by
  have hn : un u ≤ 40 := hR.1
  refine CtS.ofV (by decide +kernel) rfl rfl (Nat.le_of_ble_eq_true rfl) ?_
  refine V.aload_n (q := 1) dX4_policy_0 rfl rfl ?_
  refine V.gL (q := 4) dX4_policy_1 (j := 0) rfl bw_168 rfl rfl rfl rfl ?_
  refine V.gSu (q := 7) 2 dX4_policy_4 hR rfl bw_50 rfl rfl ?_
  exact V.iret dX4_policy_7 rfl ⟨rfl, rfl, rfl⟩
set_option maxHeartbeats 2000000 in
theorem kL_time {l : Launch} {G : GG} {σ : St} {u : Vw} {qq : Nat → Nat} (hR : RC σ 1 u qq)  : CtS l G TX4_time 0 [.ref (gB G + 0)] σ (some (.int (us u 3))) σ := by
  have hn : un u ≤ 40 := hR.1
  refine CtS.ofV (by decide +kernel) rfl rfl (Nat.le_of_ble_eq_true rfl) ?_
  refine V.aload_n (q := 1) dX4_time_0 rfl rfl ?_
  refine V.gL (q := 4) dX4_time_1 (j := 0) rfl bw_168 rfl rfl rfl rfl ?_
  refine V.gSu (q := 7) 3 dX4_time_4 hR rfl bw_53 rfl rfl ?_
  exact V.iret dX4_time_7 rfl ⟨rfl, rfl, rfl⟩
set_option maxHeartbeats 2000000 in
theorem kL_floor {l : Launch} {G : GG} {σ : St} {u : Vw} {qq : Nat → Nat} (hR : RC σ 1 u qq)  : CtS l G TX4_floor 0 [.ref (gB G + 0)] σ (some (.int (us u 4))) σ := by
  have hn : un u ≤ 40 := hR.1
  refine CtS.ofV (by decide +kernel) rfl rfl (Nat.le_of_ble_eq_true rfl) ?_
  refine V.aload_n (q := 1) dX4_floor_0 rfl rfl ?_
  refine V.gL (q := 4) dX4_floor_1 (j := 0) rfl bw_168 rfl rfl rfl rfl ?_
  refine V.gSu (q := 7) 4 dX4_floor_4 hR rfl bw_56 rfl rfl ?_
  exact V.iret dX4_floor_7 rfl ⟨rfl, rfl, rfl⟩
set_option maxHeartbeats 2000000 in
theorem kL_distance {l : Launch} {G : GG} {σ : St} {u : Vw} {qq : Nat → Nat} (hR : RC σ 1 u qq)  : CtS l G TX4_distance 0 [.ref (gB G + 0)] σ (some (.int (us u 6))) σ := by
  have hn : un u ≤ 40 := hR.1
  refine CtS.ofV (by decide +kernel) rfl rfl (Nat.le_of_ble_eq_true rfl) ?_
  refine V.aload_n (q := 1) dX4_distance_0 rfl rfl ?_
  refine V.gL (q := 4) dX4_distance_1 (j := 0) rfl bw_168 rfl rfl rfl rfl ?_
  refine V.gSu (q := 7) 6 dX4_distance_4 hR rfl bw_61 rfl rfl ?_
  exact V.iret dX4_distance_7 rfl ⟨rfl, rfl, rfl⟩
set_option maxHeartbeats 2000000 in
theorem kL_doorTicks {l : Launch} {G : GG} {σ : St} {u : Vw} {qq : Nat → Nat} (hR : RC σ 1 u qq)  : CtS l G TX4_doorTicks 0 [.ref (gB G + 0)] σ (some (.int (us u 7))) σ := by
  have hn : un u ≤ 40 := hR.1
  refine CtS.ofV (by decide +kernel) rfl rfl (Nat.le_of_ble_eq_true rfl) ?_
  refine V.aload_n (q := 1) dX4_doorTicks_0 rfl rfl ?_
  refine V.gL (q := 4) dX4_doorTicks_1 (j := 0) rfl bw_168 rfl rfl rfl rfl ?_
  refine V.gSu (q := 7) 7 dX4_doorTicks_4 hR rfl bw_64 rfl rfl ?_
  exact V.iret dX4_doorTicks_7 rfl ⟨rfl, rfl, rfl⟩
set_option maxHeartbeats 2000000 in
theorem kL_idleTicks {l : Launch} {G : GG} {σ : St} {u : Vw} {qq : Nat → Nat} (hR : RC σ 1 u qq)  : CtS l G TX4_idleTicks 0 [.ref (gB G + 0)] σ (some (.int (us u 8))) σ := by
  have hn : un u ≤ 40 := hR.1
  refine CtS.ofV (by decide +kernel) rfl rfl (Nat.le_of_ble_eq_true rfl) ?_
  refine V.aload_n (q := 1) dX4_idleTicks_0 rfl rfl ?_
  refine V.gL (q := 4) dX4_idleTicks_1 (j := 0) rfl bw_168 rfl rfl rfl rfl ?_
  refine V.gSu (q := 7) 8 dX4_idleTicks_4 hR rfl bw_66 rfl rfl ?_
  exact V.iret dX4_idleTicks_7 rfl ⟨rfl, rfl, rfl⟩
set_option maxHeartbeats 2000000 in
theorem kL_isFull {l : Launch} {G : GG} {σ : St} {u : Vw} {qq : Nat → Nat} (hR : RC σ 1 u qq)  : CtS l G TX4_isFull 0 [.ref (gB G + 0)] σ (some (.int (if nI (many u 2) = us u 1 then 1 else 0))) σ := by
  have hn : un u ≤ 40 := hR.1
  refine CtS.ofV (by decide +kernel) rfl rfl (Nat.le_of_ble_eq_true rfl) ?_
  refine V.aload_n (q := 1) dX4_isFull_0 rfl rfl ?_
  refine V.gL (q := 4) dX4_isFull_1 (j := 0) rfl bw_168 rfl rfl rfl rfl ?_
  refine V.gSr (q := 7) dX4_isFull_4 hR rfl bw_72 rfl ?_
  refine V.aload_n (q := 8) dX4_isFull_7 rfl rfl ?_
  refine V.gL (q := 11) dX4_isFull_8 (j := 0) rfl bw_168 rfl rfl rfl rfl ?_
  refine V.gSu (q := 14) 1 dX4_isFull_11 hR rfl bw_47 rfl rfl ?_
  refine V.icmp_ne (tgt := 21) (q := 17) dX4_isFull_14 (by decide) rfl (fun c14 => ?_) (fun c14 => ?_)
  · refine V.iconst (q := 22) dX4_isFull_21 (v := 0) rfl rfl ?_
    exact V.zret (ty := .boolean) rfl dX4_isFull_22 rfl ⟨by first | rw [if_pos (by assumption)] | rw [if_neg (by assumption)], rfl, rfl⟩
  · refine V.iconst (q := 18) dX4_isFull_17 (v := 1) rfl rfl ?_
    refine V.goto (tgt := 22) dX4_isFull_18 (by decide) ?_
    exact V.zret (ty := .boolean) rfl dX4_isFull_22 rfl ⟨by first | rw [if_pos (by assumption)] | rw [if_neg (by assumption)], rfl, rfl⟩
set_option maxHeartbeats 2000000 in
theorem kL_stopMask {l : Launch} {G : GG} {σ : St} {u : Vw} {qq : Nat → Nat} (hR : RC σ 1 u qq)  : CtS l G TX4_stopMask 1 [.ref (gB G + 0)] σ (some (.int (stp u))) σ := by
  have hn : un u ≤ 40 := hR.1
  refine CtS.ofV (by decide +kernel) rfl rfl (Nat.le_of_ble_eq_true rfl) ?_
  refine V.aload_n (q := 1) dX4_stopMask_0 rfl rfl ?_
  refine V.gL (q := 4) dX4_stopMask_1 (j := 0) rfl bw_168 rfl rfl rfl rfl ?_
  refine V.cVS (q := 7) dX4_stopMask_4 (As := []) rfl (cS_findStops rfl hR) MX3_findStops bw_229 rfl rfl rfl rfl (by decide) rfl ?_
  exact V.iret dX4_stopMask_7 rfl ⟨rfl, rfl, rfl⟩
set_option maxHeartbeats 2000000 in
theorem kL_firstWaiting {l : Launch} {G : GG} {σ : St} {u : Vw} {qq : Nat → Nat} (hR : RC σ 1 u qq) (hl : Lb u) : CtS l G TX4_firstWaiting 1 [.ref (gB G + 0)] σ (some (.int (oI (fw u (isW u) (un u))))) σ := by
  have hn : un u ≤ 40 := hR.1
  refine CtS.ofV (by decide +kernel) rfl rfl (Nat.le_of_ble_eq_true rfl) ?_
  refine V.aload_n (q := 1) dX4_firstWaiting_0 rfl rfl ?_
  refine V.gL (q := 4) dX4_firstWaiting_1 (j := 0) rfl bw_168 rfl rfl rfl rfl ?_
  refine V.cVS (q := 7) dX4_firstWaiting_4 (As := []) rfl (cS_findFirstWaiting rfl hR hl) MX3_findFirstWaiting bw_443 rfl rfl rfl rfl (by decide) rfl ?_
  exact V.iret dX4_firstWaiting_7 rfl ⟨rfl, rfl, rfl⟩
set_option maxHeartbeats 2000000 in
theorem kL_totalWait {l : Launch} {G : GG} {σ : St} {u : Vw} {qq : Nat → Nat} (hR : RC σ 1 u qq) (hw : ∀ i, i < un u → (if wtI u i < 0 then 0 else wtI u i) = nz (wtI u i)) : CtS l G TX4_totalWait 2 [.ref (gB G + 0)] σ (some (.int (wsum u))) σ := by
  have hn : un u ≤ 40 := hR.1
  refine CtS.ofV (by decide +kernel) rfl rfl (Nat.le_of_ble_eq_true rfl) ?_
  refine V.aload_n (q := 1) dX4_totalWait_0 rfl rfl ?_
  refine V.gL (q := 4) dX4_totalWait_1 (j := 0) rfl bw_168 rfl rfl rfl rfl ?_
  refine V.cVS (q := 7) dX4_totalWait_4 (As := []) rfl (cS_sumWaits rfl hR hw) MX3_sumWaits bw_448 rfl rfl rfl rfl (by decide) rfl ?_
  exact V.iret dX4_totalWait_7 rfl ⟨rfl, rfl, rfl⟩
set_option maxHeartbeats 2000000 in
theorem kL_isFinished {l : Launch} {G : GG} {σ : St} {u : Vw} {qq : Nat → Nat} (hR : RC σ 1 u qq)  : CtS l G TX4_isFinished 1 [.ref (gB G + 0)] σ (some (.int (if many u 3 = un u then 1 else 0))) σ := by
  have hn : un u ≤ 40 := hR.1
  refine CtS.ofV (by decide +kernel) rfl rfl (Nat.le_of_ble_eq_true rfl) ?_
  refine V.aload_n (q := 1) dX4_isFinished_0 rfl rfl ?_
  refine V.gL (q := 4) dX4_isFinished_1 (j := 0) rfl bw_168 rfl rfl rfl rfl ?_
  refine V.cVS (q := 7) dX4_isFinished_4 (As := []) rfl (cS_isOver rfl hR) MX3_isOver bw_460 rfl rfl rfl rfl (by decide) rfl ?_
  exact V.zret (ty := .boolean) (by split <;> rfl) dX4_isFinished_7 rfl ⟨rfl, rfl, rfl⟩
set_option maxHeartbeats 2000000 in
theorem kL_reqP {l : Launch} {G : GG} {σ : St} {u : Vw} {qq : Nat → Nat} (hR : RC σ 1 u qq) {x : Int32} : CtX l G TX4_requirePassenger 6 1 6 [.ref (gB G + 0), .int x] σ (fun a τ => τ = σ ∧ a = reqA (okP u x) "java/lang/IndexOutOfBoundsException") := by
  have hn : un u ≤ 40 := hR.1
  refine CtX.ofV (by decide +kernel) rfl rfl (Nat.le_of_ble_eq_true rfl) ?_
  refine V.iload_n (q := 1) dX4_requirePassenger_0 rfl rfl ?_
  refine V.if_lt (tgt := 15) (q := 4) dX4_requirePassenger_1 (by decide) rfl (fun c1 => ?_) (fun c1 => ?_)
  · exact V.throwW (j := 1) thr_IO dX4_requirePassenger_15 dX4_requirePassenger_18 dX4_requirePassenger_19 dX4_requirePassenger_22 dX4_requirePassenger_25 (by decide) (by decide +kernel) rfl rfl (by decide) (by decide) (by decide) rfl ⟨_, rfl, rfl, rfl, reqA_f (okN1 (nge c1))⟩
  · refine V.iload_n (q := 5) dX4_requirePassenger_4 rfl rfl ?_
    refine V.aload_n (q := 6) dX4_requirePassenger_5 rfl rfl ?_
    refine V.gL (q := 9) dX4_requirePassenger_6 (j := 0) rfl bw_168 rfl rfl rfl rfl ?_
    refine V.gSn (q := 12) dX4_requirePassenger_9 hR rfl bw_69 rfl ?_
    refine V.icmp_lt (tgt := 26) (q := 15) dX4_requirePassenger_12 (by decide) rfl (fun c12 => ?_) (fun c12 => ?_)
    · exact V.vret dX4_requirePassenger_26 rfl ⟨_, rfl, rfl, rfl, reqA_t (okT (ge0 c1) (ltt c12))⟩
    · exact V.throwW (j := 1) thr_IO dX4_requirePassenger_15 dX4_requirePassenger_18 dX4_requirePassenger_19 dX4_requirePassenger_22 dX4_requirePassenger_25 (by decide) (by decide +kernel) rfl rfl (by decide) (by decide) (by decide) rfl ⟨_, rfl, rfl, rfl, reqA_f (okN2 (nltt c12))⟩
set_option maxHeartbeats 2000000 in
theorem kL_reqF {l : Launch} {G : GG} {σ : St} {u : Vw} {qq : Nat → Nat} (hR : RC σ 1 u qq) {x : Int32} : CtX l G TX4_requireFloor 6 1 6 [.ref (gB G + 0), .int x] σ (fun a τ => τ = σ ∧ a = reqA (okF u x) "java/lang/IndexOutOfBoundsException") := by
  have hn : un u ≤ 40 := hR.1
  refine CtX.ofV (by decide +kernel) rfl rfl (Nat.le_of_ble_eq_true rfl) ?_
  refine V.iload_n (q := 1) dX4_requireFloor_0 rfl rfl ?_
  refine V.if_lt (tgt := 15) (q := 4) dX4_requireFloor_1 (by decide) rfl (fun c1 => ?_) (fun c1 => ?_)
  · exact V.throwW (j := 3) thr_IO dX4_requireFloor_15 dX4_requireFloor_18 dX4_requireFloor_19 dX4_requireFloor_22 dX4_requireFloor_25 (by decide) (by decide +kernel) rfl rfl (by decide) (by decide) (by decide) rfl ⟨_, rfl, rfl, rfl, reqA_f (okN1 (nge c1))⟩
  · refine V.iload_n (q := 5) dX4_requireFloor_4 rfl rfl ?_
    refine V.aload_n (q := 6) dX4_requireFloor_5 rfl rfl ?_
    refine V.gL (q := 9) dX4_requireFloor_6 (j := 0) rfl bw_168 rfl rfl rfl rfl ?_
    refine V.gSu (q := 12) 0 dX4_requireFloor_9 hR rfl bw_44 rfl rfl ?_
    refine V.icmp_lt (tgt := 26) (q := 15) dX4_requireFloor_12 (by decide) rfl (fun c12 => ?_) (fun c12 => ?_)
    · exact V.vret dX4_requireFloor_26 rfl ⟨_, rfl, rfl, rfl, reqA_t (okT (ge0 c1) (ltt c12))⟩
    · exact V.throwW (j := 3) thr_IO dX4_requireFloor_15 dX4_requireFloor_18 dX4_requireFloor_19 dX4_requireFloor_22 dX4_requireFloor_25 (by decide) (by decide +kernel) rfl rfl (by decide) (by decide) (by decide) rfl ⟨_, rfl, rfl, rfl, reqA_f (okN2 (nltt c12))⟩
set_option maxHeartbeats 2000000 in
theorem kL_reqY {l : Launch} {G : GG} {σ : St} {u : Vw} {qq : Nat → Nat} (hR : RC σ 1 u qq) {x : Int32} : CtX l G TX4_requirePolicy 6 1 6 [.ref (gB G + 0), .int x] σ (fun a τ => τ = σ ∧ a = reqA (okI 0 2 x) "java/lang/IllegalArgumentException") := by
  have hn : un u ≤ 40 := hR.1
  refine CtX.ofV (by decide +kernel) rfl rfl (Nat.le_of_ble_eq_true rfl) ?_
  refine V.iload_n (q := 1) dX4_requirePolicy_0 rfl rfl ?_
  refine V.if_lt (tgt := 9) (q := 4) dX4_requirePolicy_1 (by decide) rfl (fun c1 => ?_) (fun c1 => ?_)
  · exact V.throwW (j := 0) thr_IA dX4_requirePolicy_9 dX4_requirePolicy_12 dX4_requirePolicy_13 dX4_requirePolicy_16 dX4_requirePolicy_19 (by decide) (by decide +kernel) rfl rfl (by decide) (by decide) (by decide) rfl ⟨_, rfl, rfl, rfl, reqA_f (okN1 (nge c1))⟩
  · refine V.iload_n (q := 5) dX4_requirePolicy_4 rfl rfl ?_
    refine V.iconst (q := 6) dX4_requirePolicy_5 (v := 2) rfl rfl ?_
    refine V.icmp_le (tgt := 20) (q := 9) dX4_requirePolicy_6 (by decide) rfl (fun c6 => ?_) (fun c6 => ?_)
    · exact V.vret dX4_requirePolicy_20 rfl ⟨_, rfl, rfl, rfl, reqA_t (okT (ge0 c1) (leT c6))⟩
    · exact V.throwW (j := 0) thr_IA dX4_requirePolicy_9 dX4_requirePolicy_12 dX4_requirePolicy_13 dX4_requirePolicy_16 dX4_requirePolicy_19 (by decide) (by decide +kernel) rfl rfl (by decide) (by decide) (by decide) rfl ⟨_, rfl, rfl, rfl, reqA_f (okN2 (nleT c6))⟩
set_option maxHeartbeats 2000000 in
theorem kL_statusOf {l : Launch} {G : GG} {σ : St} {u : Vw} {qq : Nat → Nat} (hR : RC σ 1 u qq) {x : Int32} : CtX l G TX4_statusOf 7 1 6 [.ref (gB G + 0), .int x] σ (fun a τ => τ = σ ∧ a = ansA (okP u x) "java/lang/IndexOutOfBoundsException" (.int (stat u x.toNatClampNeg))) := by
  have hn : un u ≤ 40 := hR.1
  refine CtX.ofV (by decide +kernel) rfl rfl (Nat.le_of_ble_eq_true rfl) ?_
  refine V.aload_n (q := 1) dX4_statusOf_0 rfl rfl ?_
  refine V.iload_n (q := 2) dX4_statusOf_1 rfl rfl ?_
  refine V.cVLX (q := 5) (As := [_]) dX4_statusOf_2 rfl (kL_reqP hR) MX4_requirePassenger bw_345 rfl rfl rfl rfl (by decide) rfl (by decide) (by decide) (fun v9 τ9 h9 => ?_) (fun E9 τ9 h9 => ?_)
  · obtain ⟨rfl, h9⟩ := h9
    obtain ⟨g, rfl⟩ := reqA_inl h9
    obtain ⟨hx, hi⟩ := okP_i hn g
    refine V.aload_n (q := 6) dX4_statusOf_5 rfl rfl ?_
    refine V.gL (q := 9) dX4_statusOf_6 (j := 0) rfl bw_168 rfl rfl rfl rfl ?_
    refine V.iload_n (q := 10) dX4_statusOf_9 rfl rfl ?_
    refine V.cVS (q := 13) dX4_statusOf_10 (As := [_]) rfl (by have := cS_findStatus (l := l) (G := G) (p := 1) rfl hR hi; rw [← hx] at this; exact this) MX3_findStatus bw_365 rfl rfl rfl rfl (by decide) rfl ?_
    exact V.iret dX4_statusOf_13 rfl ⟨_, rfl, rfl, rfl, ansA_t g rfl⟩
  · obtain ⟨rfl, h9⟩ := h9
    obtain ⟨g, rfl⟩ := reqA_inr h9
    exact VX.out rfl (by decide) (by decide) ⟨_, rfl, rfl, ⟨rfl, ansA_f g⟩⟩
set_option maxHeartbeats 2000000 in
theorem kL_originOf {l : Launch} {G : GG} {σ : St} {u : Vw} {qq : Nat → Nat} (hR : RC σ 1 u qq) {x : Int32} : CtX l G TX4_originOf 7 1 6 [.ref (gB G + 0), .int x] σ (fun a τ => τ = σ ∧ a = ansA (okP u x) "java/lang/IndexOutOfBoundsException" (.int (ur u 0 x.toNatClampNeg))) := by
  have hn : un u ≤ 40 := hR.1
  refine CtX.ofV (by decide +kernel) rfl rfl (Nat.le_of_ble_eq_true rfl) ?_
  refine V.aload_n (q := 1) dX4_originOf_0 rfl rfl ?_
  refine V.iload_n (q := 2) dX4_originOf_1 rfl rfl ?_
  refine V.cVLX (q := 5) (As := [_]) dX4_originOf_2 rfl (kL_reqP hR) MX4_requirePassenger bw_345 rfl rfl rfl rfl (by decide) rfl (by decide) (by decide) (fun v9 τ9 h9 => ?_) (fun E9 τ9 h9 => ?_)
  · obtain ⟨rfl, h9⟩ := h9
    obtain ⟨g, rfl⟩ := reqA_inl h9
    obtain ⟨hx, hi⟩ := okP_i hn g
    refine V.aload_n (q := 6) dX4_originOf_5 rfl rfl ?_
    refine V.gL (q := 9) dX4_originOf_6 (j := 0) rfl bw_168 rfl rfl rfl rfl ?_
    refine V.gS (q := 12) dX4_originOf_9 (j := 13) rfl bw_77 rfl rfl rfl rfl ?_
    refine V.iload_n (q := 13) dX4_originOf_12 rfl rfl ?_
    refine V.ldSu (q := 14) 0 dX4_originOf_13 hR rfl rfl hx hi rfl ?_
    exact V.iret dX4_originOf_14 rfl ⟨_, rfl, rfl, rfl, ansA_t g rfl⟩
  · obtain ⟨rfl, h9⟩ := h9
    obtain ⟨g, rfl⟩ := reqA_inr h9
    exact VX.out rfl (by decide) (by decide) ⟨_, rfl, rfl, ⟨rfl, ansA_f g⟩⟩
set_option maxHeartbeats 2000000 in
theorem kL_destinationOf {l : Launch} {G : GG} {σ : St} {u : Vw} {qq : Nat → Nat} (hR : RC σ 1 u qq) {x : Int32} : CtX l G TX4_destinationOf 7 1 6 [.ref (gB G + 0), .int x] σ (fun a τ => τ = σ ∧ a = ansA (okP u x) "java/lang/IndexOutOfBoundsException" (.int (ur u 1 x.toNatClampNeg))) := by
  have hn : un u ≤ 40 := hR.1
  refine CtX.ofV (by decide +kernel) rfl rfl (Nat.le_of_ble_eq_true rfl) ?_
  refine V.aload_n (q := 1) dX4_destinationOf_0 rfl rfl ?_
  refine V.iload_n (q := 2) dX4_destinationOf_1 rfl rfl ?_
  refine V.cVLX (q := 5) (As := [_]) dX4_destinationOf_2 rfl (kL_reqP hR) MX4_requirePassenger bw_345 rfl rfl rfl rfl (by decide) rfl (by decide) (by decide) (fun v9 τ9 h9 => ?_) (fun E9 τ9 h9 => ?_)
  · obtain ⟨rfl, h9⟩ := h9
    obtain ⟨g, rfl⟩ := reqA_inl h9
    obtain ⟨hx, hi⟩ := okP_i hn g
    refine V.aload_n (q := 6) dX4_destinationOf_5 rfl rfl ?_
    refine V.gL (q := 9) dX4_destinationOf_6 (j := 0) rfl bw_168 rfl rfl rfl rfl ?_
    refine V.gS (q := 12) dX4_destinationOf_9 (j := 14) rfl bw_79 rfl rfl rfl rfl ?_
    refine V.iload_n (q := 13) dX4_destinationOf_12 rfl rfl ?_
    refine V.ldSu (q := 14) 1 dX4_destinationOf_13 hR rfl rfl hx hi rfl ?_
    exact V.iret dX4_destinationOf_14 rfl ⟨_, rfl, rfl, rfl, ansA_t g rfl⟩
  · obtain ⟨rfl, h9⟩ := h9
    obtain ⟨g, rfl⟩ := reqA_inr h9
    exact VX.out rfl (by decide) (by decide) ⟨_, rfl, rfl, ⟨rfl, ansA_f g⟩⟩
set_option maxHeartbeats 2000000 in
theorem kL_arrivalOf {l : Launch} {G : GG} {σ : St} {u : Vw} {qq : Nat → Nat} (hR : RC σ 1 u qq) {x : Int32} : CtX l G TX4_arrivalOf 7 1 6 [.ref (gB G + 0), .int x] σ (fun a τ => τ = σ ∧ a = ansA (okP u x) "java/lang/IndexOutOfBoundsException" (.int (ur u 2 x.toNatClampNeg))) := by
  have hn : un u ≤ 40 := hR.1
  refine CtX.ofV (by decide +kernel) rfl rfl (Nat.le_of_ble_eq_true rfl) ?_
  refine V.aload_n (q := 1) dX4_arrivalOf_0 rfl rfl ?_
  refine V.iload_n (q := 2) dX4_arrivalOf_1 rfl rfl ?_
  refine V.cVLX (q := 5) (As := [_]) dX4_arrivalOf_2 rfl (kL_reqP hR) MX4_requirePassenger bw_345 rfl rfl rfl rfl (by decide) rfl (by decide) (by decide) (fun v9 τ9 h9 => ?_) (fun E9 τ9 h9 => ?_)
  · obtain ⟨rfl, h9⟩ := h9
    obtain ⟨g, rfl⟩ := reqA_inl h9
    obtain ⟨hx, hi⟩ := okP_i hn g
    refine V.aload_n (q := 6) dX4_arrivalOf_5 rfl rfl ?_
    refine V.gL (q := 9) dX4_arrivalOf_6 (j := 0) rfl bw_168 rfl rfl rfl rfl ?_
    refine V.gS (q := 12) dX4_arrivalOf_9 (j := 15) rfl bw_81 rfl rfl rfl rfl ?_
    refine V.iload_n (q := 13) dX4_arrivalOf_12 rfl rfl ?_
    refine V.ldSu (q := 14) 2 dX4_arrivalOf_13 hR rfl rfl hx hi rfl ?_
    exact V.iret dX4_arrivalOf_14 rfl ⟨_, rfl, rfl, rfl, ansA_t g rfl⟩
  · obtain ⟨rfl, h9⟩ := h9
    obtain ⟨g, rfl⟩ := reqA_inr h9
    exact VX.out rfl (by decide) (by decide) ⟨_, rfl, rfl, ⟨rfl, ansA_f g⟩⟩
set_option maxHeartbeats 2000000 in
theorem kL_boardedAt {l : Launch} {G : GG} {σ : St} {u : Vw} {qq : Nat → Nat} (hR : RC σ 1 u qq) {x : Int32} : CtX l G TX4_boardedAt 7 1 6 [.ref (gB G + 0), .int x] σ (fun a τ => τ = σ ∧ a = ansA (okP u x) "java/lang/IndexOutOfBoundsException" (.int (ur u 3 x.toNatClampNeg))) := by
  have hn : un u ≤ 40 := hR.1
  refine CtX.ofV (by decide +kernel) rfl rfl (Nat.le_of_ble_eq_true rfl) ?_
  refine V.aload_n (q := 1) dX4_boardedAt_0 rfl rfl ?_
  refine V.iload_n (q := 2) dX4_boardedAt_1 rfl rfl ?_
  refine V.cVLX (q := 5) (As := [_]) dX4_boardedAt_2 rfl (kL_reqP hR) MX4_requirePassenger bw_345 rfl rfl rfl rfl (by decide) rfl (by decide) (by decide) (fun v9 τ9 h9 => ?_) (fun E9 τ9 h9 => ?_)
  · obtain ⟨rfl, h9⟩ := h9
    obtain ⟨g, rfl⟩ := reqA_inl h9
    obtain ⟨hx, hi⟩ := okP_i hn g
    refine V.aload_n (q := 6) dX4_boardedAt_5 rfl rfl ?_
    refine V.gL (q := 9) dX4_boardedAt_6 (j := 0) rfl bw_168 rfl rfl rfl rfl ?_
    refine V.gS (q := 12) dX4_boardedAt_9 (j := 16) rfl bw_83 rfl rfl rfl rfl ?_
    refine V.iload_n (q := 13) dX4_boardedAt_12 rfl rfl ?_
    refine V.ldSu (q := 14) 3 dX4_boardedAt_13 hR rfl rfl hx hi rfl ?_
    exact V.iret dX4_boardedAt_14 rfl ⟨_, rfl, rfl, rfl, ansA_t g rfl⟩
  · obtain ⟨rfl, h9⟩ := h9
    obtain ⟨g, rfl⟩ := reqA_inr h9
    exact VX.out rfl (by decide) (by decide) ⟨_, rfl, rfl, ⟨rfl, ansA_f g⟩⟩
set_option maxHeartbeats 2000000 in
theorem kL_leftAt {l : Launch} {G : GG} {σ : St} {u : Vw} {qq : Nat → Nat} (hR : RC σ 1 u qq) {x : Int32} : CtX l G TX4_leftAt 7 1 6 [.ref (gB G + 0), .int x] σ (fun a τ => τ = σ ∧ a = ansA (okP u x) "java/lang/IndexOutOfBoundsException" (.int (ur u 4 x.toNatClampNeg))) := by
  have hn : un u ≤ 40 := hR.1
  refine CtX.ofV (by decide +kernel) rfl rfl (Nat.le_of_ble_eq_true rfl) ?_
  refine V.aload_n (q := 1) dX4_leftAt_0 rfl rfl ?_
  refine V.iload_n (q := 2) dX4_leftAt_1 rfl rfl ?_
  refine V.cVLX (q := 5) (As := [_]) dX4_leftAt_2 rfl (kL_reqP hR) MX4_requirePassenger bw_345 rfl rfl rfl rfl (by decide) rfl (by decide) (by decide) (fun v9 τ9 h9 => ?_) (fun E9 τ9 h9 => ?_)
  · obtain ⟨rfl, h9⟩ := h9
    obtain ⟨g, rfl⟩ := reqA_inl h9
    obtain ⟨hx, hi⟩ := okP_i hn g
    refine V.aload_n (q := 6) dX4_leftAt_5 rfl rfl ?_
    refine V.gL (q := 9) dX4_leftAt_6 (j := 0) rfl bw_168 rfl rfl rfl rfl ?_
    refine V.gS (q := 12) dX4_leftAt_9 (j := 17) rfl bw_85 rfl rfl rfl rfl ?_
    refine V.iload_n (q := 13) dX4_leftAt_12 rfl rfl ?_
    refine V.ldSu (q := 14) 4 dX4_leftAt_13 hR rfl rfl hx hi rfl ?_
    exact V.iret dX4_leftAt_14 rfl ⟨_, rfl, rfl, rfl, ansA_t g rfl⟩
  · obtain ⟨rfl, h9⟩ := h9
    obtain ⟨g, rfl⟩ := reqA_inr h9
    exact VX.out rfl (by decide) (by decide) ⟨_, rfl, rfl, ⟨rfl, ansA_f g⟩⟩
set_option maxHeartbeats 2000000 in
theorem kL_waitOf {l : Launch} {G : GG} {σ : St} {u : Vw} {qq : Nat → Nat} (hR : RC σ 1 u qq) {x : Int32} : CtX l G TX4_waitOf 7 1 6 [.ref (gB G + 0), .int x] σ (fun a τ => τ = σ ∧ a = ansA (okP u x) "java/lang/IndexOutOfBoundsException" (.int (wtI u x.toNatClampNeg))) := by
  have hn : un u ≤ 40 := hR.1
  refine CtX.ofV (by decide +kernel) rfl rfl (Nat.le_of_ble_eq_true rfl) ?_
  refine V.aload_n (q := 1) dX4_waitOf_0 rfl rfl ?_
  refine V.iload_n (q := 2) dX4_waitOf_1 rfl rfl ?_
  refine V.cVLX (q := 5) (As := [_]) dX4_waitOf_2 rfl (kL_reqP hR) MX4_requirePassenger bw_345 rfl rfl rfl rfl (by decide) rfl (by decide) (by decide) (fun v9 τ9 h9 => ?_) (fun E9 τ9 h9 => ?_)
  · obtain ⟨rfl, h9⟩ := h9
    obtain ⟨g, rfl⟩ := reqA_inl h9
    obtain ⟨hx, hi⟩ := okP_i hn g
    refine V.aload_n (q := 6) dX4_waitOf_5 rfl rfl ?_
    refine V.gL (q := 9) dX4_waitOf_6 (j := 0) rfl bw_168 rfl rfl rfl rfl ?_
    refine V.iload_n (q := 10) dX4_waitOf_9 rfl rfl ?_
    refine V.cVS (q := 13) dX4_waitOf_10 (As := [_]) rfl (by have := cS_findWait (l := l) (G := G) (p := 1) rfl hR hi; rw [← hx] at this; exact this) MX3_findWait bw_393 rfl rfl rfl rfl (by decide) rfl ?_
    exact V.iret dX4_waitOf_13 rfl ⟨_, rfl, rfl, rfl, ansA_t g rfl⟩
  · obtain ⟨rfl, h9⟩ := h9
    obtain ⟨g, rfl⟩ := reqA_inr h9
    exact VX.out rfl (by decide) (by decide) ⟨_, rfl, rfl, ⟨rfl, ansA_f g⟩⟩
set_option maxHeartbeats 2000000 in
theorem kL_rideOf {l : Launch} {G : GG} {σ : St} {u : Vw} {qq : Nat → Nat} (hR : RC σ 1 u qq) {x : Int32} : CtX l G TX4_rideOf 7 1 6 [.ref (gB G + 0), .int x] σ (fun a τ => τ = σ ∧ a = ansA (okP u x) "java/lang/IndexOutOfBoundsException" (.int (rdI u x.toNatClampNeg))) := by
  have hn : un u ≤ 40 := hR.1
  refine CtX.ofV (by decide +kernel) rfl rfl (Nat.le_of_ble_eq_true rfl) ?_
  refine V.aload_n (q := 1) dX4_rideOf_0 rfl rfl ?_
  refine V.iload_n (q := 2) dX4_rideOf_1 rfl rfl ?_
  refine V.cVLX (q := 5) (As := [_]) dX4_rideOf_2 rfl (kL_reqP hR) MX4_requirePassenger bw_345 rfl rfl rfl rfl (by decide) rfl (by decide) (by decide) (fun v9 τ9 h9 => ?_) (fun E9 τ9 h9 => ?_)
  · obtain ⟨rfl, h9⟩ := h9
    obtain ⟨g, rfl⟩ := reqA_inl h9
    obtain ⟨hx, hi⟩ := okP_i hn g
    refine V.aload_n (q := 6) dX4_rideOf_5 rfl rfl ?_
    refine V.gL (q := 9) dX4_rideOf_6 (j := 0) rfl bw_168 rfl rfl rfl rfl ?_
    refine V.iload_n (q := 10) dX4_rideOf_9 rfl rfl ?_
    refine V.cVS (q := 13) dX4_rideOf_10 (As := [_]) rfl (by have := cS_findRide (l := l) (G := G) (p := 1) rfl hR hi; rw [← hx] at this; exact this) MX3_findRide bw_401 rfl rfl rfl rfl (by decide) rfl ?_
    exact V.iret dX4_rideOf_13 rfl ⟨_, rfl, rfl, rfl, ansA_t g rfl⟩
  · obtain ⟨rfl, h9⟩ := h9
    obtain ⟨g, rfl⟩ := reqA_inr h9
    exact VX.out rfl (by decide) (by decide) ⟨_, rfl, rfl, ⟨rfl, ansA_f g⟩⟩
set_option maxHeartbeats 2000000 in
theorem kL_detourOf {l : Launch} {G : GG} {σ : St} {u : Vw} {qq : Nat → Nat} (hR : RC σ 1 u qq) {x : Int32} : CtX l G TX4_detourOf 7 1 6 [.ref (gB G + 0), .int x] σ (fun a τ => τ = σ ∧ a = ansA (okP u x) "java/lang/IndexOutOfBoundsException" (.int (dtI u x.toNatClampNeg))) := by
  have hn : un u ≤ 40 := hR.1
  refine CtX.ofV (by decide +kernel) rfl rfl (Nat.le_of_ble_eq_true rfl) ?_
  refine V.aload_n (q := 1) dX4_detourOf_0 rfl rfl ?_
  refine V.iload_n (q := 2) dX4_detourOf_1 rfl rfl ?_
  refine V.cVLX (q := 5) (As := [_]) dX4_detourOf_2 rfl (kL_reqP hR) MX4_requirePassenger bw_345 rfl rfl rfl rfl (by decide) rfl (by decide) (by decide) (fun v9 τ9 h9 => ?_) (fun E9 τ9 h9 => ?_)
  · obtain ⟨rfl, h9⟩ := h9
    obtain ⟨g, rfl⟩ := reqA_inl h9
    obtain ⟨hx, hi⟩ := okP_i hn g
    refine V.aload_n (q := 6) dX4_detourOf_5 rfl rfl ?_
    refine V.gL (q := 9) dX4_detourOf_6 (j := 0) rfl bw_168 rfl rfl rfl rfl ?_
    refine V.iload_n (q := 10) dX4_detourOf_9 rfl rfl ?_
    refine V.cVS (q := 13) dX4_detourOf_10 (As := [_]) rfl (by have := cS_findRide (l := l) (G := G) (p := 1) rfl hR hi; rw [← hx] at this; exact this) MX3_findRide bw_401 rfl rfl rfl rfl (by decide) rfl ?_
    refine V.istore_n (q := 14) dX4_detourOf_13 rfl rfl rfl rfl ?_
    refine V.iload_n (q := 15) dX4_detourOf_14 rfl rfl ?_
    refine V.iconst (q := 16) dX4_detourOf_15 (v := -1) rfl rfl ?_
    refine V.icmp_ne (tgt := 21) (q := 19) dX4_detourOf_16 (by decide) rfl (fun c16 => ?_) (fun c16 => ?_)
    · refine V.iload_n (q := 22) dX4_detourOf_21 rfl rfl ?_
      refine V.iconst (q := 23) dX4_detourOf_22 (v := 1) rfl rfl ?_
      refine V.isub (q := 24) dX4_detourOf_23 rfl ?_
      refine V.aload_n (q := 25) dX4_detourOf_24 rfl rfl ?_
      refine V.gL (q := 28) dX4_detourOf_25 (j := 0) rfl bw_168 rfl rfl rfl rfl ?_
      refine V.gS (q := 31) dX4_detourOf_28 (j := 13) rfl bw_77 rfl rfl rfl rfl ?_
      refine V.iload_n (q := 32) dX4_detourOf_31 rfl rfl ?_
      refine V.ldSu (q := 33) 0 dX4_detourOf_32 hR rfl rfl hx hi rfl ?_
      refine V.aload_n (q := 34) dX4_detourOf_33 rfl rfl ?_
      refine V.gL (q := 37) dX4_detourOf_34 (j := 0) rfl bw_168 rfl rfl rfl rfl ?_
      refine V.gS (q := 40) dX4_detourOf_37 (j := 14) rfl bw_79 rfl rfl rfl rfl ?_
      refine V.iload_n (q := 41) dX4_detourOf_40 rfl rfl ?_
      refine V.ldSu (q := 42) 1 dX4_detourOf_41 hR rfl rfl hx hi rfl ?_
      refine V.isub (q := 43) dX4_detourOf_42 rfl ?_
      refine V.mabs (q := 46) dX4_detourOf_43 bw_409 bw_410 bw_10 bw_411 rfl (by decide) (by decide) (by decide) rfl ?_
      refine V.isub (q := 47) dX4_detourOf_46 rfl ?_
      exact V.iret dX4_detourOf_47 rfl ⟨_, rfl, rfl, rfl, ansA_t g (by unfold dtI; rw [if_neg c16]; rfl)⟩
    · refine V.iconst (q := 20) dX4_detourOf_19 (v := -1) rfl rfl ?_
      exact V.iret dX4_detourOf_20 rfl ⟨_, rfl, rfl, rfl, ansA_t g (by unfold dtI; rw [if_pos c16])⟩
  · obtain ⟨rfl, h9⟩ := h9
    obtain ⟨g, rfl⟩ := reqA_inr h9
    exact VX.out rfl (by decide) (by decide) ⟨_, rfl, rfl, ⟨rfl, ansA_f g⟩⟩
set_option maxHeartbeats 2000000 in
theorem kL_countStatus {l : Launch} {G : GG} {σ : St} {u : Vw} {qq : Nat → Nat} (hR : RC σ 1 u qq) {x : Int32} : CtX l G TX4_countStatus 7 1 6 [.ref (gB G + 0), .int x] σ (fun a τ => τ = σ ∧ a = ansA (okI 0 3 x) "java/lang/IllegalArgumentException" (.int (nI (many u x)))) := by
  have hn : un u ≤ 40 := hR.1
  refine CtX.ofV (by decide +kernel) rfl rfl (Nat.le_of_ble_eq_true rfl) ?_
  refine V.iload_n (q := 1) dX4_countStatus_0 rfl rfl ?_
  refine V.if_lt (tgt := 9) (q := 4) dX4_countStatus_1 (by decide) rfl (fun c1 => ?_) (fun c1 => ?_)
  · exact V.throw (j := 2) thr_IA dX4_countStatus_9 dX4_countStatus_12 dX4_countStatus_13 dX4_countStatus_15 dX4_countStatus_18 (by decide) (by decide +kernel) rfl rfl (by decide) (by decide) (by decide) rfl ⟨_, rfl, rfl, rfl, ansA_f (okN1 (nge c1))⟩
  · refine V.iload_n (q := 5) dX4_countStatus_4 rfl rfl ?_
    refine V.iconst (q := 6) dX4_countStatus_5 (v := 3) rfl rfl ?_
    refine V.icmp_le (tgt := 19) (q := 9) dX4_countStatus_6 (by decide) rfl (fun c6 => ?_) (fun c6 => ?_)
    · refine V.aload_n (q := 20) dX4_countStatus_19 rfl rfl ?_
      refine V.gL (q := 23) dX4_countStatus_20 (j := 0) rfl bw_168 rfl rfl rfl rfl ?_
      refine V.iload_n (q := 24) dX4_countStatus_23 rfl rfl ?_
      refine V.cVS (q := 27) dX4_countStatus_24 (As := [_]) rfl (cS_countWith rfl hR) MX3_countWith bw_417 rfl rfl rfl rfl (by decide) rfl ?_
      exact V.iret dX4_countStatus_27 rfl ⟨_, rfl, rfl, rfl, ansA_t (okT (ge0 c1) (leT c6)) rfl⟩
    · exact V.throw (j := 2) thr_IA dX4_countStatus_9 dX4_countStatus_12 dX4_countStatus_13 dX4_countStatus_15 dX4_countStatus_18 (by decide) (by decide +kernel) rfl rfl (by decide) (by decide) (by decide) rfl ⟨_, rfl, rfl, rfl, ansA_f (okN2 (nleT c6))⟩
set_option maxHeartbeats 2000000 in
theorem kL_waitingAt {l : Launch} {G : GG} {σ : St} {u : Vw} {qq : Nat → Nat} (hR : RC σ 1 u qq) {x : Int32} : CtX l G TX4_waitingAt 7 1 6 [.ref (gB G + 0), .int x] σ (fun a τ => τ = σ ∧ a = ansA (okF u x) "java/lang/IndexOutOfBoundsException" (.int (nI (cnt (fun j => (ur u 0 j == x) && (stat u j == 1)) (un u))))) := by
  have hn : un u ≤ 40 := hR.1
  refine CtX.ofV (by decide +kernel) rfl rfl (Nat.le_of_ble_eq_true rfl) ?_
  refine V.aload_n (q := 1) dX4_waitingAt_0 rfl rfl ?_
  refine V.iload_n (q := 2) dX4_waitingAt_1 rfl rfl ?_
  refine V.cVLX (q := 5) (As := [_]) dX4_waitingAt_2 rfl (kL_reqF hR) MX4_requireFloor bw_426 rfl rfl rfl rfl (by decide) rfl (by decide) (by decide) (fun v9 τ9 h9 => ?_) (fun E9 τ9 h9 => ?_)
  · obtain ⟨rfl, h9⟩ := h9
    obtain ⟨g, rfl⟩ := reqA_inl h9
    refine V.aload_n (q := 6) dX4_waitingAt_5 rfl rfl ?_
    refine V.gL (q := 9) dX4_waitingAt_6 (j := 0) rfl bw_168 rfl rfl rfl rfl ?_
    refine V.iload_n (q := 10) dX4_waitingAt_9 rfl rfl ?_
    refine V.cVS (q := 13) dX4_waitingAt_10 (As := [_]) rfl (cS_countWaiting rfl hR) MX3_countWaiting bw_431 rfl rfl rfl rfl (by decide) rfl ?_
    exact V.iret dX4_waitingAt_13 rfl ⟨_, rfl, rfl, rfl, ansA_t g rfl⟩
  · obtain ⟨rfl, h9⟩ := h9
    obtain ⟨g, rfl⟩ := reqA_inr h9
    exact VX.out rfl (by decide) (by decide) ⟨_, rfl, rfl, ⟨rfl, ansA_f g⟩⟩
set_option maxHeartbeats 2000000 in
theorem kL_targetBy {l : Launch} {G : GG} {σ : St} {u : Vw} {qq : Nat → Nat} (hR : RC σ 1 u qq) (hI : Iu u) {x : Int32} : CtX l G TX4_targetBy 7 1 6 [.ref (gB G + 0), .int x] σ (fun a τ => τ = σ ∧ a = ansA (okI 0 2 x) "java/lang/IllegalArgumentException" (.int (tgt u x))) := by
  have hn : un u ≤ 40 := hR.1
  refine CtX.ofV (by decide +kernel) rfl rfl (Nat.le_of_ble_eq_true rfl) ?_
  refine V.aload_n (q := 1) dX4_targetBy_0 rfl rfl ?_
  refine V.iload_n (q := 2) dX4_targetBy_1 rfl rfl ?_
  refine V.cVLX (q := 5) (As := [_]) dX4_targetBy_2 rfl (kL_reqY hR) MX4_requirePolicy bw_237 rfl rfl rfl rfl (by decide) rfl (by decide) (by decide) (fun v9 τ9 h9 => ?_) (fun E9 τ9 h9 => ?_)
  · obtain ⟨rfl, h9⟩ := h9
    obtain ⟨g, rfl⟩ := reqA_inl h9
    refine V.aload_n (q := 6) dX4_targetBy_5 rfl rfl ?_
    refine V.gL (q := 9) dX4_targetBy_6 (j := 0) rfl bw_168 rfl rfl rfl rfl ?_
    refine V.iload_n (q := 10) dX4_targetBy_9 rfl rfl ?_
    refine V.cVS (q := 13) dX4_targetBy_10 (As := [_]) rfl (cS_findTarget rfl hR hI) MX3_findTarget bw_308 rfl rfl rfl rfl (by decide) rfl ?_
    exact V.iret dX4_targetBy_13 rfl ⟨_, rfl, rfl, rfl, ansA_t g rfl⟩
  · obtain ⟨rfl, h9⟩ := h9
    obtain ⟨g, rfl⟩ := reqA_inr h9
    exact VX.out rfl (by decide) (by decide) ⟨_, rfl, rfl, ⟨rfl, ansA_f g⟩⟩
