/-! the model: public reads -/
set_option maxHeartbeats 2000000 in
theorem kM_thrown {l : Launch} {G : GG} {σ : St}   : CtS l G TX5_thrown 0 [.ref (gB G + 94)] σ (some (.int (thr σ))) σ := by
  refine CtS.ofV (by decide +kernel) rfl rfl (Nat.le_of_ble_eq_true rfl) ?_
  refine V.aload_n (q := 1) dX5_thrown_0 rfl rfl ?_
  refine V.gM (q := 4) dX5_thrown_1 (j := 0) rfl bw_1011 rfl rfl rfl rfl ?_
  exact V.iret dX5_thrown_4 rfl ⟨rfl, rfl, rfl⟩
set_option maxHeartbeats 2000000 in
theorem kM_fails_true {l : Launch} {G : GG} {σ : St}  {c : Int32} : CtP l G TX5_fails 0 [.ref (gB G + 94), .int 1, .int c] σ (fun v τ => v = some (.int 1) ∧ τ = stF σ 94 0 c) := by
  refine CtP.ofV (by decide +kernel) rfl rfl (Nat.le_of_ble_eq_true rfl) ?_
  refine V.iload_n (q := 1) dX5_fails_0 rfl rfl ?_
  refine V.if_eq (tgt := 9) (q := 4) dX5_fails_1 (by decide) rfl (fun c1 => ?_) (fun c1 => ?_)
  · exact absurd c1 (by decide)
  · refine V.aload_n (q := 5) dX5_fails_4 rfl rfl ?_
    refine V.iload_n (q := 6) dX5_fails_5 rfl rfl ?_
    refine V.pM (q := 9) dX5_fails_6 (j := 0) rfl bw_1011 rfl rfl rfl rfl rfl rfl ?_
    refine V.iload_n (q := 10) dX5_fails_9 rfl rfl ?_
    exact V.zret (ty := .boolean) rfl dX5_fails_10 rfl ⟨_, _, rfl, rfl, rfl, rfl, rfl⟩
set_option maxHeartbeats 2000000 in
theorem kM_fails_false {l : Launch} {G : GG} {σ : St}  {c : Int32} : CtP l G TX5_fails 0 [.ref (gB G + 94), .int 0, .int c] σ (fun v τ => v = some (.int 0) ∧ τ = σ) := by
  refine CtP.ofV (by decide +kernel) rfl rfl (Nat.le_of_ble_eq_true rfl) ?_
  refine V.iload_n (q := 1) dX5_fails_0 rfl rfl ?_
  refine V.if_eq (tgt := 9) (q := 4) dX5_fails_1 (by decide) rfl (fun c1 => ?_) (fun c1 => ?_)
  · refine V.iload_n (q := 10) dX5_fails_9 rfl rfl ?_
    exact V.zret (ty := .boolean) rfl dX5_fails_10 rfl ⟨_, _, rfl, rfl, rfl, rfl, rfl⟩
  · exact absurd rfl c1
theorem kM_fails {l : Launch} {G : GG} {σ : St} {b : Bool} {c : Int32} : CtP l G TX5_fails 0 [.ref (gB G + 94), .int (bI b), .int c] σ (fun v τ => v = some (.int (bI b)) ∧ τ = if b = true then stF σ 94 0 c else σ) := by
  cases b with
  | true => exact kM_fails_true
  | false => exact kM_fails_false
set_option maxHeartbeats 2000000 in
theorem kM_noP {l : Launch} {G : GG} {σ : St} {u : Vw} (hM : RM σ u)  {x : Int32} : CtP l G TX5_noPassenger 1 [.ref (gB G + 94), .int x] σ (fun v τ => v = some (.int (bI (!okP u x))) ∧ τ = if okP u x = true then σ else stF σ 94 0 1) := by
  have hn : un u ≤ 40 := hM.1
  refine CtP.ofV (by decide +kernel) rfl rfl (Nat.le_of_ble_eq_true rfl) ?_
  refine V.aload_n (q := 1) dX5_noPassenger_0 rfl rfl ?_
  refine V.iload_n (q := 2) dX5_noPassenger_1 rfl rfl ?_
  refine V.iconst (q := 3) dX5_noPassenger_2 (v := 0) rfl rfl ?_
  refine V.aload_n (q := 4) dX5_noPassenger_3 rfl rfl ?_
  refine V.gM (q := 7) dX5_noPassenger_4 (j := 1) rfl bw_1012 rfl rfl rfl rfl ?_
  refine V.bipush (q := 9) dX5_noPassenger_7 (v := 10) rfl rfl ?_
  refine V.ldMn (q := 10) dX5_noPassenger_9 hM rfl rfl ?_
  refine V.iconst (q := 11) dX5_noPassenger_10 (v := 1) rfl rfl ?_
  refine V.isub (q := 12) dX5_noPassenger_11 rfl ?_
  refine V.cSt (q := 15) dX5_noPassenger_12 (As := [_, _, _]) rfl cM_inRange MX5_inRange bw_1097 rfl rfl (by decide) rfl ?_
  rw [okP_m hn]
  refine V.if_ne (tgt := 22) (q := 18) dX5_noPassenger_15 (by decide) rfl (fun c15 => ?_) (fun c15 => ?_)
  · refine V.iconst (q := 23) dX5_noPassenger_22 (v := 0) rfl rfl ?_
    refine V.iconst (q := 24) dX5_noPassenger_23 (v := 1) rfl rfl ?_
    refine V.cVMP (q := 27) (As := [_, _]) dX5_noPassenger_24 rfl (kM_fails_false) MX5_fails bw_1351 rfl rfl rfl rfl (by decide) rfl (fun v1 τ1 h1 => ?_)
    obtain ⟨rfl, rfl⟩ := h1
    exact V.zret (ty := .boolean) rfl dX5_noPassenger_27 rfl ⟨_, _, rfl, rfl, rfl, by rw [bI1.mp c15]; rfl, by rw [bI1.mp c15]; rfl⟩
  · refine V.iconst (q := 19) dX5_noPassenger_18 (v := 1) rfl rfl ?_
    refine V.goto (tgt := 23) dX5_noPassenger_19 (by decide) ?_
    refine V.iconst (q := 24) dX5_noPassenger_23 (v := 1) rfl rfl ?_
    refine V.cVMP (q := 27) (As := [_, _]) dX5_noPassenger_24 rfl (kM_fails_true) MX5_fails bw_1351 rfl rfl rfl rfl (by decide) rfl (fun v1 τ1 h1 => ?_)
    obtain ⟨rfl, rfl⟩ := h1
    exact V.zret (ty := .boolean) rfl dX5_noPassenger_27 rfl ⟨_, _, rfl, rfl, rfl, by rw [bI0.mp c15]; rfl, by rw [bI0.mp c15]; rfl⟩
set_option maxHeartbeats 2000000 in
theorem kM_noF {l : Launch} {G : GG} {σ : St} {u : Vw} (hM : RM σ u) (hI : Iu u) {x : Int32} : CtP l G TX5_noFloor 1 [.ref (gB G + 94), .int x] σ (fun v τ => v = some (.int (bI (!okF u x))) ∧ τ = if okF u x = true then σ else stF σ 94 0 1) := by
  have hn : un u ≤ 40 := hM.1
  refine CtP.ofV (by decide +kernel) rfl rfl (Nat.le_of_ble_eq_true rfl) ?_
  refine V.aload_n (q := 1) dX5_noFloor_0 rfl rfl ?_
  refine V.iload_n (q := 2) dX5_noFloor_1 rfl rfl ?_
  refine V.iconst (q := 3) dX5_noFloor_2 (v := 0) rfl rfl ?_
  refine V.aload_n (q := 4) dX5_noFloor_3 rfl rfl ?_
  refine V.gM (q := 7) dX5_noFloor_4 (j := 1) rfl bw_1012 rfl rfl rfl rfl ?_
  refine V.iconst (q := 8) dX5_noFloor_7 (v := 0) rfl rfl ?_
  refine V.ldMu (q := 9) 0 dX5_noFloor_8 hM rfl rfl rfl ?_
  refine V.iconst (q := 10) dX5_noFloor_9 (v := 1) rfl rfl ?_
  refine V.isub (q := 11) dX5_noFloor_10 rfl ?_
  refine V.cSt (q := 14) dX5_noFloor_11 (As := [_, _, _]) rfl cM_inRange MX5_inRange bw_1097 rfl rfl (by decide) rfl ?_
  rw [okF_m hI]
  refine V.if_ne (tgt := 21) (q := 17) dX5_noFloor_14 (by decide) rfl (fun c14 => ?_) (fun c14 => ?_)
  · refine V.iconst (q := 22) dX5_noFloor_21 (v := 0) rfl rfl ?_
    refine V.iconst (q := 23) dX5_noFloor_22 (v := 1) rfl rfl ?_
    refine V.cVMP (q := 26) (As := [_, _]) dX5_noFloor_23 rfl (kM_fails_false) MX5_fails bw_1351 rfl rfl rfl rfl (by decide) rfl (fun v1 τ1 h1 => ?_)
    obtain ⟨rfl, rfl⟩ := h1
    exact V.zret (ty := .boolean) rfl dX5_noFloor_26 rfl ⟨_, _, rfl, rfl, rfl, by rw [bI1.mp c14]; rfl, by rw [bI1.mp c14]; rfl⟩
  · refine V.iconst (q := 18) dX5_noFloor_17 (v := 1) rfl rfl ?_
    refine V.goto (tgt := 22) dX5_noFloor_18 (by decide) ?_
    refine V.iconst (q := 23) dX5_noFloor_22 (v := 1) rfl rfl ?_
    refine V.cVMP (q := 26) (As := [_, _]) dX5_noFloor_23 rfl (kM_fails_true) MX5_fails bw_1351 rfl rfl rfl rfl (by decide) rfl (fun v1 τ1 h1 => ?_)
    obtain ⟨rfl, rfl⟩ := h1
    exact V.zret (ty := .boolean) rfl dX5_noFloor_26 rfl ⟨_, _, rfl, rfl, rfl, by rw [bI0.mp c14]; rfl, by rw [bI0.mp c14]; rfl⟩
set_option maxHeartbeats 2000000 in
theorem kM_noY {l : Launch} {G : GG} {σ : St} {u : Vw} (hM : RM σ u)  {x : Int32} : CtP l G TX5_noPolicy 1 [.ref (gB G + 94), .int x] σ (fun v τ => v = some (.int (bI (!okI 0 2 x))) ∧ τ = if okI 0 2 x = true then σ else stF σ 94 0 1) := by
  have hn : un u ≤ 40 := hM.1
  refine CtP.ofV (by decide +kernel) rfl rfl (Nat.le_of_ble_eq_true rfl) ?_
  refine V.aload_n (q := 1) dX5_noPolicy_0 rfl rfl ?_
  refine V.iload_n (q := 2) dX5_noPolicy_1 rfl rfl ?_
  refine V.iconst (q := 3) dX5_noPolicy_2 (v := 0) rfl rfl ?_
  refine V.iconst (q := 4) dX5_noPolicy_3 (v := 2) rfl rfl ?_
  refine V.cSt (q := 7) dX5_noPolicy_4 (As := [_, _, _]) rfl cM_inRange MX5_inRange bw_1097 rfl rfl (by decide) rfl ?_
  rw [show (decide ((0 : Int32) ≤ x) && decide (x ≤ 2)) = okI 0 2 x from rfl]
  refine V.if_ne (tgt := 14) (q := 10) dX5_noPolicy_7 (by decide) rfl (fun c7 => ?_) (fun c7 => ?_)
  · refine V.iconst (q := 15) dX5_noPolicy_14 (v := 0) rfl rfl ?_
    refine V.iconst (q := 16) dX5_noPolicy_15 (v := 1) rfl rfl ?_
    refine V.cVMP (q := 19) (As := [_, _]) dX5_noPolicy_16 rfl (kM_fails_false) MX5_fails bw_1351 rfl rfl rfl rfl (by decide) rfl (fun v1 τ1 h1 => ?_)
    obtain ⟨rfl, rfl⟩ := h1
    exact V.zret (ty := .boolean) rfl dX5_noPolicy_19 rfl ⟨_, _, rfl, rfl, rfl, by rw [bI1.mp c7]; rfl, by rw [bI1.mp c7]; rfl⟩
  · refine V.iconst (q := 11) dX5_noPolicy_10 (v := 1) rfl rfl ?_
    refine V.goto (tgt := 15) dX5_noPolicy_11 (by decide) ?_
    refine V.iconst (q := 16) dX5_noPolicy_15 (v := 1) rfl rfl ?_
    refine V.cVMP (q := 19) (As := [_, _]) dX5_noPolicy_16 rfl (kM_fails_true) MX5_fails bw_1351 rfl rfl rfl rfl (by decide) rfl (fun v1 τ1 h1 => ?_)
    obtain ⟨rfl, rfl⟩ := h1
    exact V.zret (ty := .boolean) rfl dX5_noPolicy_19 rfl ⟨_, _, rfl, rfl, rfl, by rw [bI0.mp c7]; rfl, by rw [bI0.mp c7]; rfl⟩
set_option maxHeartbeats 2000000 in
theorem kM_waited {l : Launch} {G : GG} {σ : St} {u : Vw} (hM : RM σ u) {i : Nat} (hi : i < un u) : CtS l G TX5_waited 2 [.ref (gB G + 94), .int (nI i)] σ (some (.int (wtI u i))) σ := by
  have hn : un u ≤ 40 := hM.1
  refine CtS.ofV (by decide +kernel) rfl rfl (Nat.le_of_ble_eq_true rfl) ?_
  refine V.aload_n (q := 1) dX5_waited_0 rfl rfl ?_
  refine V.iload_n (q := 2) dX5_waited_1 rfl rfl ?_
  refine V.cVM (q := 5) dX5_waited_2 (As := [_]) rfl (cM_boarded hM (by omega)) MX5_boarded bw_1192 rfl rfl rfl rfl (by decide) rfl ?_
  refine V.iconst (q := 6) dX5_waited_5 (v := -1) rfl rfl ?_
  refine V.icmp_ne (tgt := 13) (q := 9) dX5_waited_6 (by decide) rfl (fun c6 => ?_) (fun c6 => ?_)
  · refine V.aload_n (q := 14) dX5_waited_13 rfl rfl ?_
    refine V.iload_n (q := 15) dX5_waited_14 rfl rfl ?_
    refine V.cVM (q := 18) dX5_waited_15 (As := [_]) rfl (cM_boarded hM (by omega)) MX5_boarded bw_1192 rfl rfl rfl rfl (by decide) rfl ?_
    refine V.aload_n (q := 19) dX5_waited_18 rfl rfl ?_
    refine V.iload_n (q := 20) dX5_waited_19 rfl rfl ?_
    refine V.cVM (q := 23) dX5_waited_20 (As := [_]) rfl (cM_arrival hM (by omega)) MX5_arrival bw_1196 rfl rfl rfl rfl (by decide) rfl ?_
    refine V.isub (q := 24) dX5_waited_23 rfl ?_
    exact V.iret dX5_waited_24 rfl ⟨by simp [wtI, c6], rfl, rfl⟩
  · refine V.iconst (q := 10) dX5_waited_9 (v := -1) rfl rfl ?_
    refine V.goto (tgt := 24) dX5_waited_10 (by decide) ?_
    exact V.iret dX5_waited_24 rfl ⟨by simp [wtI, c6], rfl, rfl⟩
set_option maxHeartbeats 2000000 in
theorem kM_ridden {l : Launch} {G : GG} {σ : St} {u : Vw} (hM : RM σ u) {i : Nat} (hi : i < un u) : CtS l G TX5_ridden 2 [.ref (gB G + 94), .int (nI i)] σ (some (.int (rdI u i))) σ := by
  have hn : un u ≤ 40 := hM.1
  refine CtS.ofV (by decide +kernel) rfl rfl (Nat.le_of_ble_eq_true rfl) ?_
  refine V.aload_n (q := 1) dX5_ridden_0 rfl rfl ?_
  refine V.iload_n (q := 2) dX5_ridden_1 rfl rfl ?_
  refine V.cVM (q := 5) dX5_ridden_2 (As := [_]) rfl (cM_left hM (by omega)) MX5_left bw_1188 rfl rfl rfl rfl (by decide) rfl ?_
  refine V.iconst (q := 6) dX5_ridden_5 (v := -1) rfl rfl ?_
  refine V.icmp_ne (tgt := 13) (q := 9) dX5_ridden_6 (by decide) rfl (fun c6 => ?_) (fun c6 => ?_)
  · refine V.aload_n (q := 14) dX5_ridden_13 rfl rfl ?_
    refine V.iload_n (q := 15) dX5_ridden_14 rfl rfl ?_
    refine V.cVM (q := 18) dX5_ridden_15 (As := [_]) rfl (cM_left hM (by omega)) MX5_left bw_1188 rfl rfl rfl rfl (by decide) rfl ?_
    refine V.aload_n (q := 19) dX5_ridden_18 rfl rfl ?_
    refine V.iload_n (q := 20) dX5_ridden_19 rfl rfl ?_
    refine V.cVM (q := 23) dX5_ridden_20 (As := [_]) rfl (cM_boarded hM (by omega)) MX5_boarded bw_1192 rfl rfl rfl rfl (by decide) rfl ?_
    refine V.isub (q := 24) dX5_ridden_23 rfl ?_
    exact V.iret dX5_ridden_24 rfl ⟨by simp [rdI, c6], rfl, rfl⟩
  · refine V.iconst (q := 10) dX5_ridden_9 (v := -1) rfl rfl ?_
    refine V.goto (tgt := 24) dX5_ridden_10 (by decide) ?_
    exact V.iret dX5_ridden_24 rfl ⟨by simp [rdI, c6], rfl, rfl⟩
set_option maxHeartbeats 2000000 in
theorem kM_floorCount {l : Launch} {G : GG} {σ : St} {u : Vw} (hM : RM σ u)  : CtP l G TX5_floorCount 0 [.ref (gB G + 94)] σ (fun v τ => v = some (.int (us u 0)) ∧ FrX σ τ ∧ RM τ u ∧ thr τ = 0) := by
  have hn : un u ≤ 40 := hM.1
  refine CtP.ofV (by decide +kernel) rfl rfl (Nat.le_of_ble_eq_true rfl) ?_
  refine V.aload_n (q := 1) dX5_floorCount_0 rfl rfl ?_
  refine V.iconst (q := 2) dX5_floorCount_1 (v := 0) rfl rfl ?_
  refine V.pM (q := 5) dX5_floorCount_2 (j := 0) rfl bw_1011 rfl rfl rfl rfl rfl rfl ?_
  have hM : RM (stF σ 94 0 0) u := hM.scF
  refine V.aload_n (q := 6) dX5_floorCount_5 rfl rfl ?_
  refine V.gM (q := 9) dX5_floorCount_6 (j := 1) rfl bw_1012 rfl rfl rfl rfl ?_
  refine V.iconst (q := 10) dX5_floorCount_9 (v := 0) rfl rfl ?_
  refine V.ldMu (q := 11) 0 dX5_floorCount_10 hM rfl rfl rfl ?_
  exact V.iret dX5_floorCount_11 rfl ⟨_, _, rfl, rfl, rfl, rfl, FrX.z, hM, thr_z⟩
set_option maxHeartbeats 2000000 in
theorem kM_capacity {l : Launch} {G : GG} {σ : St} {u : Vw} (hM : RM σ u)  : CtP l G TX5_capacity 0 [.ref (gB G + 94)] σ (fun v τ => v = some (.int (us u 1)) ∧ FrX σ τ ∧ RM τ u ∧ thr τ = 0) := by
  have hn : un u ≤ 40 := hM.1
  refine CtP.ofV (by decide +kernel) rfl rfl (Nat.le_of_ble_eq_true rfl) ?_
  refine V.aload_n (q := 1) dX5_capacity_0 rfl rfl ?_
  refine V.iconst (q := 2) dX5_capacity_1 (v := 0) rfl rfl ?_
  refine V.pM (q := 5) dX5_capacity_2 (j := 0) rfl bw_1011 rfl rfl rfl rfl rfl rfl ?_
  have hM : RM (stF σ 94 0 0) u := hM.scF
  refine V.aload_n (q := 6) dX5_capacity_5 rfl rfl ?_
  refine V.gM (q := 9) dX5_capacity_6 (j := 1) rfl bw_1012 rfl rfl rfl rfl ?_
  refine V.iconst (q := 10) dX5_capacity_9 (v := 1) rfl rfl ?_
  refine V.ldMu (q := 11) 1 dX5_capacity_10 hM rfl rfl rfl ?_
  exact V.iret dX5_capacity_11 rfl ⟨_, _, rfl, rfl, rfl, rfl, FrX.z, hM, thr_z⟩
set_option maxHeartbeats 2000000 in
theorem kM_policy {l : Launch} {G : GG} {σ : St} {u : Vw} (hM : RM σ u)  : CtP l G TX5_policy 0 [.ref (gB G + 94)] σ (fun v τ => v = some (.int (us u 2)) ∧ FrX σ τ ∧ RM τ u ∧ thr τ = 0) := by
  have hn : un u ≤ 40 := hM.1
  refine CtP.ofV (by decide +kernel) rfl rfl (Nat.le_of_ble_eq_true rfl) ?_
  refine V.aload_n (q := 1) dX5_policy_0 rfl rfl ?_
  refine V.iconst (q := 2) dX5_policy_1 (v := 0) rfl rfl ?_
  refine V.pM (q := 5) dX5_policy_2 (j := 0) rfl bw_1011 rfl rfl rfl rfl rfl rfl ?_
  have hM : RM (stF σ 94 0 0) u := hM.scF
  refine V.aload_n (q := 6) dX5_policy_5 rfl rfl ?_
  refine V.gM (q := 9) dX5_policy_6 (j := 1) rfl bw_1012 rfl rfl rfl rfl ?_
  refine V.iconst (q := 10) dX5_policy_9 (v := 2) rfl rfl ?_
  refine V.ldMu (q := 11) 2 dX5_policy_10 hM rfl rfl rfl ?_
  exact V.iret dX5_policy_11 rfl ⟨_, _, rfl, rfl, rfl, rfl, FrX.z, hM, thr_z⟩
set_option maxHeartbeats 2000000 in
theorem kM_time {l : Launch} {G : GG} {σ : St} {u : Vw} (hM : RM σ u)  : CtP l G TX5_time 0 [.ref (gB G + 94)] σ (fun v τ => v = some (.int (us u 3)) ∧ FrX σ τ ∧ RM τ u ∧ thr τ = 0) := by
  have hn : un u ≤ 40 := hM.1
  refine CtP.ofV (by decide +kernel) rfl rfl (Nat.le_of_ble_eq_true rfl) ?_
  refine V.aload_n (q := 1) dX5_time_0 rfl rfl ?_
  refine V.iconst (q := 2) dX5_time_1 (v := 0) rfl rfl ?_
  refine V.pM (q := 5) dX5_time_2 (j := 0) rfl bw_1011 rfl rfl rfl rfl rfl rfl ?_
  have hM : RM (stF σ 94 0 0) u := hM.scF
  refine V.aload_n (q := 6) dX5_time_5 rfl rfl ?_
  refine V.gM (q := 9) dX5_time_6 (j := 1) rfl bw_1012 rfl rfl rfl rfl ?_
  refine V.iconst (q := 10) dX5_time_9 (v := 3) rfl rfl ?_
  refine V.ldMu (q := 11) 3 dX5_time_10 hM rfl rfl rfl ?_
  exact V.iret dX5_time_11 rfl ⟨_, _, rfl, rfl, rfl, rfl, FrX.z, hM, thr_z⟩
set_option maxHeartbeats 2000000 in
theorem kM_floor {l : Launch} {G : GG} {σ : St} {u : Vw} (hM : RM σ u)  : CtP l G TX5_floor 0 [.ref (gB G + 94)] σ (fun v τ => v = some (.int (us u 4)) ∧ FrX σ τ ∧ RM τ u ∧ thr τ = 0) := by
  have hn : un u ≤ 40 := hM.1
  refine CtP.ofV (by decide +kernel) rfl rfl (Nat.le_of_ble_eq_true rfl) ?_
  refine V.aload_n (q := 1) dX5_floor_0 rfl rfl ?_
  refine V.iconst (q := 2) dX5_floor_1 (v := 0) rfl rfl ?_
  refine V.pM (q := 5) dX5_floor_2 (j := 0) rfl bw_1011 rfl rfl rfl rfl rfl rfl ?_
  have hM : RM (stF σ 94 0 0) u := hM.scF
  refine V.aload_n (q := 6) dX5_floor_5 rfl rfl ?_
  refine V.gM (q := 9) dX5_floor_6 (j := 1) rfl bw_1012 rfl rfl rfl rfl ?_
  refine V.iconst (q := 10) dX5_floor_9 (v := 4) rfl rfl ?_
  refine V.ldMu (q := 11) 4 dX5_floor_10 hM rfl rfl rfl ?_
  exact V.iret dX5_floor_11 rfl ⟨_, _, rfl, rfl, rfl, rfl, FrX.z, hM, thr_z⟩
set_option maxHeartbeats 2000000 in
theorem kM_distance {l : Launch} {G : GG} {σ : St} {u : Vw} (hM : RM σ u)  : CtP l G TX5_distance 0 [.ref (gB G + 94)] σ (fun v τ => v = some (.int (us u 6)) ∧ FrX σ τ ∧ RM τ u ∧ thr τ = 0) := by
  have hn : un u ≤ 40 := hM.1
  refine CtP.ofV (by decide +kernel) rfl rfl (Nat.le_of_ble_eq_true rfl) ?_
  refine V.aload_n (q := 1) dX5_distance_0 rfl rfl ?_
  refine V.iconst (q := 2) dX5_distance_1 (v := 0) rfl rfl ?_
  refine V.pM (q := 5) dX5_distance_2 (j := 0) rfl bw_1011 rfl rfl rfl rfl rfl rfl ?_
  have hM : RM (stF σ 94 0 0) u := hM.scF
  refine V.aload_n (q := 6) dX5_distance_5 rfl rfl ?_
  refine V.gM (q := 9) dX5_distance_6 (j := 1) rfl bw_1012 rfl rfl rfl rfl ?_
  refine V.bipush (q := 11) dX5_distance_9 (v := 6) rfl rfl ?_
  refine V.ldMu (q := 12) 6 dX5_distance_11 hM rfl rfl rfl ?_
  exact V.iret dX5_distance_12 rfl ⟨_, _, rfl, rfl, rfl, rfl, FrX.z, hM, thr_z⟩
set_option maxHeartbeats 2000000 in
theorem kM_doorTicks {l : Launch} {G : GG} {σ : St} {u : Vw} (hM : RM σ u)  : CtP l G TX5_doorTicks 0 [.ref (gB G + 94)] σ (fun v τ => v = some (.int (us u 7)) ∧ FrX σ τ ∧ RM τ u ∧ thr τ = 0) := by
  have hn : un u ≤ 40 := hM.1
  refine CtP.ofV (by decide +kernel) rfl rfl (Nat.le_of_ble_eq_true rfl) ?_
  refine V.aload_n (q := 1) dX5_doorTicks_0 rfl rfl ?_
  refine V.iconst (q := 2) dX5_doorTicks_1 (v := 0) rfl rfl ?_
  refine V.pM (q := 5) dX5_doorTicks_2 (j := 0) rfl bw_1011 rfl rfl rfl rfl rfl rfl ?_
  have hM : RM (stF σ 94 0 0) u := hM.scF
  refine V.aload_n (q := 6) dX5_doorTicks_5 rfl rfl ?_
  refine V.gM (q := 9) dX5_doorTicks_6 (j := 1) rfl bw_1012 rfl rfl rfl rfl ?_
  refine V.bipush (q := 11) dX5_doorTicks_9 (v := 7) rfl rfl ?_
  refine V.ldMu (q := 12) 7 dX5_doorTicks_11 hM rfl rfl rfl ?_
  exact V.iret dX5_doorTicks_12 rfl ⟨_, _, rfl, rfl, rfl, rfl, FrX.z, hM, thr_z⟩
set_option maxHeartbeats 2000000 in
theorem kM_idleTicks {l : Launch} {G : GG} {σ : St} {u : Vw} (hM : RM σ u)  : CtP l G TX5_idleTicks 0 [.ref (gB G + 94)] σ (fun v τ => v = some (.int (us u 8)) ∧ FrX σ τ ∧ RM τ u ∧ thr τ = 0) := by
  have hn : un u ≤ 40 := hM.1
  refine CtP.ofV (by decide +kernel) rfl rfl (Nat.le_of_ble_eq_true rfl) ?_
  refine V.aload_n (q := 1) dX5_idleTicks_0 rfl rfl ?_
  refine V.iconst (q := 2) dX5_idleTicks_1 (v := 0) rfl rfl ?_
  refine V.pM (q := 5) dX5_idleTicks_2 (j := 0) rfl bw_1011 rfl rfl rfl rfl rfl rfl ?_
  have hM : RM (stF σ 94 0 0) u := hM.scF
  refine V.aload_n (q := 6) dX5_idleTicks_5 rfl rfl ?_
  refine V.gM (q := 9) dX5_idleTicks_6 (j := 1) rfl bw_1012 rfl rfl rfl rfl ?_
  refine V.bipush (q := 11) dX5_idleTicks_9 (v := 8) rfl rfl ?_
  refine V.ldMu (q := 12) 8 dX5_idleTicks_11 hM rfl rfl rfl ?_
  exact V.iret dX5_idleTicks_12 rfl ⟨_, _, rfl, rfl, rfl, rfl, FrX.z, hM, thr_z⟩
set_option maxHeartbeats 2000000 in
theorem kM_reversals {l : Launch} {G : GG} {σ : St} {u : Vw} (hM : RM σ u)  : CtP l G TX5_reversals 0 [.ref (gB G + 94)] σ (fun v τ => v = some (.int (us u 9)) ∧ FrX σ τ ∧ RM τ u ∧ thr τ = 0) := by
  have hn : un u ≤ 40 := hM.1
  refine CtP.ofV (by decide +kernel) rfl rfl (Nat.le_of_ble_eq_true rfl) ?_
  refine V.aload_n (q := 1) dX5_reversals_0 rfl rfl ?_
  refine V.iconst (q := 2) dX5_reversals_1 (v := 0) rfl rfl ?_
  refine V.pM (q := 5) dX5_reversals_2 (j := 0) rfl bw_1011 rfl rfl rfl rfl rfl rfl ?_
  have hM : RM (stF σ 94 0 0) u := hM.scF
  refine V.aload_n (q := 6) dX5_reversals_5 rfl rfl ?_
  refine V.gM (q := 9) dX5_reversals_6 (j := 1) rfl bw_1012 rfl rfl rfl rfl ?_
  refine V.bipush (q := 11) dX5_reversals_9 (v := 9) rfl rfl ?_
  refine V.ldMu (q := 12) 9 dX5_reversals_11 hM rfl rfl rfl ?_
  exact V.iret dX5_reversals_12 rfl ⟨_, _, rfl, rfl, rfl, rfl, FrX.z, hM, thr_z⟩
set_option maxHeartbeats 2000000 in
theorem kM_passengerCount {l : Launch} {G : GG} {σ : St} {u : Vw} (hM : RM σ u)  : CtP l G TX5_passengerCount 0 [.ref (gB G + 94)] σ (fun v τ => v = some (.int (nI (un u))) ∧ FrX σ τ ∧ RM τ u ∧ thr τ = 0) := by
  have hn : un u ≤ 40 := hM.1
  refine CtP.ofV (by decide +kernel) rfl rfl (Nat.le_of_ble_eq_true rfl) ?_
  refine V.aload_n (q := 1) dX5_passengerCount_0 rfl rfl ?_
  refine V.iconst (q := 2) dX5_passengerCount_1 (v := 0) rfl rfl ?_
  refine V.pM (q := 5) dX5_passengerCount_2 (j := 0) rfl bw_1011 rfl rfl rfl rfl rfl rfl ?_
  have hM : RM (stF σ 94 0 0) u := hM.scF
  refine V.aload_n (q := 6) dX5_passengerCount_5 rfl rfl ?_
  refine V.gM (q := 9) dX5_passengerCount_6 (j := 1) rfl bw_1012 rfl rfl rfl rfl ?_
  refine V.bipush (q := 11) dX5_passengerCount_9 (v := 10) rfl rfl ?_
  refine V.ldMn (q := 12) dX5_passengerCount_11 hM rfl rfl ?_
  exact V.iret dX5_passengerCount_12 rfl ⟨_, _, rfl, rfl, rfl, rfl, FrX.z, hM, thr_z⟩
set_option maxHeartbeats 2000000 in
theorem kM_isUpward {l : Launch} {G : GG} {σ : St} {u : Vw} (hM : RM σ u) (hb : us u 5 = 0 ∨ us u 5 = 1) : CtP l G TX5_isUpward 0 [.ref (gB G + 94)] σ (fun v τ => v = some (.int (us u 5)) ∧ FrX σ τ ∧ RM τ u ∧ thr τ = 0) := by
  have hn : un u ≤ 40 := hM.1
  refine CtP.ofV (by decide +kernel) rfl rfl (Nat.le_of_ble_eq_true rfl) ?_
  refine V.aload_n (q := 1) dX5_isUpward_0 rfl rfl ?_
  refine V.iconst (q := 2) dX5_isUpward_1 (v := 0) rfl rfl ?_
  refine V.pM (q := 5) dX5_isUpward_2 (j := 0) rfl bw_1011 rfl rfl rfl rfl rfl rfl ?_
  have hM : RM (stF σ 94 0 0) u := hM.scF
  refine V.aload_n (q := 6) dX5_isUpward_5 rfl rfl ?_
  refine V.gM (q := 9) dX5_isUpward_6 (j := 1) rfl bw_1012 rfl rfl rfl rfl ?_
  refine V.iconst (q := 10) dX5_isUpward_9 (v := 5) rfl rfl ?_
  refine V.ldMu (q := 11) 5 dX5_isUpward_10 hM rfl rfl rfl ?_
  refine V.iconst (q := 12) dX5_isUpward_11 (v := 1) rfl rfl ?_
  refine V.icmp_ne (tgt := 19) (q := 15) dX5_isUpward_12 (by decide) rfl (fun c12 => ?_) (fun c12 => ?_)
  · refine V.iconst (q := 20) dX5_isUpward_19 (v := 0) rfl rfl ?_
    exact V.zret (ty := .boolean) rfl dX5_isUpward_20 rfl ⟨_, _, rfl, rfl, rfl, by (rcases hb with z | z <;> first | exact absurd z c12 | rw [z]), FrX.z, hM, thr_z⟩
  · refine V.iconst (q := 16) dX5_isUpward_15 (v := 1) rfl rfl ?_
    refine V.goto (tgt := 20) dX5_isUpward_16 (by decide) ?_
    exact V.zret (ty := .boolean) rfl dX5_isUpward_20 rfl ⟨_, _, rfl, rfl, rfl, by rw [c12], FrX.z, hM, thr_z⟩
theorem full_eq {u : Vw} (hI : Iu u) : bI (!rmB u) = if nI (many u 2) = us u 1 then 1 else 0 := by
  have h9 := hI.2.2.2.2.2.2.2.2
  have hc := hI.2.2.1
  have e := nI_back (show 0 ≤ (us u 1).toInt by omega)
  have c := clamp_int (show 0 ≤ (us u 1).toInt by omega)
  have hm : many u 2 ≤ un u := cnt_le _ _
  have hn := hI.1
  unfold rmB
  by_cases z : nI (many u 2) = us u 1
  · rw [if_pos z, z, decide_eq_false Int32.lt_irrefl]; rfl
  · rw [if_neg z]
    have h1 : nI (many u 2) < us u 1 := by
      rw [e]
      refine nI_lt ?_ (by omega)
      have h2 : many u 2 ≠ (us u 1).toNatClampNeg := fun y => z (by rw [e, ← y])
      omega
    rw [decide_eq_true h1]; rfl
theorem bI_z2 (b : Bool) : narrow .boolean (.int (bI b)) = .int (bI b) := bI_z b
set_option maxHeartbeats 2000000 in
theorem kM_isFull {l : Launch} {G : GG} {σ : St} {u : Vw} (hM : RM σ u) (hI : Iu u) : CtP l G TX5_isFull 5 [.ref (gB G + 94)] σ (fun v τ => v = some (.int (if nI (many u 2) = us u 1 then 1 else 0)) ∧ FrX σ τ ∧ RM τ u ∧ thr τ = 0) := by
  have hn : un u ≤ 40 := hM.1
  refine CtP.ofV (by decide +kernel) rfl rfl (Nat.le_of_ble_eq_true rfl) ?_
  refine V.aload_n (q := 1) dX5_isFull_0 rfl rfl ?_
  refine V.iconst (q := 2) dX5_isFull_1 (v := 0) rfl rfl ?_
  refine V.pM (q := 5) dX5_isFull_2 (j := 0) rfl bw_1011 rfl rfl rfl rfl rfl rfl ?_
  have hM : RM (stF σ 94 0 0) u := hM.scF
  refine V.aload_n (q := 6) dX5_isFull_5 rfl rfl ?_
  refine V.cVM (q := 9) dX5_isFull_6 (As := []) rfl (cM_full hM hI.2.2.2.2.2.2.2.2) MX5_full bw_1176 rfl rfl rfl rfl (by decide) rfl ?_
  exact V.zret (ty := .boolean) (bI_z2 _) dX5_isFull_9 rfl ⟨_, _, rfl, rfl, rfl, by rw [full_eq hI], FrX.z, hM, thr_z⟩
set_option maxHeartbeats 2000000 in
theorem kM_stopMask {l : Launch} {G : GG} {σ : St} {u : Vw} (hM : RM σ u) (hI : Iu u) : CtP l G TX5_stopMask 6 [.ref (gB G + 94)] σ (fun v τ => v = some (.int (stp u)) ∧ FrX σ τ ∧ RM τ u ∧ thr τ = 0) := by
  have hn : un u ≤ 40 := hM.1
  refine CtP.ofV (by decide +kernel) rfl rfl (Nat.le_of_ble_eq_true rfl) ?_
  refine V.aload_n (q := 1) dX5_stopMask_0 rfl rfl ?_
  refine V.iconst (q := 2) dX5_stopMask_1 (v := 0) rfl rfl ?_
  refine V.pM (q := 5) dX5_stopMask_2 (j := 0) rfl bw_1011 rfl rfl rfl rfl rfl rfl ?_
  have hM : RM (stF σ 94 0 0) u := hM.scF
  refine V.aload_n (q := 6) dX5_stopMask_5 rfl rfl ?_
  refine V.cVM (q := 9) dX5_stopMask_6 (As := []) rfl (cM_stops hM hI.2.2.2.2.2.2.2.2) MX5_stops bw_1172 rfl rfl rfl rfl (by decide) rfl ?_
  exact V.iret dX5_stopMask_9 rfl ⟨_, _, rfl, rfl, rfl, rfl, FrX.z, hM, thr_z⟩
set_option maxHeartbeats 2000000 in
theorem kM_firstWaiting {l : Launch} {G : GG} {σ : St} {u : Vw} (hM : RM σ u)  : CtP l G TX5_firstWaiting 4 [.ref (gB G + 94)] σ (fun v τ => v = some (.int (oI (fw u (isW u) (un u)))) ∧ FrX σ τ ∧ RM τ u ∧ thr τ = 0) := by
  have hn : un u ≤ 40 := hM.1
  refine CtP.ofV (by decide +kernel) rfl rfl (Nat.le_of_ble_eq_true rfl) ?_
  refine V.aload_n (q := 1) dX5_firstWaiting_0 rfl rfl ?_
  refine V.iconst (q := 2) dX5_firstWaiting_1 (v := 0) rfl rfl ?_
  refine V.pM (q := 5) dX5_firstWaiting_2 (j := 0) rfl bw_1011 rfl rfl rfl rfl rfl rfl ?_
  have hM : RM (stF σ 94 0 0) u := hM.scF
  refine V.aload_n (q := 6) dX5_firstWaiting_5 rfl rfl ?_
  refine V.iconst (q := 7) dX5_firstWaiting_6 (v := -1) rfl rfl ?_
  refine V.cVM (q := 10) dX5_firstWaiting_7 (As := [_]) rfl (cM_first hM) MX5_first bw_1215 rfl rfl rfl rfl (by decide) rfl ?_
  exact V.iret dX5_firstWaiting_10 rfl ⟨_, _, rfl, rfl, rfl, by rw [isWf_any], FrX.z, hM, thr_z⟩
set_option maxHeartbeats 2000000 in
theorem kM_isFinished {l : Launch} {G : GG} {σ : St} {u : Vw} (hM : RM σ u)  : CtP l G TX5_isFinished 5 [.ref (gB G + 94)] σ (fun v τ => v = some (.int (if many u 3 = un u then 1 else 0)) ∧ FrX σ τ ∧ RM τ u ∧ thr τ = 0) := by
  have hn : un u ≤ 40 := hM.1
  refine CtP.ofV (by decide +kernel) rfl rfl (Nat.le_of_ble_eq_true rfl) ?_
  refine V.aload_n (q := 1) dX5_isFinished_0 rfl rfl ?_
  refine V.iconst (q := 2) dX5_isFinished_1 (v := 0) rfl rfl ?_
  refine V.pM (q := 5) dX5_isFinished_2 (j := 0) rfl bw_1011 rfl rfl rfl rfl rfl rfl ?_
  have hM : RM (stF σ 94 0 0) u := hM.scF
  refine V.aload_n (q := 6) dX5_isFinished_5 rfl rfl ?_
  refine V.cVM (q := 9) dX5_isFinished_6 (As := []) rfl (cM_finished hM) MX5_finished bw_1252 rfl rfl rfl rfl (by decide) rfl ?_
  exact V.zret (ty := .boolean) (by split <;> rfl) dX5_isFinished_9 rfl ⟨_, _, rfl, rfl, rfl, rfl, FrX.z, hM, thr_z⟩
set_option maxHeartbeats 2000000 in
theorem kM_statusOf {l : Launch} {G : GG} {σ : St} {u : Vw} (hM : RM σ u) {x : Int32} : CtP l G TX5_statusOf 3 [.ref (gB G + 94), .int x] σ (fun v τ => v = some (.int (if okP u x = true then stat u x.toNatClampNeg else 0)) ∧ FrX σ τ ∧ RM τ u ∧ thr τ = if okP u x = true then 0 else 1) := by
  have hn : un u ≤ 40 := hM.1
  refine CtP.ofV (by decide +kernel) rfl rfl (Nat.le_of_ble_eq_true rfl) ?_
  refine V.aload_n (q := 1) dX5_statusOf_0 rfl rfl ?_
  refine V.iconst (q := 2) dX5_statusOf_1 (v := 0) rfl rfl ?_
  refine V.pM (q := 5) dX5_statusOf_2 (j := 0) rfl bw_1011 rfl rfl rfl rfl rfl rfl ?_
  have hM : RM (stF σ 94 0 0) u := hM.scF
  refine V.aload_n (q := 6) dX5_statusOf_5 rfl rfl ?_
  refine V.iload_n (q := 7) dX5_statusOf_6 rfl rfl ?_
  refine V.cVMP (q := 10) (As := [_]) dX5_statusOf_7 rfl (kM_noP hM) MX5_noPassenger bw_1379 rfl rfl rfl rfl (by decide) rfl (fun v1 τ1 h1 => ?_)
  obtain ⟨rfl, h1⟩ := h1
  refine V.if_eq (tgt := 17) (q := 13) dX5_statusOf_10 (by decide) rfl (fun c10 => ?_) (fun c10 => ?_)
  · have g : okP u x = true := by
      cases z : okP u x with
      | true => rfl
      | false => rw [z] at c10; exact absurd c10 (by decide)
    rw [if_pos g] at h1
    subst h1
    obtain ⟨hx, hi⟩ := okP_i hn g
    refine V.aload_n (q := 18) dX5_statusOf_17 rfl rfl ?_
    refine V.iload_n (q := 19) dX5_statusOf_18 rfl rfl ?_
    refine V.cVM (q := 22) dX5_statusOf_19 (As := [_]) rfl (by have := cM_status (l := l) (G := G) hM hi; rw [← hx] at this; exact this) MX5_status bw_1184 rfl rfl rfl rfl (by decide) rfl ?_
    exact V.iret dX5_statusOf_22 rfl ⟨_, _, rfl, rfl, rfl, by rw [if_pos g], FrX.z, hM, by rw [if_pos g]; exact thr_z⟩
  · have g : okP u x = false := by
      cases z : okP u x with
      | true => rw [z] at c10; exact absurd rfl c10
      | false => rfl
    rw [if_neg (by rw [g]; decide)] at h1
    subst h1
    refine V.iconst (q := 14) dX5_statusOf_13 (v := 0) rfl rfl ?_
    refine V.goto (tgt := 22) dX5_statusOf_14 (by decide) ?_
    exact V.iret dX5_statusOf_22 rfl ⟨_, _, rfl, rfl, rfl, by rw [if_neg (by rw [g]; decide)], FrX.z.trans FrX.z, hM.scF, by rw [if_neg (by rw [g]; decide)]; exact thr_z⟩
set_option maxHeartbeats 2000000 in
theorem kM_originOf {l : Launch} {G : GG} {σ : St} {u : Vw} (hM : RM σ u) {x : Int32} : CtP l G TX5_originOf 2 [.ref (gB G + 94), .int x] σ (fun v τ => v = some (.int (if okP u x = true then ur u 0 x.toNatClampNeg else 0)) ∧ FrX σ τ ∧ RM τ u ∧ thr τ = if okP u x = true then 0 else 1) := by
  have hn : un u ≤ 40 := hM.1
  refine CtP.ofV (by decide +kernel) rfl rfl (Nat.le_of_ble_eq_true rfl) ?_
  refine V.aload_n (q := 1) dX5_originOf_0 rfl rfl ?_
  refine V.iconst (q := 2) dX5_originOf_1 (v := 0) rfl rfl ?_
  refine V.pM (q := 5) dX5_originOf_2 (j := 0) rfl bw_1011 rfl rfl rfl rfl rfl rfl ?_
  have hM : RM (stF σ 94 0 0) u := hM.scF
  refine V.aload_n (q := 6) dX5_originOf_5 rfl rfl ?_
  refine V.iload_n (q := 7) dX5_originOf_6 rfl rfl ?_
  refine V.cVMP (q := 10) (As := [_]) dX5_originOf_7 rfl (kM_noP hM) MX5_noPassenger bw_1379 rfl rfl rfl rfl (by decide) rfl (fun v1 τ1 h1 => ?_)
  obtain ⟨rfl, h1⟩ := h1
  refine V.if_eq (tgt := 17) (q := 13) dX5_originOf_10 (by decide) rfl (fun c10 => ?_) (fun c10 => ?_)
  · have g : okP u x = true := by
      cases z : okP u x with
      | true => rfl
      | false => rw [z] at c10; exact absurd c10 (by decide)
    rw [if_pos g] at h1
    subst h1
    obtain ⟨hx, hi⟩ := okP_i hn g
    refine V.aload_n (q := 18) dX5_originOf_17 rfl rfl ?_
    refine V.iload_n (q := 19) dX5_originOf_18 rfl rfl ?_
    refine V.cVM (q := 22) dX5_originOf_19 (As := [_]) rfl (by have := cM_origin (l := l) (G := G) hM hi; rw [← hx] at this; exact this) MX5_origin bw_1204 rfl rfl rfl rfl (by decide) rfl ?_
    exact V.iret dX5_originOf_22 rfl ⟨_, _, rfl, rfl, rfl, by rw [if_pos g], FrX.z, hM, by rw [if_pos g]; exact thr_z⟩
  · have g : okP u x = false := by
      cases z : okP u x with
      | true => rw [z] at c10; exact absurd rfl c10
      | false => rfl
    rw [if_neg (by rw [g]; decide)] at h1
    subst h1
    refine V.iconst (q := 14) dX5_originOf_13 (v := 0) rfl rfl ?_
    refine V.goto (tgt := 22) dX5_originOf_14 (by decide) ?_
    exact V.iret dX5_originOf_22 rfl ⟨_, _, rfl, rfl, rfl, by rw [if_neg (by rw [g]; decide)], FrX.z.trans FrX.z, hM.scF, by rw [if_neg (by rw [g]; decide)]; exact thr_z⟩
set_option maxHeartbeats 2000000 in
theorem kM_destinationOf {l : Launch} {G : GG} {σ : St} {u : Vw} (hM : RM σ u) {x : Int32} : CtP l G TX5_destinationOf 2 [.ref (gB G + 94), .int x] σ (fun v τ => v = some (.int (if okP u x = true then ur u 1 x.toNatClampNeg else 0)) ∧ FrX σ τ ∧ RM τ u ∧ thr τ = if okP u x = true then 0 else 1) := by
  have hn : un u ≤ 40 := hM.1
  refine CtP.ofV (by decide +kernel) rfl rfl (Nat.le_of_ble_eq_true rfl) ?_
  refine V.aload_n (q := 1) dX5_destinationOf_0 rfl rfl ?_
  refine V.iconst (q := 2) dX5_destinationOf_1 (v := 0) rfl rfl ?_
  refine V.pM (q := 5) dX5_destinationOf_2 (j := 0) rfl bw_1011 rfl rfl rfl rfl rfl rfl ?_
  have hM : RM (stF σ 94 0 0) u := hM.scF
  refine V.aload_n (q := 6) dX5_destinationOf_5 rfl rfl ?_
  refine V.iload_n (q := 7) dX5_destinationOf_6 rfl rfl ?_
  refine V.cVMP (q := 10) (As := [_]) dX5_destinationOf_7 rfl (kM_noP hM) MX5_noPassenger bw_1379 rfl rfl rfl rfl (by decide) rfl (fun v1 τ1 h1 => ?_)
  obtain ⟨rfl, h1⟩ := h1
  refine V.if_eq (tgt := 17) (q := 13) dX5_destinationOf_10 (by decide) rfl (fun c10 => ?_) (fun c10 => ?_)
  · have g : okP u x = true := by
      cases z : okP u x with
      | true => rfl
      | false => rw [z] at c10; exact absurd c10 (by decide)
    rw [if_pos g] at h1
    subst h1
    obtain ⟨hx, hi⟩ := okP_i hn g
    refine V.aload_n (q := 18) dX5_destinationOf_17 rfl rfl ?_
    refine V.iload_n (q := 19) dX5_destinationOf_18 rfl rfl ?_
    refine V.cVM (q := 22) dX5_destinationOf_19 (As := [_]) rfl (by have := cM_destination (l := l) (G := G) hM hi; rw [← hx] at this; exact this) MX5_destination bw_1200 rfl rfl rfl rfl (by decide) rfl ?_
    exact V.iret dX5_destinationOf_22 rfl ⟨_, _, rfl, rfl, rfl, by rw [if_pos g], FrX.z, hM, by rw [if_pos g]; exact thr_z⟩
  · have g : okP u x = false := by
      cases z : okP u x with
      | true => rw [z] at c10; exact absurd rfl c10
      | false => rfl
    rw [if_neg (by rw [g]; decide)] at h1
    subst h1
    refine V.iconst (q := 14) dX5_destinationOf_13 (v := 0) rfl rfl ?_
    refine V.goto (tgt := 22) dX5_destinationOf_14 (by decide) ?_
    exact V.iret dX5_destinationOf_22 rfl ⟨_, _, rfl, rfl, rfl, by rw [if_neg (by rw [g]; decide)], FrX.z.trans FrX.z, hM.scF, by rw [if_neg (by rw [g]; decide)]; exact thr_z⟩
set_option maxHeartbeats 2000000 in
theorem kM_arrivalOf {l : Launch} {G : GG} {σ : St} {u : Vw} (hM : RM σ u) {x : Int32} : CtP l G TX5_arrivalOf 2 [.ref (gB G + 94), .int x] σ (fun v τ => v = some (.int (if okP u x = true then ur u 2 x.toNatClampNeg else 0)) ∧ FrX σ τ ∧ RM τ u ∧ thr τ = if okP u x = true then 0 else 1) := by
  have hn : un u ≤ 40 := hM.1
  refine CtP.ofV (by decide +kernel) rfl rfl (Nat.le_of_ble_eq_true rfl) ?_
  refine V.aload_n (q := 1) dX5_arrivalOf_0 rfl rfl ?_
  refine V.iconst (q := 2) dX5_arrivalOf_1 (v := 0) rfl rfl ?_
  refine V.pM (q := 5) dX5_arrivalOf_2 (j := 0) rfl bw_1011 rfl rfl rfl rfl rfl rfl ?_
  have hM : RM (stF σ 94 0 0) u := hM.scF
  refine V.aload_n (q := 6) dX5_arrivalOf_5 rfl rfl ?_
  refine V.iload_n (q := 7) dX5_arrivalOf_6 rfl rfl ?_
  refine V.cVMP (q := 10) (As := [_]) dX5_arrivalOf_7 rfl (kM_noP hM) MX5_noPassenger bw_1379 rfl rfl rfl rfl (by decide) rfl (fun v1 τ1 h1 => ?_)
  obtain ⟨rfl, h1⟩ := h1
  refine V.if_eq (tgt := 17) (q := 13) dX5_arrivalOf_10 (by decide) rfl (fun c10 => ?_) (fun c10 => ?_)
  · have g : okP u x = true := by
      cases z : okP u x with
      | true => rfl
      | false => rw [z] at c10; exact absurd c10 (by decide)
    rw [if_pos g] at h1
    subst h1
    obtain ⟨hx, hi⟩ := okP_i hn g
    refine V.aload_n (q := 18) dX5_arrivalOf_17 rfl rfl ?_
    refine V.iload_n (q := 19) dX5_arrivalOf_18 rfl rfl ?_
    refine V.cVM (q := 22) dX5_arrivalOf_19 (As := [_]) rfl (by have := cM_arrival (l := l) (G := G) hM hi; rw [← hx] at this; exact this) MX5_arrival bw_1196 rfl rfl rfl rfl (by decide) rfl ?_
    exact V.iret dX5_arrivalOf_22 rfl ⟨_, _, rfl, rfl, rfl, by rw [if_pos g], FrX.z, hM, by rw [if_pos g]; exact thr_z⟩
  · have g : okP u x = false := by
      cases z : okP u x with
      | true => rw [z] at c10; exact absurd rfl c10
      | false => rfl
    rw [if_neg (by rw [g]; decide)] at h1
    subst h1
    refine V.iconst (q := 14) dX5_arrivalOf_13 (v := 0) rfl rfl ?_
    refine V.goto (tgt := 22) dX5_arrivalOf_14 (by decide) ?_
    exact V.iret dX5_arrivalOf_22 rfl ⟨_, _, rfl, rfl, rfl, by rw [if_neg (by rw [g]; decide)], FrX.z.trans FrX.z, hM.scF, by rw [if_neg (by rw [g]; decide)]; exact thr_z⟩
set_option maxHeartbeats 2000000 in
theorem kM_boardedAt {l : Launch} {G : GG} {σ : St} {u : Vw} (hM : RM σ u) {x : Int32} : CtP l G TX5_boardedAt 2 [.ref (gB G + 94), .int x] σ (fun v τ => v = some (.int (if okP u x = true then ur u 3 x.toNatClampNeg else 0)) ∧ FrX σ τ ∧ RM τ u ∧ thr τ = if okP u x = true then 0 else 1) := by
  have hn : un u ≤ 40 := hM.1
  refine CtP.ofV (by decide +kernel) rfl rfl (Nat.le_of_ble_eq_true rfl) ?_
  refine V.aload_n (q := 1) dX5_boardedAt_0 rfl rfl ?_
  refine V.iconst (q := 2) dX5_boardedAt_1 (v := 0) rfl rfl ?_
  refine V.pM (q := 5) dX5_boardedAt_2 (j := 0) rfl bw_1011 rfl rfl rfl rfl rfl rfl ?_
  have hM : RM (stF σ 94 0 0) u := hM.scF
  refine V.aload_n (q := 6) dX5_boardedAt_5 rfl rfl ?_
  refine V.iload_n (q := 7) dX5_boardedAt_6 rfl rfl ?_
  refine V.cVMP (q := 10) (As := [_]) dX5_boardedAt_7 rfl (kM_noP hM) MX5_noPassenger bw_1379 rfl rfl rfl rfl (by decide) rfl (fun v1 τ1 h1 => ?_)
  obtain ⟨rfl, h1⟩ := h1
  refine V.if_eq (tgt := 17) (q := 13) dX5_boardedAt_10 (by decide) rfl (fun c10 => ?_) (fun c10 => ?_)
  · have g : okP u x = true := by
      cases z : okP u x with
      | true => rfl
      | false => rw [z] at c10; exact absurd c10 (by decide)
    rw [if_pos g] at h1
    subst h1
    obtain ⟨hx, hi⟩ := okP_i hn g
    refine V.aload_n (q := 18) dX5_boardedAt_17 rfl rfl ?_
    refine V.iload_n (q := 19) dX5_boardedAt_18 rfl rfl ?_
    refine V.cVM (q := 22) dX5_boardedAt_19 (As := [_]) rfl (by have := cM_boarded (l := l) (G := G) hM hi; rw [← hx] at this; exact this) MX5_boarded bw_1192 rfl rfl rfl rfl (by decide) rfl ?_
    exact V.iret dX5_boardedAt_22 rfl ⟨_, _, rfl, rfl, rfl, by rw [if_pos g], FrX.z, hM, by rw [if_pos g]; exact thr_z⟩
  · have g : okP u x = false := by
      cases z : okP u x with
      | true => rw [z] at c10; exact absurd rfl c10
      | false => rfl
    rw [if_neg (by rw [g]; decide)] at h1
    subst h1
    refine V.iconst (q := 14) dX5_boardedAt_13 (v := 0) rfl rfl ?_
    refine V.goto (tgt := 22) dX5_boardedAt_14 (by decide) ?_
    exact V.iret dX5_boardedAt_22 rfl ⟨_, _, rfl, rfl, rfl, by rw [if_neg (by rw [g]; decide)], FrX.z.trans FrX.z, hM.scF, by rw [if_neg (by rw [g]; decide)]; exact thr_z⟩
set_option maxHeartbeats 2000000 in
theorem kM_leftAt {l : Launch} {G : GG} {σ : St} {u : Vw} (hM : RM σ u) {x : Int32} : CtP l G TX5_leftAt 2 [.ref (gB G + 94), .int x] σ (fun v τ => v = some (.int (if okP u x = true then ur u 4 x.toNatClampNeg else 0)) ∧ FrX σ τ ∧ RM τ u ∧ thr τ = if okP u x = true then 0 else 1) := by
  have hn : un u ≤ 40 := hM.1
  refine CtP.ofV (by decide +kernel) rfl rfl (Nat.le_of_ble_eq_true rfl) ?_
  refine V.aload_n (q := 1) dX5_leftAt_0 rfl rfl ?_
  refine V.iconst (q := 2) dX5_leftAt_1 (v := 0) rfl rfl ?_
  refine V.pM (q := 5) dX5_leftAt_2 (j := 0) rfl bw_1011 rfl rfl rfl rfl rfl rfl ?_
  have hM : RM (stF σ 94 0 0) u := hM.scF
  refine V.aload_n (q := 6) dX5_leftAt_5 rfl rfl ?_
  refine V.iload_n (q := 7) dX5_leftAt_6 rfl rfl ?_
  refine V.cVMP (q := 10) (As := [_]) dX5_leftAt_7 rfl (kM_noP hM) MX5_noPassenger bw_1379 rfl rfl rfl rfl (by decide) rfl (fun v1 τ1 h1 => ?_)
  obtain ⟨rfl, h1⟩ := h1
  refine V.if_eq (tgt := 17) (q := 13) dX5_leftAt_10 (by decide) rfl (fun c10 => ?_) (fun c10 => ?_)
  · have g : okP u x = true := by
      cases z : okP u x with
      | true => rfl
      | false => rw [z] at c10; exact absurd c10 (by decide)
    rw [if_pos g] at h1
    subst h1
    obtain ⟨hx, hi⟩ := okP_i hn g
    refine V.aload_n (q := 18) dX5_leftAt_17 rfl rfl ?_
    refine V.iload_n (q := 19) dX5_leftAt_18 rfl rfl ?_
    refine V.cVM (q := 22) dX5_leftAt_19 (As := [_]) rfl (by have := cM_left (l := l) (G := G) hM hi; rw [← hx] at this; exact this) MX5_left bw_1188 rfl rfl rfl rfl (by decide) rfl ?_
    exact V.iret dX5_leftAt_22 rfl ⟨_, _, rfl, rfl, rfl, by rw [if_pos g], FrX.z, hM, by rw [if_pos g]; exact thr_z⟩
  · have g : okP u x = false := by
      cases z : okP u x with
      | true => rw [z] at c10; exact absurd rfl c10
      | false => rfl
    rw [if_neg (by rw [g]; decide)] at h1
    subst h1
    refine V.iconst (q := 14) dX5_leftAt_13 (v := 0) rfl rfl ?_
    refine V.goto (tgt := 22) dX5_leftAt_14 (by decide) ?_
    exact V.iret dX5_leftAt_22 rfl ⟨_, _, rfl, rfl, rfl, by rw [if_neg (by rw [g]; decide)], FrX.z.trans FrX.z, hM.scF, by rw [if_neg (by rw [g]; decide)]; exact thr_z⟩
set_option maxHeartbeats 2000000 in
theorem kM_waitOf {l : Launch} {G : GG} {σ : St} {u : Vw} (hM : RM σ u) {x : Int32} : CtP l G TX5_waitOf 3 [.ref (gB G + 94), .int x] σ (fun v τ => v = some (.int (if okP u x = true then wtI u x.toNatClampNeg else 0)) ∧ FrX σ τ ∧ RM τ u ∧ thr τ = if okP u x = true then 0 else 1) := by
  have hn : un u ≤ 40 := hM.1
  refine CtP.ofV (by decide +kernel) rfl rfl (Nat.le_of_ble_eq_true rfl) ?_
  refine V.aload_n (q := 1) dX5_waitOf_0 rfl rfl ?_
  refine V.iconst (q := 2) dX5_waitOf_1 (v := 0) rfl rfl ?_
  refine V.pM (q := 5) dX5_waitOf_2 (j := 0) rfl bw_1011 rfl rfl rfl rfl rfl rfl ?_
  have hM : RM (stF σ 94 0 0) u := hM.scF
  refine V.aload_n (q := 6) dX5_waitOf_5 rfl rfl ?_
  refine V.iload_n (q := 7) dX5_waitOf_6 rfl rfl ?_
  refine V.cVMP (q := 10) (As := [_]) dX5_waitOf_7 rfl (kM_noP hM) MX5_noPassenger bw_1379 rfl rfl rfl rfl (by decide) rfl (fun v1 τ1 h1 => ?_)
  obtain ⟨rfl, h1⟩ := h1
  refine V.if_eq (tgt := 17) (q := 13) dX5_waitOf_10 (by decide) rfl (fun c10 => ?_) (fun c10 => ?_)
  · have g : okP u x = true := by
      cases z : okP u x with
      | true => rfl
      | false => rw [z] at c10; exact absurd c10 (by decide)
    rw [if_pos g] at h1
    subst h1
    obtain ⟨hx, hi⟩ := okP_i hn g
    refine V.aload_n (q := 18) dX5_waitOf_17 rfl rfl ?_
    refine V.iload_n (q := 19) dX5_waitOf_18 rfl rfl ?_
    refine V.cVM (q := 22) dX5_waitOf_19 (As := [_]) rfl (by have := kM_waited (l := l) (G := G) hM hi; rw [← hx] at this; exact this) MX5_waited bw_1407 rfl rfl rfl rfl (by decide) rfl ?_
    exact V.iret dX5_waitOf_22 rfl ⟨_, _, rfl, rfl, rfl, by rw [if_pos g], FrX.z, hM, by rw [if_pos g]; exact thr_z⟩
  · have g : okP u x = false := by
      cases z : okP u x with
      | true => rw [z] at c10; exact absurd rfl c10
      | false => rfl
    rw [if_neg (by rw [g]; decide)] at h1
    subst h1
    refine V.iconst (q := 14) dX5_waitOf_13 (v := 0) rfl rfl ?_
    refine V.goto (tgt := 22) dX5_waitOf_14 (by decide) ?_
    exact V.iret dX5_waitOf_22 rfl ⟨_, _, rfl, rfl, rfl, by rw [if_neg (by rw [g]; decide)], FrX.z.trans FrX.z, hM.scF, by rw [if_neg (by rw [g]; decide)]; exact thr_z⟩
set_option maxHeartbeats 2000000 in
theorem kM_rideOf {l : Launch} {G : GG} {σ : St} {u : Vw} (hM : RM σ u) {x : Int32} : CtP l G TX5_rideOf 3 [.ref (gB G + 94), .int x] σ (fun v τ => v = some (.int (if okP u x = true then rdI u x.toNatClampNeg else 0)) ∧ FrX σ τ ∧ RM τ u ∧ thr τ = if okP u x = true then 0 else 1) := by
  have hn : un u ≤ 40 := hM.1
  refine CtP.ofV (by decide +kernel) rfl rfl (Nat.le_of_ble_eq_true rfl) ?_
  refine V.aload_n (q := 1) dX5_rideOf_0 rfl rfl ?_
  refine V.iconst (q := 2) dX5_rideOf_1 (v := 0) rfl rfl ?_
  refine V.pM (q := 5) dX5_rideOf_2 (j := 0) rfl bw_1011 rfl rfl rfl rfl rfl rfl ?_
  have hM : RM (stF σ 94 0 0) u := hM.scF
  refine V.aload_n (q := 6) dX5_rideOf_5 rfl rfl ?_
  refine V.iload_n (q := 7) dX5_rideOf_6 rfl rfl ?_
  refine V.cVMP (q := 10) (As := [_]) dX5_rideOf_7 rfl (kM_noP hM) MX5_noPassenger bw_1379 rfl rfl rfl rfl (by decide) rfl (fun v1 τ1 h1 => ?_)
  obtain ⟨rfl, h1⟩ := h1
  refine V.if_eq (tgt := 17) (q := 13) dX5_rideOf_10 (by decide) rfl (fun c10 => ?_) (fun c10 => ?_)
  · have g : okP u x = true := by
      cases z : okP u x with
      | true => rfl
      | false => rw [z] at c10; exact absurd c10 (by decide)
    rw [if_pos g] at h1
    subst h1
    obtain ⟨hx, hi⟩ := okP_i hn g
    refine V.aload_n (q := 18) dX5_rideOf_17 rfl rfl ?_
    refine V.iload_n (q := 19) dX5_rideOf_18 rfl rfl ?_
    refine V.cVM (q := 22) dX5_rideOf_19 (As := [_]) rfl (by have := kM_ridden (l := l) (G := G) hM hi; rw [← hx] at this; exact this) MX5_ridden bw_1415 rfl rfl rfl rfl (by decide) rfl ?_
    exact V.iret dX5_rideOf_22 rfl ⟨_, _, rfl, rfl, rfl, by rw [if_pos g], FrX.z, hM, by rw [if_pos g]; exact thr_z⟩
  · have g : okP u x = false := by
      cases z : okP u x with
      | true => rw [z] at c10; exact absurd rfl c10
      | false => rfl
    rw [if_neg (by rw [g]; decide)] at h1
    subst h1
    refine V.iconst (q := 14) dX5_rideOf_13 (v := 0) rfl rfl ?_
    refine V.goto (tgt := 22) dX5_rideOf_14 (by decide) ?_
    exact V.iret dX5_rideOf_22 rfl ⟨_, _, rfl, rfl, rfl, by rw [if_neg (by rw [g]; decide)], FrX.z.trans FrX.z, hM.scF, by rw [if_neg (by rw [g]; decide)]; exact thr_z⟩
