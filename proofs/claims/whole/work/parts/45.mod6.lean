/-! the model: reads with loops -/
set_option maxHeartbeats 2000000 in
theorem kM_waiting {l : Launch} {G : GG} {σ : St} {u : Vw} (hM : RM σ u) {f9 : Int32} : CtS l G TX5_waiting 3 [.ref (gB G + 94), .int f9] σ (some (.int (nI (cnt (fun j => (ur u 0 j == f9) && (stat u j == 1)) (un u))))) σ := by
  have hn : un u ≤ 40 := hM.1
  refine CtS.ofV (by decide +kernel) rfl rfl (Nat.le_of_ble_eq_true rfl) ?_
  have loop : ∀ (m : Nat) (i : Nat), m = un u - i → i ≤ un u → V l G TX5_waiting 3 0 0 (RetS G (some (.int (nI (cnt (fun j => (ur u 0 j == f9) && (stat u j == 1)) (un u))))) σ) 0 0 4 [some (.ref (gB G + 94)), some (.int f9), some (.int (nI (cnt (fun j => (ur u 0 j == f9) && (stat u j == 1)) i))), some (.int (nI i))] [] (hof G σ) NC := by
    intro m
    induction m using Nat.strongRecOn with
    | _ m ih =>
      intro i hm hile
      refine V.iload_n (q := 5) dX5_waiting_4 rfl rfl ?_
      refine V.aload_n (q := 6) dX5_waiting_5 rfl rfl ?_
      refine V.gM (q := 9) dX5_waiting_6 (j := 1) rfl bw_1012 rfl rfl rfl rfl ?_
      refine V.bipush (q := 11) dX5_waiting_9 (v := 10) rfl rfl ?_
      refine V.ldMn (q := 12) dX5_waiting_11 hM rfl rfl ?_
      refine V.icmp_ge (tgt := 47) (q := 15) dX5_waiting_12 (by decide) rfl (fun c12 => ?_) (fun c12 => ?_)
      · have hie : i = un u := Nat.le_antisymm hile (nle c12 (by omega) (by omega))
        refine V.iload_n (q := 48) dX5_waiting_47 rfl rfl ?_
        exact V.iret dX5_waiting_48 rfl ⟨by rw [hie], rfl, rfl⟩
      · have hlt : i < un u := nnle c12 (by omega) (by omega)
        refine V.iload_n (q := 16) dX5_waiting_15 rfl rfl ?_
        refine V.aload_n (q := 17) dX5_waiting_16 rfl rfl ?_
        refine V.iload_n (q := 18) dX5_waiting_17 rfl rfl ?_
        refine V.cVM (q := 21) dX5_waiting_18 (As := [_]) rfl (cM_status hM (by omega)) MX5_status bw_1184 rfl rfl rfl rfl (by decide) rfl ?_
        refine V.iconst (q := 22) dX5_waiting_21 (v := 1) rfl rfl ?_
        refine V.icmp_ne (tgt := 38) (q := 25) dX5_waiting_22 (by decide) rfl (fun c22 => ?_) (fun c22 => ?_)
        · refine V.iconst (q := 39) dX5_waiting_38 (v := 0) rfl rfl ?_
          refine V.iadd (q := 40) dX5_waiting_39 rfl ?_
          rw [Int32.add_zero]
          refine V.istore_n (q := 41) dX5_waiting_40 rfl rfl rfl rfl ?_
          refine V.iinc (q := 44) dX5_waiting_41 rfl (by first | exact nI_inc _ | rfl) rfl rfl rfl ?_
          refine V.goto (tgt := 4) dX5_waiting_44 (by decide) ?_
          refine V.to (L2 := [some (.ref (gB G + 94)), some (.int f9), some (.int (nI (cnt (fun j => (ur u 0 j == f9) && (stat u j == 1)) (i + 1)))), some (.int (nI (i + 1)))]) ?_ rfl rfl rfl (ih _ (by omega) (i + 1) rfl (by omega))
          rw [show cnt (fun j => (ur u 0 j == f9) && (stat u j == 1)) (i + 1) = cnt (fun j => (ur u 0 j == f9) && (stat u j == 1)) i by simp [cnt, c22]]
          rfl
        · refine V.aload_n (q := 26) dX5_waiting_25 rfl rfl ?_
          refine V.iload_n (q := 27) dX5_waiting_26 rfl rfl ?_
          refine V.cVM (q := 30) dX5_waiting_27 (As := [_]) rfl (cM_origin hM (by omega)) MX5_origin bw_1204 rfl rfl rfl rfl (by decide) rfl ?_
          refine V.iload_n (q := 31) dX5_waiting_30 rfl rfl ?_
          refine V.icmp_ne (tgt := 38) (q := 34) dX5_waiting_31 (by decide) rfl (fun c31 => ?_) (fun c31 => ?_)
          · refine V.iconst (q := 39) dX5_waiting_38 (v := 0) rfl rfl ?_
            refine V.iadd (q := 40) dX5_waiting_39 rfl ?_
            rw [Int32.add_zero]
            refine V.istore_n (q := 41) dX5_waiting_40 rfl rfl rfl rfl ?_
            refine V.iinc (q := 44) dX5_waiting_41 rfl (by first | exact nI_inc _ | rfl) rfl rfl rfl ?_
            refine V.goto (tgt := 4) dX5_waiting_44 (by decide) ?_
            refine V.to (L2 := [some (.ref (gB G + 94)), some (.int f9), some (.int (nI (cnt (fun j => (ur u 0 j == f9) && (stat u j == 1)) (i + 1)))), some (.int (nI (i + 1)))]) ?_ rfl rfl rfl (ih _ (by omega) (i + 1) rfl (by omega))
            rw [show cnt (fun j => (ur u 0 j == f9) && (stat u j == 1)) (i + 1) = cnt (fun j => (ur u 0 j == f9) && (stat u j == 1)) i by simp [cnt, c31]]
            rfl
          · refine V.iconst (q := 35) dX5_waiting_34 (v := 1) rfl rfl ?_
            refine V.goto (tgt := 39) dX5_waiting_35 (by decide) ?_
            refine V.iadd (q := 40) dX5_waiting_39 rfl ?_
            rw [nI_1]
            refine V.istore_n (q := 41) dX5_waiting_40 rfl rfl rfl rfl ?_
            refine V.iinc (q := 44) dX5_waiting_41 rfl (by first | exact nI_inc _ | rfl) rfl rfl rfl ?_
            refine V.goto (tgt := 4) dX5_waiting_44 (by decide) ?_
            refine V.to (L2 := [some (.ref (gB G + 94)), some (.int f9), some (.int (nI (cnt (fun j => (ur u 0 j == f9) && (stat u j == 1)) (i + 1)))), some (.int (nI (i + 1)))]) ?_ rfl rfl rfl (ih _ (by omega) (i + 1) rfl (by omega))
            rw [show cnt (fun j => (ur u 0 j == f9) && (stat u j == 1)) (i + 1) = cnt (fun j => (ur u 0 j == f9) && (stat u j == 1)) i + 1 by simp [cnt, c22, c31]]
            rfl
  refine V.iconst (q := 1) dX5_waiting_0 (v := 0) rfl rfl ?_
  refine V.istore_n (q := 2) dX5_waiting_1 rfl rfl rfl rfl ?_
  refine V.iconst (q := 3) dX5_waiting_2 (v := 0) rfl rfl ?_
  refine V.istore_n (q := 4) dX5_waiting_3 rfl rfl rfl rfl ?_
  exact loop _ 0 rfl (Nat.zero_le _)
set_option maxHeartbeats 2000000 in
theorem kM_startingAt {l : Launch} {G : GG} {σ : St} {u : Vw} (hM : RM σ u) {f9 : Int32} : CtS l G TX5_startingAt 2 [.ref (gB G + 94), .int f9] σ (some (.int (nI (stN u f9)))) σ := by
  have hn : un u ≤ 40 := hM.1
  refine CtS.ofV (by decide +kernel) rfl rfl (Nat.le_of_ble_eq_true rfl) ?_
  have loop : ∀ (m : Nat) (i : Nat), m = un u - i → i ≤ un u → V l G TX5_startingAt 2 0 0 (RetS G (some (.int (nI (stN u f9)))) σ) 0 0 4 [some (.ref (gB G + 94)), some (.int f9), some (.int (nI (cnt (fun j => ur u 0 j == f9) i))), some (.int (nI i))] [] (hof G σ) NC := by
    intro m
    induction m using Nat.strongRecOn with
    | _ m ih =>
      intro i hm hile
      refine V.iload_n (q := 5) dX5_startingAt_4 rfl rfl ?_
      refine V.aload_n (q := 6) dX5_startingAt_5 rfl rfl ?_
      refine V.gM (q := 9) dX5_startingAt_6 (j := 1) rfl bw_1012 rfl rfl rfl rfl ?_
      refine V.bipush (q := 11) dX5_startingAt_9 (v := 10) rfl rfl ?_
      refine V.ldMn (q := 12) dX5_startingAt_11 hM rfl rfl ?_
      refine V.icmp_ge (tgt := 38) (q := 15) dX5_startingAt_12 (by decide) rfl (fun c12 => ?_) (fun c12 => ?_)
      · have hie : i = un u := Nat.le_antisymm hile (nle c12 (by omega) (by omega))
        refine V.iload_n (q := 39) dX5_startingAt_38 rfl rfl ?_
        exact V.iret dX5_startingAt_39 rfl ⟨by rw [hie]; rfl, rfl, rfl⟩
      · have hlt : i < un u := nnle c12 (by omega) (by omega)
        refine V.iload_n (q := 16) dX5_startingAt_15 rfl rfl ?_
        refine V.aload_n (q := 17) dX5_startingAt_16 rfl rfl ?_
        refine V.iload_n (q := 18) dX5_startingAt_17 rfl rfl ?_
        refine V.cVM (q := 21) dX5_startingAt_18 (As := [_]) rfl (cM_origin hM (by omega)) MX5_origin bw_1204 rfl rfl rfl rfl (by decide) rfl ?_
        refine V.iload_n (q := 22) dX5_startingAt_21 rfl rfl ?_
        refine V.icmp_ne (tgt := 29) (q := 25) dX5_startingAt_22 (by decide) rfl (fun c22 => ?_) (fun c22 => ?_)
        · refine V.iconst (q := 30) dX5_startingAt_29 (v := 0) rfl rfl ?_
          refine V.iadd (q := 31) dX5_startingAt_30 rfl ?_
          rw [Int32.add_zero]
          refine V.istore_n (q := 32) dX5_startingAt_31 rfl rfl rfl rfl ?_
          refine V.iinc (q := 35) dX5_startingAt_32 rfl (by first | exact nI_inc _ | rfl) rfl rfl rfl ?_
          refine V.goto (tgt := 4) dX5_startingAt_35 (by decide) ?_
          refine V.to (L2 := [some (.ref (gB G + 94)), some (.int f9), some (.int (nI (cnt (fun j => ur u 0 j == f9) (i + 1)))), some (.int (nI (i + 1)))]) ?_ rfl rfl rfl (ih _ (by omega) (i + 1) rfl (by omega))
          rw [show cnt (fun j => ur u 0 j == f9) (i + 1) = cnt (fun j => ur u 0 j == f9) i by simp [cnt, c22]]
          rfl
        · refine V.iconst (q := 26) dX5_startingAt_25 (v := 1) rfl rfl ?_
          refine V.goto (tgt := 30) dX5_startingAt_26 (by decide) ?_
          refine V.iadd (q := 31) dX5_startingAt_30 rfl ?_
          rw [nI_1]
          refine V.istore_n (q := 32) dX5_startingAt_31 rfl rfl rfl rfl ?_
          refine V.iinc (q := 35) dX5_startingAt_32 rfl (by first | exact nI_inc _ | rfl) rfl rfl rfl ?_
          refine V.goto (tgt := 4) dX5_startingAt_35 (by decide) ?_
          refine V.to (L2 := [some (.ref (gB G + 94)), some (.int f9), some (.int (nI (cnt (fun j => ur u 0 j == f9) (i + 1)))), some (.int (nI (i + 1)))]) ?_ rfl rfl rfl (ih _ (by omega) (i + 1) rfl (by omega))
          rw [show cnt (fun j => ur u 0 j == f9) (i + 1) = cnt (fun j => ur u 0 j == f9) i + 1 by simp [cnt, c22]]
          rfl
  refine V.iconst (q := 1) dX5_startingAt_0 (v := 0) rfl rfl ?_
  refine V.istore_n (q := 2) dX5_startingAt_1 rfl rfl rfl rfl ?_
  refine V.iconst (q := 3) dX5_startingAt_2 (v := 0) rfl rfl ?_
  refine V.istore_n (q := 4) dX5_startingAt_3 rfl rfl rfl rfl ?_
  exact loop _ 0 rfl (Nat.zero_le _)
set_option maxHeartbeats 2000000 in
theorem kM_rides {l : Launch} {G : GG} {σ : St} {u : Vw} (hM : RM σ u)  : CtS l G TX5_rides 3 [.ref (gB G + 94)] σ (some (.int (sumI (fun j => nz (rdI u j)) (un u)))) σ := by
  have hn : un u ≤ 40 := hM.1
  refine CtS.ofV (by decide +kernel) rfl rfl (Nat.le_of_ble_eq_true rfl) ?_
  have loop : ∀ (m : Nat) (i : Nat), m = un u - i → i ≤ un u → V l G TX5_rides 3 0 0 (RetS G (some (.int (sumI (fun j => nz (rdI u j)) (un u)))) σ) 0 0 4 [some (.ref (gB G + 94)), some (.int (sumI (fun j => nz (rdI u j)) i)), some (.int (nI i))] [] (hof G σ) NC := by
    intro m
    induction m using Nat.strongRecOn with
    | _ m ih =>
      intro i hm hile
      refine V.iload_n (q := 5) dX5_rides_4 rfl rfl ?_
      refine V.aload_n (q := 6) dX5_rides_5 rfl rfl ?_
      refine V.gM (q := 9) dX5_rides_6 (j := 1) rfl bw_1012 rfl rfl rfl rfl ?_
      refine V.bipush (q := 11) dX5_rides_9 (v := 10) rfl rfl ?_
      refine V.ldMn (q := 12) dX5_rides_11 hM rfl rfl ?_
      refine V.icmp_ge (tgt := 42) (q := 15) dX5_rides_12 (by decide) rfl (fun c12 => ?_) (fun c12 => ?_)
      · have hie : i = un u := Nat.le_antisymm hile (nle c12 (by omega) (by omega))
        refine V.iload_n (q := 43) dX5_rides_42 rfl rfl ?_
        exact V.iret dX5_rides_43 rfl ⟨by rw [hie], rfl, rfl⟩
      · have hlt : i < un u := nnle c12 (by omega) (by omega)
        refine V.iload_n (q := 16) dX5_rides_15 rfl rfl ?_
        refine V.aload_n (q := 17) dX5_rides_16 rfl rfl ?_
        refine V.iload_n (q := 18) dX5_rides_17 rfl rfl ?_
        refine V.cVM (q := 21) dX5_rides_18 (As := [_]) rfl (kM_ridden hM (by omega)) MX5_ridden bw_1415 rfl rfl rfl rfl (by decide) rfl ?_
        refine V.iconst (q := 22) dX5_rides_21 (v := -1) rfl rfl ?_
        refine V.icmp_ne (tgt := 29) (q := 25) dX5_rides_22 (by decide) rfl (fun c22 => ?_) (fun c22 => ?_)
        · refine V.aload_n (q := 30) dX5_rides_29 rfl rfl ?_
          refine V.iload_n (q := 31) dX5_rides_30 rfl rfl ?_
          refine V.cVM (q := 34) dX5_rides_31 (As := [_]) rfl (kM_ridden hM (by omega)) MX5_ridden bw_1415 rfl rfl rfl rfl (by decide) rfl ?_
          refine V.iadd (q := 35) dX5_rides_34 rfl ?_
          refine V.istore_n (q := 36) dX5_rides_35 rfl rfl rfl rfl ?_
          refine V.iinc (q := 39) dX5_rides_36 rfl (by first | exact nI_inc _ | rfl) rfl rfl rfl ?_
          refine V.goto (tgt := 4) dX5_rides_39 (by decide) ?_
          refine V.to (L2 := [some (.ref (gB G + 94)), some (.int (sumI (fun j => nz (rdI u j)) (i + 1))), some (.int (nI (i + 1)))]) ?_ rfl rfl rfl (ih _ (by omega) (i + 1) rfl (by omega))
          rw [show sumI (fun j => nz (rdI u j)) (i + 1) = sumI (fun j => nz (rdI u j)) i + rdI u i by simp only [sumI]; rw [show nz (rdI u i) = rdI u i from if_neg c22]]
          rfl
        · refine V.iconst (q := 26) dX5_rides_25 (v := 0) rfl rfl ?_
          refine V.goto (tgt := 34) dX5_rides_26 (by decide) ?_
          refine V.iadd (q := 35) dX5_rides_34 rfl ?_
          refine V.istore_n (q := 36) dX5_rides_35 rfl rfl rfl rfl ?_
          refine V.iinc (q := 39) dX5_rides_36 rfl (by first | exact nI_inc _ | rfl) rfl rfl rfl ?_
          refine V.goto (tgt := 4) dX5_rides_39 (by decide) ?_
          refine V.to (L2 := [some (.ref (gB G + 94)), some (.int (sumI (fun j => nz (rdI u j)) (i + 1))), some (.int (nI (i + 1)))]) ?_ rfl rfl rfl (ih _ (by omega) (i + 1) rfl (by omega))
          rw [show sumI (fun j => nz (rdI u j)) (i + 1) = sumI (fun j => nz (rdI u j)) i + 0 by simp only [sumI]; rw [show nz (rdI u i) = 0 from if_pos c22]]
          rfl
  refine V.iconst (q := 1) dX5_rides_0 (v := 0) rfl rfl ?_
  refine V.istore_n (q := 2) dX5_rides_1 rfl rfl rfl rfl ?_
  refine V.iconst (q := 3) dX5_rides_2 (v := 0) rfl rfl ?_
  refine V.istore_n (q := 4) dX5_rides_3 rfl rfl rfl rfl ?_
  exact loop _ 0 rfl (Nat.zero_le _)
set_option maxHeartbeats 2000000 in
theorem kM_waits {l : Launch} {G : GG} {σ : St} {u : Vw} (hM : RM σ u)  : CtS l G TX5_waits 3 [.ref (gB G + 94)] σ (some (.int (sumI (fun j => nz (wtI u j)) (un u)))) σ := by
  have hn : un u ≤ 40 := hM.1
  refine CtS.ofV (by decide +kernel) rfl rfl (Nat.le_of_ble_eq_true rfl) ?_
  have loop : ∀ (m : Nat) (i : Nat), m = un u - i → i ≤ un u → V l G TX5_waits 3 0 0 (RetS G (some (.int (sumI (fun j => nz (wtI u j)) (un u)))) σ) 0 0 4 [some (.ref (gB G + 94)), some (.int (sumI (fun j => nz (wtI u j)) i)), some (.int (nI i))] [] (hof G σ) NC := by
    intro m
    induction m using Nat.strongRecOn with
    | _ m ih =>
      intro i hm hile
      refine V.iload_n (q := 5) dX5_waits_4 rfl rfl ?_
      refine V.aload_n (q := 6) dX5_waits_5 rfl rfl ?_
      refine V.gM (q := 9) dX5_waits_6 (j := 1) rfl bw_1012 rfl rfl rfl rfl ?_
      refine V.bipush (q := 11) dX5_waits_9 (v := 10) rfl rfl ?_
      refine V.ldMn (q := 12) dX5_waits_11 hM rfl rfl ?_
      refine V.icmp_ge (tgt := 42) (q := 15) dX5_waits_12 (by decide) rfl (fun c12 => ?_) (fun c12 => ?_)
      · have hie : i = un u := Nat.le_antisymm hile (nle c12 (by omega) (by omega))
        refine V.iload_n (q := 43) dX5_waits_42 rfl rfl ?_
        exact V.iret dX5_waits_43 rfl ⟨by rw [hie], rfl, rfl⟩
      · have hlt : i < un u := nnle c12 (by omega) (by omega)
        refine V.iload_n (q := 16) dX5_waits_15 rfl rfl ?_
        refine V.aload_n (q := 17) dX5_waits_16 rfl rfl ?_
        refine V.iload_n (q := 18) dX5_waits_17 rfl rfl ?_
        refine V.cVM (q := 21) dX5_waits_18 (As := [_]) rfl (kM_waited hM (by omega)) MX5_waited bw_1407 rfl rfl rfl rfl (by decide) rfl ?_
        refine V.iconst (q := 22) dX5_waits_21 (v := -1) rfl rfl ?_
        refine V.icmp_ne (tgt := 29) (q := 25) dX5_waits_22 (by decide) rfl (fun c22 => ?_) (fun c22 => ?_)
        · refine V.aload_n (q := 30) dX5_waits_29 rfl rfl ?_
          refine V.iload_n (q := 31) dX5_waits_30 rfl rfl ?_
          refine V.cVM (q := 34) dX5_waits_31 (As := [_]) rfl (kM_waited hM (by omega)) MX5_waited bw_1407 rfl rfl rfl rfl (by decide) rfl ?_
          refine V.iadd (q := 35) dX5_waits_34 rfl ?_
          refine V.istore_n (q := 36) dX5_waits_35 rfl rfl rfl rfl ?_
          refine V.iinc (q := 39) dX5_waits_36 rfl (by first | exact nI_inc _ | rfl) rfl rfl rfl ?_
          refine V.goto (tgt := 4) dX5_waits_39 (by decide) ?_
          refine V.to (L2 := [some (.ref (gB G + 94)), some (.int (sumI (fun j => nz (wtI u j)) (i + 1))), some (.int (nI (i + 1)))]) ?_ rfl rfl rfl (ih _ (by omega) (i + 1) rfl (by omega))
          rw [show sumI (fun j => nz (wtI u j)) (i + 1) = sumI (fun j => nz (wtI u j)) i + wtI u i by simp only [sumI]; rw [show nz (wtI u i) = wtI u i from if_neg c22]]
          rfl
        · refine V.iconst (q := 26) dX5_waits_25 (v := 0) rfl rfl ?_
          refine V.goto (tgt := 34) dX5_waits_26 (by decide) ?_
          refine V.iadd (q := 35) dX5_waits_34 rfl ?_
          refine V.istore_n (q := 36) dX5_waits_35 rfl rfl rfl rfl ?_
          refine V.iinc (q := 39) dX5_waits_36 rfl (by first | exact nI_inc _ | rfl) rfl rfl rfl ?_
          refine V.goto (tgt := 4) dX5_waits_39 (by decide) ?_
          refine V.to (L2 := [some (.ref (gB G + 94)), some (.int (sumI (fun j => nz (wtI u j)) (i + 1))), some (.int (nI (i + 1)))]) ?_ rfl rfl rfl (ih _ (by omega) (i + 1) rfl (by omega))
          rw [show sumI (fun j => nz (wtI u j)) (i + 1) = sumI (fun j => nz (wtI u j)) i + 0 by simp only [sumI]; rw [show nz (wtI u i) = 0 from if_pos c22]]
          rfl
  refine V.iconst (q := 1) dX5_waits_0 (v := 0) rfl rfl ?_
  refine V.istore_n (q := 2) dX5_waits_1 rfl rfl rfl rfl ?_
  refine V.iconst (q := 3) dX5_waits_2 (v := 0) rfl rfl ?_
  refine V.istore_n (q := 4) dX5_waits_3 rfl rfl rfl rfl ?_
  exact loop _ 0 rfl (Nat.zero_le _)
set_option maxHeartbeats 2000000 in
theorem kM_greatestWait {l : Launch} {G : GG} {σ : St} {u : Vw} (hM : RM σ u)  : CtS l G TX5_greatestWait 3 [.ref (gB G + 94)] σ (some (.int (wmax u))) σ := by
  have hn : un u ≤ 40 := hM.1
  refine CtS.ofV (by decide +kernel) rfl rfl (Nat.le_of_ble_eq_true rfl) ?_
  have loop : ∀ (m : Nat) (i : Nat), m = un u - i → i ≤ un u → V l G TX5_greatestWait 3 0 0 (RetS G (some (.int (wmax u))) σ) 0 0 4 [some (.ref (gB G + 94)), some (.int (maxI (wtI u) i)), some (.int (nI i))] [] (hof G σ) NC := by
    intro m
    induction m using Nat.strongRecOn with
    | _ m ih =>
      intro i hm hile
      refine V.iload_n (q := 5) dX5_greatestWait_4 rfl rfl ?_
      refine V.aload_n (q := 6) dX5_greatestWait_5 rfl rfl ?_
      refine V.gM (q := 9) dX5_greatestWait_6 (j := 1) rfl bw_1012 rfl rfl rfl rfl ?_
      refine V.bipush (q := 11) dX5_greatestWait_9 (v := 10) rfl rfl ?_
      refine V.ldMn (q := 12) dX5_greatestWait_11 hM rfl rfl ?_
      refine V.icmp_ge (tgt := 40) (q := 15) dX5_greatestWait_12 (by decide) rfl (fun c12 => ?_) (fun c12 => ?_)
      · have hie : i = un u := Nat.le_antisymm hile (nle c12 (by omega) (by omega))
        refine V.iload_n (q := 41) dX5_greatestWait_40 rfl rfl ?_
        exact V.iret dX5_greatestWait_41 rfl ⟨by rw [hie]; rfl, rfl, rfl⟩
      · have hlt : i < un u := nnle c12 (by omega) (by omega)
        refine V.aload_n (q := 16) dX5_greatestWait_15 rfl rfl ?_
        refine V.iload_n (q := 17) dX5_greatestWait_16 rfl rfl ?_
        refine V.cVM (q := 20) dX5_greatestWait_17 (As := [_]) rfl (kM_waited hM (by omega)) MX5_waited bw_1407 rfl rfl rfl rfl (by decide) rfl ?_
        refine V.iload_n (q := 21) dX5_greatestWait_20 rfl rfl ?_
        refine V.icmp_le (tgt := 32) (q := 24) dX5_greatestWait_21 (by decide) rfl (fun c21 => ?_) (fun c21 => ?_)
        · refine V.iload_n (q := 33) dX5_greatestWait_32 rfl rfl ?_
          refine V.istore_n (q := 34) dX5_greatestWait_33 rfl rfl rfl rfl ?_
          refine V.iinc (q := 37) dX5_greatestWait_34 rfl (by first | exact nI_inc _ | rfl) rfl rfl rfl ?_
          refine V.goto (tgt := 4) dX5_greatestWait_37 (by decide) ?_
          refine V.to (L2 := [some (.ref (gB G + 94)), some (.int (maxI (wtI u) (i + 1))), some (.int (nI (i + 1)))]) ?_ rfl rfl rfl (ih _ (by omega) (i + 1) rfl (by omega))
          rw [show maxI (wtI u) (i + 1) = maxI (wtI u) i from if_neg (Int32.not_lt.mpr c21)]
          rfl
        · refine V.aload_n (q := 25) dX5_greatestWait_24 rfl rfl ?_
          refine V.iload_n (q := 26) dX5_greatestWait_25 rfl rfl ?_
          refine V.cVM (q := 29) dX5_greatestWait_26 (As := [_]) rfl (kM_waited hM (by omega)) MX5_waited bw_1407 rfl rfl rfl rfl (by decide) rfl ?_
          refine V.goto (tgt := 33) dX5_greatestWait_29 (by decide) ?_
          refine V.istore_n (q := 34) dX5_greatestWait_33 rfl rfl rfl rfl ?_
          refine V.iinc (q := 37) dX5_greatestWait_34 rfl (by first | exact nI_inc _ | rfl) rfl rfl rfl ?_
          refine V.goto (tgt := 4) dX5_greatestWait_37 (by decide) ?_
          refine V.to (L2 := [some (.ref (gB G + 94)), some (.int (maxI (wtI u) (i + 1))), some (.int (nI (i + 1)))]) ?_ rfl rfl rfl (ih _ (by omega) (i + 1) rfl (by omega))
          rw [show maxI (wtI u) (i + 1) = wtI u i from if_pos (Int32.not_le.mp c21)]
          rfl
  refine V.iconst (q := 1) dX5_greatestWait_0 (v := 0) rfl rfl ?_
  refine V.istore_n (q := 2) dX5_greatestWait_1 rfl rfl rfl rfl ?_
  refine V.iconst (q := 3) dX5_greatestWait_2 (v := 0) rfl rfl ?_
  refine V.istore_n (q := 4) dX5_greatestWait_3 rfl rfl rfl rfl ?_
  exact loop _ 0 rfl (Nat.zero_le _)
set_option maxHeartbeats 2000000 in
theorem kM_ahead {l : Launch} {G : GG} {σ : St} {u : Vw} (hM : RM σ u) {p : Nat} (hp : p < un u) : CtS l G TX5_ahead 3 [.ref (gB G + 94), .int (nI p)] σ (some (.int (nI (ahN u p)))) σ := by
  have hn : un u ≤ 40 := hM.1
  refine CtS.ofV (by decide +kernel) rfl rfl (Nat.le_of_ble_eq_true rfl) ?_
  have loop : ∀ (m : Nat) (i : Nat), m = un u - i → i ≤ un u → V l G TX5_ahead 3 0 0 (RetS G (some (.int (nI (ahN u p)))) σ) 0 0 4 [some (.ref (gB G + 94)), some (.int (nI p)), some (.int (nI (cnt (fun q => wtB u (ur u 0 p) q && ahB u q p) i))), some (.int (nI i))] [] (hof G σ) NC := by
    intro m
    induction m using Nat.strongRecOn with
    | _ m ih =>
      intro i hm hile
      refine V.iload_n (q := 5) dX5_ahead_4 rfl rfl ?_
      refine V.aload_n (q := 6) dX5_ahead_5 rfl rfl ?_
      refine V.gM (q := 9) dX5_ahead_6 (j := 1) rfl bw_1012 rfl rfl rfl rfl ?_
      refine V.bipush (q := 11) dX5_ahead_9 (v := 10) rfl rfl ?_
      refine V.ldMn (q := 12) dX5_ahead_11 hM rfl rfl ?_
      refine V.icmp_ge (tgt := 60) (q := 15) dX5_ahead_12 (by decide) rfl (fun c12 => ?_) (fun c12 => ?_)
      · have hie : i = un u := Nat.le_antisymm hile (nle c12 (by omega) (by omega))
        refine V.iload_n (q := 61) dX5_ahead_60 rfl rfl ?_
        exact V.iret dX5_ahead_61 rfl ⟨by rw [hie]; rfl, rfl, rfl⟩
      · have hlt : i < un u := nnle c12 (by omega) (by omega)
        refine V.iload_n (q := 16) dX5_ahead_15 rfl rfl ?_
        refine V.aload_n (q := 17) dX5_ahead_16 rfl rfl ?_
        refine V.iload_n (q := 18) dX5_ahead_17 rfl rfl ?_
        refine V.cVM (q := 21) dX5_ahead_18 (As := [_]) rfl (cM_status hM (by omega)) MX5_status bw_1184 rfl rfl rfl rfl (by decide) rfl ?_
        refine V.iconst (q := 22) dX5_ahead_21 (v := 1) rfl rfl ?_
        refine V.icmp_ne (tgt := 51) (q := 25) dX5_ahead_22 (by decide) rfl (fun c22 => ?_) (fun c22 => ?_)
        · refine V.iconst (q := 52) dX5_ahead_51 (v := 0) rfl rfl ?_
          refine V.iadd (q := 53) dX5_ahead_52 rfl ?_
          rw [Int32.add_zero]
          refine V.istore_n (q := 54) dX5_ahead_53 rfl rfl rfl rfl ?_
          refine V.iinc (q := 57) dX5_ahead_54 rfl (by first | exact nI_inc _ | rfl) rfl rfl rfl ?_
          refine V.goto (tgt := 4) dX5_ahead_57 (by decide) ?_
          refine V.to (L2 := [some (.ref (gB G + 94)), some (.int (nI p)), some (.int (nI (cnt (fun q => wtB u (ur u 0 p) q && ahB u q p) (i + 1)))), some (.int (nI (i + 1)))]) ?_ rfl rfl rfl (ih _ (by omega) (i + 1) rfl (by omega))
          rw [show cnt (fun q => wtB u (ur u 0 p) q && ahB u q p) (i + 1) = cnt (fun q => wtB u (ur u 0 p) q && ahB u q p) i by simp [cnt, wtB, c22]]
          rfl
        · refine V.aload_n (q := 26) dX5_ahead_25 rfl rfl ?_
          refine V.iload_n (q := 27) dX5_ahead_26 rfl rfl ?_
          refine V.cVM (q := 30) dX5_ahead_27 (As := [_]) rfl (cM_origin hM (by omega)) MX5_origin bw_1204 rfl rfl rfl rfl (by decide) rfl ?_
          refine V.aload_n (q := 31) dX5_ahead_30 rfl rfl ?_
          refine V.iload_n (q := 32) dX5_ahead_31 rfl rfl ?_
          refine V.cVM (q := 35) dX5_ahead_32 (As := [_]) rfl (cM_origin hM hp) MX5_origin bw_1204 rfl rfl rfl rfl (by decide) rfl ?_
          refine V.icmp_ne (tgt := 51) (q := 38) dX5_ahead_35 (by decide) rfl (fun c35 => ?_) (fun c35 => ?_)
          · refine V.iconst (q := 52) dX5_ahead_51 (v := 0) rfl rfl ?_
            refine V.iadd (q := 53) dX5_ahead_52 rfl ?_
            rw [Int32.add_zero]
            refine V.istore_n (q := 54) dX5_ahead_53 rfl rfl rfl rfl ?_
            refine V.iinc (q := 57) dX5_ahead_54 rfl (by first | exact nI_inc _ | rfl) rfl rfl rfl ?_
            refine V.goto (tgt := 4) dX5_ahead_57 (by decide) ?_
            refine V.to (L2 := [some (.ref (gB G + 94)), some (.int (nI p)), some (.int (nI (cnt (fun q => wtB u (ur u 0 p) q && ahB u q p) (i + 1)))), some (.int (nI (i + 1)))]) ?_ rfl rfl rfl (ih _ (by omega) (i + 1) rfl (by omega))
            rw [show cnt (fun q => wtB u (ur u 0 p) q && ahB u q p) (i + 1) = cnt (fun q => wtB u (ur u 0 p) q && ahB u q p) i by simp [cnt, wtB, c35]]
            rfl
          · refine V.aload_n (q := 39) dX5_ahead_38 rfl rfl ?_
            refine V.iload_n (q := 40) dX5_ahead_39 rfl rfl ?_
            refine V.iload_n (q := 41) dX5_ahead_40 rfl rfl ?_
            refine V.cVM (q := 44) dX5_ahead_41 (As := [_, _]) rfl (cM_isAhead hM (by omega) hp) MX5_isAhead bw_1219 rfl rfl rfl rfl (by decide) rfl ?_
            refine V.if_eq (tgt := 51) (q := 47) dX5_ahead_44 (by decide) rfl (fun c44 => ?_) (fun c44 => ?_)
            · refine V.iconst (q := 52) dX5_ahead_51 (v := 0) rfl rfl ?_
              refine V.iadd (q := 53) dX5_ahead_52 rfl ?_
              rw [Int32.add_zero]
              refine V.istore_n (q := 54) dX5_ahead_53 rfl rfl rfl rfl ?_
              refine V.iinc (q := 57) dX5_ahead_54 rfl (by first | exact nI_inc _ | rfl) rfl rfl rfl ?_
              refine V.goto (tgt := 4) dX5_ahead_57 (by decide) ?_
              refine V.to (L2 := [some (.ref (gB G + 94)), some (.int (nI p)), some (.int (nI (cnt (fun q => wtB u (ur u 0 p) q && ahB u q p) (i + 1)))), some (.int (nI (i + 1)))]) ?_ rfl rfl rfl (ih _ (by omega) (i + 1) rfl (by omega))
              rw [show cnt (fun q => wtB u (ur u 0 p) q && ahB u q p) (i + 1) = cnt (fun q => wtB u (ur u 0 p) q && ahB u q p) i by simp [cnt, bI0.mp c44]]
              rfl
            · refine V.iconst (q := 48) dX5_ahead_47 (v := 1) rfl rfl ?_
              refine V.goto (tgt := 52) dX5_ahead_48 (by decide) ?_
              refine V.iadd (q := 53) dX5_ahead_52 rfl ?_
              rw [nI_1]
              refine V.istore_n (q := 54) dX5_ahead_53 rfl rfl rfl rfl ?_
              refine V.iinc (q := 57) dX5_ahead_54 rfl (by first | exact nI_inc _ | rfl) rfl rfl rfl ?_
              refine V.goto (tgt := 4) dX5_ahead_57 (by decide) ?_
              refine V.to (L2 := [some (.ref (gB G + 94)), some (.int (nI p)), some (.int (nI (cnt (fun q => wtB u (ur u 0 p) q && ahB u q p) (i + 1)))), some (.int (nI (i + 1)))]) ?_ rfl rfl rfl (ih _ (by omega) (i + 1) rfl (by omega))
              rw [show cnt (fun q => wtB u (ur u 0 p) q && ahB u q p) (i + 1) = cnt (fun q => wtB u (ur u 0 p) q && ahB u q p) i + 1 by simp [cnt, wtB, c22, c35, bI1.mp c44]]
              rfl
  refine V.iconst (q := 1) dX5_ahead_0 (v := 0) rfl rfl ?_
  refine V.istore_n (q := 2) dX5_ahead_1 rfl rfl rfl rfl ?_
  refine V.iconst (q := 3) dX5_ahead_2 (v := 0) rfl rfl ?_
  refine V.istore_n (q := 4) dX5_ahead_3 rfl rfl rfl rfl ?_
  exact loop _ 0 rfl (Nat.zero_le _)
set_option maxHeartbeats 2000000 in
theorem kM_totalRide {l : Launch} {G : GG} {σ : St} {u : Vw} (hM : RM σ u)  : CtP l G TX5_totalRide 4 [.ref (gB G + 94)] σ (fun v τ => v = some (.int (rsum u)) ∧ FrX σ τ ∧ RM τ u ∧ thr τ = 0) := by
  have hn : un u ≤ 40 := hM.1
  refine CtP.ofV (by decide +kernel) rfl rfl (Nat.le_of_ble_eq_true rfl) ?_
  refine V.aload_n (q := 1) dX5_totalRide_0 rfl rfl ?_
  refine V.iconst (q := 2) dX5_totalRide_1 (v := 0) rfl rfl ?_
  refine V.pM (q := 5) dX5_totalRide_2 (j := 0) rfl bw_1011 rfl rfl rfl rfl rfl rfl ?_
  have hM : RM (stF σ 94 0 0) u := hM.scF
  refine V.aload_n (q := 6) dX5_totalRide_5 rfl rfl ?_
  refine V.cVM (q := 9) dX5_totalRide_6 (As := []) rfl (kM_rides hM) MX5_rides bw_1475 rfl rfl rfl rfl (by decide) rfl ?_
  exact V.iret dX5_totalRide_9 rfl ⟨_, _, rfl, rfl, rfl, rfl, FrX.z, hM, thr_z⟩
set_option maxHeartbeats 2000000 in
theorem kM_totalWait {l : Launch} {G : GG} {σ : St} {u : Vw} (hM : RM σ u)  : CtP l G TX5_totalWait 4 [.ref (gB G + 94)] σ (fun v τ => v = some (.int (wsum u)) ∧ FrX σ τ ∧ RM τ u ∧ thr τ = 0) := by
  have hn : un u ≤ 40 := hM.1
  refine CtP.ofV (by decide +kernel) rfl rfl (Nat.le_of_ble_eq_true rfl) ?_
  refine V.aload_n (q := 1) dX5_totalWait_0 rfl rfl ?_
  refine V.iconst (q := 2) dX5_totalWait_1 (v := 0) rfl rfl ?_
  refine V.pM (q := 5) dX5_totalWait_2 (j := 0) rfl bw_1011 rfl rfl rfl rfl rfl rfl ?_
  have hM : RM (stF σ 94 0 0) u := hM.scF
  refine V.aload_n (q := 6) dX5_totalWait_5 rfl rfl ?_
  refine V.cVM (q := 9) dX5_totalWait_6 (As := []) rfl (kM_waits hM) MX5_waits bw_1495 rfl rfl rfl rfl (by decide) rfl ?_
  exact V.iret dX5_totalWait_9 rfl ⟨_, _, rfl, rfl, rfl, rfl, FrX.z, hM, thr_z⟩
set_option maxHeartbeats 2000000 in
theorem kM_longestWait {l : Launch} {G : GG} {σ : St} {u : Vw} (hM : RM σ u)  : CtP l G TX5_longestWait 4 [.ref (gB G + 94)] σ (fun v τ => v = some (.int (wmax u)) ∧ FrX σ τ ∧ RM τ u ∧ thr τ = 0) := by
  have hn : un u ≤ 40 := hM.1
  refine CtP.ofV (by decide +kernel) rfl rfl (Nat.le_of_ble_eq_true rfl) ?_
  refine V.aload_n (q := 1) dX5_longestWait_0 rfl rfl ?_
  refine V.iconst (q := 2) dX5_longestWait_1 (v := 0) rfl rfl ?_
  refine V.pM (q := 5) dX5_longestWait_2 (j := 0) rfl bw_1011 rfl rfl rfl rfl rfl rfl ?_
  have hM : RM (stF σ 94 0 0) u := hM.scF
  refine V.aload_n (q := 6) dX5_longestWait_5 rfl rfl ?_
  refine V.cVM (q := 9) dX5_longestWait_6 (As := []) rfl (kM_greatestWait hM) MX5_greatestWait bw_1503 rfl rfl rfl rfl (by decide) rfl ?_
  exact V.iret dX5_longestWait_9 rfl ⟨_, _, rfl, rfl, rfl, rfl, FrX.z, hM, thr_z⟩
theorem okI_3 {x : Int32} (h : okI 0 2 x = true) : x = 0 ∨ x = 1 ∨ x = 2 := by
  unfold okI at h
  simp only [Bool.and_eq_true, decide_eq_true_eq] at h
  have h1 := i32_le0 h.1
  have h2 : x.toInt ≤ (2 : Int32).toInt := Int32.le_iff_toInt_le.mp h.2
  have z : (2 : Int32).toInt = 2 := rfl
  have e := nI_back h1
  have e2 := clamp_int h1
  have h3 : x.toNatClampNeg = 0 ∨ x.toNatClampNeg = 1 ∨ x.toNatClampNeg = 2 := by omega
  rcases h3 with z | z | z
  · exact Or.inl (by rw [e, z]; rfl)
  · exact Or.inr (Or.inl (by rw [e, z]; rfl))
  · exact Or.inr (Or.inr (by rw [e, z]; rfl))
set_option maxHeartbeats 2000000 in
theorem kM_targetBy {l : Launch} {G : GG} {σ : St} {u : Vw} (hM : RM σ u) (hI : Iu u) {x : Int32} : CtP l G TX5_targetBy 7 [.ref (gB G + 94), .int x] σ (fun v τ => v = some (.int (if okI 0 2 x = true then tgt u x else 0)) ∧ FrX σ τ ∧ RM τ u ∧ thr τ = if okI 0 2 x = true then 0 else 1) := by
  have hn : un u ≤ 40 := hM.1
  refine CtP.ofV (by decide +kernel) rfl rfl (Nat.le_of_ble_eq_true rfl) ?_
  refine V.aload_n (q := 1) dX5_targetBy_0 rfl rfl ?_
  refine V.iconst (q := 2) dX5_targetBy_1 (v := 0) rfl rfl ?_
  refine V.pM (q := 5) dX5_targetBy_2 (j := 0) rfl bw_1011 rfl rfl rfl rfl rfl rfl ?_
  have hM : RM (stF σ 94 0 0) u := hM.scF
  refine V.aload_n (q := 6) dX5_targetBy_5 rfl rfl ?_
  refine V.iload_n (q := 7) dX5_targetBy_6 rfl rfl ?_
  refine V.cVMP (q := 10) (As := [_]) dX5_targetBy_7 rfl (kM_noY hM) MX5_noPolicy bw_1347 rfl rfl rfl rfl (by decide) rfl (fun v1 τ1 h1 => ?_)
  obtain ⟨rfl, h1⟩ := h1
  refine V.if_eq (tgt := 17) (q := 13) dX5_targetBy_10 (by decide) rfl (fun c10 => ?_) (fun c10 => ?_)
  · have g : okI 0 2 x = true := by
      cases z : okI 0 2 x with
      | true => rfl
      | false => rw [z] at c10; exact absurd c10 (by decide)
    rw [if_pos g] at h1
    subst h1
    refine V.aload_n (q := 18) dX5_targetBy_17 rfl rfl ?_
    refine V.iload_n (q := 19) dX5_targetBy_18 rfl rfl ?_
    refine V.cVM (q := 22) dX5_targetBy_19 (As := [_]) rfl (cM_target hM hI (okI_3 g)) MX5_target bw_1227 rfl rfl rfl rfl (by decide) rfl ?_
    exact V.iret dX5_targetBy_22 rfl ⟨_, _, rfl, rfl, rfl, by rw [if_pos g], FrX.z, hM, by rw [if_pos g]; exact thr_z⟩
  · have g : okI 0 2 x = false := by
      cases z : okI 0 2 x with
      | true => rw [z] at c10; exact absurd rfl c10
      | false => rfl
    rw [if_neg (by rw [g]; decide)] at h1
    subst h1
    refine V.iconst (q := 14) dX5_targetBy_13 (v := 0) rfl rfl ?_
    refine V.goto (tgt := 22) dX5_targetBy_14 (by decide) ?_
    exact V.iret dX5_targetBy_22 rfl ⟨_, _, rfl, rfl, rfl, by rw [if_neg (by rw [g]; decide)], FrX.z.trans FrX.z, hM.scF, by rw [if_neg (by rw [g]; decide)]; exact thr_z⟩
set_option maxHeartbeats 2000000 in
theorem kM_waitingAt {l : Launch} {G : GG} {σ : St} {u : Vw} (hM : RM σ u) (hI : Iu u) {x : Int32} : CtP l G TX5_waitingAt 4 [.ref (gB G + 94), .int x] σ (fun v τ => v = some (.int (if okF u x = true then nI (cnt (fun j => (ur u 0 j == x) && (stat u j == 1)) (un u)) else 0)) ∧ FrX σ τ ∧ RM τ u ∧ thr τ = if okF u x = true then 0 else 1) := by
  have hn : un u ≤ 40 := hM.1
  refine CtP.ofV (by decide +kernel) rfl rfl (Nat.le_of_ble_eq_true rfl) ?_
  refine V.aload_n (q := 1) dX5_waitingAt_0 rfl rfl ?_
  refine V.iconst (q := 2) dX5_waitingAt_1 (v := 0) rfl rfl ?_
  refine V.pM (q := 5) dX5_waitingAt_2 (j := 0) rfl bw_1011 rfl rfl rfl rfl rfl rfl ?_
  have hM : RM (stF σ 94 0 0) u := hM.scF
  refine V.aload_n (q := 6) dX5_waitingAt_5 rfl rfl ?_
  refine V.iload_n (q := 7) dX5_waitingAt_6 rfl rfl ?_
  refine V.cVMP (q := 10) (As := [_]) dX5_waitingAt_7 rfl (kM_noF hM hI) MX5_noFloor bw_1431 rfl rfl rfl rfl (by decide) rfl (fun v1 τ1 h1 => ?_)
  obtain ⟨rfl, h1⟩ := h1
  refine V.if_eq (tgt := 17) (q := 13) dX5_waitingAt_10 (by decide) rfl (fun c10 => ?_) (fun c10 => ?_)
  · have g : okF u x = true := by
      cases z : okF u x with
      | true => rfl
      | false => rw [z] at c10; exact absurd c10 (by decide)
    rw [if_pos g] at h1
    subst h1
    refine V.aload_n (q := 18) dX5_waitingAt_17 rfl rfl ?_
    refine V.iload_n (q := 19) dX5_waitingAt_18 rfl rfl ?_
    refine V.cVM (q := 22) dX5_waitingAt_19 (As := [_]) rfl (kM_waiting hM) MX5_waiting bw_1435 rfl rfl rfl rfl (by decide) rfl ?_
    exact V.iret dX5_waitingAt_22 rfl ⟨_, _, rfl, rfl, rfl, by rw [if_pos g], FrX.z, hM, by rw [if_pos g]; exact thr_z⟩
  · have g : okF u x = false := by
      cases z : okF u x with
      | true => rw [z] at c10; exact absurd rfl c10
      | false => rfl
    rw [if_neg (by rw [g]; decide)] at h1
    subst h1
    refine V.iconst (q := 14) dX5_waitingAt_13 (v := 0) rfl rfl ?_
    refine V.goto (tgt := 22) dX5_waitingAt_14 (by decide) ?_
    exact V.iret dX5_waitingAt_22 rfl ⟨_, _, rfl, rfl, rfl, by rw [if_neg (by rw [g]; decide)], FrX.z.trans FrX.z, hM.scF, by rw [if_neg (by rw [g]; decide)]; exact thr_z⟩
set_option maxHeartbeats 2000000 in
theorem kM_countStatus {l : Launch} {G : GG} {σ : St} {u : Vw} (hM : RM σ u) {x : Int32} : CtP l G TX5_countStatus 4 [.ref (gB G + 94), .int x] σ (fun v τ => v = some (.int (if okI 0 3 x = true then nI (many u x) else 0)) ∧ FrX σ τ ∧ RM τ u ∧ thr τ = if okI 0 3 x = true then 0 else 1) := by
  have hn : un u ≤ 40 := hM.1
  refine CtP.ofV (by decide +kernel) rfl rfl (Nat.le_of_ble_eq_true rfl) ?_
  refine V.aload_n (q := 1) dX5_countStatus_0 rfl rfl ?_
  refine V.iconst (q := 2) dX5_countStatus_1 (v := 0) rfl rfl ?_
  refine V.pM (q := 5) dX5_countStatus_2 (j := 0) rfl bw_1011 rfl rfl rfl rfl rfl rfl ?_
  have hM : RM (stF σ 94 0 0) u := hM.scF
  refine V.aload_n (q := 6) dX5_countStatus_5 rfl rfl ?_
  refine V.iload_n (q := 7) dX5_countStatus_6 rfl rfl ?_
  refine V.iconst (q := 8) dX5_countStatus_7 (v := 0) rfl rfl ?_
  refine V.iconst (q := 9) dX5_countStatus_8 (v := 3) rfl rfl ?_
  refine V.cSt (q := 12) dX5_countStatus_9 (As := [_, _, _]) rfl cM_inRange MX5_inRange bw_1097 rfl rfl (by decide) rfl ?_
  refine V.if_ne (tgt := 19) (q := 15) dX5_countStatus_12 (by decide) rfl (fun c12 => ?_) (fun c12 => ?_)
  · have g : okI 0 3 x = true := bI1.mp c12
    refine V.iconst (q := 20) dX5_countStatus_19 (v := 0) rfl rfl ?_
    refine V.iconst (q := 21) dX5_countStatus_20 (v := 1) rfl rfl ?_
    refine V.cVMP (q := 24) (As := [_, _]) dX5_countStatus_21 rfl (kM_fails_false) MX5_fails bw_1351 rfl rfl rfl rfl (by decide) rfl (fun v1 τ1 h1 => ?_)
    obtain ⟨rfl, rfl⟩ := h1
    refine V.if_eq (tgt := 31) (q := 27) dX5_countStatus_24 (by decide) rfl (fun c24 => ?_) (fun c24 => ?_)
    · refine V.aload_n (q := 32) dX5_countStatus_31 rfl rfl ?_
      refine V.iload_n (q := 33) dX5_countStatus_32 rfl rfl ?_
      refine V.cVM (q := 36) dX5_countStatus_33 (As := [_]) rfl (cM_many hM) MX5_many bw_1180 rfl rfl rfl rfl (by decide) rfl ?_
      exact V.iret dX5_countStatus_36 rfl ⟨_, _, rfl, rfl, rfl, by rw [if_pos g], FrX.z, hM, by rw [if_pos g]; exact thr_z⟩
    · exact absurd rfl c24
  · have g : okI 0 3 x = false := bI0.mp c12
    refine V.iconst (q := 16) dX5_countStatus_15 (v := 1) rfl rfl ?_
    refine V.goto (tgt := 20) dX5_countStatus_16 (by decide) ?_
    refine V.iconst (q := 21) dX5_countStatus_20 (v := 1) rfl rfl ?_
    refine V.cVMP (q := 24) (As := [_, _]) dX5_countStatus_21 rfl (kM_fails_true) MX5_fails bw_1351 rfl rfl rfl rfl (by decide) rfl (fun v1 τ1 h1 => ?_)
    obtain ⟨rfl, rfl⟩ := h1
    refine V.if_eq (tgt := 31) (q := 27) dX5_countStatus_24 (by decide) rfl (fun c24 => ?_) (fun c24 => ?_)
    · exact absurd c24 (by decide)
    · refine V.iconst (q := 28) dX5_countStatus_27 (v := 0) rfl rfl ?_
      refine V.goto (tgt := 36) dX5_countStatus_28 (by decide) ?_
      exact V.iret dX5_countStatus_36 rfl ⟨_, _, rfl, rfl, rfl, by rw [if_neg (by rw [g]; decide)], FrX.z.trans FrX.z, hM.scF, by rw [if_neg (by rw [g]; decide)]; exact thr_z⟩
set_option maxHeartbeats 2000000 in
theorem kM_longestRide {l : Launch} {G : GG} {σ : St} {u : Vw} (hM : RM σ u)  : CtP l G TX5_longestRide 3 [.ref (gB G + 94)] σ (fun v τ => v = some (.int (rmax u)) ∧ FrX σ τ ∧ RM τ u ∧ thr τ = 0) := by
  have hn : un u ≤ 40 := hM.1
  have hM0 := hM
  have hM : RM (stF σ 94 0 0) u := hM.scF
  refine CtP.ofV (by decide +kernel) rfl rfl (Nat.le_of_ble_eq_true rfl) ?_
  have loop : ∀ (m : Nat) (i : Nat), m = un u - i → i ≤ un u → V l G TX5_longestRide 3 0 0 (RetP G (fun v τ => v = some (.int (rmax u)) ∧ FrX σ τ ∧ RM τ u ∧ thr τ = 0)) 0 0 9 [some (.ref (gB G + 94)), some (.int (maxI (rdI u) i)), some (.int (nI i))] [] (hof G (stF σ 94 0 0)) NC := by
    intro m
    induction m using Nat.strongRecOn with
    | _ m ih =>
      intro i hm hile
      refine V.iload_n (q := 10) dX5_longestRide_9 rfl rfl ?_
      refine V.aload_n (q := 11) dX5_longestRide_10 rfl rfl ?_
      refine V.gM (q := 14) dX5_longestRide_11 (j := 1) rfl bw_1012 rfl rfl rfl rfl ?_
      refine V.bipush (q := 16) dX5_longestRide_14 (v := 10) rfl rfl ?_
      refine V.ldMn (q := 17) dX5_longestRide_16 hM rfl rfl ?_
      refine V.icmp_ge (tgt := 45) (q := 20) dX5_longestRide_17 (by decide) rfl (fun c17 => ?_) (fun c17 => ?_)
      · have hie : i = un u := Nat.le_antisymm hile (nle c17 (by omega) (by omega))
        refine V.iload_n (q := 46) dX5_longestRide_45 rfl rfl ?_
        exact V.iret dX5_longestRide_46 rfl ⟨_, _, rfl, rfl, rfl, by rw [hie]; rfl, FrX.z, hM, thr_z⟩
      · have hlt : i < un u := nnle c17 (by omega) (by omega)
        refine V.aload_n (q := 21) dX5_longestRide_20 rfl rfl ?_
        refine V.iload_n (q := 22) dX5_longestRide_21 rfl rfl ?_
        refine V.cVM (q := 25) dX5_longestRide_22 (As := [_]) rfl (kM_ridden hM (by omega)) MX5_ridden bw_1415 rfl rfl rfl rfl (by decide) rfl ?_
        refine V.iload_n (q := 26) dX5_longestRide_25 rfl rfl ?_
        refine V.icmp_le (tgt := 37) (q := 29) dX5_longestRide_26 (by decide) rfl (fun c26 => ?_) (fun c26 => ?_)
        · refine V.iload_n (q := 38) dX5_longestRide_37 rfl rfl ?_
          refine V.istore_n (q := 39) dX5_longestRide_38 rfl rfl rfl rfl ?_
          refine V.iinc (q := 42) dX5_longestRide_39 rfl (by first | exact nI_inc _ | rfl) rfl rfl rfl ?_
          refine V.goto (tgt := 9) dX5_longestRide_42 (by decide) ?_
          refine V.to (L2 := [some (.ref (gB G + 94)), some (.int (maxI (rdI u) (i + 1))), some (.int (nI (i + 1)))]) ?_ rfl rfl rfl (ih _ (by omega) (i + 1) rfl (by omega))
          rw [show maxI (rdI u) (i + 1) = maxI (rdI u) i from if_neg (Int32.not_lt.mpr c26)]
          rfl
        · refine V.aload_n (q := 30) dX5_longestRide_29 rfl rfl ?_
          refine V.iload_n (q := 31) dX5_longestRide_30 rfl rfl ?_
          refine V.cVM (q := 34) dX5_longestRide_31 (As := [_]) rfl (kM_ridden hM (by omega)) MX5_ridden bw_1415 rfl rfl rfl rfl (by decide) rfl ?_
          refine V.goto (tgt := 38) dX5_longestRide_34 (by decide) ?_
          refine V.istore_n (q := 39) dX5_longestRide_38 rfl rfl rfl rfl ?_
          refine V.iinc (q := 42) dX5_longestRide_39 rfl (by first | exact nI_inc _ | rfl) rfl rfl rfl ?_
          refine V.goto (tgt := 9) dX5_longestRide_42 (by decide) ?_
          refine V.to (L2 := [some (.ref (gB G + 94)), some (.int (maxI (rdI u) (i + 1))), some (.int (nI (i + 1)))]) ?_ rfl rfl rfl (ih _ (by omega) (i + 1) rfl (by omega))
          rw [show maxI (rdI u) (i + 1) = rdI u i from if_pos (Int32.not_le.mp c26)]
          rfl
  refine V.aload_n (q := 1) dX5_longestRide_0 rfl rfl ?_
  refine V.iconst (q := 2) dX5_longestRide_1 (v := 0) rfl rfl ?_
  refine V.pM (q := 5) dX5_longestRide_2 (j := 0) rfl bw_1011 rfl rfl rfl rfl rfl rfl ?_
  refine V.iconst (q := 6) dX5_longestRide_5 (v := 0) rfl rfl ?_
  refine V.istore_n (q := 7) dX5_longestRide_6 rfl rfl rfl rfl ?_
  refine V.iconst (q := 8) dX5_longestRide_7 (v := 0) rfl rfl ?_
  refine V.istore_n (q := 9) dX5_longestRide_8 rfl rfl rfl rfl ?_
  exact loop _ 0 rfl (Nat.zero_le _)
