/-! Simulation: the methods that only read -/
set_option maxHeartbeats 1000000 in
theorem cS_findStatus {l : Launch} {G : GG} {σ : St} {u : Vw} {qq : Nat → Nat} {p : Nat} (hp : kd p = 1) (hR : RC σ p u qq) {i : Nat} (hi : i < un u) : CtS l G TX3_findStatus 0 [.ref (gB G + p), .int (nI i)] σ (some (.int (stat u i))) σ := by
  have hn : un u ≤ 40 := hR.1
  refine CtS.ofV (by decide +kernel) rfl rfl (Nat.le_of_ble_eq_true rfl) ?_
  refine V.aload_n (q := 1) dX3_findStatus_0 rfl rfl ?_
  refine V.gS (q := 4) dX3_findStatus_1 (j := 17) hp bw_84 rfl rfl rfl rfl ?_
  refine V.iload_n (q := 5) dX3_findStatus_4 rfl rfl ?_
  refine V.ldSu (q := 6) 4 dX3_findStatus_5 hR hp rfl rfl (by omega) rfl ?_
  refine V.iconst (q := 7) dX3_findStatus_6 (v := -1) rfl rfl ?_
  refine V.icmp_eq (tgt := 12) (q := 10) dX3_findStatus_7 (by decide) rfl (fun c7 => ?_) (fun c7 => ?_)
  · refine V.aload_n (q := 13) dX3_findStatus_12 rfl rfl ?_
    refine V.gS (q := 16) dX3_findStatus_13 (j := 16) hp bw_82 rfl rfl rfl rfl ?_
    refine V.iload_n (q := 17) dX3_findStatus_16 rfl rfl ?_
    refine V.ldSu (q := 18) 3 dX3_findStatus_17 hR hp rfl rfl (by omega) rfl ?_
    refine V.iconst (q := 19) dX3_findStatus_18 (v := -1) rfl rfl ?_
    refine V.icmp_eq (tgt := 24) (q := 22) dX3_findStatus_19 (by decide) rfl (fun c19 => ?_) (fun c19 => ?_)
    · refine V.aload_n (q := 25) dX3_findStatus_24 rfl rfl ?_
      refine V.gS (q := 28) dX3_findStatus_25 (j := 15) hp bw_80 rfl rfl rfl rfl ?_
      refine V.iload_n (q := 29) dX3_findStatus_28 rfl rfl ?_
      refine V.ldSu (q := 30) 2 dX3_findStatus_29 hR hp rfl rfl (by omega) rfl ?_
      refine V.aload_n (q := 31) dX3_findStatus_30 rfl rfl ?_
      refine V.gSu (q := 34) 3 dX3_findStatus_31 hR hp bw_52 rfl rfl ?_
      refine V.icmp_gt (tgt := 41) (q := 37) dX3_findStatus_34 (by decide) rfl (fun c34 => ?_) (fun c34 => ?_)
      · refine V.iconst (q := 42) dX3_findStatus_41 (v := 0) rfl rfl ?_
        exact V.iret dX3_findStatus_42 rfl ⟨by first | (simp only [stat, c7, c19, not_true_eq_false, not_false_eq_true, if_false, ne_eq]; rw [if_pos (Int32.not_lt.mp c34)]) | (simp only [stat, c7, c19, not_true_eq_false, not_false_eq_true, if_false, ne_eq]; rw [if_neg (Int32.not_le.mpr c34)]), rfl, rfl⟩
      · refine V.iconst (q := 38) dX3_findStatus_37 (v := 1) rfl rfl ?_
        refine V.goto (tgt := 42) dX3_findStatus_38 (by decide) ?_
        exact V.iret dX3_findStatus_42 rfl ⟨by first | (simp only [stat, c7, c19, not_true_eq_false, not_false_eq_true, if_false, ne_eq]; rw [if_pos (Int32.not_lt.mp c34)]) | (simp only [stat, c7, c19, not_true_eq_false, not_false_eq_true, if_false, ne_eq]; rw [if_neg (Int32.not_le.mpr c34)]), rfl, rfl⟩
    · refine V.iconst (q := 23) dX3_findStatus_22 (v := 2) rfl rfl ?_
      exact V.iret dX3_findStatus_23 rfl ⟨by simp [stat, c7, c19], rfl, rfl⟩
  · refine V.iconst (q := 11) dX3_findStatus_10 (v := 3) rfl rfl ?_
    exact V.iret dX3_findStatus_11 rfl ⟨by simp [stat, c7], rfl, rfl⟩
set_option maxHeartbeats 1000000 in
theorem cS_findWait {l : Launch} {G : GG} {σ : St} {u : Vw} {qq : Nat → Nat} {p : Nat} (hp : kd p = 1) (hR : RC σ p u qq) {i : Nat} (hi : i < un u) : CtS l G TX3_findWait 0 [.ref (gB G + p), .int (nI i)] σ (some (.int (wtI u i))) σ := by
  have hn : un u ≤ 40 := hR.1
  refine CtS.ofV (by decide +kernel) rfl rfl (Nat.le_of_ble_eq_true rfl) ?_
  refine V.aload_n (q := 1) dX3_findWait_0 rfl rfl ?_
  refine V.gS (q := 4) dX3_findWait_1 (j := 16) hp bw_82 rfl rfl rfl rfl ?_
  refine V.iload_n (q := 5) dX3_findWait_4 rfl rfl ?_
  refine V.ldSu (q := 6) 3 dX3_findWait_5 hR hp rfl rfl (by omega) rfl ?_
  refine V.iconst (q := 7) dX3_findWait_6 (v := -1) rfl rfl ?_
  refine V.icmp_ne (tgt := 14) (q := 10) dX3_findWait_7 (by decide) rfl (fun c7 => ?_) (fun c7 => ?_)
  · refine V.aload_n (q := 15) dX3_findWait_14 rfl rfl ?_
    refine V.gS (q := 18) dX3_findWait_15 (j := 16) hp bw_82 rfl rfl rfl rfl ?_
    refine V.iload_n (q := 19) dX3_findWait_18 rfl rfl ?_
    refine V.ldSu (q := 20) 3 dX3_findWait_19 hR hp rfl rfl (by omega) rfl ?_
    refine V.aload_n (q := 21) dX3_findWait_20 rfl rfl ?_
    refine V.gS (q := 24) dX3_findWait_21 (j := 15) hp bw_80 rfl rfl rfl rfl ?_
    refine V.iload_n (q := 25) dX3_findWait_24 rfl rfl ?_
    refine V.ldSu (q := 26) 2 dX3_findWait_25 hR hp rfl rfl (by omega) rfl ?_
    refine V.isub (q := 27) dX3_findWait_26 rfl ?_
    exact V.iret dX3_findWait_27 rfl ⟨by simp [wtI, c7], rfl, rfl⟩
  · refine V.iconst (q := 11) dX3_findWait_10 (v := -1) rfl rfl ?_
    refine V.goto (tgt := 27) dX3_findWait_11 (by decide) ?_
    exact V.iret dX3_findWait_27 rfl ⟨by simp [wtI, c7], rfl, rfl⟩
set_option maxHeartbeats 1000000 in
theorem cS_findRide {l : Launch} {G : GG} {σ : St} {u : Vw} {qq : Nat → Nat} {p : Nat} (hp : kd p = 1) (hR : RC σ p u qq) {i : Nat} (hi : i < un u) : CtS l G TX3_findRide 0 [.ref (gB G + p), .int (nI i)] σ (some (.int (rdI u i))) σ := by
  have hn : un u ≤ 40 := hR.1
  refine CtS.ofV (by decide +kernel) rfl rfl (Nat.le_of_ble_eq_true rfl) ?_
  refine V.aload_n (q := 1) dX3_findRide_0 rfl rfl ?_
  refine V.gS (q := 4) dX3_findRide_1 (j := 17) hp bw_84 rfl rfl rfl rfl ?_
  refine V.iload_n (q := 5) dX3_findRide_4 rfl rfl ?_
  refine V.ldSu (q := 6) 4 dX3_findRide_5 hR hp rfl rfl (by omega) rfl ?_
  refine V.iconst (q := 7) dX3_findRide_6 (v := -1) rfl rfl ?_
  refine V.icmp_ne (tgt := 14) (q := 10) dX3_findRide_7 (by decide) rfl (fun c7 => ?_) (fun c7 => ?_)
  · refine V.aload_n (q := 15) dX3_findRide_14 rfl rfl ?_
    refine V.gS (q := 18) dX3_findRide_15 (j := 17) hp bw_84 rfl rfl rfl rfl ?_
    refine V.iload_n (q := 19) dX3_findRide_18 rfl rfl ?_
    refine V.ldSu (q := 20) 4 dX3_findRide_19 hR hp rfl rfl (by omega) rfl ?_
    refine V.aload_n (q := 21) dX3_findRide_20 rfl rfl ?_
    refine V.gS (q := 24) dX3_findRide_21 (j := 16) hp bw_82 rfl rfl rfl rfl ?_
    refine V.iload_n (q := 25) dX3_findRide_24 rfl rfl ?_
    refine V.ldSu (q := 26) 3 dX3_findRide_25 hR hp rfl rfl (by omega) rfl ?_
    refine V.isub (q := 27) dX3_findRide_26 rfl ?_
    exact V.iret dX3_findRide_27 rfl ⟨by simp [rdI, c7], rfl, rfl⟩
  · refine V.iconst (q := 11) dX3_findRide_10 (v := -1) rfl rfl ?_
    refine V.goto (tgt := 27) dX3_findRide_11 (by decide) ?_
    exact V.iret dX3_findRide_27 rfl ⟨by simp [rdI, c7], rfl, rfl⟩
set_option maxHeartbeats 1000000 in
theorem cS_countWith {l : Launch} {G : GG} {σ : St} {u : Vw} {qq : Nat → Nat} {p : Nat} (hp : kd p = 1) (hR : RC σ p u qq) {k : Int32} : CtS l G TX3_countWith 1 [.ref (gB G + p), .int k] σ (some (.int (nI (many u k)))) σ := by
  have hn : un u ≤ 40 := hR.1
  refine CtS.ofV (by decide +kernel) rfl rfl (Nat.le_of_ble_eq_true rfl) ?_
  have loop : ∀ (m : Nat) (i : Nat), m = un u - i → i ≤ un u → V l G TX3_countWith 1 0 0 (RetS G (some (.int (nI (many u k)))) σ) 0 0 4 [some (.ref (gB G + p)), some (.int k), some (.int (nI (cnt (fun j => stat u j == k) i))), some (.int (nI i))] [] (hof G σ) NC := by
    intro m
    induction m using Nat.strongRecOn with
    | _ m ih =>
      intro i hm hile
      refine V.iload_n (q := 5) dX3_countWith_4 rfl rfl ?_
      refine V.aload_n (q := 6) dX3_countWith_5 rfl rfl ?_
      refine V.gSn (q := 9) dX3_countWith_6 hR hp bw_68 rfl ?_
      refine V.icmp_ge (tgt := 30) (q := 12) dX3_countWith_9 (by decide) rfl (fun c9 => ?_) (fun c9 => ?_)
      · have hie : i = un u := Nat.le_antisymm hile (nle c9 (by omega) (by omega))
        refine V.iload_n (q := 31) dX3_countWith_30 rfl rfl ?_
        exact V.iret dX3_countWith_31 rfl ⟨by rw [hie]; rfl, rfl, rfl⟩
      · have hlt : i < un u := nnle c9 (by omega) (by omega)
        refine V.aload_n (q := 13) dX3_countWith_12 rfl rfl ?_
        refine V.iload_n (q := 14) dX3_countWith_13 rfl rfl ?_
        refine V.cVS (q := 17) dX3_countWith_14 (As := [_]) rfl (cS_findStatus hp hR (by omega)) MX3_findStatus bw_421 hp rfl rfl rfl (by decide) rfl ?_
        refine V.iload_n (q := 18) dX3_countWith_17 rfl rfl ?_
        refine V.icmp_ne (tgt := 24) (q := 21) dX3_countWith_18 (by decide) rfl (fun c18 => ?_) (fun c18 => ?_)
        · refine V.iinc (q := 27) dX3_countWith_24 rfl (by first | exact nI_inc _ | rfl) rfl rfl rfl ?_
          refine V.goto (tgt := 4) dX3_countWith_27 (by decide) ?_
          refine V.to (L2 := [some (.ref (gB G + p)), some (.int k), some (.int (nI (cnt (fun j => stat u j == k) (i + 1)))), some (.int (nI (i + 1)))]) ?_ rfl rfl rfl (ih _ (by omega) (i + 1) rfl (by omega))
          rw [show cnt (fun j => stat u j == k) (i + 1) = cnt (fun j => stat u j == k) i by simp [cnt, c18]]
          rfl
        · refine V.iinc (q := 24) dX3_countWith_21 rfl (by first | exact nI_inc _ | rfl) rfl rfl rfl ?_
          refine V.iinc (q := 27) dX3_countWith_24 rfl (by first | exact nI_inc _ | rfl) rfl rfl rfl ?_
          refine V.goto (tgt := 4) dX3_countWith_27 (by decide) ?_
          refine V.to (L2 := [some (.ref (gB G + p)), some (.int k), some (.int (nI (cnt (fun j => stat u j == k) (i + 1)))), some (.int (nI (i + 1)))]) ?_ rfl rfl rfl (ih _ (by omega) (i + 1) rfl (by omega))
          rw [show cnt (fun j => stat u j == k) (i + 1) = cnt (fun j => stat u j == k) i + 1 by simp [cnt, c18]]
          rfl
  refine V.iconst (q := 1) dX3_countWith_0 (v := 0) rfl rfl ?_
  refine V.istore_n (q := 2) dX3_countWith_1 rfl rfl rfl rfl ?_
  refine V.iconst (q := 3) dX3_countWith_2 (v := 0) rfl rfl ?_
  refine V.istore_n (q := 4) dX3_countWith_3 rfl rfl rfl rfl ?_
  exact loop _ 0 rfl (Nat.zero_le _)
set_option maxHeartbeats 1000000 in
theorem cS_countWaiting {l : Launch} {G : GG} {σ : St} {u : Vw} {qq : Nat → Nat} {p : Nat} (hp : kd p = 1) (hR : RC σ p u qq) {f : Int32} : CtS l G TX3_countWaiting 1 [.ref (gB G + p), .int f] σ (some (.int (nI (cnt (fun j => (ur u 0 j == f) && (stat u j == 1)) (un u))))) σ := by
  have hn : un u ≤ 40 := hR.1
  refine CtS.ofV (by decide +kernel) rfl rfl (Nat.le_of_ble_eq_true rfl) ?_
  have loop : ∀ (m : Nat) (i : Nat), m = un u - i → i ≤ un u → V l G TX3_countWaiting 1 0 0 (RetS G (some (.int (nI (cnt (fun j => (ur u 0 j == f) && (stat u j == 1)) (un u))))) σ) 0 0 4 [some (.ref (gB G + p)), some (.int f), some (.int (nI (cnt (fun j => (ur u 0 j == f) && (stat u j == 1)) i))), some (.int (nI i))] [] (hof G σ) NC := by
    intro m
    induction m using Nat.strongRecOn with
    | _ m ih =>
      intro i hm hile
      refine V.iload_n (q := 5) dX3_countWaiting_4 rfl rfl ?_
      refine V.aload_n (q := 6) dX3_countWaiting_5 rfl rfl ?_
      refine V.gSn (q := 9) dX3_countWaiting_6 hR hp bw_68 rfl ?_
      refine V.icmp_ge (tgt := 40) (q := 12) dX3_countWaiting_9 (by decide) rfl (fun c9 => ?_) (fun c9 => ?_)
      · have hie : i = un u := Nat.le_antisymm hile (nle c9 (by omega) (by omega))
        refine V.iload_n (q := 41) dX3_countWaiting_40 rfl rfl ?_
        exact V.iret dX3_countWaiting_41 rfl ⟨by rw [hie], rfl, rfl⟩
      · have hlt : i < un u := nnle c9 (by omega) (by omega)
        refine V.aload_n (q := 13) dX3_countWaiting_12 rfl rfl ?_
        refine V.gS (q := 16) dX3_countWaiting_13 (j := 13) hp bw_76 rfl rfl rfl rfl ?_
        refine V.iload_n (q := 17) dX3_countWaiting_16 rfl rfl ?_
        refine V.ldSu (q := 18) 0 dX3_countWaiting_17 hR hp rfl rfl (by omega) rfl ?_
        refine V.iload_n (q := 19) dX3_countWaiting_18 rfl rfl ?_
        refine V.icmp_ne (tgt := 34) (q := 22) dX3_countWaiting_19 (by decide) rfl (fun c19 => ?_) (fun c19 => ?_)
        · refine V.iinc (q := 37) dX3_countWaiting_34 rfl (by first | exact nI_inc _ | rfl) rfl rfl rfl ?_
          refine V.goto (tgt := 4) dX3_countWaiting_37 (by decide) ?_
          refine V.to (L2 := [some (.ref (gB G + p)), some (.int f), some (.int (nI (cnt (fun j => (ur u 0 j == f) && (stat u j == 1)) (i + 1)))), some (.int (nI (i + 1)))]) ?_ rfl rfl rfl (ih _ (by omega) (i + 1) rfl (by omega))
          rw [show cnt (fun j => (ur u 0 j == f) && (stat u j == 1)) (i + 1) = cnt (fun j => (ur u 0 j == f) && (stat u j == 1)) i by simp [cnt, c19]]
          rfl
        · refine V.aload_n (q := 23) dX3_countWaiting_22 rfl rfl ?_
          refine V.iload_n (q := 24) dX3_countWaiting_23 rfl rfl ?_
          refine V.cVS (q := 27) dX3_countWaiting_24 (As := [_]) rfl (cS_findStatus hp hR (by omega)) MX3_findStatus bw_421 hp rfl rfl rfl (by decide) rfl ?_
          refine V.iconst (q := 28) dX3_countWaiting_27 (v := 1) rfl rfl ?_
          refine V.icmp_ne (tgt := 34) (q := 31) dX3_countWaiting_28 (by decide) rfl (fun c28 => ?_) (fun c28 => ?_)
          · refine V.iinc (q := 37) dX3_countWaiting_34 rfl (by first | exact nI_inc _ | rfl) rfl rfl rfl ?_
            refine V.goto (tgt := 4) dX3_countWaiting_37 (by decide) ?_
            refine V.to (L2 := [some (.ref (gB G + p)), some (.int f), some (.int (nI (cnt (fun j => (ur u 0 j == f) && (stat u j == 1)) (i + 1)))), some (.int (nI (i + 1)))]) ?_ rfl rfl rfl (ih _ (by omega) (i + 1) rfl (by omega))
            rw [show cnt (fun j => (ur u 0 j == f) && (stat u j == 1)) (i + 1) = cnt (fun j => (ur u 0 j == f) && (stat u j == 1)) i by simp [cnt, c28]]
            rfl
          · refine V.iinc (q := 34) dX3_countWaiting_31 rfl (by first | exact nI_inc _ | rfl) rfl rfl rfl ?_
            refine V.iinc (q := 37) dX3_countWaiting_34 rfl (by first | exact nI_inc _ | rfl) rfl rfl rfl ?_
            refine V.goto (tgt := 4) dX3_countWaiting_37 (by decide) ?_
            refine V.to (L2 := [some (.ref (gB G + p)), some (.int f), some (.int (nI (cnt (fun j => (ur u 0 j == f) && (stat u j == 1)) (i + 1)))), some (.int (nI (i + 1)))]) ?_ rfl rfl rfl (ih _ (by omega) (i + 1) rfl (by omega))
            rw [show cnt (fun j => (ur u 0 j == f) && (stat u j == 1)) (i + 1) = cnt (fun j => (ur u 0 j == f) && (stat u j == 1)) i + 1 by simp [cnt, c19, c28]]
            rfl
  refine V.iconst (q := 1) dX3_countWaiting_0 (v := 0) rfl rfl ?_
  refine V.istore_n (q := 2) dX3_countWaiting_1 rfl rfl rfl rfl ?_
  refine V.iconst (q := 3) dX3_countWaiting_2 (v := 0) rfl rfl ?_
  refine V.istore_n (q := 4) dX3_countWaiting_3 rfl rfl rfl rfl ?_
  exact loop _ 0 rfl (Nat.zero_le _)
set_option maxHeartbeats 1000000 in
theorem cS_sumWaits {l : Launch} {G : GG} {σ : St} {u : Vw} {qq : Nat → Nat} {p : Nat} (hp : kd p = 1) (hR : RC σ p u qq) (hw : ∀ i, i < un u → (if wtI u i < 0 then 0 else wtI u i) = nz (wtI u i)) : CtS l G TX3_sumWaits 1 [.ref (gB G + p)] σ (some (.int (wsum u))) σ := by
  have hn : un u ≤ 40 := hR.1
  refine CtS.ofV (by decide +kernel) rfl rfl (Nat.le_of_ble_eq_true rfl) ?_
  have loop : ∀ (m : Nat) (i : Nat), m = un u - i → i ≤ un u → V l G TX3_sumWaits 1 0 0 (RetS G (some (.int (wsum u))) σ) 0 0 4 [some (.ref (gB G + p)), some (.int (sumI (fun j => nz (wtI u j)) i)), some (.int (nI i))] [] (hof G σ) NC := by
    intro m
    induction m using Nat.strongRecOn with
    | _ m ih =>
      intro i hm hile
      refine V.iload_n (q := 5) dX3_sumWaits_4 rfl rfl ?_
      refine V.aload_n (q := 6) dX3_sumWaits_5 rfl rfl ?_
      refine V.gSn (q := 9) dX3_sumWaits_6 hR hp bw_68 rfl ?_
      refine V.icmp_ge (tgt := 30) (q := 12) dX3_sumWaits_9 (by decide) rfl (fun c9 => ?_) (fun c9 => ?_)
      · have hie : i = un u := Nat.le_antisymm hile (nle c9 (by omega) (by omega))
        refine V.iload_n (q := 31) dX3_sumWaits_30 rfl rfl ?_
        exact V.iret dX3_sumWaits_31 rfl ⟨by rw [hie]; rfl, rfl, rfl⟩
      · have hlt : i < un u := nnle c9 (by omega) (by omega)
        refine V.iload_n (q := 13) dX3_sumWaits_12 rfl rfl ?_
        refine V.aload_n (q := 14) dX3_sumWaits_13 rfl rfl ?_
        refine V.iload_n (q := 15) dX3_sumWaits_14 rfl rfl ?_
        refine V.cVS (q := 18) dX3_sumWaits_15 (As := [_]) rfl (cS_findWait hp hR (by omega)) MX3_findWait bw_452 hp rfl rfl rfl (by decide) rfl ?_
        refine V.iconst (q := 19) dX3_sumWaits_18 (v := 0) rfl rfl ?_
        refine V.mmax (q := 22) dX3_sumWaits_19 bw_453 bw_454 bw_10 bw_455 rfl (by decide) (by decide) (by decide) rfl ?_
        refine V.iadd (q := 23) dX3_sumWaits_22 rfl ?_
        refine V.istore_n (q := 24) dX3_sumWaits_23 rfl rfl rfl rfl ?_
        refine V.iinc (q := 27) dX3_sumWaits_24 rfl (by first | exact nI_inc _ | rfl) rfl rfl rfl ?_
        refine V.goto (tgt := 4) dX3_sumWaits_27 (by decide) ?_
        refine V.to (L2 := [some (.ref (gB G + p)), some (.int (sumI (fun j => nz (wtI u j)) (i + 1))), some (.int (nI (i + 1)))]) ?_ rfl rfl rfl (ih _ (by omega) (i + 1) rfl (by omega))
        rw [hw i hlt]
        rfl
  refine V.iconst (q := 1) dX3_sumWaits_0 (v := 0) rfl rfl ?_
  refine V.istore_n (q := 2) dX3_sumWaits_1 rfl rfl rfl rfl ?_
  refine V.iconst (q := 3) dX3_sumWaits_2 (v := 0) rfl rfl ?_
  refine V.istore_n (q := 4) dX3_sumWaits_3 rfl rfl rfl rfl ?_
  exact loop _ 0 rfl (Nat.zero_le _)
set_option maxHeartbeats 1000000 in
theorem cS_isOver {l : Launch} {G : GG} {σ : St} {u : Vw} {qq : Nat → Nat} {p : Nat} (hp : kd p = 1) (hR : RC σ p u qq) : CtS l G TX3_isOver 0 [.ref (gB G + p)] σ (some (.int (if many u 3 = un u then 1 else 0))) σ := by
  have hn : un u ≤ 40 := hR.1
  refine CtS.ofV (by decide +kernel) rfl rfl (Nat.le_of_ble_eq_true rfl) ?_
  refine V.aload_n (q := 1) dX3_isOver_0 rfl rfl ?_
  refine V.gSd (q := 4) dX3_isOver_1 hR hp bw_74 rfl ?_
  refine V.aload_n (q := 5) dX3_isOver_4 rfl rfl ?_
  refine V.gSn (q := 8) dX3_isOver_5 hR hp bw_68 rfl ?_
  refine V.icmp_ne (tgt := 15) (q := 11) dX3_isOver_8 (by decide) rfl (fun c8 => ?_) (fun c8 => ?_)
  · refine V.iconst (q := 16) dX3_isOver_15 (v := 0) rfl rfl ?_
    exact V.zret (ty := .boolean) rfl dX3_isOver_16 rfl ⟨by first | rw [if_pos (neq c8 (by have := cnt_le (fun j => stat u j == 3) (un u); show cnt _ _ < _; omega) (by omega))] | rw [if_neg (fun z => c8 (by rw [z]))], rfl, rfl⟩
  · refine V.iconst (q := 12) dX3_isOver_11 (v := 1) rfl rfl ?_
    refine V.goto (tgt := 16) dX3_isOver_12 (by decide) ?_
    exact V.zret (ty := .boolean) rfl dX3_isOver_16 rfl ⟨by first | rw [if_pos (neq c8 (by have := cnt_le (fun j => stat u j == 3) (un u); show cnt _ _ < _; omega) (by omega))] | rw [if_neg (fun z => c8 (by rw [z]))], rfl, rfl⟩
set_option maxHeartbeats 2000000 in
theorem cS_stopsL1 {l : Launch} {G : GG} {σ : St} {u : Vw} {qq : Nat → Nat} {p : Nat} (hp : kd p = 1) (hR : RC σ p u qq) (hrm : rmB u = true) : V l G TX3_findStops 0 0 0 (RetS G (some (.int (stp u))) σ) 0 0 21 [some (.ref (gB G + p)), some (.int 1), some (.int (spF u (rmB u) 0)), some (.int (nI 0))] [] (hof G σ) NC := by
  have hn : un u ≤ 40 := hR.1
  have loop : ∀ (m : Nat) (i : Nat), m = un u - i → i ≤ un u → V l G TX3_findStops 0 0 0 (RetS G (some (.int (stp u))) σ) 0 0 21 [some (.ref (gB G + p)), some (.int 1), some (.int (spF u (rmB u) i)), some (.int (nI i))] [] (hof G σ) NC := by
    intro m
    induction m using Nat.strongRecOn with
    | _ m ih =>
      intro i hm hile
      refine V.iload_n (q := 22) dX3_findStops_21 rfl rfl ?_
      refine V.aload_n (q := 23) dX3_findStops_22 rfl rfl ?_
      refine V.gSn (q := 26) dX3_findStops_23 hR hp bw_68 rfl ?_
      refine V.icmp_ge (tgt := 100) (q := 29) dX3_findStops_26 (by decide) rfl (fun c26 => ?_) (fun c26 => ?_)
      · have hie : i = un u := Nat.le_antisymm hile (nle c26 (by omega) (by omega))
        refine V.iload_n (q := 101) dX3_findStops_100 rfl rfl ?_
        exact V.iret dX3_findStops_101 rfl ⟨by rw [hie]; rfl, rfl, rfl⟩
      · have hlt : i < un u := nnle c26 (by omega) (by omega)
        refine V.aload_n (q := 30) dX3_findStops_29 rfl rfl ?_
        refine V.gS (q := 33) dX3_findStops_30 (j := 17) hp bw_84 rfl rfl rfl rfl ?_
        refine V.iload_n (q := 34) dX3_findStops_33 rfl rfl ?_
        refine V.ldSu (q := 35) 4 dX3_findStops_34 hR hp rfl rfl (by omega) rfl ?_
        refine V.iconst (q := 36) dX3_findStops_35 (v := -1) rfl rfl ?_
        refine V.icmp_eq (tgt := 42) (q := 39) dX3_findStops_36 (by decide) rfl (fun c36 => ?_) (fun c36 => ?_)
        · refine V.aload_n (q := 43) dX3_findStops_42 rfl rfl ?_
          refine V.gS (q := 46) dX3_findStops_43 (j := 16) hp bw_82 rfl rfl rfl rfl ?_
          refine V.iload_n (q := 47) dX3_findStops_46 rfl rfl ?_
          refine V.ldSu (q := 48) 3 dX3_findStops_47 hR hp rfl rfl (by omega) rfl ?_
          refine V.iconst (q := 49) dX3_findStops_48 (v := -1) rfl rfl ?_
          refine V.icmp_eq (tgt := 66) (q := 52) dX3_findStops_49 (by decide) rfl (fun c49 => ?_) (fun c49 => ?_)
          · refine V.iload_n (q := 67) dX3_findStops_66 rfl rfl ?_
            refine V.if_eq (tgt := 94) (q := 70) dX3_findStops_67 (by decide) rfl (fun c67 => ?_) (fun c67 => ?_)
            · exact absurd c67 (by decide)
            · refine V.aload_n (q := 71) dX3_findStops_70 rfl rfl ?_
              refine V.gS (q := 74) dX3_findStops_71 (j := 15) hp bw_80 rfl rfl rfl rfl ?_
              refine V.iload_n (q := 75) dX3_findStops_74 rfl rfl ?_
              refine V.ldSu (q := 76) 2 dX3_findStops_75 hR hp rfl rfl (by omega) rfl ?_
              refine V.aload_n (q := 77) dX3_findStops_76 rfl rfl ?_
              refine V.gSu (q := 80) 3 dX3_findStops_77 hR hp bw_52 rfl rfl ?_
              refine V.icmp_gt (tgt := 94) (q := 83) dX3_findStops_80 (by decide) rfl (fun c80 => ?_) (fun c80 => ?_)
              · refine V.iinc (q := 97) dX3_findStops_94 rfl (by first | exact nI_inc _ | rfl) rfl rfl rfl ?_
                refine V.goto (tgt := 21) dX3_findStops_97 (by decide) ?_
                refine V.to (L2 := [some (.ref (gB G + p)), some (.int 1), some (.int (spF u (rmB u) (i + 1))), some (.int (nI (i + 1)))]) ?_ rfl rfl rfl (ih _ (by omega) (i + 1) rfl (by omega))
                rw [show spF u (rmB u) (i + 1) = spF u (rmB u) i by simp [spF, stat_eq1, stat_eq2, c36, c49, Int32.not_le.mpr c80]]
                rfl
              · refine V.iload_n (q := 84) dX3_findStops_83 rfl rfl ?_
                refine V.iconst (q := 85) dX3_findStops_84 (v := 1) rfl rfl ?_
                refine V.aload_n (q := 86) dX3_findStops_85 rfl rfl ?_
                refine V.gS (q := 89) dX3_findStops_86 (j := 13) hp bw_76 rfl rfl rfl rfl ?_
                refine V.iload_n (q := 90) dX3_findStops_89 rfl rfl ?_
                refine V.ldSu (q := 91) 0 dX3_findStops_90 hR hp rfl rfl (by omega) rfl ?_
                refine V.ishl (q := 92) dX3_findStops_91 rfl ?_
                refine V.ior (q := 93) dX3_findStops_92 rfl ?_
                refine V.istore_n (q := 94) dX3_findStops_93 rfl rfl rfl rfl ?_
                refine V.iinc (q := 97) dX3_findStops_94 rfl (by first | exact nI_inc _ | rfl) rfl rfl rfl ?_
                refine V.goto (tgt := 21) dX3_findStops_97 (by decide) ?_
                refine V.to (L2 := [some (.ref (gB G + p)), some (.int 1), some (.int (spF u (rmB u) (i + 1))), some (.int (nI (i + 1)))]) ?_ rfl rfl rfl (ih _ (by omega) (i + 1) rfl (by omega))
                rw [show spF u (rmB u) (i + 1) = spF u (rmB u) i ||| (1 <<< (ur u 0 i &&& 31)) by simp [spF, stat_eq1, stat_eq2, c36, c49, Int32.not_lt.mp c80, hrm]]
                rfl
          · refine V.iload_n (q := 53) dX3_findStops_52 rfl rfl ?_
            refine V.iconst (q := 54) dX3_findStops_53 (v := 1) rfl rfl ?_
            refine V.aload_n (q := 55) dX3_findStops_54 rfl rfl ?_
            refine V.gS (q := 58) dX3_findStops_55 (j := 14) hp bw_78 rfl rfl rfl rfl ?_
            refine V.iload_n (q := 59) dX3_findStops_58 rfl rfl ?_
            refine V.ldSu (q := 60) 1 dX3_findStops_59 hR hp rfl rfl (by omega) rfl ?_
            refine V.ishl (q := 61) dX3_findStops_60 rfl ?_
            refine V.ior (q := 62) dX3_findStops_61 rfl ?_
            refine V.istore_n (q := 63) dX3_findStops_62 rfl rfl rfl rfl ?_
            refine V.goto (tgt := 94) dX3_findStops_63 (by decide) ?_
            refine V.iinc (q := 97) dX3_findStops_94 rfl (by first | exact nI_inc _ | rfl) rfl rfl rfl ?_
            refine V.goto (tgt := 21) dX3_findStops_97 (by decide) ?_
            refine V.to (L2 := [some (.ref (gB G + p)), some (.int 1), some (.int (spF u (rmB u) (i + 1))), some (.int (nI (i + 1)))]) ?_ rfl rfl rfl (ih _ (by omega) (i + 1) rfl (by omega))
            rw [show spF u (rmB u) (i + 1) = spF u (rmB u) i ||| (1 <<< (ur u 1 i &&& 31)) by simp [spF, stat_eq1, stat_eq2, c36, c49]]
            rfl
        · refine V.goto (tgt := 94) dX3_findStops_39 (by decide) ?_
          refine V.iinc (q := 97) dX3_findStops_94 rfl (by first | exact nI_inc _ | rfl) rfl rfl rfl ?_
          refine V.goto (tgt := 21) dX3_findStops_97 (by decide) ?_
          refine V.to (L2 := [some (.ref (gB G + p)), some (.int 1), some (.int (spF u (rmB u) (i + 1))), some (.int (nI (i + 1)))]) ?_ rfl rfl rfl (ih _ (by omega) (i + 1) rfl (by omega))
          rw [show spF u (rmB u) (i + 1) = spF u (rmB u) i by simp [spF, stat_eq1, stat_eq2, c36]]
          rfl
  exact loop _ 0 rfl (Nat.zero_le _)
set_option maxHeartbeats 2000000 in
theorem cS_stopsL0 {l : Launch} {G : GG} {σ : St} {u : Vw} {qq : Nat → Nat} {p : Nat} (hp : kd p = 1) (hR : RC σ p u qq) (hrm : rmB u = false) : V l G TX3_findStops 0 0 0 (RetS G (some (.int (stp u))) σ) 0 0 21 [some (.ref (gB G + p)), some (.int 0), some (.int (spF u (rmB u) 0)), some (.int (nI 0))] [] (hof G σ) NC := by
  have hn : un u ≤ 40 := hR.1
  have loop : ∀ (m : Nat) (i : Nat), m = un u - i → i ≤ un u → V l G TX3_findStops 0 0 0 (RetS G (some (.int (stp u))) σ) 0 0 21 [some (.ref (gB G + p)), some (.int 0), some (.int (spF u (rmB u) i)), some (.int (nI i))] [] (hof G σ) NC := by
    intro m
    induction m using Nat.strongRecOn with
    | _ m ih =>
      intro i hm hile
      refine V.iload_n (q := 22) dX3_findStops_21 rfl rfl ?_
      refine V.aload_n (q := 23) dX3_findStops_22 rfl rfl ?_
      refine V.gSn (q := 26) dX3_findStops_23 hR hp bw_68 rfl ?_
      refine V.icmp_ge (tgt := 100) (q := 29) dX3_findStops_26 (by decide) rfl (fun c26 => ?_) (fun c26 => ?_)
      · have hie : i = un u := Nat.le_antisymm hile (nle c26 (by omega) (by omega))
        refine V.iload_n (q := 101) dX3_findStops_100 rfl rfl ?_
        exact V.iret dX3_findStops_101 rfl ⟨by rw [hie]; rfl, rfl, rfl⟩
      · have hlt : i < un u := nnle c26 (by omega) (by omega)
        refine V.aload_n (q := 30) dX3_findStops_29 rfl rfl ?_
        refine V.gS (q := 33) dX3_findStops_30 (j := 17) hp bw_84 rfl rfl rfl rfl ?_
        refine V.iload_n (q := 34) dX3_findStops_33 rfl rfl ?_
        refine V.ldSu (q := 35) 4 dX3_findStops_34 hR hp rfl rfl (by omega) rfl ?_
        refine V.iconst (q := 36) dX3_findStops_35 (v := -1) rfl rfl ?_
        refine V.icmp_eq (tgt := 42) (q := 39) dX3_findStops_36 (by decide) rfl (fun c36 => ?_) (fun c36 => ?_)
        · refine V.aload_n (q := 43) dX3_findStops_42 rfl rfl ?_
          refine V.gS (q := 46) dX3_findStops_43 (j := 16) hp bw_82 rfl rfl rfl rfl ?_
          refine V.iload_n (q := 47) dX3_findStops_46 rfl rfl ?_
          refine V.ldSu (q := 48) 3 dX3_findStops_47 hR hp rfl rfl (by omega) rfl ?_
          refine V.iconst (q := 49) dX3_findStops_48 (v := -1) rfl rfl ?_
          refine V.icmp_eq (tgt := 66) (q := 52) dX3_findStops_49 (by decide) rfl (fun c49 => ?_) (fun c49 => ?_)
          · refine V.iload_n (q := 67) dX3_findStops_66 rfl rfl ?_
            refine V.if_eq (tgt := 94) (q := 70) dX3_findStops_67 (by decide) rfl (fun c67 => ?_) (fun c67 => ?_)
            · refine V.iinc (q := 97) dX3_findStops_94 rfl (by first | exact nI_inc _ | rfl) rfl rfl rfl ?_
              refine V.goto (tgt := 21) dX3_findStops_97 (by decide) ?_
              refine V.to (L2 := [some (.ref (gB G + p)), some (.int 0), some (.int (spF u (rmB u) (i + 1))), some (.int (nI (i + 1)))]) ?_ rfl rfl rfl (ih _ (by omega) (i + 1) rfl (by omega))
              rw [show spF u (rmB u) (i + 1) = spF u (rmB u) i by simp [spF, stat_eq1, stat_eq2, c36, c49, hrm]]
              rfl
            · exact absurd rfl c67
          · refine V.iload_n (q := 53) dX3_findStops_52 rfl rfl ?_
            refine V.iconst (q := 54) dX3_findStops_53 (v := 1) rfl rfl ?_
            refine V.aload_n (q := 55) dX3_findStops_54 rfl rfl ?_
            refine V.gS (q := 58) dX3_findStops_55 (j := 14) hp bw_78 rfl rfl rfl rfl ?_
            refine V.iload_n (q := 59) dX3_findStops_58 rfl rfl ?_
            refine V.ldSu (q := 60) 1 dX3_findStops_59 hR hp rfl rfl (by omega) rfl ?_
            refine V.ishl (q := 61) dX3_findStops_60 rfl ?_
            refine V.ior (q := 62) dX3_findStops_61 rfl ?_
            refine V.istore_n (q := 63) dX3_findStops_62 rfl rfl rfl rfl ?_
            refine V.goto (tgt := 94) dX3_findStops_63 (by decide) ?_
            refine V.iinc (q := 97) dX3_findStops_94 rfl (by first | exact nI_inc _ | rfl) rfl rfl rfl ?_
            refine V.goto (tgt := 21) dX3_findStops_97 (by decide) ?_
            refine V.to (L2 := [some (.ref (gB G + p)), some (.int 0), some (.int (spF u (rmB u) (i + 1))), some (.int (nI (i + 1)))]) ?_ rfl rfl rfl (ih _ (by omega) (i + 1) rfl (by omega))
            rw [show spF u (rmB u) (i + 1) = spF u (rmB u) i ||| (1 <<< (ur u 1 i &&& 31)) by simp [spF, stat_eq1, stat_eq2, c36, c49]]
            rfl
        · refine V.goto (tgt := 94) dX3_findStops_39 (by decide) ?_
          refine V.iinc (q := 97) dX3_findStops_94 rfl (by first | exact nI_inc _ | rfl) rfl rfl rfl ?_
          refine V.goto (tgt := 21) dX3_findStops_97 (by decide) ?_
          refine V.to (L2 := [some (.ref (gB G + p)), some (.int 0), some (.int (spF u (rmB u) (i + 1))), some (.int (nI (i + 1)))]) ?_ rfl rfl rfl (ih _ (by omega) (i + 1) rfl (by omega))
          rw [show spF u (rmB u) (i + 1) = spF u (rmB u) i by simp [spF, stat_eq1, stat_eq2, c36]]
          rfl
  exact loop _ 0 rfl (Nat.zero_le _)
set_option maxHeartbeats 1000000 in
theorem cS_findStops {l : Launch} {G : GG} {σ : St} {u : Vw} {qq : Nat → Nat} {p : Nat} (hp : kd p = 1) (hR : RC σ p u qq) : CtS l G TX3_findStops 0 [.ref (gB G + p)] σ (some (.int (stp u))) σ := by
  have hn : un u ≤ 40 := hR.1
  refine CtS.ofV (by decide +kernel) rfl rfl (Nat.le_of_ble_eq_true rfl) ?_
  refine V.aload_n (q := 1) dX3_findStops_0 rfl rfl ?_
  refine V.gSr (q := 4) dX3_findStops_1 hR hp bw_71 rfl ?_
  refine V.aload_n (q := 5) dX3_findStops_4 rfl rfl ?_
  refine V.gSu (q := 8) 1 dX3_findStops_5 hR hp bw_46 rfl rfl ?_
  refine V.icmp_ge (tgt := 15) (q := 11) dX3_findStops_8 (by decide) rfl (fun c8 => ?_) (fun c8 => ?_)
  · refine V.iconst (q := 16) dX3_findStops_15 (v := 0) rfl rfl ?_
    refine V.istore_n (q := 17) dX3_findStops_16 rfl rfl rfl rfl ?_
    refine V.iconst (q := 18) dX3_findStops_17 (v := 0) rfl rfl ?_
    refine V.istore_n (q := 19) dX3_findStops_18 rfl rfl rfl rfl ?_
    refine V.iconst (q := 20) dX3_findStops_19 (v := 0) rfl rfl ?_
    refine V.istore_n (q := 21) dX3_findStops_20 rfl rfl rfl rfl ?_
    first | exact cS_stopsL1 hp hR (decide_eq_true (Int32.not_le.mp c8)) | exact cS_stopsL0 hp hR (decide_eq_false (Int32.not_lt.mpr c8))
  · refine V.iconst (q := 12) dX3_findStops_11 (v := 1) rfl rfl ?_
    refine V.goto (tgt := 16) dX3_findStops_12 (by decide) ?_
    refine V.istore_n (q := 17) dX3_findStops_16 rfl rfl rfl rfl ?_
    refine V.iconst (q := 18) dX3_findStops_17 (v := 0) rfl rfl ?_
    refine V.istore_n (q := 19) dX3_findStops_18 rfl rfl rfl rfl ?_
    refine V.iconst (q := 20) dX3_findStops_19 (v := 0) rfl rfl ?_
    refine V.istore_n (q := 21) dX3_findStops_20 rfl rfl rfl rfl ?_
    first | exact cS_stopsL1 hp hR (decide_eq_true (Int32.not_le.mp c8)) | exact cS_stopsL0 hp hR (decide_eq_false (Int32.not_lt.mpr c8))
set_option maxHeartbeats 1000000 in
theorem cS_findFirstRiding {l : Launch} {G : GG} {σ : St} {u : Vw} {qq : Nat → Nat} {p : Nat} (hp : kd p = 1) (hR : RC σ p u qq) : CtS l G TX3_findFirstRiding 0 [.ref (gB G + p)] σ (some (.int (oI (fst (isR u) 0 (un u))))) σ := by
  have hn : un u ≤ 40 := hR.1
  refine CtS.ofV (by decide +kernel) rfl rfl (Nat.le_of_ble_eq_true rfl) ?_
  have loop : ∀ (m : Nat) (i : Nat), m = un u - i → i ≤ un u → fst (isR u) 0 (un u) = fst (isR u) i (un u - i) → V l G TX3_findFirstRiding 0 0 0 (RetS G (some (.int (oI (fst (isR u) 0 (un u))))) σ) 0 0 2 [some (.ref (gB G + p)), some (.int (nI i))] [] (hof G σ) NC := by
    intro m
    induction m using Nat.strongRecOn with
    | _ m ih =>
      intro i hm hile hf
      refine V.iload_n (q := 3) dX3_findFirstRiding_2 rfl rfl ?_
      refine V.aload_n (q := 4) dX3_findFirstRiding_3 rfl rfl ?_
      refine V.gSn (q := 7) dX3_findFirstRiding_4 hR hp bw_68 rfl ?_
      refine V.icmp_ge (tgt := 38) (q := 10) dX3_findFirstRiding_7 (by decide) rfl (fun c7 => ?_) (fun c7 => ?_)
      · have hie : i = un u := Nat.le_antisymm hile (nle c7 (by omega) (by omega))
        refine V.iconst (q := 39) dX3_findFirstRiding_38 (v := -1) rfl rfl ?_
        exact V.iret dX3_findFirstRiding_39 rfl ⟨by rw [hf, show un u - i = 0 by omega]; rfl, rfl, rfl⟩
      · have hlt : i < un u := nnle c7 (by omega) (by omega)
        refine V.aload_n (q := 11) dX3_findFirstRiding_10 rfl rfl ?_
        refine V.gS (q := 14) dX3_findFirstRiding_11 (j := 16) hp bw_82 rfl rfl rfl rfl ?_
        refine V.iload_n (q := 15) dX3_findFirstRiding_14 rfl rfl ?_
        refine V.ldSu (q := 16) 3 dX3_findFirstRiding_15 hR hp rfl rfl (by omega) rfl ?_
        refine V.iconst (q := 17) dX3_findFirstRiding_16 (v := -1) rfl rfl ?_
        refine V.icmp_eq (tgt := 32) (q := 20) dX3_findFirstRiding_17 (by decide) rfl (fun c17 => ?_) (fun c17 => ?_)
        · refine V.iinc (q := 35) dX3_findFirstRiding_32 rfl (by first | exact nI_inc _ | rfl) rfl rfl rfl ?_
          refine V.goto (tgt := 2) dX3_findFirstRiding_35 (by decide) ?_
          refine ih _ (by omega) (i + 1) rfl (by omega) ?_
          rw [hf, show un u - i = (un u - (i + 1)) + 1 by omega]
          simp [fst, isR, stat_eq2, c17]
        · refine V.aload_n (q := 21) dX3_findFirstRiding_20 rfl rfl ?_
          refine V.gS (q := 24) dX3_findFirstRiding_21 (j := 17) hp bw_84 rfl rfl rfl rfl ?_
          refine V.iload_n (q := 25) dX3_findFirstRiding_24 rfl rfl ?_
          refine V.ldSu (q := 26) 4 dX3_findFirstRiding_25 hR hp rfl rfl (by omega) rfl ?_
          refine V.iconst (q := 27) dX3_findFirstRiding_26 (v := -1) rfl rfl ?_
          refine V.icmp_ne (tgt := 32) (q := 30) dX3_findFirstRiding_27 (by decide) rfl (fun c27 => ?_) (fun c27 => ?_)
          · refine V.iinc (q := 35) dX3_findFirstRiding_32 rfl (by first | exact nI_inc _ | rfl) rfl rfl rfl ?_
            refine V.goto (tgt := 2) dX3_findFirstRiding_35 (by decide) ?_
            refine ih _ (by omega) (i + 1) rfl (by omega) ?_
            rw [hf, show un u - i = (un u - (i + 1)) + 1 by omega]
            simp [fst, isR, stat_eq2, c17, c27]
          · refine V.iload_n (q := 31) dX3_findFirstRiding_30 rfl rfl ?_
            exact V.iret dX3_findFirstRiding_31 rfl ⟨by rw [hf, show un u - i = (un u - (i + 1)) + 1 by omega]; simp [fst, isR, stat_eq2, c17, c27, oI], rfl, rfl⟩
  refine V.iconst (q := 1) dX3_findFirstRiding_0 (v := 0) rfl rfl ?_
  refine V.istore_n (q := 2) dX3_findFirstRiding_1 rfl rfl rfl rfl ?_
  exact loop _ 0 rfl (Nat.zero_le _) rfl
