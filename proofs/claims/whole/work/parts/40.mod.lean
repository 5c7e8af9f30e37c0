/-! the model: the building, reads -/
theorem cM_at {l : Launch} {G : GG} {σ : St} {i : Nat} : CtS l G TX5_at 0 [.int (nI i)] σ (some (.int (nI (11 + 5 * i)))) σ := by
  refine CtS.ofV (by decide +kernel) rfl rfl (Nat.le_of_ble_eq_true rfl) ?_
  refine V.bipush (q := 2) dX5_at_0 (v := 11) rfl rfl ?_
  refine V.iconst (q := 3) dX5_at_2 (v := 5) rfl rfl ?_
  refine V.iload_n (q := 4) dX5_at_3 rfl rfl ?_
  refine V.imul (q := 5) dX5_at_4 rfl ?_
  refine V.iadd (q := 6) dX5_at_5 rfl ?_
  exact V.iret dX5_at_6 rfl ⟨by rw [show (5 : Int32) = nI 5 from rfl, show (11 : Int32) = nI 11 from rfl, pk_mul, nI_add], rfl, rfl⟩
theorem cM_inRange {l : Launch} {G : GG} {σ : St} {x lo hi : Int32} : CtS l G TX5_inRange 0 [.int x, .int lo, .int hi] σ (some (.int (bI (decide (lo ≤ x) && decide (x ≤ hi))))) σ := by
  refine CtS.ofV (by decide +kernel) rfl rfl (Nat.le_of_ble_eq_true rfl) ?_
  refine V.iload_n (q := 1) dX5_inRange_0 rfl rfl ?_
  refine V.iload_n (q := 2) dX5_inRange_1 rfl rfl ?_
  refine V.icmp_lt (tgt := 14) (q := 5) dX5_inRange_2 (by decide) rfl (fun c2 => ?_) (fun c2 => ?_)
  · refine V.iconst (q := 15) dX5_inRange_14 (v := 0) rfl rfl ?_
    exact V.zret (ty := .boolean) rfl dX5_inRange_15 rfl ⟨by simp [bI, Int32.not_le.mpr c2], rfl, rfl⟩
  · refine V.iload_n (q := 6) dX5_inRange_5 rfl rfl ?_
    refine V.iload_n (q := 7) dX5_inRange_6 rfl rfl ?_
    refine V.icmp_gt (tgt := 14) (q := 10) dX5_inRange_7 (by decide) rfl (fun c7 => ?_) (fun c7 => ?_)
    · refine V.iconst (q := 15) dX5_inRange_14 (v := 0) rfl rfl ?_
      exact V.zret (ty := .boolean) rfl dX5_inRange_15 rfl ⟨by simp [bI, Int32.not_lt.mp c2, Int32.not_le.mpr c7], rfl, rfl⟩
    · refine V.iconst (q := 11) dX5_inRange_10 (v := 1) rfl rfl ?_
      refine V.goto (tgt := 15) dX5_inRange_11 (by decide) ?_
      exact V.zret (ty := .boolean) rfl dX5_inRange_15 rfl ⟨by simp [bI, Int32.not_lt.mp c2, Int32.not_lt.mp c7], rfl, rfl⟩
theorem cM_has {l : Launch} {G : GG} {σ : St} {m g : Int32} : CtS l G TX5_has 0 [.int m, .int g] σ (some (.int (bI (hasB m g)))) σ := by
  refine CtS.ofV (by decide +kernel) rfl rfl (Nat.le_of_ble_eq_true rfl) ?_
  refine V.iload_n (q := 1) dX5_has_0 rfl rfl ?_
  refine V.iload_n (q := 2) dX5_has_1 rfl rfl ?_
  refine V.ishr (q := 3) dX5_has_2 rfl ?_
  refine V.iconst (q := 4) dX5_has_3 (v := 1) rfl rfl ?_
  refine V.iand (q := 5) dX5_has_4 rfl ?_
  refine V.iconst (q := 6) dX5_has_5 (v := 1) rfl rfl ?_
  refine V.icmp_ne (tgt := 13) (q := 9) dX5_has_6 (by decide) rfl (fun c6 => ?_) (fun c6 => ?_)
  · refine V.iconst (q := 14) dX5_has_13 (v := 0) rfl rfl ?_
    exact V.zret (ty := .boolean) rfl dX5_has_14 rfl ⟨by rw [hasB_f c6]; rfl, rfl, rfl⟩
  · refine V.iconst (q := 10) dX5_has_9 (v := 1) rfl rfl ?_
    refine V.goto (tgt := 14) dX5_has_10 (by decide) ?_
    exact V.zret (ty := .boolean) rfl dX5_has_14 rfl ⟨by rw [hasB_t c6]; rfl, rfl, rfl⟩
set_option maxHeartbeats 1000000 in
theorem cM_arrival {l : Launch} {G : GG} {σ : St} {u : Vw} (hM : RM σ u) {i : Nat} (hi : i < un u) : CtS l G TX5_arrival 1 [.ref (gB G + 94), .int (nI i)] σ (some (.int (ur u 2 i))) σ := by
  have hn : un u ≤ 40 := hM.1
  refine CtS.ofV (by decide +kernel) rfl rfl (Nat.le_of_ble_eq_true rfl) ?_
  refine V.aload_n (q := 1) dX5_arrival_0 rfl rfl ?_
  refine V.gM (q := 4) dX5_arrival_1 (j := 1) rfl bw_1012 rfl rfl rfl rfl ?_
  refine V.iload_n (q := 5) dX5_arrival_4 rfl rfl ?_
  refine V.cSt (q := 8) dX5_arrival_5 (As := [_]) rfl cM_at MX5_at bw_1160 rfl rfl (by decide) rfl ?_
  refine V.ld12 (q := 9) dX5_arrival_8 (i := 11 + 5 * i) rfl rfl (by omega) rfl ?_
  exact V.iret dX5_arrival_9 rfl ⟨by rw [(hM.2.2.2 i hi).1], rfl, rfl⟩
set_option maxHeartbeats 1000000 in
theorem cM_origin {l : Launch} {G : GG} {σ : St} {u : Vw} (hM : RM σ u) {i : Nat} (hi : i < un u) : CtS l G TX5_origin 1 [.ref (gB G + 94), .int (nI i)] σ (some (.int (ur u 0 i))) σ := by
  have hn : un u ≤ 40 := hM.1
  refine CtS.ofV (by decide +kernel) rfl rfl (Nat.le_of_ble_eq_true rfl) ?_
  refine V.aload_n (q := 1) dX5_origin_0 rfl rfl ?_
  refine V.gM (q := 4) dX5_origin_1 (j := 1) rfl bw_1012 rfl rfl rfl rfl ?_
  refine V.iload_n (q := 5) dX5_origin_4 rfl rfl ?_
  refine V.cSt (q := 8) dX5_origin_5 (As := [_]) rfl cM_at MX5_at bw_1160 rfl rfl (by decide) rfl ?_
  refine V.iconst (q := 9) dX5_origin_8 (v := 1) rfl rfl ?_
  refine V.iadd (q := 10) dX5_origin_9 rfl ?_
  refine V.ld12 (q := 11) dX5_origin_10 (i := 11 + 5 * i + 1) rfl (nI_add _ 1) (by omega) rfl ?_
  exact V.iret dX5_origin_11 rfl ⟨by rw [(hM.2.2.2 i hi).2.1], rfl, rfl⟩
set_option maxHeartbeats 1000000 in
theorem cM_destination {l : Launch} {G : GG} {σ : St} {u : Vw} (hM : RM σ u) {i : Nat} (hi : i < un u) : CtS l G TX5_destination 1 [.ref (gB G + 94), .int (nI i)] σ (some (.int (ur u 1 i))) σ := by
  have hn : un u ≤ 40 := hM.1
  refine CtS.ofV (by decide +kernel) rfl rfl (Nat.le_of_ble_eq_true rfl) ?_
  refine V.aload_n (q := 1) dX5_destination_0 rfl rfl ?_
  refine V.gM (q := 4) dX5_destination_1 (j := 1) rfl bw_1012 rfl rfl rfl rfl ?_
  refine V.iload_n (q := 5) dX5_destination_4 rfl rfl ?_
  refine V.cSt (q := 8) dX5_destination_5 (As := [_]) rfl cM_at MX5_at bw_1160 rfl rfl (by decide) rfl ?_
  refine V.iconst (q := 9) dX5_destination_8 (v := 2) rfl rfl ?_
  refine V.iadd (q := 10) dX5_destination_9 rfl ?_
  refine V.ld12 (q := 11) dX5_destination_10 (i := 11 + 5 * i + 2) rfl (nI_add _ 2) (by omega) rfl ?_
  exact V.iret dX5_destination_11 rfl ⟨by rw [(hM.2.2.2 i hi).2.2.1], rfl, rfl⟩
set_option maxHeartbeats 1000000 in
theorem cM_boarded {l : Launch} {G : GG} {σ : St} {u : Vw} (hM : RM σ u) {i : Nat} (hi : i < un u) : CtS l G TX5_boarded 1 [.ref (gB G + 94), .int (nI i)] σ (some (.int (ur u 3 i))) σ := by
  have hn : un u ≤ 40 := hM.1
  refine CtS.ofV (by decide +kernel) rfl rfl (Nat.le_of_ble_eq_true rfl) ?_
  refine V.aload_n (q := 1) dX5_boarded_0 rfl rfl ?_
  refine V.gM (q := 4) dX5_boarded_1 (j := 1) rfl bw_1012 rfl rfl rfl rfl ?_
  refine V.iload_n (q := 5) dX5_boarded_4 rfl rfl ?_
  refine V.cSt (q := 8) dX5_boarded_5 (As := [_]) rfl cM_at MX5_at bw_1160 rfl rfl (by decide) rfl ?_
  refine V.iconst (q := 9) dX5_boarded_8 (v := 3) rfl rfl ?_
  refine V.iadd (q := 10) dX5_boarded_9 rfl ?_
  refine V.ld12 (q := 11) dX5_boarded_10 (i := 11 + 5 * i + 3) rfl (nI_add _ 3) (by omega) rfl ?_
  exact V.iret dX5_boarded_11 rfl ⟨by rw [(hM.2.2.2 i hi).2.2.2.1], rfl, rfl⟩
set_option maxHeartbeats 1000000 in
theorem cM_left {l : Launch} {G : GG} {σ : St} {u : Vw} (hM : RM σ u) {i : Nat} (hi : i < un u) : CtS l G TX5_left 1 [.ref (gB G + 94), .int (nI i)] σ (some (.int (ur u 4 i))) σ := by
  have hn : un u ≤ 40 := hM.1
  refine CtS.ofV (by decide +kernel) rfl rfl (Nat.le_of_ble_eq_true rfl) ?_
  refine V.aload_n (q := 1) dX5_left_0 rfl rfl ?_
  refine V.gM (q := 4) dX5_left_1 (j := 1) rfl bw_1012 rfl rfl rfl rfl ?_
  refine V.iload_n (q := 5) dX5_left_4 rfl rfl ?_
  refine V.cSt (q := 8) dX5_left_5 (As := [_]) rfl cM_at MX5_at bw_1160 rfl rfl (by decide) rfl ?_
  refine V.iconst (q := 9) dX5_left_8 (v := 4) rfl rfl ?_
  refine V.iadd (q := 10) dX5_left_9 rfl ?_
  refine V.ld12 (q := 11) dX5_left_10 (i := 11 + 5 * i + 4) rfl (nI_add _ 4) (by omega) rfl ?_
  exact V.iret dX5_left_11 rfl ⟨by rw [(hM.2.2.2 i hi).2.2.2.2], rfl, rfl⟩
set_option maxHeartbeats 1000000 in
theorem cM_status {l : Launch} {G : GG} {σ : St} {u : Vw} (hM : RM σ u) {i : Nat} (hi : i < un u) : CtS l G TX5_status 2 [.ref (gB G + 94), .int (nI i)] σ (some (.int (stat u i))) σ := by
  have hn : un u ≤ 40 := hM.1
  refine CtS.ofV (by decide +kernel) rfl rfl (Nat.le_of_ble_eq_true rfl) ?_
  refine V.aload_n (q := 1) dX5_status_0 rfl rfl ?_
  refine V.iload_n (q := 2) dX5_status_1 rfl rfl ?_
  refine V.cVM (q := 5) dX5_status_2 (As := [_]) rfl (cM_left hM (by omega)) MX5_left bw_1188 rfl rfl rfl rfl (by decide) rfl ?_
  refine V.iconst (q := 6) dX5_status_5 (v := -1) rfl rfl ?_
  refine V.icmp_eq (tgt := 11) (q := 9) dX5_status_6 (by decide) rfl (fun c6 => ?_) (fun c6 => ?_)
  · refine V.aload_n (q := 12) dX5_status_11 rfl rfl ?_
    refine V.iload_n (q := 13) dX5_status_12 rfl rfl ?_
    refine V.cVM (q := 16) dX5_status_13 (As := [_]) rfl (cM_boarded hM (by omega)) MX5_boarded bw_1192 rfl rfl rfl rfl (by decide) rfl ?_
    refine V.iconst (q := 17) dX5_status_16 (v := -1) rfl rfl ?_
    refine V.icmp_eq (tgt := 24) (q := 20) dX5_status_17 (by decide) rfl (fun c17 => ?_) (fun c17 => ?_)
    · refine V.aload_n (q := 25) dX5_status_24 rfl rfl ?_
      refine V.gM (q := 28) dX5_status_25 (j := 1) rfl bw_1012 rfl rfl rfl rfl ?_
      refine V.iconst (q := 29) dX5_status_28 (v := 3) rfl rfl ?_
      refine V.ldMu (q := 30) 3 dX5_status_29 hM rfl rfl rfl ?_
      refine V.aload_n (q := 31) dX5_status_30 rfl rfl ?_
      refine V.iload_n (q := 32) dX5_status_31 rfl rfl ?_
      refine V.cVM (q := 35) dX5_status_32 (As := [_]) rfl (cM_arrival hM (by omega)) MX5_arrival bw_1196 rfl rfl rfl rfl (by decide) rfl ?_
      refine V.icmp_ge (tgt := 42) (q := 38) dX5_status_35 (by decide) rfl (fun c35 => ?_) (fun c35 => ?_)
      · refine V.iconst (q := 43) dX5_status_42 (v := 1) rfl rfl ?_
        exact V.iret dX5_status_43 rfl ⟨by rw [stat_eq1.mpr ⟨c6, c17, c35⟩], rfl, rfl⟩
      · refine V.iconst (q := 39) dX5_status_38 (v := 0) rfl rfl ?_
        refine V.goto (tgt := 43) dX5_status_39 (by decide) ?_
        exact V.iret dX5_status_43 rfl ⟨by rw [stat_eq0.mpr ⟨c6, c17, Int32.not_le.mpr (Int32.not_le.mp c35)⟩], rfl, rfl⟩
    · refine V.iconst (q := 21) dX5_status_20 (v := 2) rfl rfl ?_
      refine V.goto (tgt := 43) dX5_status_21 (by decide) ?_
      exact V.iret dX5_status_43 rfl ⟨by rw [stat_eq2.mpr ⟨c6, c17⟩], rfl, rfl⟩
  · refine V.iconst (q := 10) dX5_status_9 (v := 3) rfl rfl ?_
    exact V.iret dX5_status_10 rfl ⟨by rw [stat_eq3.mpr c6], rfl, rfl⟩
set_option maxHeartbeats 1000000 in
theorem cM_many {l : Launch} {G : GG} {σ : St} {u : Vw} (hM : RM σ u) {k : Int32} : CtS l G TX5_many 3 [.ref (gB G + 94), .int k] σ (some (.int (nI (many u k)))) σ := by
  have hn : un u ≤ 40 := hM.1
  refine CtS.ofV (by decide +kernel) rfl rfl (Nat.le_of_ble_eq_true rfl) ?_
  have loop : ∀ (m : Nat) (i : Nat), m = un u - i → i ≤ un u → V l G TX5_many 3 0 0 (RetS G (some (.int (nI (many u k)))) σ) 0 0 4 [some (.ref (gB G + 94)), some (.int k), some (.int (nI (cnt (fun j => stat u j == k) i))), some (.int (nI i))] [] (hof G σ) NC := by
    intro m
    induction m using Nat.strongRecOn with
    | _ m ih =>
      intro i hm hile
      refine V.iload_n (q := 5) dX5_many_4 rfl rfl ?_
      refine V.aload_n (q := 6) dX5_many_5 rfl rfl ?_
      refine V.gM (q := 9) dX5_many_6 (j := 1) rfl bw_1012 rfl rfl rfl rfl ?_
      refine V.bipush (q := 11) dX5_many_9 (v := 10) rfl rfl ?_
      refine V.ldMn (q := 12) dX5_many_11 hM rfl rfl ?_
      refine V.icmp_ge (tgt := 38) (q := 15) dX5_many_12 (by decide) rfl (fun c12 => ?_) (fun c12 => ?_)
      · have hie : i = un u := Nat.le_antisymm hile (nle c12 (by omega) (by omega))
        refine V.iload_n (q := 39) dX5_many_38 rfl rfl ?_
        exact V.iret dX5_many_39 rfl ⟨by rw [hie]; rfl, rfl, rfl⟩
      · have hlt : i < un u := nnle c12 (by omega) (by omega)
        refine V.iload_n (q := 16) dX5_many_15 rfl rfl ?_
        refine V.aload_n (q := 17) dX5_many_16 rfl rfl ?_
        refine V.iload_n (q := 18) dX5_many_17 rfl rfl ?_
        refine V.cVM (q := 21) dX5_many_18 (As := [_]) rfl (cM_status hM (by omega)) MX5_status bw_1184 rfl rfl rfl rfl (by decide) rfl ?_
        refine V.iload_n (q := 22) dX5_many_21 rfl rfl ?_
        refine V.icmp_ne (tgt := 29) (q := 25) dX5_many_22 (by decide) rfl (fun c22 => ?_) (fun c22 => ?_)
        · refine V.iconst (q := 30) dX5_many_29 (v := 0) rfl rfl ?_
          refine V.iadd (q := 31) dX5_many_30 rfl ?_
          refine V.istore_n (q := 32) dX5_many_31 rfl rfl rfl rfl ?_
          refine V.iinc (q := 35) dX5_many_32 rfl (by first | exact nI_inc _ | rfl) rfl rfl rfl ?_
          refine V.goto (tgt := 4) dX5_many_35 (by decide) ?_
          refine V.to (L2 := [some (.ref (gB G + 94)), some (.int k), some (.int (nI (cnt (fun j => stat u j == k) (i + 1)))), some (.int (nI (i + 1)))]) ?_ rfl rfl rfl (ih _ (by omega) (i + 1) rfl (by omega))
          rw [show cnt (fun j => stat u j == k) (i + 1) = cnt (fun j => stat u j == k) i by simp [cnt, c22], show (nI (cnt (fun j => stat u j == k) i) : Int32) + 0 = nI (cnt (fun j => stat u j == k) i) from Int32.add_zero _]
          rfl
        · refine V.iconst (q := 26) dX5_many_25 (v := 1) rfl rfl ?_
          refine V.goto (tgt := 30) dX5_many_26 (by decide) ?_
          refine V.iadd (q := 31) dX5_many_30 rfl ?_
          refine V.istore_n (q := 32) dX5_many_31 rfl rfl rfl rfl ?_
          refine V.iinc (q := 35) dX5_many_32 rfl (by first | exact nI_inc _ | rfl) rfl rfl rfl ?_
          refine V.goto (tgt := 4) dX5_many_35 (by decide) ?_
          refine V.to (L2 := [some (.ref (gB G + 94)), some (.int k), some (.int (nI (cnt (fun j => stat u j == k) (i + 1)))), some (.int (nI (i + 1)))]) ?_ rfl rfl rfl (ih _ (by omega) (i + 1) rfl (by omega))
          rw [show cnt (fun j => stat u j == k) (i + 1) = cnt (fun j => stat u j == k) i + 1 by simp [cnt, c22], ← nI_1 (cnt (fun j => stat u j == k) i)]
          rfl
  refine V.iconst (q := 1) dX5_many_0 (v := 0) rfl rfl ?_
  refine V.istore_n (q := 2) dX5_many_1 rfl rfl rfl rfl ?_
  refine V.iconst (q := 3) dX5_many_2 (v := 0) rfl rfl ?_
  refine V.istore_n (q := 4) dX5_many_3 rfl rfl rfl rfl ?_
  exact loop _ 0 rfl (Nat.zero_le _)
theorem full_t {u : Vw} (hmc : (many u 2 : Int) ≤ (us u 1).toInt) (hn : un u ≤ 40) (h : nI (many u 2) = us u 1) : rmB u = false := by
  unfold rmB
  rw [h]
  simp
theorem full_f {u : Vw} (hmc : (many u 2 : Int) ≤ (us u 1).toInt) (hn : un u ≤ 40) (h : ¬ nI (many u 2) = us u 1) : rmB u = true := by
  have h1 := cnt_le (fun i => stat u i == 2) (un u)
  have h2 : (nI (many u 2)).toInt = many u 2 := nI_toInt (by unfold many; omega)
  unfold rmB
  rw [decide_eq_true_iff, Int32.lt_iff_toInt_lt, h2]
  rw [← Int32.toInt_inj, h2] at h
  omega
set_option maxHeartbeats 1000000 in
theorem cM_full {l : Launch} {G : GG} {σ : St} {u : Vw} (hM : RM σ u) (hmc : (many u 2 : Int) ≤ (us u 1).toInt) : CtS l G TX5_full 4 [.ref (gB G + 94)] σ (some (.int (bI (!rmB u)))) σ := by
  have hn : un u ≤ 40 := hM.1
  refine CtS.ofV (by decide +kernel) rfl rfl (Nat.le_of_ble_eq_true rfl) ?_
  refine V.aload_n (q := 1) dX5_full_0 rfl rfl ?_
  refine V.iconst (q := 2) dX5_full_1 (v := 2) rfl rfl ?_
  refine V.cVM (q := 5) dX5_full_2 (As := [_]) rfl (cM_many hM) MX5_many bw_1180 rfl rfl rfl rfl (by decide) rfl ?_
  refine V.aload_n (q := 6) dX5_full_5 rfl rfl ?_
  refine V.gM (q := 9) dX5_full_6 (j := 1) rfl bw_1012 rfl rfl rfl rfl ?_
  refine V.iconst (q := 10) dX5_full_9 (v := 1) rfl rfl ?_
  refine V.ldMu (q := 11) 1 dX5_full_10 hM rfl rfl rfl ?_
  refine V.icmp_ne (tgt := 18) (q := 14) dX5_full_11 (by decide) rfl (fun c11 => ?_) (fun c11 => ?_)
  · refine V.iconst (q := 19) dX5_full_18 (v := 0) rfl rfl ?_
    exact V.zret (ty := .boolean) rfl dX5_full_19 rfl ⟨by rw [full_f hmc hn c11]; rfl, rfl, rfl⟩
  · refine V.iconst (q := 15) dX5_full_14 (v := 1) rfl rfl ?_
    refine V.goto (tgt := 19) dX5_full_15 (by decide) ?_
    exact V.zret (ty := .boolean) rfl dX5_full_19 rfl ⟨by rw [full_t hmc hn c11]; rfl, rfl, rfl⟩
set_option maxHeartbeats 1000000 in
theorem cM_finished {l : Launch} {G : GG} {σ : St} {u : Vw} (hM : RM σ u)  : CtS l G TX5_finished 4 [.ref (gB G + 94)] σ (some (.int (if many u 3 = un u then 1 else 0))) σ := by
  have hn : un u ≤ 40 := hM.1
  have h1 := cnt_le (fun i => stat u i == 3) (un u)
  refine CtS.ofV (by decide +kernel) rfl rfl (Nat.le_of_ble_eq_true rfl) ?_
  refine V.aload_n (q := 1) dX5_finished_0 rfl rfl ?_
  refine V.iconst (q := 2) dX5_finished_1 (v := 3) rfl rfl ?_
  refine V.cVM (q := 5) dX5_finished_2 (As := [_]) rfl (cM_many hM) MX5_many bw_1180 rfl rfl rfl rfl (by decide) rfl ?_
  refine V.aload_n (q := 6) dX5_finished_5 rfl rfl ?_
  refine V.gM (q := 9) dX5_finished_6 (j := 1) rfl bw_1012 rfl rfl rfl rfl ?_
  refine V.bipush (q := 11) dX5_finished_9 (v := 10) rfl rfl ?_
  refine V.ldMn (q := 12) dX5_finished_11 hM rfl rfl ?_
  refine V.icmp_ne (tgt := 19) (q := 15) dX5_finished_12 (by decide) rfl (fun c12 => ?_) (fun c12 => ?_)
  · refine V.iconst (q := 20) dX5_finished_19 (v := 0) rfl rfl ?_
    exact V.zret (ty := .boolean) rfl dX5_finished_20 rfl ⟨by rw [if_neg (fun z => c12 (by rw [z]))], rfl, rfl⟩
  · refine V.iconst (q := 16) dX5_finished_15 (v := 1) rfl rfl ?_
    refine V.goto (tgt := 20) dX5_finished_16 (by decide) ?_
    exact V.zret (ty := .boolean) rfl dX5_finished_20 rfl ⟨by rw [if_pos (neq c12 (by unfold many; omega) (by omega))], rfl, rfl⟩
set_option maxHeartbeats 1000000 in
theorem cM_isAhead {l : Launch} {G : GG} {σ : St} {u : Vw} (hM : RM σ u) {a b : Nat} (ha : a < un u) (hb : b < un u) : CtS l G TX5_isAhead 2 [.ref (gB G + 94), .int (nI a), .int (nI b)] σ (some (.int (bI (ahB u a b)))) σ := by
  have hn : un u ≤ 40 := hM.1
  refine CtS.ofV (by decide +kernel) rfl rfl (Nat.le_of_ble_eq_true rfl) ?_
  refine V.aload_n (q := 1) dX5_isAhead_0 rfl rfl ?_
  refine V.iload_n (q := 2) dX5_isAhead_1 rfl rfl ?_
  refine V.cVM (q := 5) dX5_isAhead_2 (As := [_]) rfl (cM_arrival hM (by assumption)) MX5_arrival bw_1196 rfl rfl rfl rfl (by decide) rfl ?_
  refine V.aload_n (q := 6) dX5_isAhead_5 rfl rfl ?_
  refine V.iload_n (q := 7) dX5_isAhead_6 rfl rfl ?_
  refine V.cVM (q := 10) dX5_isAhead_7 (As := [_]) rfl (cM_arrival hM (by assumption)) MX5_arrival bw_1196 rfl rfl rfl rfl (by decide) rfl ?_
  refine V.icmp_lt (tgt := 31) (q := 13) dX5_isAhead_10 (by decide) rfl (fun c10 => ?_) (fun c10 => ?_)
  · refine V.iconst (q := 32) dX5_isAhead_31 (v := 1) rfl rfl ?_
    refine V.goto (tgt := 36) dX5_isAhead_32 (by decide) ?_
    exact V.zret (ty := .boolean) rfl dX5_isAhead_36 rfl ⟨by simp [bI, ahB, c10], rfl, rfl⟩
  · refine V.aload_n (q := 14) dX5_isAhead_13 rfl rfl ?_
    refine V.iload_n (q := 15) dX5_isAhead_14 rfl rfl ?_
    refine V.cVM (q := 18) dX5_isAhead_15 (As := [_]) rfl (cM_arrival hM (by assumption)) MX5_arrival bw_1196 rfl rfl rfl rfl (by decide) rfl ?_
    refine V.aload_n (q := 19) dX5_isAhead_18 rfl rfl ?_
    refine V.iload_n (q := 20) dX5_isAhead_19 rfl rfl ?_
    refine V.cVM (q := 23) dX5_isAhead_20 (As := [_]) rfl (cM_arrival hM (by assumption)) MX5_arrival bw_1196 rfl rfl rfl rfl (by decide) rfl ?_
    refine V.icmp_ne (tgt := 35) (q := 26) dX5_isAhead_23 (by decide) rfl (fun c23 => ?_) (fun c23 => ?_)
    · refine V.iconst (q := 36) dX5_isAhead_35 (v := 0) rfl rfl ?_
      exact V.zret (ty := .boolean) rfl dX5_isAhead_36 rfl ⟨by simp [bI, ahB, c10, c23], rfl, rfl⟩
    · refine V.iload_n (q := 27) dX5_isAhead_26 rfl rfl ?_
      refine V.iload_n (q := 28) dX5_isAhead_27 rfl rfl ?_
      refine V.icmp_ge (tgt := 35) (q := 31) dX5_isAhead_28 (by decide) rfl (fun c28 => ?_) (fun c28 => ?_)
      · have c28 := nle c28 (by omega) (by omega)
        refine V.iconst (q := 36) dX5_isAhead_35 (v := 0) rfl rfl ?_
        exact V.zret (ty := .boolean) rfl dX5_isAhead_36 rfl ⟨by simp [bI, ahB, c10, c23, Nat.not_lt.mpr c28], rfl, rfl⟩
      · have c28 := nnle c28 (by omega) (by omega)
        refine V.iconst (q := 32) dX5_isAhead_31 (v := 1) rfl rfl ?_
        refine V.goto (tgt := 36) dX5_isAhead_32 (by decide) ?_
        exact V.zret (ty := .boolean) rfl dX5_isAhead_36 rfl ⟨by simp [bI, ahB, c10, c23, c28], rfl, rfl⟩
set_option maxHeartbeats 4000000 in
theorem cM_first {l : Launch} {G : GG} {σ : St} {u : Vw} (hM : RM σ u) {f9 : Int32} : CtS l G TX5_first 3 [.ref (gB G + 94), .int f9] σ (some (.int (oI (fw u (isWf u f9) (un u))))) σ := by
  have hn : un u ≤ 40 := hM.1
  refine CtS.ofV (by decide +kernel) rfl rfl (Nat.le_of_ble_eq_true rfl) ?_
  have loop : ∀ (m : Nat) (i : Nat) (L4 : Option Value), m = un u - i → i ≤ un u → V l G TX5_first 3 0 0 (RetS G (some (.int (oI (fw u (isWf u f9) (un u))))) σ) 0 0 4 [some (.ref (gB G + 94)), some (.int f9), some (.int (oI (fw u (isWf u f9) i))), some (.int (nI i)), L4] [] (hof G σ) NC := by
    intro m
    induction m using Nat.strongRecOn with
    | _ m ih =>
      intro i L4 hm hile
      refine V.iload_n (q := 5) dX5_first_4 rfl rfl ?_
      refine V.aload_n (q := 6) dX5_first_5 rfl rfl ?_
      refine V.gM (q := 9) dX5_first_6 (j := 1) rfl bw_1012 rfl rfl rfl rfl ?_
      refine V.bipush (q := 11) dX5_first_9 (v := 10) rfl rfl ?_
      refine V.ldMn (q := 12) dX5_first_11 hM rfl rfl ?_
      refine V.icmp_ge (tgt := 76) (q := 15) dX5_first_12 (by decide) rfl (fun c12 => ?_) (fun c12 => ?_)
      · have hie : i = un u := Nat.le_antisymm hile (nle c12 (by omega) (by omega))
        refine V.iload_n (q := 77) dX5_first_76 rfl rfl ?_
        exact V.iret dX5_first_77 rfl ⟨by rw [hie], rfl, rfl⟩
      · have hlt : i < un u := nnle c12 (by omega) (by omega)
        cases hfw : fw u (isWf u f9) i with
        | none =>
          have hoi : oI (fw u (isWf u f9) i) = -1 := by rw [hfw]; rfl
          show V _ _ _ _ _ _ _ _ _ _ [_, _, some (.int (-1)), _, _] _ _ _
          refine V.aload_n (q := 16) dX5_first_15 rfl rfl ?_
          refine V.iload_n (q := 17) dX5_first_16 rfl rfl ?_
          refine V.cVM (q := 20) dX5_first_17 (As := [_]) rfl (cM_status hM (by omega)) MX5_status bw_1184 rfl rfl rfl rfl (by decide) rfl ?_
          refine V.iconst (q := 21) dX5_first_20 (v := 1) rfl rfl ?_
          refine V.icmp_ne (tgt := 42) (q := 24) dX5_first_21 (by decide) rfl (fun c21 => ?_) (fun c21 => ?_)
          · refine V.iconst (q := 43) dX5_first_42 (v := 0) rfl rfl ?_
            refine V.istore (q := 45) dX5_first_43 rfl rfl rfl ?_
            refine V.iload (q := 47) dX5_first_45 rfl rfl ?_
            refine V.if_eq (tgt := 68) (q := 50) dX5_first_47 (by decide) rfl (fun c47 => ?_) (fun c47 => ?_)
            · refine V.iload_n (q := 69) dX5_first_68 rfl rfl ?_
              refine V.istore_n (q := 70) dX5_first_69 rfl rfl rfl rfl ?_
              refine V.iinc (q := 73) dX5_first_70 rfl (by first | exact nI_inc _ | rfl) rfl rfl rfl ?_
              refine V.goto (tgt := 4) dX5_first_73 (by decide) ?_
              have hw : isWf u f9 i = false := by simp [isWf, c21]
              have e9 : fw u (isWf u f9) (i + 1) = none := by simp [fw, hfw, hw]
              refine V.to (L2 := [some (.ref (gB G + 94)), some (.int f9), some (.int (oI (fw u (isWf u f9) (i + 1)))), some (.int (nI (i + 1))), some (.int 0)]) ?_ rfl rfl rfl (ih _ (by omega) (i + 1) _ rfl (by omega))
              rw [e9]
              rfl
            · exact absurd rfl c47
          · refine V.iload_n (q := 25) dX5_first_24 rfl rfl ?_
            refine V.iconst (q := 26) dX5_first_25 (v := -1) rfl rfl ?_
            refine V.icmp_eq (tgt := 38) (q := 29) dX5_first_26 (by decide) rfl (fun c26 => ?_) (fun c26 => ?_)
            · refine V.iconst (q := 39) dX5_first_38 (v := 1) rfl rfl ?_
              refine V.goto (tgt := 43) dX5_first_39 (by decide) ?_
              refine V.istore (q := 45) dX5_first_43 rfl rfl rfl ?_
              refine V.iload (q := 47) dX5_first_45 rfl rfl ?_
              refine V.if_eq (tgt := 68) (q := 50) dX5_first_47 (by decide) rfl (fun c47 => ?_) (fun c47 => ?_)
              · exact absurd c47 (by decide)
              · refine V.iload_n (q := 51) dX5_first_50 rfl rfl ?_
                refine V.iconst (q := 52) dX5_first_51 (v := -1) rfl rfl ?_
                refine V.icmp_eq (tgt := 64) (q := 55) dX5_first_52 (by decide) rfl (fun c52 => ?_) (fun c52 => ?_)
                · refine V.iload_n (q := 65) dX5_first_64 rfl rfl ?_
                  refine V.goto (tgt := 69) dX5_first_65 (by decide) ?_
                  refine V.istore_n (q := 70) dX5_first_69 rfl rfl rfl rfl ?_
                  refine V.iinc (q := 73) dX5_first_70 rfl (by first | exact nI_inc _ | rfl) rfl rfl rfl ?_
                  refine V.goto (tgt := 4) dX5_first_73 (by decide) ?_
                  have hw : isWf u f9 i = true := by simp [isWf, c21, c26]
                  have e9 : fw u (isWf u f9) (i + 1) = some i := by simp [fw, hfw, hw]
                  refine V.to (L2 := [some (.ref (gB G + 94)), some (.int f9), some (.int (oI (fw u (isWf u f9) (i + 1)))), some (.int (nI (i + 1))), some (.int 1)]) ?_ rfl rfl rfl (ih _ (by omega) (i + 1) _ rfl (by omega))
                  rw [e9]
                  rfl
                · exact absurd rfl c52
            · refine V.aload_n (q := 30) dX5_first_29 rfl rfl ?_
              refine V.iload_n (q := 31) dX5_first_30 rfl rfl ?_
              refine V.cVM (q := 34) dX5_first_31 (As := [_]) rfl (cM_origin hM (by omega)) MX5_origin bw_1204 rfl rfl rfl rfl (by decide) rfl ?_
              refine V.iload_n (q := 35) dX5_first_34 rfl rfl ?_
              refine V.icmp_ne (tgt := 42) (q := 38) dX5_first_35 (by decide) rfl (fun c35 => ?_) (fun c35 => ?_)
              · refine V.iconst (q := 43) dX5_first_42 (v := 0) rfl rfl ?_
                refine V.istore (q := 45) dX5_first_43 rfl rfl rfl ?_
                refine V.iload (q := 47) dX5_first_45 rfl rfl ?_
                refine V.if_eq (tgt := 68) (q := 50) dX5_first_47 (by decide) rfl (fun c47 => ?_) (fun c47 => ?_)
                · refine V.iload_n (q := 69) dX5_first_68 rfl rfl ?_
                  refine V.istore_n (q := 70) dX5_first_69 rfl rfl rfl rfl ?_
                  refine V.iinc (q := 73) dX5_first_70 rfl (by first | exact nI_inc _ | rfl) rfl rfl rfl ?_
                  refine V.goto (tgt := 4) dX5_first_73 (by decide) ?_
                  have hw : isWf u f9 i = false := by simp [isWf, c21, c26, c35]
                  have e9 : fw u (isWf u f9) (i + 1) = none := by simp [fw, hfw, hw]
                  refine V.to (L2 := [some (.ref (gB G + 94)), some (.int f9), some (.int (oI (fw u (isWf u f9) (i + 1)))), some (.int (nI (i + 1))), some (.int 0)]) ?_ rfl rfl rfl (ih _ (by omega) (i + 1) _ rfl (by omega))
                  rw [e9]
                  rfl
                · exact absurd rfl c47
              · refine V.iconst (q := 39) dX5_first_38 (v := 1) rfl rfl ?_
                refine V.goto (tgt := 43) dX5_first_39 (by decide) ?_
                refine V.istore (q := 45) dX5_first_43 rfl rfl rfl ?_
                refine V.iload (q := 47) dX5_first_45 rfl rfl ?_
                refine V.if_eq (tgt := 68) (q := 50) dX5_first_47 (by decide) rfl (fun c47 => ?_) (fun c47 => ?_)
                · exact absurd c47 (by decide)
                · refine V.iload_n (q := 51) dX5_first_50 rfl rfl ?_
                  refine V.iconst (q := 52) dX5_first_51 (v := -1) rfl rfl ?_
                  refine V.icmp_eq (tgt := 64) (q := 55) dX5_first_52 (by decide) rfl (fun c52 => ?_) (fun c52 => ?_)
                  · refine V.iload_n (q := 65) dX5_first_64 rfl rfl ?_
                    refine V.goto (tgt := 69) dX5_first_65 (by decide) ?_
                    refine V.istore_n (q := 70) dX5_first_69 rfl rfl rfl rfl ?_
                    refine V.iinc (q := 73) dX5_first_70 rfl (by first | exact nI_inc _ | rfl) rfl rfl rfl ?_
                    refine V.goto (tgt := 4) dX5_first_73 (by decide) ?_
                    have hw : isWf u f9 i = true := by simp [isWf, c21, c26, c35]
                    have e9 : fw u (isWf u f9) (i + 1) = some i := by simp [fw, hfw, hw]
                    refine V.to (L2 := [some (.ref (gB G + 94)), some (.int f9), some (.int (oI (fw u (isWf u f9) (i + 1)))), some (.int (nI (i + 1))), some (.int 1)]) ?_ rfl rfl rfl (ih _ (by omega) (i + 1) _ rfl (by omega))
                    rw [e9]
                    rfl
                  · exact absurd rfl c52
        | some g =>
          have hg : g < un u := by have := (fw_some hfw).1; omega
          show V _ _ _ _ _ _ _ _ _ _ [_, _, some (.int (nI g)), _, _] _ _ _
          refine V.aload_n (q := 16) dX5_first_15 rfl rfl ?_
          refine V.iload_n (q := 17) dX5_first_16 rfl rfl ?_
          refine V.cVM (q := 20) dX5_first_17 (As := [_]) rfl (cM_status hM (by omega)) MX5_status bw_1184 rfl rfl rfl rfl (by decide) rfl ?_
          refine V.iconst (q := 21) dX5_first_20 (v := 1) rfl rfl ?_
          refine V.icmp_ne (tgt := 42) (q := 24) dX5_first_21 (by decide) rfl (fun c21 => ?_) (fun c21 => ?_)
          · refine V.iconst (q := 43) dX5_first_42 (v := 0) rfl rfl ?_
            refine V.istore (q := 45) dX5_first_43 rfl rfl rfl ?_
            refine V.iload (q := 47) dX5_first_45 rfl rfl ?_
            refine V.if_eq (tgt := 68) (q := 50) dX5_first_47 (by decide) rfl (fun c47 => ?_) (fun c47 => ?_)
            · refine V.iload_n (q := 69) dX5_first_68 rfl rfl ?_
              refine V.istore_n (q := 70) dX5_first_69 rfl rfl rfl rfl ?_
              refine V.iinc (q := 73) dX5_first_70 rfl (by first | exact nI_inc _ | rfl) rfl rfl rfl ?_
              refine V.goto (tgt := 4) dX5_first_73 (by decide) ?_
              have hw : isWf u f9 i = false := by simp [isWf, c21]
              have e9 : fw u (isWf u f9) (i + 1) = some g := by simp [fw, hfw, hw]
              refine V.to (L2 := [some (.ref (gB G + 94)), some (.int f9), some (.int (oI (fw u (isWf u f9) (i + 1)))), some (.int (nI (i + 1))), some (.int 0)]) ?_ rfl rfl rfl (ih _ (by omega) (i + 1) _ rfl (by omega))
              rw [e9]
              rfl
            · exact absurd rfl c47
          · refine V.iload_n (q := 25) dX5_first_24 rfl rfl ?_
            refine V.iconst (q := 26) dX5_first_25 (v := -1) rfl rfl ?_
            refine V.icmp_eq (tgt := 38) (q := 29) dX5_first_26 (by decide) rfl (fun c26 => ?_) (fun c26 => ?_)
            · refine V.iconst (q := 39) dX5_first_38 (v := 1) rfl rfl ?_
              refine V.goto (tgt := 43) dX5_first_39 (by decide) ?_
              refine V.istore (q := 45) dX5_first_43 rfl rfl rfl ?_
              refine V.iload (q := 47) dX5_first_45 rfl rfl ?_
              refine V.if_eq (tgt := 68) (q := 50) dX5_first_47 (by decide) rfl (fun c47 => ?_) (fun c47 => ?_)
              · exact absurd c47 (by decide)
              · refine V.iload_n (q := 51) dX5_first_50 rfl rfl ?_
                refine V.iconst (q := 52) dX5_first_51 (v := -1) rfl rfl ?_
                refine V.icmp_eq (tgt := 64) (q := 55) dX5_first_52 (by decide) rfl (fun c52 => ?_) (fun c52 => ?_)
                · exact absurd c52 (nne1 (by omega))
                · refine V.aload_n (q := 56) dX5_first_55 rfl rfl ?_
                  refine V.iload_n (q := 57) dX5_first_56 rfl rfl ?_
                  refine V.iload_n (q := 58) dX5_first_57 rfl rfl ?_
                  refine V.cVM (q := 61) dX5_first_58 (As := [_, _]) rfl (cM_isAhead hM (by omega) (by omega)) MX5_isAhead bw_1219 rfl rfl rfl rfl (by decide) rfl ?_
                  refine V.if_eq (tgt := 68) (q := 64) dX5_first_61 (by decide) rfl (fun c61 => ?_) (fun c61 => ?_)
                  · refine V.iload_n (q := 69) dX5_first_68 rfl rfl ?_
                    refine V.istore_n (q := 70) dX5_first_69 rfl rfl rfl rfl ?_
                    refine V.iinc (q := 73) dX5_first_70 rfl (by first | exact nI_inc _ | rfl) rfl rfl rfl ?_
                    refine V.goto (tgt := 4) dX5_first_73 (by decide) ?_
                    have hw : isWf u f9 i = true := by simp [isWf, c21, c26]
                    have e9 : fw u (isWf u f9) (i + 1) = some g := by simp [fw, hfw, hw, bI0.mp c61]
                    refine V.to (L2 := [some (.ref (gB G + 94)), some (.int f9), some (.int (oI (fw u (isWf u f9) (i + 1)))), some (.int (nI (i + 1))), some (.int 1)]) ?_ rfl rfl rfl (ih _ (by omega) (i + 1) _ rfl (by omega))
                    rw [e9]
                    rfl
                  · refine V.iload_n (q := 65) dX5_first_64 rfl rfl ?_
                    refine V.goto (tgt := 69) dX5_first_65 (by decide) ?_
                    refine V.istore_n (q := 70) dX5_first_69 rfl rfl rfl rfl ?_
                    refine V.iinc (q := 73) dX5_first_70 rfl (by first | exact nI_inc _ | rfl) rfl rfl rfl ?_
                    refine V.goto (tgt := 4) dX5_first_73 (by decide) ?_
                    have hw : isWf u f9 i = true := by simp [isWf, c21, c26]
                    have e9 : fw u (isWf u f9) (i + 1) = some i := by simp [fw, hfw, hw, bI1.mp c61]
                    refine V.to (L2 := [some (.ref (gB G + 94)), some (.int f9), some (.int (oI (fw u (isWf u f9) (i + 1)))), some (.int (nI (i + 1))), some (.int 1)]) ?_ rfl rfl rfl (ih _ (by omega) (i + 1) _ rfl (by omega))
                    rw [e9]
                    rfl
            · refine V.aload_n (q := 30) dX5_first_29 rfl rfl ?_
              refine V.iload_n (q := 31) dX5_first_30 rfl rfl ?_
              refine V.cVM (q := 34) dX5_first_31 (As := [_]) rfl (cM_origin hM (by omega)) MX5_origin bw_1204 rfl rfl rfl rfl (by decide) rfl ?_
              refine V.iload_n (q := 35) dX5_first_34 rfl rfl ?_
              refine V.icmp_ne (tgt := 42) (q := 38) dX5_first_35 (by decide) rfl (fun c35 => ?_) (fun c35 => ?_)
              · refine V.iconst (q := 43) dX5_first_42 (v := 0) rfl rfl ?_
                refine V.istore (q := 45) dX5_first_43 rfl rfl rfl ?_
                refine V.iload (q := 47) dX5_first_45 rfl rfl ?_
                refine V.if_eq (tgt := 68) (q := 50) dX5_first_47 (by decide) rfl (fun c47 => ?_) (fun c47 => ?_)
                · refine V.iload_n (q := 69) dX5_first_68 rfl rfl ?_
                  refine V.istore_n (q := 70) dX5_first_69 rfl rfl rfl rfl ?_
                  refine V.iinc (q := 73) dX5_first_70 rfl (by first | exact nI_inc _ | rfl) rfl rfl rfl ?_
                  refine V.goto (tgt := 4) dX5_first_73 (by decide) ?_
                  have hw : isWf u f9 i = false := by simp [isWf, c21, c26, c35]
                  have e9 : fw u (isWf u f9) (i + 1) = some g := by simp [fw, hfw, hw]
                  refine V.to (L2 := [some (.ref (gB G + 94)), some (.int f9), some (.int (oI (fw u (isWf u f9) (i + 1)))), some (.int (nI (i + 1))), some (.int 0)]) ?_ rfl rfl rfl (ih _ (by omega) (i + 1) _ rfl (by omega))
                  rw [e9]
                  rfl
                · exact absurd rfl c47
              · refine V.iconst (q := 39) dX5_first_38 (v := 1) rfl rfl ?_
                refine V.goto (tgt := 43) dX5_first_39 (by decide) ?_
                refine V.istore (q := 45) dX5_first_43 rfl rfl rfl ?_
                refine V.iload (q := 47) dX5_first_45 rfl rfl ?_
                refine V.if_eq (tgt := 68) (q := 50) dX5_first_47 (by decide) rfl (fun c47 => ?_) (fun c47 => ?_)
                · exact absurd c47 (by decide)
                · refine V.iload_n (q := 51) dX5_first_50 rfl rfl ?_
                  refine V.iconst (q := 52) dX5_first_51 (v := -1) rfl rfl ?_
                  refine V.icmp_eq (tgt := 64) (q := 55) dX5_first_52 (by decide) rfl (fun c52 => ?_) (fun c52 => ?_)
                  · exact absurd c52 (nne1 (by omega))
                  · refine V.aload_n (q := 56) dX5_first_55 rfl rfl ?_
                    refine V.iload_n (q := 57) dX5_first_56 rfl rfl ?_
                    refine V.iload_n (q := 58) dX5_first_57 rfl rfl ?_
                    refine V.cVM (q := 61) dX5_first_58 (As := [_, _]) rfl (cM_isAhead hM (by omega) (by omega)) MX5_isAhead bw_1219 rfl rfl rfl rfl (by decide) rfl ?_
                    refine V.if_eq (tgt := 68) (q := 64) dX5_first_61 (by decide) rfl (fun c61 => ?_) (fun c61 => ?_)
                    · refine V.iload_n (q := 69) dX5_first_68 rfl rfl ?_
                      refine V.istore_n (q := 70) dX5_first_69 rfl rfl rfl rfl ?_
                      refine V.iinc (q := 73) dX5_first_70 rfl (by first | exact nI_inc _ | rfl) rfl rfl rfl ?_
                      refine V.goto (tgt := 4) dX5_first_73 (by decide) ?_
                      have hw : isWf u f9 i = true := by simp [isWf, c21, c26, c35]
                      have e9 : fw u (isWf u f9) (i + 1) = some g := by simp [fw, hfw, hw, bI0.mp c61]
                      refine V.to (L2 := [some (.ref (gB G + 94)), some (.int f9), some (.int (oI (fw u (isWf u f9) (i + 1)))), some (.int (nI (i + 1))), some (.int 1)]) ?_ rfl rfl rfl (ih _ (by omega) (i + 1) _ rfl (by omega))
                      rw [e9]
                      rfl
                    · refine V.iload_n (q := 65) dX5_first_64 rfl rfl ?_
                      refine V.goto (tgt := 69) dX5_first_65 (by decide) ?_
                      refine V.istore_n (q := 70) dX5_first_69 rfl rfl rfl rfl ?_
                      refine V.iinc (q := 73) dX5_first_70 rfl (by first | exact nI_inc _ | rfl) rfl rfl rfl ?_
                      refine V.goto (tgt := 4) dX5_first_73 (by decide) ?_
                      have hw : isWf u f9 i = true := by simp [isWf, c21, c26, c35]
                      have e9 : fw u (isWf u f9) (i + 1) = some i := by simp [fw, hfw, hw, bI1.mp c61]
                      refine V.to (L2 := [some (.ref (gB G + 94)), some (.int f9), some (.int (oI (fw u (isWf u f9) (i + 1)))), some (.int (nI (i + 1))), some (.int 1)]) ?_ rfl rfl rfl (ih _ (by omega) (i + 1) _ rfl (by omega))
                      rw [e9]
                      rfl
  refine V.iconst (q := 1) dX5_first_0 (v := -1) rfl rfl ?_
  refine V.istore_n (q := 2) dX5_first_1 rfl rfl rfl rfl ?_
  refine V.iconst (q := 3) dX5_first_2 (v := 0) rfl rfl ?_
  refine V.istore_n (q := 4) dX5_first_3 rfl rfl rfl rfl ?_
  exact loop _ 0 none rfl (Nat.zero_le _)
set_option maxHeartbeats 2000000 in
theorem cM_stopsL1 {l : Launch} {G : GG} {σ : St} {u : Vw} (hM : RM σ u) (hrm : rmB u = true) : V l G TX5_stops 5 0 0 (RetS G (some (.int (stp u))) σ) 0 0 17 [some (.ref (gB G + 94)), some (.int 1), some (.int (spF u (rmB u) 0)), some (.int (nI 0))] [] (hof G σ) NC := by
  have hn : un u ≤ 40 := hM.1
  have loop : ∀ (m : Nat) (i : Nat), m = un u - i → i ≤ un u → V l G TX5_stops 5 0 0 (RetS G (some (.int (stp u))) σ) 0 0 17 [some (.ref (gB G + 94)), some (.int 1), some (.int (spF u (rmB u) i)), some (.int (nI i))] [] (hof G σ) NC := by
    intro m
    induction m using Nat.strongRecOn with
    | _ m ih =>
      intro i hm hile
      refine V.iload_n (q := 18) dX5_stops_17 rfl rfl ?_
      refine V.aload_n (q := 19) dX5_stops_18 rfl rfl ?_
      refine V.gM (q := 22) dX5_stops_19 (j := 1) rfl bw_1012 rfl rfl rfl rfl ?_
      refine V.bipush (q := 24) dX5_stops_22 (v := 10) rfl rfl ?_
      refine V.ldMn (q := 25) dX5_stops_24 hM rfl rfl ?_
      refine V.icmp_ge (tgt := 84) (q := 28) dX5_stops_25 (by decide) rfl (fun c25 => ?_) (fun c25 => ?_)
      · have hie : i = un u := Nat.le_antisymm hile (nle c25 (by omega) (by omega))
        refine V.iload_n (q := 85) dX5_stops_84 rfl rfl ?_
        exact V.iret dX5_stops_85 rfl ⟨by rw [hie]; rfl, rfl, rfl⟩
      · have hlt : i < un u := nnle c25 (by omega) (by omega)
        refine V.iload_n (q := 29) dX5_stops_28 rfl rfl ?_
        refine V.aload_n (q := 30) dX5_stops_29 rfl rfl ?_
        refine V.iload_n (q := 31) dX5_stops_30 rfl rfl ?_
        refine V.cVM (q := 34) dX5_stops_31 (As := [_]) rfl (cM_status hM (by omega)) MX5_status bw_1184 rfl rfl rfl rfl (by decide) rfl ?_
        refine V.iconst (q := 35) dX5_stops_34 (v := 2) rfl rfl ?_
        refine V.icmp_ne (tgt := 48) (q := 38) dX5_stops_35 (by decide) rfl (fun c35 => ?_) (fun c35 => ?_)
        · refine V.iconst (q := 49) dX5_stops_48 (v := 0) rfl rfl ?_
          refine V.ior (q := 50) dX5_stops_49 rfl ?_
          refine V.istore_n (q := 51) dX5_stops_50 rfl rfl rfl rfl ?_
          refine V.iload_n (q := 52) dX5_stops_51 rfl rfl ?_
          refine V.aload_n (q := 53) dX5_stops_52 rfl rfl ?_
          refine V.iload_n (q := 54) dX5_stops_53 rfl rfl ?_
          refine V.cVM (q := 57) dX5_stops_54 (As := [_]) rfl (cM_status hM (by omega)) MX5_status bw_1184 rfl rfl rfl rfl (by decide) rfl ?_
          refine V.iconst (q := 58) dX5_stops_57 (v := 1) rfl rfl ?_
          refine V.icmp_ne (tgt := 75) (q := 61) dX5_stops_58 (by decide) rfl (fun c58 => ?_) (fun c58 => ?_)
          · refine V.iconst (q := 76) dX5_stops_75 (v := 0) rfl rfl ?_
            refine V.ior (q := 77) dX5_stops_76 rfl ?_
            refine V.istore_n (q := 78) dX5_stops_77 rfl rfl rfl rfl ?_
            refine V.iinc (q := 81) dX5_stops_78 rfl (by first | exact nI_inc _ | rfl) rfl rfl rfl ?_
            refine V.goto (tgt := 17) dX5_stops_81 (by decide) ?_
            refine V.to (L2 := [some (.ref (gB G + 94)), some (.int 1), some (.int (spF u (rmB u) (i + 1))), some (.int (nI (i + 1)))]) ?_ rfl rfl rfl (ih _ (by omega) (i + 1) rfl (by omega))
            rw [show spF u (rmB u) (i + 1) = (spF u (rmB u) i ||| 0) ||| 0 by simp [spF, c35, c58]]
            rfl
          · refine V.iload_n (q := 62) dX5_stops_61 rfl rfl ?_
            refine V.if_eq (tgt := 75) (q := 65) dX5_stops_62 (by decide) rfl (fun c62 => ?_) (fun c62 => ?_)
            · exact absurd c62 (by decide)
            · refine V.iconst (q := 66) dX5_stops_65 (v := 1) rfl rfl ?_
              refine V.aload_n (q := 67) dX5_stops_66 rfl rfl ?_
              refine V.iload_n (q := 68) dX5_stops_67 rfl rfl ?_
              refine V.cVM (q := 71) dX5_stops_68 (As := [_]) rfl (cM_origin hM (by omega)) MX5_origin bw_1204 rfl rfl rfl rfl (by decide) rfl ?_
              refine V.ishl (q := 72) dX5_stops_71 rfl ?_
              refine V.goto (tgt := 76) dX5_stops_72 (by decide) ?_
              refine V.ior (q := 77) dX5_stops_76 rfl ?_
              refine V.istore_n (q := 78) dX5_stops_77 rfl rfl rfl rfl ?_
              refine V.iinc (q := 81) dX5_stops_78 rfl (by first | exact nI_inc _ | rfl) rfl rfl rfl ?_
              refine V.goto (tgt := 17) dX5_stops_81 (by decide) ?_
              refine V.to (L2 := [some (.ref (gB G + 94)), some (.int 1), some (.int (spF u (rmB u) (i + 1))), some (.int (nI (i + 1)))]) ?_ rfl rfl rfl (ih _ (by omega) (i + 1) rfl (by omega))
              rw [show spF u (rmB u) (i + 1) = (spF u (rmB u) i ||| 0) ||| ((1 : Int32) <<< (ur u 0 i &&& 31)) by simp [spF, c35, c58, hrm]]
              rfl
        · refine V.iconst (q := 39) dX5_stops_38 (v := 1) rfl rfl ?_
          refine V.aload_n (q := 40) dX5_stops_39 rfl rfl ?_
          refine V.iload_n (q := 41) dX5_stops_40 rfl rfl ?_
          refine V.cVM (q := 44) dX5_stops_41 (As := [_]) rfl (cM_destination hM (by omega)) MX5_destination bw_1200 rfl rfl rfl rfl (by decide) rfl ?_
          refine V.ishl (q := 45) dX5_stops_44 rfl ?_
          refine V.goto (tgt := 49) dX5_stops_45 (by decide) ?_
          refine V.ior (q := 50) dX5_stops_49 rfl ?_
          refine V.istore_n (q := 51) dX5_stops_50 rfl rfl rfl rfl ?_
          refine V.iload_n (q := 52) dX5_stops_51 rfl rfl ?_
          refine V.aload_n (q := 53) dX5_stops_52 rfl rfl ?_
          refine V.iload_n (q := 54) dX5_stops_53 rfl rfl ?_
          refine V.cVM (q := 57) dX5_stops_54 (As := [_]) rfl (cM_status hM (by omega)) MX5_status bw_1184 rfl rfl rfl rfl (by decide) rfl ?_
          refine V.iconst (q := 58) dX5_stops_57 (v := 1) rfl rfl ?_
          refine V.icmp_ne (tgt := 75) (q := 61) dX5_stops_58 (by decide) rfl (fun c58 => ?_) (fun c58 => ?_)
          · refine V.iconst (q := 76) dX5_stops_75 (v := 0) rfl rfl ?_
            refine V.ior (q := 77) dX5_stops_76 rfl ?_
            refine V.istore_n (q := 78) dX5_stops_77 rfl rfl rfl rfl ?_
            refine V.iinc (q := 81) dX5_stops_78 rfl (by first | exact nI_inc _ | rfl) rfl rfl rfl ?_
            refine V.goto (tgt := 17) dX5_stops_81 (by decide) ?_
            refine V.to (L2 := [some (.ref (gB G + 94)), some (.int 1), some (.int (spF u (rmB u) (i + 1))), some (.int (nI (i + 1)))]) ?_ rfl rfl rfl (ih _ (by omega) (i + 1) rfl (by omega))
            rw [show spF u (rmB u) (i + 1) = (spF u (rmB u) i ||| ((1 : Int32) <<< (ur u 1 i &&& 31))) ||| 0 by simp [spF, c35]]
            rfl
          · refine V.iload_n (q := 62) dX5_stops_61 rfl rfl ?_
            refine V.if_eq (tgt := 75) (q := 65) dX5_stops_62 (by decide) rfl (fun c62 => ?_) (fun c62 => ?_)
            · exact absurd c62 (by decide)
            · refine V.iconst (q := 66) dX5_stops_65 (v := 1) rfl rfl ?_
              refine V.aload_n (q := 67) dX5_stops_66 rfl rfl ?_
              refine V.iload_n (q := 68) dX5_stops_67 rfl rfl ?_
              refine V.cVM (q := 71) dX5_stops_68 (As := [_]) rfl (cM_origin hM (by omega)) MX5_origin bw_1204 rfl rfl rfl rfl (by decide) rfl ?_
              refine V.ishl (q := 72) dX5_stops_71 rfl ?_
              refine V.goto (tgt := 76) dX5_stops_72 (by decide) ?_
              refine V.ior (q := 77) dX5_stops_76 rfl ?_
              refine V.istore_n (q := 78) dX5_stops_77 rfl rfl rfl rfl ?_
              refine V.iinc (q := 81) dX5_stops_78 rfl (by first | exact nI_inc _ | rfl) rfl rfl rfl ?_
              refine V.goto (tgt := 17) dX5_stops_81 (by decide) ?_
              exact absurd (c35.symm.trans c58) (by decide)
  exact loop _ 0 rfl (Nat.zero_le _)
set_option maxHeartbeats 2000000 in
theorem cM_stopsL0 {l : Launch} {G : GG} {σ : St} {u : Vw} (hM : RM σ u) (hrm : rmB u = false) : V l G TX5_stops 5 0 0 (RetS G (some (.int (stp u))) σ) 0 0 17 [some (.ref (gB G + 94)), some (.int 0), some (.int (spF u (rmB u) 0)), some (.int (nI 0))] [] (hof G σ) NC := by
  have hn : un u ≤ 40 := hM.1
  have loop : ∀ (m : Nat) (i : Nat), m = un u - i → i ≤ un u → V l G TX5_stops 5 0 0 (RetS G (some (.int (stp u))) σ) 0 0 17 [some (.ref (gB G + 94)), some (.int 0), some (.int (spF u (rmB u) i)), some (.int (nI i))] [] (hof G σ) NC := by
    intro m
    induction m using Nat.strongRecOn with
    | _ m ih =>
      intro i hm hile
      refine V.iload_n (q := 18) dX5_stops_17 rfl rfl ?_
      refine V.aload_n (q := 19) dX5_stops_18 rfl rfl ?_
      refine V.gM (q := 22) dX5_stops_19 (j := 1) rfl bw_1012 rfl rfl rfl rfl ?_
      refine V.bipush (q := 24) dX5_stops_22 (v := 10) rfl rfl ?_
      refine V.ldMn (q := 25) dX5_stops_24 hM rfl rfl ?_
      refine V.icmp_ge (tgt := 84) (q := 28) dX5_stops_25 (by decide) rfl (fun c25 => ?_) (fun c25 => ?_)
      · have hie : i = un u := Nat.le_antisymm hile (nle c25 (by omega) (by omega))
        refine V.iload_n (q := 85) dX5_stops_84 rfl rfl ?_
        exact V.iret dX5_stops_85 rfl ⟨by rw [hie]; rfl, rfl, rfl⟩
      · have hlt : i < un u := nnle c25 (by omega) (by omega)
        refine V.iload_n (q := 29) dX5_stops_28 rfl rfl ?_
        refine V.aload_n (q := 30) dX5_stops_29 rfl rfl ?_
        refine V.iload_n (q := 31) dX5_stops_30 rfl rfl ?_
        refine V.cVM (q := 34) dX5_stops_31 (As := [_]) rfl (cM_status hM (by omega)) MX5_status bw_1184 rfl rfl rfl rfl (by decide) rfl ?_
        refine V.iconst (q := 35) dX5_stops_34 (v := 2) rfl rfl ?_
        refine V.icmp_ne (tgt := 48) (q := 38) dX5_stops_35 (by decide) rfl (fun c35 => ?_) (fun c35 => ?_)
        · refine V.iconst (q := 49) dX5_stops_48 (v := 0) rfl rfl ?_
          refine V.ior (q := 50) dX5_stops_49 rfl ?_
          refine V.istore_n (q := 51) dX5_stops_50 rfl rfl rfl rfl ?_
          refine V.iload_n (q := 52) dX5_stops_51 rfl rfl ?_
          refine V.aload_n (q := 53) dX5_stops_52 rfl rfl ?_
          refine V.iload_n (q := 54) dX5_stops_53 rfl rfl ?_
          refine V.cVM (q := 57) dX5_stops_54 (As := [_]) rfl (cM_status hM (by omega)) MX5_status bw_1184 rfl rfl rfl rfl (by decide) rfl ?_
          refine V.iconst (q := 58) dX5_stops_57 (v := 1) rfl rfl ?_
          refine V.icmp_ne (tgt := 75) (q := 61) dX5_stops_58 (by decide) rfl (fun c58 => ?_) (fun c58 => ?_)
          · refine V.iconst (q := 76) dX5_stops_75 (v := 0) rfl rfl ?_
            refine V.ior (q := 77) dX5_stops_76 rfl ?_
            refine V.istore_n (q := 78) dX5_stops_77 rfl rfl rfl rfl ?_
            refine V.iinc (q := 81) dX5_stops_78 rfl (by first | exact nI_inc _ | rfl) rfl rfl rfl ?_
            refine V.goto (tgt := 17) dX5_stops_81 (by decide) ?_
            refine V.to (L2 := [some (.ref (gB G + 94)), some (.int 0), some (.int (spF u (rmB u) (i + 1))), some (.int (nI (i + 1)))]) ?_ rfl rfl rfl (ih _ (by omega) (i + 1) rfl (by omega))
            rw [show spF u (rmB u) (i + 1) = (spF u (rmB u) i ||| 0) ||| 0 by simp [spF, c35, c58]]
            rfl
          · refine V.iload_n (q := 62) dX5_stops_61 rfl rfl ?_
            refine V.if_eq (tgt := 75) (q := 65) dX5_stops_62 (by decide) rfl (fun c62 => ?_) (fun c62 => ?_)
            · refine V.iconst (q := 76) dX5_stops_75 (v := 0) rfl rfl ?_
              refine V.ior (q := 77) dX5_stops_76 rfl ?_
              refine V.istore_n (q := 78) dX5_stops_77 rfl rfl rfl rfl ?_
              refine V.iinc (q := 81) dX5_stops_78 rfl (by first | exact nI_inc _ | rfl) rfl rfl rfl ?_
              refine V.goto (tgt := 17) dX5_stops_81 (by decide) ?_
              refine V.to (L2 := [some (.ref (gB G + 94)), some (.int 0), some (.int (spF u (rmB u) (i + 1))), some (.int (nI (i + 1)))]) ?_ rfl rfl rfl (ih _ (by omega) (i + 1) rfl (by omega))
              rw [show spF u (rmB u) (i + 1) = (spF u (rmB u) i ||| 0) ||| 0 by simp [spF, c35, c58, hrm]]
              rfl
            · exact absurd rfl c62
        · refine V.iconst (q := 39) dX5_stops_38 (v := 1) rfl rfl ?_
          refine V.aload_n (q := 40) dX5_stops_39 rfl rfl ?_
          refine V.iload_n (q := 41) dX5_stops_40 rfl rfl ?_
          refine V.cVM (q := 44) dX5_stops_41 (As := [_]) rfl (cM_destination hM (by omega)) MX5_destination bw_1200 rfl rfl rfl rfl (by decide) rfl ?_
          refine V.ishl (q := 45) dX5_stops_44 rfl ?_
          refine V.goto (tgt := 49) dX5_stops_45 (by decide) ?_
          refine V.ior (q := 50) dX5_stops_49 rfl ?_
          refine V.istore_n (q := 51) dX5_stops_50 rfl rfl rfl rfl ?_
          refine V.iload_n (q := 52) dX5_stops_51 rfl rfl ?_
          refine V.aload_n (q := 53) dX5_stops_52 rfl rfl ?_
          refine V.iload_n (q := 54) dX5_stops_53 rfl rfl ?_
          refine V.cVM (q := 57) dX5_stops_54 (As := [_]) rfl (cM_status hM (by omega)) MX5_status bw_1184 rfl rfl rfl rfl (by decide) rfl ?_
          refine V.iconst (q := 58) dX5_stops_57 (v := 1) rfl rfl ?_
          refine V.icmp_ne (tgt := 75) (q := 61) dX5_stops_58 (by decide) rfl (fun c58 => ?_) (fun c58 => ?_)
          · refine V.iconst (q := 76) dX5_stops_75 (v := 0) rfl rfl ?_
            refine V.ior (q := 77) dX5_stops_76 rfl ?_
            refine V.istore_n (q := 78) dX5_stops_77 rfl rfl rfl rfl ?_
            refine V.iinc (q := 81) dX5_stops_78 rfl (by first | exact nI_inc _ | rfl) rfl rfl rfl ?_
            refine V.goto (tgt := 17) dX5_stops_81 (by decide) ?_
            refine V.to (L2 := [some (.ref (gB G + 94)), some (.int 0), some (.int (spF u (rmB u) (i + 1))), some (.int (nI (i + 1)))]) ?_ rfl rfl rfl (ih _ (by omega) (i + 1) rfl (by omega))
            rw [show spF u (rmB u) (i + 1) = (spF u (rmB u) i ||| ((1 : Int32) <<< (ur u 1 i &&& 31))) ||| 0 by simp [spF, c35]]
            rfl
          · refine V.iload_n (q := 62) dX5_stops_61 rfl rfl ?_
            refine V.if_eq (tgt := 75) (q := 65) dX5_stops_62 (by decide) rfl (fun c62 => ?_) (fun c62 => ?_)
            · refine V.iconst (q := 76) dX5_stops_75 (v := 0) rfl rfl ?_
              refine V.ior (q := 77) dX5_stops_76 rfl ?_
              refine V.istore_n (q := 78) dX5_stops_77 rfl rfl rfl rfl ?_
              refine V.iinc (q := 81) dX5_stops_78 rfl (by first | exact nI_inc _ | rfl) rfl rfl rfl ?_
              refine V.goto (tgt := 17) dX5_stops_81 (by decide) ?_
              exact absurd (c35.symm.trans c58) (by decide)
            · exact absurd rfl c62
  exact loop _ 0 rfl (Nat.zero_le _)
set_option maxHeartbeats 1000000 in
theorem cM_stops {l : Launch} {G : GG} {σ : St} {u : Vw} (hM : RM σ u) (hmc : (many u 2 : Int) ≤ (us u 1).toInt) : CtS l G TX5_stops 5 [.ref (gB G + 94)] σ (some (.int (stp u))) σ := by
  have hn : un u ≤ 40 := hM.1
  refine CtS.ofV (by decide +kernel) rfl rfl (Nat.le_of_ble_eq_true rfl) ?_
  refine V.aload_n (q := 1) dX5_stops_0 rfl rfl ?_
  refine V.cVM (q := 4) dX5_stops_1 (As := []) rfl (cM_full hM hmc) MX5_full bw_1176 rfl rfl rfl rfl (by decide) rfl ?_
  refine V.if_ne (tgt := 11) (q := 7) dX5_stops_4 (by decide) rfl (fun c4 => ?_) (fun c4 => ?_)
  · refine V.iconst (q := 12) dX5_stops_11 (v := 0) rfl rfl ?_
    refine V.istore_n (q := 13) dX5_stops_12 rfl rfl rfl rfl ?_
    refine V.iconst (q := 14) dX5_stops_13 (v := 0) rfl rfl ?_
    refine V.istore_n (q := 15) dX5_stops_14 rfl rfl rfl rfl ?_
    refine V.iconst (q := 16) dX5_stops_15 (v := 0) rfl rfl ?_
    refine V.istore_n (q := 17) dX5_stops_16 rfl rfl rfl rfl ?_
    exact cM_stopsL0 hM (by simpa using bI1.mp c4)
  · refine V.iconst (q := 8) dX5_stops_7 (v := 1) rfl rfl ?_
    refine V.goto (tgt := 12) dX5_stops_8 (by decide) ?_
    refine V.istore_n (q := 13) dX5_stops_12 rfl rfl rfl rfl ?_
    refine V.iconst (q := 14) dX5_stops_13 (v := 0) rfl rfl ?_
    refine V.istore_n (q := 15) dX5_stops_14 rfl rfl rfl rfl ?_
    refine V.iconst (q := 16) dX5_stops_15 (v := 0) rfl rfl ?_
    refine V.istore_n (q := 17) dX5_stops_16 rfl rfl rfl rfl ?_
    exact cM_stopsL1 hM (by simpa using bI0.mp c4)
