/-! the model: reads with loops, continued -/
set_option maxHeartbeats 2000000 in
theorem kM_detourOf {l : Launch} {G : GG} {σ : St} {u : Vw} (hM : RM σ u) (hI : Iu u) {x : Int32} : CtP l G TX5_detourOf 3 [.ref (gB G + 94), .int x] σ (fun v τ => v = some (.int (if okP u x = true then dtI u x.toNatClampNeg else 0)) ∧ FrX σ τ ∧ RM τ u ∧ thr τ = if okP u x = true then 0 else 1) := by
  have hn : un u ≤ 40 := hM.1
  refine CtP.ofV (by decide +kernel) rfl rfl (Nat.le_of_ble_eq_true rfl) ?_
  refine V.aload_n (q := 1) dX5_detourOf_0 rfl rfl ?_
  refine V.iconst (q := 2) dX5_detourOf_1 (v := 0) rfl rfl ?_
  refine V.pM (q := 5) dX5_detourOf_2 (j := 0) rfl bw_1011 rfl rfl rfl rfl rfl rfl ?_
  have hM : RM (stF σ 94 0 0) u := hM.scF
  refine V.aload_n (q := 6) dX5_detourOf_5 rfl rfl ?_
  refine V.iload_n (q := 7) dX5_detourOf_6 rfl rfl ?_
  refine V.cVMP (q := 10) (As := [_]) dX5_detourOf_7 rfl (kM_noP hM) MX5_noPassenger bw_1379 rfl rfl rfl rfl (by decide) rfl (fun v1 τ1 h1 => ?_)
  obtain ⟨rfl, h1⟩ := h1
  refine V.if_eq (tgt := 15) (q := 13) dX5_detourOf_10 (by decide) rfl (fun c10 => ?_) (fun c10 => ?_)
  · have g : okP u x = true := by
      cases z : okP u x with
      | true => rfl
      | false => rw [z] at c10; exact absurd c10 (by decide)
    rw [if_pos g] at h1
    subst h1
    obtain ⟨hx, hi⟩ := okP_i hn g
    refine V.aload_n (q := 16) dX5_detourOf_15 rfl rfl ?_
    refine V.iload_n (q := 17) dX5_detourOf_16 rfl rfl ?_
    refine V.cVM (q := 20) dX5_detourOf_17 (As := [_]) rfl (by have := cM_destination (l := l) (G := G) hM hi; rw [← hx] at this; exact this) MX5_destination bw_1200 rfl rfl rfl rfl (by decide) rfl ?_
    refine V.aload_n (q := 21) dX5_detourOf_20 rfl rfl ?_
    refine V.iload_n (q := 22) dX5_detourOf_21 rfl rfl ?_
    refine V.cVM (q := 25) dX5_detourOf_22 (As := [_]) rfl (by have := cM_origin (l := l) (G := G) hM hi; rw [← hx] at this; exact this) MX5_origin bw_1204 rfl rfl rfl rfl (by decide) rfl ?_
    refine V.isub (q := 26) dX5_detourOf_25 rfl ?_
    refine V.istore_n (q := 27) dX5_detourOf_26 rfl rfl rfl rfl ?_
    refine V.aload_n (q := 28) dX5_detourOf_27 rfl rfl ?_
    refine V.iload_n (q := 29) dX5_detourOf_28 rfl rfl ?_
    refine V.cVM (q := 32) dX5_detourOf_29 (As := [_]) rfl (by have := cM_left (l := l) (G := G) hM hi; rw [← hx] at this; exact this) MX5_left bw_1188 rfl rfl rfl rfl (by decide) rfl ?_
    refine V.iconst (q := 33) dX5_detourOf_32 (v := -1) rfl rfl ?_
    refine V.icmp_ne (tgt := 40) (q := 36) dX5_detourOf_33 (by decide) rfl (fun c33 => ?_) (fun c33 => ?_)
    · refine V.aload_n (q := 41) dX5_detourOf_40 rfl rfl ?_
      refine V.iload_n (q := 42) dX5_detourOf_41 rfl rfl ?_
      refine V.cVM (q := 45) dX5_detourOf_42 (As := [_]) rfl (by have := kM_ridden (l := l) (G := G) hM hi; rw [← hx] at this; exact this) MX5_ridden bw_1415 rfl rfl rfl rfl (by decide) rfl ?_
      refine V.iconst (q := 46) dX5_detourOf_45 (v := 1) rfl rfl ?_
      refine V.isub (q := 47) dX5_detourOf_46 rfl ?_
      refine V.iload_n (q := 48) dX5_detourOf_47 rfl rfl ?_
      refine V.if_ge (tgt := 56) (q := 51) dX5_detourOf_48 (by decide) rfl (fun c48 => ?_) (fun c48 => ?_)
      · refine V.iload_n (q := 57) dX5_detourOf_56 rfl rfl ?_
        refine V.isub (q := 58) dX5_detourOf_57 rfl ?_
        exact V.iret dX5_detourOf_58 rfl ⟨_, _, rfl, rfl, rfl, by rw [if_pos g, ← det_eq hI hi, if_neg c33, if_pos c48], FrX.z, hM, by rw [if_pos g]; exact thr_z⟩
      · refine V.iload_n (q := 52) dX5_detourOf_51 rfl rfl ?_
        refine V.ineg (q := 53) dX5_detourOf_52 rfl ?_
        refine V.goto (tgt := 57) dX5_detourOf_53 (by decide) ?_
        refine V.isub (q := 58) dX5_detourOf_57 rfl ?_
        exact V.iret dX5_detourOf_58 rfl ⟨_, _, rfl, rfl, rfl, by rw [if_pos g, ← det_eq hI hi, if_neg c33, if_neg c48], FrX.z, hM, by rw [if_pos g]; exact thr_z⟩
    · refine V.iconst (q := 37) dX5_detourOf_36 (v := -1) rfl rfl ?_
      refine V.goto (tgt := 58) dX5_detourOf_37 (by decide) ?_
      exact V.iret dX5_detourOf_58 rfl ⟨_, _, rfl, rfl, rfl, by rw [if_pos g, ← det_eq hI hi, if_pos c33], FrX.z, hM, by rw [if_pos g]; exact thr_z⟩
  · have g : okP u x = false := by
      cases z : okP u x with
      | true => rw [z] at c10; exact absurd rfl c10
      | false => rfl
    rw [if_neg (by rw [g]; decide)] at h1
    subst h1
    refine V.iconst (q := 14) dX5_detourOf_13 (v := 0) rfl rfl ?_
    exact V.iret dX5_detourOf_14 rfl ⟨_, _, rfl, rfl, rfl, by rw [if_neg (by rw [g]; decide)], FrX.z.trans FrX.z, hM.scF, by rw [if_neg (by rw [g]; decide)]; exact thr_z⟩
set_option maxHeartbeats 2000000 in
theorem kM_ridingTo {l : Launch} {G : GG} {σ : St} {u : Vw} (hM : RM σ u) (hI : Iu u) {x : Int32} : CtP l G TX5_ridingTo 3 [.ref (gB G + 94), .int x] σ (fun v τ => v = some (.int (if okF u x = true then nI (cnt (fun j => (ur u 1 j == x) && (stat u j == 2)) (un u)) else 0)) ∧ FrX σ τ ∧ RM τ u ∧ thr τ = if okF u x = true then 0 else 1) := by
  have hn : un u ≤ 40 := hM.1
  have hM0 := hM
  have hM : RM (stF σ 94 0 0) u := hM.scF
  refine CtP.ofV (by decide +kernel) rfl rfl (Nat.le_of_ble_eq_true rfl) ?_
  have loop : ∀ (m : Nat) (i : Nat), m = un u - i → i ≤ un u → okF u x = true → V l G TX5_ridingTo 3 0 0 (RetP G (fun v τ => v = some (.int (if okF u x = true then nI (cnt (fun j => (ur u 1 j == x) && (stat u j == 2)) (un u)) else 0)) ∧ FrX σ τ ∧ RM τ u ∧ thr τ = if okF u x = true then 0 else 1)) 0 0 19 [some (.ref (gB G + 94)), some (.int x), some (.int (nI (cnt (fun j => (ur u 1 j == x) && (stat u j == 2)) i))), some (.int (nI i))] [] (hof G (stF σ 94 0 0)) NC := by
    intro m
    induction m using Nat.strongRecOn with
    | _ m ih =>
      intro i hm hile g
      refine V.iload_n (q := 20) dX5_ridingTo_19 rfl rfl ?_
      refine V.aload_n (q := 21) dX5_ridingTo_20 rfl rfl ?_
      refine V.gM (q := 24) dX5_ridingTo_21 (j := 1) rfl bw_1012 rfl rfl rfl rfl ?_
      refine V.bipush (q := 26) dX5_ridingTo_24 (v := 10) rfl rfl ?_
      refine V.ldMn (q := 27) dX5_ridingTo_26 hM rfl rfl ?_
      refine V.icmp_ge (tgt := 62) (q := 30) dX5_ridingTo_27 (by decide) rfl (fun c27 => ?_) (fun c27 => ?_)
      · have hie : i = un u := Nat.le_antisymm hile (nle c27 (by omega) (by omega))
        refine V.iload_n (q := 63) dX5_ridingTo_62 rfl rfl ?_
        exact V.iret dX5_ridingTo_63 rfl ⟨_, _, rfl, rfl, rfl, by rw [if_pos g, hie], FrX.z, hM, by rw [if_pos g]; exact thr_z⟩
      · have hlt : i < un u := nnle c27 (by omega) (by omega)
        refine V.iload_n (q := 31) dX5_ridingTo_30 rfl rfl ?_
        refine V.aload_n (q := 32) dX5_ridingTo_31 rfl rfl ?_
        refine V.iload_n (q := 33) dX5_ridingTo_32 rfl rfl ?_
        refine V.cVM (q := 36) dX5_ridingTo_33 (As := [_]) rfl (cM_status hM (by omega)) MX5_status bw_1184 rfl rfl rfl rfl (by decide) rfl ?_
        refine V.iconst (q := 37) dX5_ridingTo_36 (v := 2) rfl rfl ?_
        refine V.icmp_ne (tgt := 53) (q := 40) dX5_ridingTo_37 (by decide) rfl (fun c37 => ?_) (fun c37 => ?_)
        · refine V.iconst (q := 54) dX5_ridingTo_53 (v := 0) rfl rfl ?_
          refine V.iadd (q := 55) dX5_ridingTo_54 rfl ?_
          rw [Int32.add_zero]
          refine V.istore_n (q := 56) dX5_ridingTo_55 rfl rfl rfl rfl ?_
          refine V.iinc (q := 59) dX5_ridingTo_56 rfl (by first | exact nI_inc _ | rfl) rfl rfl rfl ?_
          refine V.goto (tgt := 19) dX5_ridingTo_59 (by decide) ?_
          refine V.to (L2 := [some (.ref (gB G + 94)), some (.int x), some (.int (nI (cnt (fun j => (ur u 1 j == x) && (stat u j == 2)) (i + 1)))), some (.int (nI (i + 1)))]) ?_ rfl rfl rfl (ih _ (by omega) (i + 1) rfl (by omega) g)
          rw [show cnt (fun j => (ur u 1 j == x) && (stat u j == 2)) (i + 1) = cnt (fun j => (ur u 1 j == x) && (stat u j == 2)) i by simp [cnt, c37]]
          rfl
        · refine V.aload_n (q := 41) dX5_ridingTo_40 rfl rfl ?_
          refine V.iload_n (q := 42) dX5_ridingTo_41 rfl rfl ?_
          refine V.cVM (q := 45) dX5_ridingTo_42 (As := [_]) rfl (cM_destination hM (by omega)) MX5_destination bw_1200 rfl rfl rfl rfl (by decide) rfl ?_
          refine V.iload_n (q := 46) dX5_ridingTo_45 rfl rfl ?_
          refine V.icmp_ne (tgt := 53) (q := 49) dX5_ridingTo_46 (by decide) rfl (fun c46 => ?_) (fun c46 => ?_)
          · refine V.iconst (q := 54) dX5_ridingTo_53 (v := 0) rfl rfl ?_
            refine V.iadd (q := 55) dX5_ridingTo_54 rfl ?_
            rw [Int32.add_zero]
            refine V.istore_n (q := 56) dX5_ridingTo_55 rfl rfl rfl rfl ?_
            refine V.iinc (q := 59) dX5_ridingTo_56 rfl (by first | exact nI_inc _ | rfl) rfl rfl rfl ?_
            refine V.goto (tgt := 19) dX5_ridingTo_59 (by decide) ?_
            refine V.to (L2 := [some (.ref (gB G + 94)), some (.int x), some (.int (nI (cnt (fun j => (ur u 1 j == x) && (stat u j == 2)) (i + 1)))), some (.int (nI (i + 1)))]) ?_ rfl rfl rfl (ih _ (by omega) (i + 1) rfl (by omega) g)
            rw [show cnt (fun j => (ur u 1 j == x) && (stat u j == 2)) (i + 1) = cnt (fun j => (ur u 1 j == x) && (stat u j == 2)) i by simp [cnt, c46]]
            rfl
          · refine V.iconst (q := 50) dX5_ridingTo_49 (v := 1) rfl rfl ?_
            refine V.goto (tgt := 54) dX5_ridingTo_50 (by decide) ?_
            refine V.iadd (q := 55) dX5_ridingTo_54 rfl ?_
            rw [nI_1]
            refine V.istore_n (q := 56) dX5_ridingTo_55 rfl rfl rfl rfl ?_
            refine V.iinc (q := 59) dX5_ridingTo_56 rfl (by first | exact nI_inc _ | rfl) rfl rfl rfl ?_
            refine V.goto (tgt := 19) dX5_ridingTo_59 (by decide) ?_
            refine V.to (L2 := [some (.ref (gB G + 94)), some (.int x), some (.int (nI (cnt (fun j => (ur u 1 j == x) && (stat u j == 2)) (i + 1)))), some (.int (nI (i + 1)))]) ?_ rfl rfl rfl (ih _ (by omega) (i + 1) rfl (by omega) g)
            rw [show cnt (fun j => (ur u 1 j == x) && (stat u j == 2)) (i + 1) = cnt (fun j => (ur u 1 j == x) && (stat u j == 2)) i + 1 by simp [cnt, c37, c46]]
            rfl
  refine V.aload_n (q := 1) dX5_ridingTo_0 rfl rfl ?_
  refine V.iconst (q := 2) dX5_ridingTo_1 (v := 0) rfl rfl ?_
  refine V.pM (q := 5) dX5_ridingTo_2 (j := 0) rfl bw_1011 rfl rfl rfl rfl rfl rfl ?_
  refine V.aload_n (q := 6) dX5_ridingTo_5 rfl rfl ?_
  refine V.iload_n (q := 7) dX5_ridingTo_6 rfl rfl ?_
  refine V.cVMP (q := 10) (As := [_]) dX5_ridingTo_7 rfl (kM_noF hM hI) MX5_noFloor bw_1431 rfl rfl rfl rfl (by decide) rfl (fun v1 τ1 h1 => ?_)
  obtain ⟨rfl, h1⟩ := h1
  refine V.if_eq (tgt := 15) (q := 13) dX5_ridingTo_10 (by decide) rfl (fun c10 => ?_) (fun c10 => ?_)
  · have g : okF u x = true := by
      cases z : okF u x with
      | true => rfl
      | false => rw [z] at c10; exact absurd c10 (by decide)
    rw [if_pos g] at h1
    subst h1
    refine V.iconst (q := 16) dX5_ridingTo_15 (v := 0) rfl rfl ?_
    refine V.istore_n (q := 17) dX5_ridingTo_16 rfl rfl rfl rfl ?_
    refine V.iconst (q := 18) dX5_ridingTo_17 (v := 0) rfl rfl ?_
    refine V.istore_n (q := 19) dX5_ridingTo_18 rfl rfl rfl rfl ?_
    exact loop _ 0 rfl (Nat.zero_le _) g
  · have g : okF u x = false := by
      cases z : okF u x with
      | true => rw [z] at c10; exact absurd rfl c10
      | false => rfl
    rw [if_neg (by rw [g]; decide)] at h1
    subst h1
    refine V.iconst (q := 14) dX5_ridingTo_13 (v := 0) rfl rfl ?_
    exact V.iret dX5_ridingTo_14 rfl ⟨_, _, rfl, rfl, rfl, by rw [if_neg (by rw [g]; decide)], FrX.z.trans FrX.z, hM.scF, by rw [if_neg (by rw [g]; decide)]; exact thr_z⟩
set_option maxHeartbeats 2000000 in
theorem kM_passengersBetween {l : Launch} {G : GG} {σ : St} {u : Vw} (hM : RM σ u) (hI : Iu u) {x y : Int32} : CtP l G TX5_passengersBetween 2 [.ref (gB G + 94), .int x, .int y] σ (fun v τ => v = some (.int (if (okF u x && okF u y) = true then nI (cnt (fun j => (ur u 0 j == x) && (ur u 1 j == y)) (un u)) else 0)) ∧ FrX σ τ ∧ RM τ u ∧ thr τ = if (okF u x && okF u y) = true then 0 else 1) := by
  have hn : un u ≤ 40 := hM.1
  have hM0 := hM
  have hM : RM (stF σ 94 0 0) u := hM.scF
  refine CtP.ofV (by decide +kernel) rfl rfl (Nat.le_of_ble_eq_true rfl) ?_
  have loop : ∀ (m : Nat) (i : Nat), m = un u - i → i ≤ un u → (okF u x && okF u y) = true → V l G TX5_passengersBetween 2 0 0 (RetP G (fun v τ => v = some (.int (if (okF u x && okF u y) = true then nI (cnt (fun j => (ur u 0 j == x) && (ur u 1 j == y)) (un u)) else 0)) ∧ FrX σ τ ∧ RM τ u ∧ thr τ = if (okF u x && okF u y) = true then 0 else 1)) 0 0 28 [some (.ref (gB G + 94)), some (.int x), some (.int y), some (.int (nI (cnt (fun j => (ur u 0 j == x) && (ur u 1 j == y)) i))), some (.int (nI i))] [] (hof G (stF σ 94 0 0)) NC := by
    intro m
    induction m using Nat.strongRecOn with
    | _ m ih =>
      intro i hm hile g
      refine V.iload (q := 30) dX5_passengersBetween_28 rfl rfl ?_
      refine V.aload_n (q := 31) dX5_passengersBetween_30 rfl rfl ?_
      refine V.gM (q := 34) dX5_passengersBetween_31 (j := 1) rfl bw_1012 rfl rfl rfl rfl ?_
      refine V.bipush (q := 36) dX5_passengersBetween_34 (v := 10) rfl rfl ?_
      refine V.ldMn (q := 37) dX5_passengersBetween_36 hM rfl rfl ?_
      refine V.icmp_ge (tgt := 74) (q := 40) dX5_passengersBetween_37 (by decide) rfl (fun c37 => ?_) (fun c37 => ?_)
      · have hie : i = un u := Nat.le_antisymm hile (nle c37 (by omega) (by omega))
        refine V.iload_n (q := 75) dX5_passengersBetween_74 rfl rfl ?_
        exact V.iret dX5_passengersBetween_75 rfl ⟨_, _, rfl, rfl, rfl, by rw [if_pos g, hie], FrX.z, hM, by rw [if_pos g]; exact thr_z⟩
      · have hlt : i < un u := nnle c37 (by omega) (by omega)
        refine V.iload_n (q := 41) dX5_passengersBetween_40 rfl rfl ?_
        refine V.aload_n (q := 42) dX5_passengersBetween_41 rfl rfl ?_
        refine V.iload (q := 44) dX5_passengersBetween_42 rfl rfl ?_
        refine V.cVM (q := 47) dX5_passengersBetween_44 (As := [_]) rfl (cM_origin hM (by omega)) MX5_origin bw_1204 rfl rfl rfl rfl (by decide) rfl ?_
        refine V.iload_n (q := 48) dX5_passengersBetween_47 rfl rfl ?_
        refine V.icmp_ne (tgt := 65) (q := 51) dX5_passengersBetween_48 (by decide) rfl (fun c48 => ?_) (fun c48 => ?_)
        · refine V.iconst (q := 66) dX5_passengersBetween_65 (v := 0) rfl rfl ?_
          refine V.iadd (q := 67) dX5_passengersBetween_66 rfl ?_
          rw [Int32.add_zero]
          refine V.istore_n (q := 68) dX5_passengersBetween_67 rfl rfl rfl rfl ?_
          refine V.iinc (q := 71) dX5_passengersBetween_68 rfl (by first | exact nI_inc _ | rfl) rfl rfl rfl ?_
          refine V.goto (tgt := 28) dX5_passengersBetween_71 (by decide) ?_
          refine V.to (L2 := [some (.ref (gB G + 94)), some (.int x), some (.int y), some (.int (nI (cnt (fun j => (ur u 0 j == x) && (ur u 1 j == y)) (i + 1)))), some (.int (nI (i + 1)))]) ?_ rfl rfl rfl (ih _ (by omega) (i + 1) rfl (by omega) g)
          rw [show cnt (fun j => (ur u 0 j == x) && (ur u 1 j == y)) (i + 1) = cnt (fun j => (ur u 0 j == x) && (ur u 1 j == y)) i by simp [cnt, c48]]
          rfl
        · refine V.aload_n (q := 52) dX5_passengersBetween_51 rfl rfl ?_
          refine V.iload (q := 54) dX5_passengersBetween_52 rfl rfl ?_
          refine V.cVM (q := 57) dX5_passengersBetween_54 (As := [_]) rfl (cM_destination hM (by omega)) MX5_destination bw_1200 rfl rfl rfl rfl (by decide) rfl ?_
          refine V.iload_n (q := 58) dX5_passengersBetween_57 rfl rfl ?_
          refine V.icmp_ne (tgt := 65) (q := 61) dX5_passengersBetween_58 (by decide) rfl (fun c58 => ?_) (fun c58 => ?_)
          · refine V.iconst (q := 66) dX5_passengersBetween_65 (v := 0) rfl rfl ?_
            refine V.iadd (q := 67) dX5_passengersBetween_66 rfl ?_
            rw [Int32.add_zero]
            refine V.istore_n (q := 68) dX5_passengersBetween_67 rfl rfl rfl rfl ?_
            refine V.iinc (q := 71) dX5_passengersBetween_68 rfl (by first | exact nI_inc _ | rfl) rfl rfl rfl ?_
            refine V.goto (tgt := 28) dX5_passengersBetween_71 (by decide) ?_
            refine V.to (L2 := [some (.ref (gB G + 94)), some (.int x), some (.int y), some (.int (nI (cnt (fun j => (ur u 0 j == x) && (ur u 1 j == y)) (i + 1)))), some (.int (nI (i + 1)))]) ?_ rfl rfl rfl (ih _ (by omega) (i + 1) rfl (by omega) g)
            rw [show cnt (fun j => (ur u 0 j == x) && (ur u 1 j == y)) (i + 1) = cnt (fun j => (ur u 0 j == x) && (ur u 1 j == y)) i by simp [cnt, c58]]
            rfl
          · refine V.iconst (q := 62) dX5_passengersBetween_61 (v := 1) rfl rfl ?_
            refine V.goto (tgt := 66) dX5_passengersBetween_62 (by decide) ?_
            refine V.iadd (q := 67) dX5_passengersBetween_66 rfl ?_
            rw [nI_1]
            refine V.istore_n (q := 68) dX5_passengersBetween_67 rfl rfl rfl rfl ?_
            refine V.iinc (q := 71) dX5_passengersBetween_68 rfl (by first | exact nI_inc _ | rfl) rfl rfl rfl ?_
            refine V.goto (tgt := 28) dX5_passengersBetween_71 (by decide) ?_
            refine V.to (L2 := [some (.ref (gB G + 94)), some (.int x), some (.int y), some (.int (nI (cnt (fun j => (ur u 0 j == x) && (ur u 1 j == y)) (i + 1)))), some (.int (nI (i + 1)))]) ?_ rfl rfl rfl (ih _ (by omega) (i + 1) rfl (by omega) g)
            rw [show cnt (fun j => (ur u 0 j == x) && (ur u 1 j == y)) (i + 1) = cnt (fun j => (ur u 0 j == x) && (ur u 1 j == y)) i + 1 by simp [cnt, c48, c58]]
            rfl
  refine V.aload_n (q := 1) dX5_passengersBetween_0 rfl rfl ?_
  refine V.iconst (q := 2) dX5_passengersBetween_1 (v := 0) rfl rfl ?_
  refine V.pM (q := 5) dX5_passengersBetween_2 (j := 0) rfl bw_1011 rfl rfl rfl rfl rfl rfl ?_
  refine V.aload_n (q := 6) dX5_passengersBetween_5 rfl rfl ?_
  refine V.iload_n (q := 7) dX5_passengersBetween_6 rfl rfl ?_
  refine V.cVMP (q := 10) (As := [_]) dX5_passengersBetween_7 rfl (kM_noF (x := x) hM hI) MX5_noFloor bw_1431 rfl rfl rfl rfl (by decide) rfl (fun v1 τ1 h1 => ?_)
  obtain ⟨rfl, h1⟩ := h1
  refine V.if_ne (tgt := 21) (q := 13) dX5_passengersBetween_10 (by decide) rfl (fun c10 => ?_) (fun c10 => ?_)
  · have gx : okF u x = false := by
      cases z : okF u x with
      | true => rw [z] at c10; exact absurd rfl c10
      | false => rfl
    rw [if_neg (by rw [gx]; decide)] at h1
    subst h1
    have g : (okF u x && okF u y) = false := okN1 gx
    refine V.iconst (q := 22) dX5_passengersBetween_21 (v := 0) rfl rfl ?_
    exact V.iret dX5_passengersBetween_22 rfl ⟨_, _, rfl, rfl, rfl, by rw [if_neg (by rw [g]; decide)], FrX.z.trans FrX.z, hM.scF, by rw [if_neg (by rw [g]; decide)]; exact thr_z⟩
  · have gx : okF u x = true := by
      cases z : okF u x with
      | true => rfl
      | false => rw [z] at c10; exact absurd c10 (by decide)
    rw [if_pos gx] at h1
    subst h1
    refine V.aload_n (q := 14) dX5_passengersBetween_13 rfl rfl ?_
    refine V.iload_n (q := 15) dX5_passengersBetween_14 rfl rfl ?_
    refine V.cVMP (q := 18) (As := [_]) dX5_passengersBetween_15 rfl (kM_noF (x := y) hM hI) MX5_noFloor bw_1431 rfl rfl rfl rfl (by decide) rfl (fun v1 τ1 h2 => ?_)
    obtain ⟨rfl, h2⟩ := h2
    refine V.if_eq (tgt := 23) (q := 21) dX5_passengersBetween_18 (by decide) rfl (fun c18 => ?_) (fun c18 => ?_)
    · have gy : okF u y = true := by
        cases z : okF u y with
        | true => rfl
        | false => rw [z] at c18; exact absurd c18 (by decide)
      rw [if_pos gy] at h2
      subst h2
      have g : (okF u x && okF u y) = true := okT gx gy
      refine V.iconst (q := 24) dX5_passengersBetween_23 (v := 0) rfl rfl ?_
      refine V.istore_n (q := 25) dX5_passengersBetween_24 rfl rfl rfl rfl ?_
      refine V.iconst (q := 26) dX5_passengersBetween_25 (v := 0) rfl rfl ?_
      refine V.istore (q := 28) dX5_passengersBetween_26 rfl rfl rfl ?_
      exact loop _ 0 rfl (Nat.zero_le _) g
    · have gy : okF u y = false := by
        cases z : okF u y with
        | true => rw [z] at c18; exact absurd rfl c18
        | false => rfl
      rw [if_neg (by rw [gy]; decide)] at h2
      subst h2
      have g : (okF u x && okF u y) = false := okN2 gy
      refine V.iconst (q := 22) dX5_passengersBetween_21 (v := 0) rfl rfl ?_
      exact V.iret dX5_passengersBetween_22 rfl ⟨_, _, rfl, rfl, rfl, by rw [if_neg (by rw [g]; decide)], FrX.z.trans FrX.z, hM.scF, by rw [if_neg (by rw [g]; decide)]; exact thr_z⟩
set_option maxHeartbeats 2000000 in
theorem kM_queueAt {l : Launch} {G : GG} {σ : St} {u : Vw} (hM : RM σ u) (hI : Iu u) {x y : Int32} : CtP l G TX5_queueAt 4 [.ref (gB G + 94), .int x, .int y] σ (fun v τ => v = some (.int (if okF u x = true then qaI u x y else 0)) ∧ FrX σ τ ∧ RM τ u ∧ thr τ = if okF u x = true then 0 else 1) := by
  have hn : un u ≤ 40 := hM.1
  have hM0 := hM
  have hM : RM (stF σ 94 0 0) u := hM.scF
  refine CtP.ofV (by decide +kernel) rfl rfl (Nat.le_of_ble_eq_true rfl) ?_
  have loop : ∀ (m : Nat) (i : Nat), m = un u - i → i ≤ un u → fst (qaB u x y) 0 (un u) = fst (qaB u x y) i (un u - i) → okF u x = true → V l G TX5_queueAt 4 0 0 (RetP G (fun v τ => v = some (.int (if okF u x = true then qaI u x y else 0)) ∧ FrX σ τ ∧ RM τ u ∧ thr τ = if okF u x = true then 0 else 1)) 0 0 17 [some (.ref (gB G + 94)), some (.int x), some (.int y), some (.int (nI i))] [] (hof G (stF σ 94 0 0)) NC := by
    intro m
    induction m using Nat.strongRecOn with
    | _ m ih =>
      intro i hm hile hf g
      refine V.iload_n (q := 18) dX5_queueAt_17 rfl rfl ?_
      refine V.aload_n (q := 19) dX5_queueAt_18 rfl rfl ?_
      refine V.gM (q := 22) dX5_queueAt_19 (j := 1) rfl bw_1012 rfl rfl rfl rfl ?_
      refine V.bipush (q := 24) dX5_queueAt_22 (v := 10) rfl rfl ?_
      refine V.ldMn (q := 25) dX5_queueAt_24 hM rfl rfl ?_
      refine V.icmp_ge (tgt := 63) (q := 28) dX5_queueAt_25 (by decide) rfl (fun c25 => ?_) (fun c25 => ?_)
      · have hie : i = un u := Nat.le_antisymm hile (nle c25 (by omega) (by omega))
        refine V.iconst (q := 64) dX5_queueAt_63 (v := -1) rfl rfl ?_
        exact V.iret dX5_queueAt_64 rfl ⟨_, _, rfl, rfl, rfl, by rw [if_pos g]; unfold qaI; rw [hf, hie, Nat.sub_self]; rfl, FrX.z, hM, by rw [if_pos g]; exact thr_z⟩
      · have hlt : i < un u := nnle c25 (by omega) (by omega)
        refine V.aload_n (q := 29) dX5_queueAt_28 rfl rfl ?_
        refine V.iload_n (q := 30) dX5_queueAt_29 rfl rfl ?_
        refine V.cVM (q := 33) dX5_queueAt_30 (As := [_]) rfl (cM_status hM (by omega)) MX5_status bw_1184 rfl rfl rfl rfl (by decide) rfl ?_
        refine V.iconst (q := 34) dX5_queueAt_33 (v := 1) rfl rfl ?_
        refine V.icmp_ne (tgt := 57) (q := 37) dX5_queueAt_34 (by decide) rfl (fun c34 => ?_) (fun c34 => ?_)
        · refine V.iinc (q := 60) dX5_queueAt_57 rfl (by first | exact nI_inc _ | rfl) rfl rfl rfl ?_
          refine V.goto (tgt := 17) dX5_queueAt_60 (by decide) ?_
          refine ih _ (by omega) (i + 1) rfl (by omega) ?_ g
          rw [hf, show un u - i = (un u - (i + 1)) + 1 by omega]
          have e9 : qaB u x y i = false := by simp [qaB, wtB, c34]
          simp [fst, e9]
        · refine V.aload_n (q := 38) dX5_queueAt_37 rfl rfl ?_
          refine V.iload_n (q := 39) dX5_queueAt_38 rfl rfl ?_
          refine V.cVM (q := 42) dX5_queueAt_39 (As := [_]) rfl (cM_origin hM (by omega)) MX5_origin bw_1204 rfl rfl rfl rfl (by decide) rfl ?_
          refine V.iload_n (q := 43) dX5_queueAt_42 rfl rfl ?_
          refine V.icmp_ne (tgt := 57) (q := 46) dX5_queueAt_43 (by decide) rfl (fun c43 => ?_) (fun c43 => ?_)
          · refine V.iinc (q := 60) dX5_queueAt_57 rfl (by first | exact nI_inc _ | rfl) rfl rfl rfl ?_
            refine V.goto (tgt := 17) dX5_queueAt_60 (by decide) ?_
            refine ih _ (by omega) (i + 1) rfl (by omega) ?_ g
            rw [hf, show un u - i = (un u - (i + 1)) + 1 by omega]
            have e9 : qaB u x y i = false := by simp [qaB, wtB, c43]
            simp [fst, e9]
          · refine V.aload_n (q := 47) dX5_queueAt_46 rfl rfl ?_
            refine V.iload_n (q := 48) dX5_queueAt_47 rfl rfl ?_
            refine V.cVM (q := 51) dX5_queueAt_48 (As := [_]) rfl (kM_ahead hM hlt) MX5_ahead bw_1443 rfl rfl rfl rfl (by decide) rfl ?_
            refine V.iload_n (q := 52) dX5_queueAt_51 rfl rfl ?_
            refine V.icmp_ne (tgt := 57) (q := 55) dX5_queueAt_52 (by decide) rfl (fun c52 => ?_) (fun c52 => ?_)
            · refine V.iinc (q := 60) dX5_queueAt_57 rfl (by first | exact nI_inc _ | rfl) rfl rfl rfl ?_
              refine V.goto (tgt := 17) dX5_queueAt_60 (by decide) ?_
              refine ih _ (by omega) (i + 1) rfl (by omega) ?_ g
              rw [hf, show un u - i = (un u - (i + 1)) + 1 by omega]
              have e9 : qaB u x y i = false := by simp [qaB, c52]
              simp [fst, e9]
            · refine V.iload_n (q := 56) dX5_queueAt_55 rfl rfl ?_
              exact V.iret dX5_queueAt_56 rfl ⟨_, _, rfl, rfl, rfl, by rw [if_pos g]; unfold qaI; rw [hf, show un u - i = (un u - (i + 1)) + 1 by omega]; simp [fst, qaB, wtB, c34, c43, c52, oI], FrX.z, hM, by rw [if_pos g]; exact thr_z⟩
  refine V.aload_n (q := 1) dX5_queueAt_0 rfl rfl ?_
  refine V.iconst (q := 2) dX5_queueAt_1 (v := 0) rfl rfl ?_
  refine V.pM (q := 5) dX5_queueAt_2 (j := 0) rfl bw_1011 rfl rfl rfl rfl rfl rfl ?_
  refine V.aload_n (q := 6) dX5_queueAt_5 rfl rfl ?_
  refine V.iload_n (q := 7) dX5_queueAt_6 rfl rfl ?_
  refine V.cVMP (q := 10) (As := [_]) dX5_queueAt_7 rfl (kM_noF hM hI) MX5_noFloor bw_1431 rfl rfl rfl rfl (by decide) rfl (fun v1 τ1 h1 => ?_)
  obtain ⟨rfl, h1⟩ := h1
  refine V.if_eq (tgt := 15) (q := 13) dX5_queueAt_10 (by decide) rfl (fun c10 => ?_) (fun c10 => ?_)
  · have g : okF u x = true := by
      cases z : okF u x with
      | true => rfl
      | false => rw [z] at c10; exact absurd c10 (by decide)
    rw [if_pos g] at h1
    subst h1
    refine V.iconst (q := 16) dX5_queueAt_15 (v := 0) rfl rfl ?_
    refine V.istore_n (q := 17) dX5_queueAt_16 rfl rfl rfl rfl ?_
    exact loop _ 0 rfl (Nat.zero_le _) rfl g
  · have g : okF u x = false := by
      cases z : okF u x with
      | true => rw [z] at c10; exact absurd rfl c10
      | false => rfl
    rw [if_neg (by rw [g]; decide)] at h1
    subst h1
    refine V.iconst (q := 14) dX5_queueAt_13 (v := 0) rfl rfl ?_
    exact V.iret dX5_queueAt_14 rfl ⟨_, _, rfl, rfl, rfl, by rw [if_neg (by rw [g]; decide)], FrX.z.trans FrX.z, hM.scF, by rw [if_neg (by rw [g]; decide)]; exact thr_z⟩
set_option maxHeartbeats 2000000 in
theorem kM_nextArrival {l : Launch} {G : GG} {σ : St} {u : Vw} (hM : RM σ u) (hI : Iu u) : CtP l G TX5_nextArrival 3 [.ref (gB G + 94)] σ (fun v τ => v = some (.int (nxI u (un u))) ∧ FrX σ τ ∧ RM τ u ∧ thr τ = 0) := by
  have hn : un u ≤ 40 := hM.1
  have hM0 := hM
  have hM : RM (stF σ 94 0 0) u := hM.scF
  refine CtP.ofV (by decide +kernel) rfl rfl (Nat.le_of_ble_eq_true rfl) ?_
  have loop : ∀ (m : Nat) (i : Nat) (L3 : Option Value), m = un u - i → i ≤ un u → V l G TX5_nextArrival 3 0 0 (RetP G (fun v τ => v = some (.int (nxI u (un u))) ∧ FrX σ τ ∧ RM τ u ∧ thr τ = 0)) 0 0 9 [some (.ref (gB G + 94)), some (.int (nxI u i)), some (.int (nI i)), L3] [] (hof G (stF σ 94 0 0)) NC := by
    intro m
    induction m using Nat.strongRecOn with
    | _ m ih =>
      intro i L3 hm hile
      refine V.iload_n (q := 10) dX5_nextArrival_9 rfl rfl ?_
      refine V.aload_n (q := 11) dX5_nextArrival_10 rfl rfl ?_
      refine V.gM (q := 14) dX5_nextArrival_11 (j := 1) rfl bw_1012 rfl rfl rfl rfl ?_
      refine V.bipush (q := 16) dX5_nextArrival_14 (v := 10) rfl rfl ?_
      refine V.ldMn (q := 17) dX5_nextArrival_16 hM rfl rfl ?_
      refine V.icmp_ge (tgt := 68) (q := 20) dX5_nextArrival_17 (by decide) rfl (fun c17 => ?_) (fun c17 => ?_)
      · have hie : i = un u := Nat.le_antisymm hile (nle c17 (by omega) (by omega))
        refine V.iload_n (q := 69) dX5_nextArrival_68 rfl rfl ?_
        exact V.iret dX5_nextArrival_69 rfl ⟨_, _, rfl, rfl, rfl, by rw [hie], FrX.z, hM, thr_z⟩
      · have hlt : i < un u := nnle c17 (by omega) (by omega)
        refine V.aload_n (q := 21) dX5_nextArrival_20 rfl rfl ?_
        refine V.iload_n (q := 22) dX5_nextArrival_21 rfl rfl ?_
        refine V.cVM (q := 25) dX5_nextArrival_22 (As := [_]) rfl (cM_status hM (by omega)) MX5_status bw_1184 rfl rfl rfl rfl (by decide) rfl ?_
        refine V.if_ne (tgt := 46) (q := 28) dX5_nextArrival_25 (by decide) rfl (fun c25 => ?_) (fun c25 => ?_)
        · refine V.iconst (q := 47) dX5_nextArrival_46 (v := 0) rfl rfl ?_
          refine V.istore_n (q := 48) dX5_nextArrival_47 rfl rfl rfl rfl ?_
          refine V.iload_n (q := 49) dX5_nextArrival_48 rfl rfl ?_
          refine V.if_eq (tgt := 60) (q := 52) dX5_nextArrival_49 (by decide) rfl (fun c49 => ?_) (fun c49 => ?_)
          · refine V.iload_n (q := 61) dX5_nextArrival_60 rfl rfl ?_
            refine V.istore_n (q := 62) dX5_nextArrival_61 rfl rfl rfl rfl ?_
            refine V.iinc (q := 65) dX5_nextArrival_62 rfl (by first | exact nI_inc _ | rfl) rfl rfl rfl ?_
            refine V.goto (tgt := 9) dX5_nextArrival_65 (by decide) ?_
            refine V.to (L2 := [some (.ref (gB G + 94)), some (.int (nxI u (i + 1))), some (.int (nI (i + 1))), some (.int 0)]) ?_ rfl rfl rfl (ih _ (by omega) (i + 1) _ rfl (by omega))
            simp only [nxI]
            rw [if_neg (fun z => c25 ((st0 hI hlt).mpr z.1))]
            rfl
          · exact absurd rfl c49
        · refine V.iload_n (q := 29) dX5_nextArrival_28 rfl rfl ?_
          refine V.iconst (q := 30) dX5_nextArrival_29 (v := -1) rfl rfl ?_
          refine V.icmp_eq (tgt := 42) (q := 33) dX5_nextArrival_30 (by decide) rfl (fun c30 => ?_) (fun c30 => ?_)
          · refine V.iconst (q := 43) dX5_nextArrival_42 (v := 1) rfl rfl ?_
            refine V.goto (tgt := 47) dX5_nextArrival_43 (by decide) ?_
            refine V.istore_n (q := 48) dX5_nextArrival_47 rfl rfl rfl rfl ?_
            refine V.iload_n (q := 49) dX5_nextArrival_48 rfl rfl ?_
            refine V.if_eq (tgt := 60) (q := 52) dX5_nextArrival_49 (by decide) rfl (fun c49 => ?_) (fun c49 => ?_)
            · exact absurd c49 (by decide)
            · refine V.aload_n (q := 53) dX5_nextArrival_52 rfl rfl ?_
              refine V.iload_n (q := 54) dX5_nextArrival_53 rfl rfl ?_
              refine V.cVM (q := 57) dX5_nextArrival_54 (As := [_]) rfl (cM_arrival hM (by omega)) MX5_arrival bw_1196 rfl rfl rfl rfl (by decide) rfl ?_
              refine V.goto (tgt := 61) dX5_nextArrival_57 (by decide) ?_
              refine V.istore_n (q := 62) dX5_nextArrival_61 rfl rfl rfl rfl ?_
              refine V.iinc (q := 65) dX5_nextArrival_62 rfl (by first | exact nI_inc _ | rfl) rfl rfl rfl ?_
              refine V.goto (tgt := 9) dX5_nextArrival_65 (by decide) ?_
              refine V.to (L2 := [some (.ref (gB G + 94)), some (.int (nxI u (i + 1))), some (.int (nI (i + 1))), some (.int 1)]) ?_ rfl rfl rfl (ih _ (by omega) (i + 1) _ rfl (by omega))
              simp only [nxI]
              rw [if_pos ⟨(st0 hI hlt).mp c25, Or.inl c30⟩]
              rfl
          · refine V.aload_n (q := 34) dX5_nextArrival_33 rfl rfl ?_
            refine V.iload_n (q := 35) dX5_nextArrival_34 rfl rfl ?_
            refine V.cVM (q := 38) dX5_nextArrival_35 (As := [_]) rfl (cM_arrival hM (by omega)) MX5_arrival bw_1196 rfl rfl rfl rfl (by decide) rfl ?_
            refine V.iload_n (q := 39) dX5_nextArrival_38 rfl rfl ?_
            refine V.icmp_ge (tgt := 46) (q := 42) dX5_nextArrival_39 (by decide) rfl (fun c39 => ?_) (fun c39 => ?_)
            · refine V.iconst (q := 47) dX5_nextArrival_46 (v := 0) rfl rfl ?_
              refine V.istore_n (q := 48) dX5_nextArrival_47 rfl rfl rfl rfl ?_
              refine V.iload_n (q := 49) dX5_nextArrival_48 rfl rfl ?_
              refine V.if_eq (tgt := 60) (q := 52) dX5_nextArrival_49 (by decide) rfl (fun c49 => ?_) (fun c49 => ?_)
              · refine V.iload_n (q := 61) dX5_nextArrival_60 rfl rfl ?_
                refine V.istore_n (q := 62) dX5_nextArrival_61 rfl rfl rfl rfl ?_
                refine V.iinc (q := 65) dX5_nextArrival_62 rfl (by first | exact nI_inc _ | rfl) rfl rfl rfl ?_
                refine V.goto (tgt := 9) dX5_nextArrival_65 (by decide) ?_
                refine V.to (L2 := [some (.ref (gB G + 94)), some (.int (nxI u (i + 1))), some (.int (nI (i + 1))), some (.int 0)]) ?_ rfl rfl rfl (ih _ (by omega) (i + 1) _ rfl (by omega))
                simp only [nxI]
                rw [if_neg (fun z => z.2.elim c30 (fun y => absurd y (Int32.not_lt.mpr c39)))]
                rfl
              · exact absurd rfl c49
            · refine V.iconst (q := 43) dX5_nextArrival_42 (v := 1) rfl rfl ?_
              refine V.goto (tgt := 47) dX5_nextArrival_43 (by decide) ?_
              refine V.istore_n (q := 48) dX5_nextArrival_47 rfl rfl rfl rfl ?_
              refine V.iload_n (q := 49) dX5_nextArrival_48 rfl rfl ?_
              refine V.if_eq (tgt := 60) (q := 52) dX5_nextArrival_49 (by decide) rfl (fun c49 => ?_) (fun c49 => ?_)
              · exact absurd c49 (by decide)
              · refine V.aload_n (q := 53) dX5_nextArrival_52 rfl rfl ?_
                refine V.iload_n (q := 54) dX5_nextArrival_53 rfl rfl ?_
                refine V.cVM (q := 57) dX5_nextArrival_54 (As := [_]) rfl (cM_arrival hM (by omega)) MX5_arrival bw_1196 rfl rfl rfl rfl (by decide) rfl ?_
                refine V.goto (tgt := 61) dX5_nextArrival_57 (by decide) ?_
                refine V.istore_n (q := 62) dX5_nextArrival_61 rfl rfl rfl rfl ?_
                refine V.iinc (q := 65) dX5_nextArrival_62 rfl (by first | exact nI_inc _ | rfl) rfl rfl rfl ?_
                refine V.goto (tgt := 9) dX5_nextArrival_65 (by decide) ?_
                refine V.to (L2 := [some (.ref (gB G + 94)), some (.int (nxI u (i + 1))), some (.int (nI (i + 1))), some (.int 1)]) ?_ rfl rfl rfl (ih _ (by omega) (i + 1) _ rfl (by omega))
                simp only [nxI]
                rw [if_pos ⟨(st0 hI hlt).mp c25, Or.inr (Int32.not_le.mp c39)⟩]
                rfl
  refine V.aload_n (q := 1) dX5_nextArrival_0 rfl rfl ?_
  refine V.iconst (q := 2) dX5_nextArrival_1 (v := 0) rfl rfl ?_
  refine V.pM (q := 5) dX5_nextArrival_2 (j := 0) rfl bw_1011 rfl rfl rfl rfl rfl rfl ?_
  refine V.iconst (q := 6) dX5_nextArrival_5 (v := -1) rfl rfl ?_
  refine V.istore_n (q := 7) dX5_nextArrival_6 rfl rfl rfl rfl ?_
  refine V.iconst (q := 8) dX5_nextArrival_7 (v := 0) rfl rfl ?_
  refine V.istore_n (q := 9) dX5_nextArrival_8 rfl rfl rfl rfl ?_
  exact loop _ 0 _ rfl (Nat.zero_le _)
set_option maxHeartbeats 2000000 in
theorem kM_lastDone {l : Launch} {G : GG} {σ : St} {u : Vw} (hM : RM σ u) (hI : Iu u) : CtP l G TX5_lastDone 2 [.ref (gB G + 94)] σ (fun v τ => v = some (.int (oI (ldN u (un u)))) ∧ FrX σ τ ∧ RM τ u ∧ thr τ = 0) := by
  have hn : un u ≤ 40 := hM.1
  have hM0 := hM
  have hM : RM (stF σ 94 0 0) u := hM.scF
  refine CtP.ofV (by decide +kernel) rfl rfl (Nat.le_of_ble_eq_true rfl) ?_
  have loop : ∀ (m : Nat) (i : Nat) (L3 : Option Value), m = un u - i → i ≤ un u → V l G TX5_lastDone 2 0 0 (RetP G (fun v τ => v = some (.int (oI (ldN u (un u)))) ∧ FrX σ τ ∧ RM τ u ∧ thr τ = 0)) 0 0 9 [some (.ref (gB G + 94)), some (.int (oI (ldN u i))), some (.int (nI i)), L3] [] (hof G (stF σ 94 0 0)) NC := by
    intro m
    induction m using Nat.strongRecOn with
    | _ m ih =>
      intro i L3 hm hile
      refine V.iload_n (q := 10) dX5_lastDone_9 rfl rfl ?_
      refine V.aload_n (q := 11) dX5_lastDone_10 rfl rfl ?_
      refine V.gM (q := 14) dX5_lastDone_11 (j := 1) rfl bw_1012 rfl rfl rfl rfl ?_
      refine V.bipush (q := 16) dX5_lastDone_14 (v := 10) rfl rfl ?_
      refine V.ldMn (q := 17) dX5_lastDone_16 hM rfl rfl ?_
      refine V.icmp_ge (tgt := 69) (q := 20) dX5_lastDone_17 (by decide) rfl (fun c17 => ?_) (fun c17 => ?_)
      · have hie : i = un u := Nat.le_antisymm hile (nle c17 (by omega) (by omega))
        refine V.iload_n (q := 70) dX5_lastDone_69 rfl rfl ?_
        exact V.iret dX5_lastDone_70 rfl ⟨_, _, rfl, rfl, rfl, by rw [hie], FrX.z, hM, thr_z⟩
      · have hlt : i < un u := nnle c17 (by omega) (by omega)
        refine V.aload_n (q := 21) dX5_lastDone_20 rfl rfl ?_
        refine V.iload_n (q := 22) dX5_lastDone_21 rfl rfl ?_
        refine V.cVM (q := 25) dX5_lastDone_22 (As := [_]) rfl (cM_left hM (by omega)) MX5_left bw_1188 rfl rfl rfl rfl (by decide) rfl ?_
        refine V.iconst (q := 26) dX5_lastDone_25 (v := -1) rfl rfl ?_
        refine V.icmp_eq (tgt := 51) (q := 29) dX5_lastDone_26 (by decide) rfl (fun c26 => ?_) (fun c26 => ?_)
        · refine V.iconst (q := 52) dX5_lastDone_51 (v := 0) rfl rfl ?_
          refine V.istore_n (q := 53) dX5_lastDone_52 rfl rfl rfl rfl ?_
          refine V.iload_n (q := 54) dX5_lastDone_53 rfl rfl ?_
          refine V.if_eq (tgt := 61) (q := 57) dX5_lastDone_54 (by decide) rfl (fun c54 => ?_) (fun c54 => ?_)
          · refine V.iload_n (q := 62) dX5_lastDone_61 rfl rfl ?_
            refine V.istore_n (q := 63) dX5_lastDone_62 rfl rfl rfl rfl ?_
            refine V.iinc (q := 66) dX5_lastDone_63 rfl (by first | exact nI_inc _ | rfl) rfl rfl rfl ?_
            refine V.goto (tgt := 9) dX5_lastDone_66 (by decide) ?_
            refine V.to (L2 := [some (.ref (gB G + 94)), some (.int (oI (ldN u (i + 1)))), some (.int (nI (i + 1))), some (.int 0)]) ?_ rfl rfl rfl (ih _ (by omega) (i + 1) _ rfl (by omega))
            rw [ldN_m1 (fun j hj => hI.h4 j (by omega)) c26]
            rfl
          · exact absurd rfl c54
        · cases hld : ldN u i with
          | none =>
            show V _ _ _ _ _ _ _ _ _ _ [_, some (.int (-1)), _, _] _ _ _
            refine V.iload_n (q := 30) dX5_lastDone_29 rfl rfl ?_
            refine V.iconst (q := 31) dX5_lastDone_30 (v := -1) rfl rfl ?_
            refine V.icmp_eq (tgt := 47) (q := 34) dX5_lastDone_31 (by decide) rfl (fun c31 => ?_) (fun c31 => ?_)
            · refine V.iconst (q := 48) dX5_lastDone_47 (v := 1) rfl rfl ?_
              refine V.goto (tgt := 52) dX5_lastDone_48 (by decide) ?_
              refine V.istore_n (q := 53) dX5_lastDone_52 rfl rfl rfl rfl ?_
              refine V.iload_n (q := 54) dX5_lastDone_53 rfl rfl ?_
              refine V.if_eq (tgt := 61) (q := 57) dX5_lastDone_54 (by decide) rfl (fun c54 => ?_) (fun c54 => ?_)
              · exact absurd c54 (by decide)
              · refine V.iload_n (q := 58) dX5_lastDone_57 rfl rfl ?_
                refine V.goto (tgt := 62) dX5_lastDone_58 (by decide) ?_
                refine V.istore_n (q := 63) dX5_lastDone_62 rfl rfl rfl rfl ?_
                refine V.iinc (q := 66) dX5_lastDone_63 rfl (by first | exact nI_inc _ | rfl) rfl rfl rfl ?_
                refine V.goto (tgt := 9) dX5_lastDone_66 (by decide) ?_
                refine V.to (L2 := [some (.ref (gB G + 94)), some (.int (oI (ldN u (i + 1)))), some (.int (nI (i + 1))), some (.int 1)]) ?_ rfl rfl rfl (ih _ (by omega) (i + 1) _ rfl (by omega))
                rw [show ldN u (i + 1) = some i by simp [ldN, hld, c26]]
                rfl
            · exact absurd rfl c31
          | some g =>
            have hg : g < un u := by have := ldN_lt hld; omega
            show V _ _ _ _ _ _ _ _ _ _ [_, some (.int (nI g)), _, _] _ _ _
            refine V.iload_n (q := 30) dX5_lastDone_29 rfl rfl ?_
            refine V.iconst (q := 31) dX5_lastDone_30 (v := -1) rfl rfl ?_
            refine V.icmp_eq (tgt := 47) (q := 34) dX5_lastDone_31 (by decide) rfl (fun c31 => ?_) (fun c31 => ?_)
            · exact absurd c31 (nne1 (by omega))
            · refine V.aload_n (q := 35) dX5_lastDone_34 rfl rfl ?_
              refine V.iload_n (q := 36) dX5_lastDone_35 rfl rfl ?_
              refine V.cVM (q := 39) dX5_lastDone_36 (As := [_]) rfl (cM_left hM (by omega)) MX5_left bw_1188 rfl rfl rfl rfl (by decide) rfl ?_
              refine V.aload_n (q := 40) dX5_lastDone_39 rfl rfl ?_
              refine V.iload_n (q := 41) dX5_lastDone_40 rfl rfl ?_
              refine V.cVM (q := 44) dX5_lastDone_41 (As := [_]) rfl (cM_left hM hg) MX5_left bw_1188 rfl rfl rfl rfl (by decide) rfl ?_
              refine V.icmp_le (tgt := 51) (q := 47) dX5_lastDone_44 (by decide) rfl (fun c44 => ?_) (fun c44 => ?_)
              · refine V.iconst (q := 52) dX5_lastDone_51 (v := 0) rfl rfl ?_
                refine V.istore_n (q := 53) dX5_lastDone_52 rfl rfl rfl rfl ?_
                refine V.iload_n (q := 54) dX5_lastDone_53 rfl rfl ?_
                refine V.if_eq (tgt := 61) (q := 57) dX5_lastDone_54 (by decide) rfl (fun c54 => ?_) (fun c54 => ?_)
                · refine V.iload_n (q := 62) dX5_lastDone_61 rfl rfl ?_
                  refine V.istore_n (q := 63) dX5_lastDone_62 rfl rfl rfl rfl ?_
                  refine V.iinc (q := 66) dX5_lastDone_63 rfl (by first | exact nI_inc _ | rfl) rfl rfl rfl ?_
                  refine V.goto (tgt := 9) dX5_lastDone_66 (by decide) ?_
                  refine V.to (L2 := [some (.ref (gB G + 94)), some (.int (oI (ldN u (i + 1)))), some (.int (nI (i + 1))), some (.int 0)]) ?_ rfl rfl rfl (ih _ (by omega) (i + 1) _ rfl (by omega))
                  rw [show ldN u (i + 1) = some g by simp [ldN, hld, Int32.not_lt.mpr c44]]
                  rfl
                · exact absurd rfl c54
              · refine V.iconst (q := 48) dX5_lastDone_47 (v := 1) rfl rfl ?_
                refine V.goto (tgt := 52) dX5_lastDone_48 (by decide) ?_
                refine V.istore_n (q := 53) dX5_lastDone_52 rfl rfl rfl rfl ?_
                refine V.iload_n (q := 54) dX5_lastDone_53 rfl rfl ?_
                refine V.if_eq (tgt := 61) (q := 57) dX5_lastDone_54 (by decide) rfl (fun c54 => ?_) (fun c54 => ?_)
                · exact absurd c54 (by decide)
                · refine V.iload_n (q := 58) dX5_lastDone_57 rfl rfl ?_
                  refine V.goto (tgt := 62) dX5_lastDone_58 (by decide) ?_
                  refine V.istore_n (q := 63) dX5_lastDone_62 rfl rfl rfl rfl ?_
                  refine V.iinc (q := 66) dX5_lastDone_63 rfl (by first | exact nI_inc _ | rfl) rfl rfl rfl ?_
                  refine V.goto (tgt := 9) dX5_lastDone_66 (by decide) ?_
                  refine V.to (L2 := [some (.ref (gB G + 94)), some (.int (oI (ldN u (i + 1)))), some (.int (nI (i + 1))), some (.int 1)]) ?_ rfl rfl rfl (ih _ (by omega) (i + 1) _ rfl (by omega))
                  rw [show ldN u (i + 1) = some i by simp [ldN, hld, Int32.not_le.mp c44]]
                  rfl
  refine V.aload_n (q := 1) dX5_lastDone_0 rfl rfl ?_
  refine V.iconst (q := 2) dX5_lastDone_1 (v := 0) rfl rfl ?_
  refine V.pM (q := 5) dX5_lastDone_2 (j := 0) rfl bw_1011 rfl rfl rfl rfl rfl rfl ?_
  refine V.iconst (q := 6) dX5_lastDone_5 (v := -1) rfl rfl ?_
  refine V.istore_n (q := 7) dX5_lastDone_6 rfl rfl rfl rfl ?_
  refine V.iconst (q := 8) dX5_lastDone_7 (v := 0) rfl rfl ?_
  refine V.istore_n (q := 9) dX5_lastDone_8 rfl rfl rfl rfl ?_
  exact loop _ 0 _ rfl (Nat.zero_le _)
theorem stN_le (u : Vw) (f : Int32) : stN u f ≤ un u := cnt_le _ _
set_option maxHeartbeats 2000000 in
theorem kM_busiestOrigin {l : Launch} {G : GG} {σ : St} {u : Vw} (hM : RM σ u) (hI : Iu u) : CtP l G TX5_busiestOrigin 3 [.ref (gB G + 94)] σ (fun v τ => v = some (.int (oI (boC u (uN u)).1)) ∧ FrX σ τ ∧ RM τ u ∧ thr τ = 0) := by
  have hn : un u ≤ 40 := hM.1
  have hM0 := hM
  have hM : RM (stF σ 94 0 0) u := hM.scF
  obtain ⟨hF, hN, hFN, h20, h2⟩ := hI.F
  refine CtP.ofV (by decide +kernel) rfl rfl (Nat.le_of_ble_eq_true rfl) ?_
  have loop : ∀ (m : Nat) (j : Nat), m = uN u - 1 - j → j ≤ uN u - 1 → V l G TX5_busiestOrigin 3 0 0 (RetP G (fun v τ => v = some (.int (oI (boC u (uN u)).1)) ∧ FrX σ τ ∧ RM τ u ∧ thr τ = 0)) 0 0 9 [some (.ref (gB G + 94)), some (.int (nI (boM u j))), some (.int (nI (j + 1)))] [] (hof G (stF σ 94 0 0)) NC := by
    intro m
    induction m using Nat.strongRecOn with
    | _ m ih =>
      intro j hm hj
      have hbl := boM_le u j
      refine V.iload_n (q := 10) dX5_busiestOrigin_9 rfl rfl ?_
      refine V.aload_n (q := 11) dX5_busiestOrigin_10 rfl rfl ?_
      refine V.gM (q := 14) dX5_busiestOrigin_11 (j := 1) rfl bw_1012 rfl rfl rfl rfl ?_
      refine V.iconst (q := 15) dX5_busiestOrigin_14 (v := 0) rfl rfl ?_
      refine V.ldMu (q := 16) 0 dX5_busiestOrigin_15 hM rfl rfl rfl ?_
      refine V.icmp_ge (tgt := 44) (q := 19) dX5_busiestOrigin_16 (by decide) rfl (fun c16 => ?_) (fun c16 => ?_)
      · rw [hN] at c16
        have hje : uN u - 1 = j := by have := nle c16 (by omega) (by omega); omega
        refine V.aload_n (q := 45) dX5_busiestOrigin_44 rfl rfl ?_
        refine V.gM (q := 48) dX5_busiestOrigin_45 (j := 1) rfl bw_1012 rfl rfl rfl rfl ?_
        refine V.bipush (q := 50) dX5_busiestOrigin_48 (v := 10) rfl rfl ?_
        refine V.ldMn (q := 51) dX5_busiestOrigin_50 hM rfl rfl ?_
        refine V.if_ne (tgt := 58) (q := 54) dX5_busiestOrigin_51 (by decide) rfl (fun c51 => ?_) (fun c51 => ?_)
        · have h0 : ¬ un u = 0 := fun z => c51 (by rw [z]; rfl)
          refine V.iload_n (q := 59) dX5_busiestOrigin_58 rfl rfl ?_
          exact V.iret dX5_busiestOrigin_59 rfl ⟨_, _, rfl, rfl, rfl, by rw [← bo_eq hI, if_neg h0, hje], FrX.z, hM, thr_z⟩
        · have h0 : un u = 0 := neq (b := 0) c51 (by omega) (by decide)
          refine V.iconst (q := 55) dX5_busiestOrigin_54 (v := -1) rfl rfl ?_
          refine V.goto (tgt := 59) dX5_busiestOrigin_55 (by decide) ?_
          exact V.iret dX5_busiestOrigin_59 rfl ⟨_, _, rfl, rfl, rfl, by rw [← bo_eq hI, if_pos h0], FrX.z, hM, thr_z⟩
      · rw [hN] at c16
        have hlt := nnle (a := uN u) (b := j + 1) c16 (by omega) (by omega)
        have hs1 := stN_le u (nI (j + 1))
        have hs2 := stN_le u (nI (boM u j))
        refine V.aload_n (q := 20) dX5_busiestOrigin_19 rfl rfl ?_
        refine V.iload_n (q := 21) dX5_busiestOrigin_20 rfl rfl ?_
        refine V.cVM (q := 24) dX5_busiestOrigin_21 (As := [_]) rfl (kM_startingAt hM) MX5_startingAt bw_1459 rfl rfl rfl rfl (by decide) rfl ?_
        refine V.aload_n (q := 25) dX5_busiestOrigin_24 rfl rfl ?_
        refine V.iload_n (q := 26) dX5_busiestOrigin_25 rfl rfl ?_
        refine V.cVM (q := 29) dX5_busiestOrigin_26 (As := [_]) rfl (kM_startingAt hM) MX5_startingAt bw_1459 rfl rfl rfl rfl (by decide) rfl ?_
        refine V.icmp_le (tgt := 36) (q := 32) dX5_busiestOrigin_29 (by decide) rfl (fun c29 => ?_) (fun c29 => ?_)
        · refine V.iload_n (q := 37) dX5_busiestOrigin_36 rfl rfl ?_
          refine V.istore_n (q := 38) dX5_busiestOrigin_37 rfl rfl rfl rfl ?_
          refine V.iinc (q := 41) dX5_busiestOrigin_38 rfl (by first | exact nI_inc _ | rfl) rfl rfl rfl ?_
          refine V.goto (tgt := 9) dX5_busiestOrigin_41 (by decide) ?_
          refine V.to (L2 := [some (.ref (gB G + 94)), some (.int (nI (boM u (j + 1)))), some (.int (nI (j + 1 + 1)))]) ?_ rfl rfl rfl (ih _ (by omega) (j + 1) rfl (by omega))
          rw [show boM u (j + 1) = boM u j from if_neg (fun z => absurd (nle c29 (by omega) (by omega)) (Nat.not_le.mpr z))]
          rfl
        · refine V.iload_n (q := 33) dX5_busiestOrigin_32 rfl rfl ?_
          refine V.goto (tgt := 37) dX5_busiestOrigin_33 (by decide) ?_
          refine V.istore_n (q := 38) dX5_busiestOrigin_37 rfl rfl rfl rfl ?_
          refine V.iinc (q := 41) dX5_busiestOrigin_38 rfl (by first | exact nI_inc _ | rfl) rfl rfl rfl ?_
          refine V.goto (tgt := 9) dX5_busiestOrigin_41 (by decide) ?_
          refine V.to (L2 := [some (.ref (gB G + 94)), some (.int (nI (boM u (j + 1)))), some (.int (nI (j + 1 + 1)))]) ?_ rfl rfl rfl (ih _ (by omega) (j + 1) rfl (by omega))
          rw [show boM u (j + 1) = j + 1 from if_pos (nnle (a := stN u (nI (j + 1))) (b := stN u (nI (boM u j))) c29 (by omega) (by omega))]
          rfl
  refine V.aload_n (q := 1) dX5_busiestOrigin_0 rfl rfl ?_
  refine V.iconst (q := 2) dX5_busiestOrigin_1 (v := 0) rfl rfl ?_
  refine V.pM (q := 5) dX5_busiestOrigin_2 (j := 0) rfl bw_1011 rfl rfl rfl rfl rfl rfl ?_
  refine V.iconst (q := 6) dX5_busiestOrigin_5 (v := 0) rfl rfl ?_
  refine V.istore_n (q := 7) dX5_busiestOrigin_6 rfl rfl rfl rfl ?_
  refine V.iconst (q := 8) dX5_busiestOrigin_7 (v := 1) rfl rfl ?_
  refine V.istore_n (q := 9) dX5_busiestOrigin_8 rfl rfl rfl rfl ?_
  exact loop _ 0 rfl (Nat.zero_le _)
