/-! the model's output texts; input -/
set_option maxHeartbeats 2000000 in
theorem kM_writeStatus {l : Launch} {G : GG} {σ : St} {u : Vw} (hM : RM σ u)  : CtP l G TX5_writeStatus 3 [.ref (gB G + 94)] σ (fun v τ => v = some (.int (nI (un u))) ∧ FrMO σ τ ∧ MO τ (wrST u (un u)) ∧ thr τ = 0) := by
  have hn : un u ≤ 40 := hM.1
  refine CtP.ofV (by decide +kernel) rfl rfl (Nat.le_of_ble_eq_true rfl) ?_
  have loop : ∀ (m : Nat) (i : Nat) (τ : St) (L2 : Option Value), m = un u - i → i ≤ un u → RM τ u → FrMO σ τ → MO τ (wrST u i) → thr τ = 0 → V l G TX5_writeStatus 3 0 0 (RetP G (fun v τ => v = some (.int (nI (un u))) ∧ FrMO σ τ ∧ MO τ (wrST u (un u)) ∧ thr τ = 0)) 0 0 12 [some (.ref (gB G + 94)), some (.int (nI i)), L2] [] (hof G τ) NC := by
    intro m
    induction m using Nat.strongRecOn with
    | _ m ih =>
      intro i τ L2 hm hile hM hfr hO hT
      refine V.iload_n (q := 13) dX5_writeStatus_12 rfl rfl ?_
      refine V.aload_n (q := 14) dX5_writeStatus_13 rfl rfl ?_
      refine V.gM (q := 17) dX5_writeStatus_14 (j := 1) rfl bw_1012 rfl rfl rfl rfl ?_
      refine V.bipush (q := 19) dX5_writeStatus_17 (v := 10) rfl rfl ?_
      refine V.ldMn (q := 20) dX5_writeStatus_19 hM rfl rfl ?_
      refine V.icmp_ge (tgt := 70) (q := 23) dX5_writeStatus_20 (by decide) rfl (fun c20 => ?_) (fun c20 => ?_)
      · have hie : i = un u := Nat.le_antisymm hile (nle c20 (by omega) (by omega))
        refine V.aload_n (q := 71) dX5_writeStatus_70 rfl rfl ?_
        refine V.gM (q := 74) dX5_writeStatus_71 (j := 15) rfl bw_1026 rfl rfl rfl rfl ?_
        rw [hO.1, wrST_len, hie]
        exact V.iret dX5_writeStatus_74 rfl ⟨_, _, rfl, rfl, rfl, rfl, hfr, by rw [← hie]; exact hO, hT⟩
      · have hlt : i < un u := nnle c20 (by omega) (by omega)
        refine V.aload_n (q := 24) dX5_writeStatus_23 rfl rfl ?_
        refine V.iload_n (q := 25) dX5_writeStatus_24 rfl rfl ?_
        refine V.cVM (q := 28) dX5_writeStatus_25 (As := [_]) rfl (cM_status hM hlt) MX5_status bw_1184 rfl rfl rfl rfl (by decide) rfl ?_
        refine V.istore_n (q := 29) dX5_writeStatus_28 rfl rfl rfl rfl ?_
        refine V.aload_n (q := 30) dX5_writeStatus_29 rfl rfl ?_
        refine V.iload_n (q := 31) dX5_writeStatus_30 rfl rfl ?_
        refine V.if_ne (tgt := 39) (q := 34) dX5_writeStatus_31 (by decide) rfl (fun c31 => ?_) (fun c31 => ?_)
        · refine V.iload_n (q := 40) dX5_writeStatus_39 rfl rfl ?_
          refine V.iconst (q := 41) dX5_writeStatus_40 (v := 1) rfl rfl ?_
          refine V.icmp_ne (tgt := 49) (q := 44) dX5_writeStatus_41 (by decide) rfl (fun c41 => ?_) (fun c41 => ?_)
          · refine V.iload_n (q := 50) dX5_writeStatus_49 rfl rfl ?_
            refine V.iconst (q := 51) dX5_writeStatus_50 (v := 2) rfl rfl ?_
            refine V.icmp_ne (tgt := 59) (q := 54) dX5_writeStatus_51 (by decide) rfl (fun c51 => ?_) (fun c51 => ?_)
            · refine V.bipush (q := 61) dX5_writeStatus_59 (v := 100) rfl rfl ?_
              refine V.cVMP (q := 64) (As := [_]) dX5_writeStatus_61 rfl (kM_write (o := wrST u i) (x := 100) hO (by rw [wrST_len]; omega) ⟨100, by decide, rfl⟩) MX5_write bw_1596 rfl rfl rfl rfl (by decide) rfl (fun v1 τ1 h1 => ?_)
              obtain ⟨rfl, hfr1, hO, hT1⟩ := h1
              have hM := hfr1.RM hM
              have hfr := hfr.trans hfr1
              have hT := hT1.trans hT
              have el : lttr (stat u i) = 100 := by rw [(((stat_4 u i).resolve_left c31).resolve_left c41).resolve_left c51]; rfl
              have hO : MO τ1 (wrST u (i + 1)) := by
                show MO τ1 (wr (wrST u i) (lttr (stat u i)))
                rw [el]
                exact hO
              refine V.iinc (q := 67) dX5_writeStatus_64 rfl (by first | exact nI_inc _ | rfl) rfl rfl rfl ?_
              refine V.goto (tgt := 12) dX5_writeStatus_67 (by decide) ?_
              exact ih _ (by omega) (i + 1) _ _ rfl (by omega) hM hfr hO hT
            · refine V.bipush (q := 56) dX5_writeStatus_54 (v := 114) rfl rfl ?_
              refine V.goto (tgt := 61) dX5_writeStatus_56 (by decide) ?_
              refine V.cVMP (q := 64) (As := [_]) dX5_writeStatus_61 rfl (kM_write (o := wrST u i) (x := 114) hO (by rw [wrST_len]; omega) ⟨114, by decide, rfl⟩) MX5_write bw_1596 rfl rfl rfl rfl (by decide) rfl (fun v1 τ1 h1 => ?_)
              obtain ⟨rfl, hfr1, hO, hT1⟩ := h1
              have hM := hfr1.RM hM
              have hfr := hfr.trans hfr1
              have hT := hT1.trans hT
              have el : lttr (stat u i) = 114 := by rw [c51]; rfl
              have hO : MO τ1 (wrST u (i + 1)) := by
                show MO τ1 (wr (wrST u i) (lttr (stat u i)))
                rw [el]
                exact hO
              refine V.iinc (q := 67) dX5_writeStatus_64 rfl (by first | exact nI_inc _ | rfl) rfl rfl rfl ?_
              refine V.goto (tgt := 12) dX5_writeStatus_67 (by decide) ?_
              exact ih _ (by omega) (i + 1) _ _ rfl (by omega) hM hfr hO hT
          · refine V.bipush (q := 46) dX5_writeStatus_44 (v := 119) rfl rfl ?_
            refine V.goto (tgt := 61) dX5_writeStatus_46 (by decide) ?_
            refine V.cVMP (q := 64) (As := [_]) dX5_writeStatus_61 rfl (kM_write (o := wrST u i) (x := 119) hO (by rw [wrST_len]; omega) ⟨119, by decide, rfl⟩) MX5_write bw_1596 rfl rfl rfl rfl (by decide) rfl (fun v1 τ1 h1 => ?_)
            obtain ⟨rfl, hfr1, hO, hT1⟩ := h1
            have hM := hfr1.RM hM
            have hfr := hfr.trans hfr1
            have hT := hT1.trans hT
            have el : lttr (stat u i) = 119 := by rw [c41]; rfl
            have hO : MO τ1 (wrST u (i + 1)) := by
              show MO τ1 (wr (wrST u i) (lttr (stat u i)))
              rw [el]
              exact hO
            refine V.iinc (q := 67) dX5_writeStatus_64 rfl (by first | exact nI_inc _ | rfl) rfl rfl rfl ?_
            refine V.goto (tgt := 12) dX5_writeStatus_67 (by decide) ?_
            exact ih _ (by omega) (i + 1) _ _ rfl (by omega) hM hfr hO hT
        · refine V.bipush (q := 36) dX5_writeStatus_34 (v := 46) rfl rfl ?_
          refine V.goto (tgt := 61) dX5_writeStatus_36 (by decide) ?_
          refine V.cVMP (q := 64) (As := [_]) dX5_writeStatus_61 rfl (kM_write (o := wrST u i) (x := 46) hO (by rw [wrST_len]; omega) ⟨46, by decide, rfl⟩) MX5_write bw_1596 rfl rfl rfl rfl (by decide) rfl (fun v1 τ1 h1 => ?_)
          obtain ⟨rfl, hfr1, hO, hT1⟩ := h1
          have hM := hfr1.RM hM
          have hfr := hfr.trans hfr1
          have hT := hT1.trans hT
          have el : lttr (stat u i) = 46 := by rw [c31]; rfl
          have hO : MO τ1 (wrST u (i + 1)) := by
            show MO τ1 (wr (wrST u i) (lttr (stat u i)))
            rw [el]
            exact hO
          refine V.iinc (q := 67) dX5_writeStatus_64 rfl (by first | exact nI_inc _ | rfl) rfl rfl rfl ?_
          refine V.goto (tgt := 12) dX5_writeStatus_67 (by decide) ?_
          exact ih _ (by omega) (i + 1) _ _ rfl (by omega) hM hfr hO hT
  refine V.aload_n (q := 1) dX5_writeStatus_0 rfl rfl ?_
  refine V.iconst (q := 2) dX5_writeStatus_1 (v := 0) rfl rfl ?_
  refine V.pM (q := 5) dX5_writeStatus_2 (j := 0) rfl bw_1011 rfl rfl rfl rfl rfl rfl ?_
  refine V.aload_n (q := 6) dX5_writeStatus_5 rfl rfl ?_
  refine V.iconst (q := 7) dX5_writeStatus_6 (v := 0) rfl rfl ?_
  refine V.pM (q := 10) dX5_writeStatus_7 (j := 15) rfl bw_1026 rfl rfl rfl rfl rfl rfl ?_
  refine V.iconst (q := 11) dX5_writeStatus_10 (v := 0) rfl rfl ?_
  refine V.istore_n (q := 12) dX5_writeStatus_11 rfl rfl rfl rfl ?_
  exact loop _ 0 _ _ rfl (Nat.zero_le _) (FrMO.len.RM (FrMO.z.RM hM)) (FrMO.z.trans FrMO.len) MO.zero (thr_15.trans thr_z)
set_option maxHeartbeats 2000000 in
theorem kM_writeBuilding {l : Launch} {G : GG} {σ : St} {u : Vw} (hM : RM σ u) (hI : Iu u) : CtP l G TX5_writeBuilding 4 [.ref (gB G + 94)] σ (fun v τ => v = some (.int (nI (wbT u (uN u)).1)) ∧ FrMO σ τ ∧ MO τ (wbT u (uN u)) ∧ thr τ = 0) := by
  have hn : un u ≤ 40 := hM.1
  obtain ⟨hF, hN, hFN, h20, -⟩ := hI.F
  refine CtP.ofV (by decide +kernel) rfl rfl (Nat.le_of_ble_eq_true rfl) ?_
  have loop : ∀ (m : Nat) (i : Nat) (τ : St), m = uN u - i → i ≤ uN u → RM τ u → FrMO σ τ → MO τ (wbT u i) → thr τ = 0 → V l G TX5_writeBuilding 4 0 0 (RetP G (fun v τ => v = some (.int (nI (wbT u (uN u)).1)) ∧ FrMO σ τ ∧ MO τ (wbT u (uN u)) ∧ thr τ = 0)) 0 0 12 [some (.ref (gB G + 94)), some (.int (nI i))] [] (hof G τ) NC := by
    intro m
    induction m using Nat.strongRecOn with
    | _ m ih =>
      intro i τ hm hile hM hfr hO hT
      refine V.iload_n (q := 13) dX5_writeBuilding_12 rfl rfl ?_
      refine V.aload_n (q := 14) dX5_writeBuilding_13 rfl rfl ?_
      refine V.gM (q := 17) dX5_writeBuilding_14 (j := 1) rfl bw_1012 rfl rfl rfl rfl ?_
      refine V.iconst (q := 18) dX5_writeBuilding_17 (v := 0) rfl rfl ?_
      refine V.ldMu (q := 19) 0 dX5_writeBuilding_18 hM rfl rfl rfl ?_
      refine V.icmp_ge (tgt := 72) (q := 22) dX5_writeBuilding_19 (by decide) rfl (fun c19 => ?_) (fun c19 => ?_)
      · have hie : i = uN u := Nat.le_antisymm hile (nle (by rw [hN] at c19; exact c19) (by omega) (by omega))
        refine V.aload_n (q := 73) dX5_writeBuilding_72 rfl rfl ?_
        refine V.gM (q := 76) dX5_writeBuilding_73 (j := 15) rfl bw_1026 rfl rfl rfl rfl ?_
        rw [hO.1, hie]
        exact V.iret dX5_writeBuilding_76 rfl ⟨_, _, rfl, rfl, rfl, rfl, hfr, by rw [← hie]; exact hO, hT⟩
      · have hlt : i < uN u := nnle (a := uN u) (b := i) (by rw [hN] at c19; exact c19) (by omega) (by omega)
        have hlen := wbT_len ⟨show uF u < 20 by omega, hF⟩ i (by omega)
        have hl2 : (wbT u i).1 ≤ 3 * i + 3 := by have := hlen.1; split at this <;> omega
        have hlC := wbC_len (wbT u i) i
        have hlN := (wrN_len (o := wbC (wbT u i) i) (n := wtN u (nI i))).1
        have hwn := wtN_le u (nI i)
        have hmn : many u 2 ≤ un u := cnt_le _ _
        refine V.iload_n (q := 23) dX5_writeBuilding_22 rfl rfl ?_
        refine V.if_le (tgt := 32) (q := 26) dX5_writeBuilding_23 (by decide) rfl (fun c23 => ?_) (fun c23 => ?_)
        · have hi0 : i = 0 := Nat.le_zero.mp (nle (b := 0) c23 (by omega) (by decide))
          have hO : MO τ (wbC (wbT u i) i) := by unfold wbC; rw [if_pos hi0]; exact hO
          refine V.aload_n (q := 33) dX5_writeBuilding_32 rfl rfl ?_
          refine V.aload_n (q := 34) dX5_writeBuilding_33 rfl rfl ?_
          refine V.iload_n (q := 35) dX5_writeBuilding_34 rfl rfl ?_
          refine V.cVM (q := 38) dX5_writeBuilding_35 (As := [_]) rfl (kM_waiting hM) MX5_waiting bw_1435 rfl rfl rfl rfl (by decide) rfl ?_
          refine V.cVMP (q := 41) (As := [_]) dX5_writeBuilding_38 rfl (kM_writeNumber (o := wbC (wbT u i) i) (n := wtN u (nI i)) hO (by omega) (by omega)) MX5_writeNumber bw_1604 rfl rfl rfl rfl (by decide) rfl (fun v1 τ1 h1 => ?_)
          obtain ⟨rfl, hfr1, hO, hT1⟩ := h1
          have hM := hfr1.RM hM
          have hfr := hfr.trans hfr1
          have hT := hT1.trans hT
          refine V.iload_n (q := 42) dX5_writeBuilding_41 rfl rfl ?_
          refine V.aload_n (q := 43) dX5_writeBuilding_42 rfl rfl ?_
          refine V.gM (q := 46) dX5_writeBuilding_43 (j := 1) rfl bw_1012 rfl rfl rfl rfl ?_
          refine V.iconst (q := 47) dX5_writeBuilding_46 (v := 4) rfl rfl ?_
          refine V.ldMu (q := 48) 4 dX5_writeBuilding_47 hM rfl rfl rfl ?_
          refine V.icmp_ne (tgt := 66) (q := 51) dX5_writeBuilding_48 (by decide) rfl (fun c48 => ?_) (fun c48 => ?_)
          · refine V.iinc (q := 69) dX5_writeBuilding_66 rfl (by first | exact nI_inc _ | rfl) rfl rfl rfl ?_
            refine V.goto (tgt := 12) dX5_writeBuilding_69 (by decide) ?_
            have ew : (wrN (wbC (wbT u i) i) (wtN u (nI i))) = wbT u (i + 1) := by
              show _ = wbL u (wrN (wbC (wbT u i) i) (wtN u (nI i))) i
              unfold wbL
              rw [if_neg c48]
            rw [ew] at hO
            exact ih _ (by omega) (i + 1) _ rfl (by omega) hM hfr hO hT
          · refine V.aload_n (q := 52) dX5_writeBuilding_51 rfl rfl ?_
            refine V.bipush (q := 54) dX5_writeBuilding_52 (v := 42) rfl rfl ?_
            refine V.cVMP (q := 57) (As := [_]) dX5_writeBuilding_54 rfl (kM_write (o := (wrN (wbC (wbT u i) i) (wtN u (nI i)))) hO (by omega) ⟨42, by decide, rfl⟩) MX5_write bw_1596 rfl rfl rfl rfl (by decide) rfl (fun v1 τ1 h1 => ?_)
            obtain ⟨rfl, hfr1, hO, hT1⟩ := h1
            have hM := hfr1.RM hM
            have hfr := hfr.trans hfr1
            have hT := hT1.trans hT
            refine V.aload_n (q := 58) dX5_writeBuilding_57 rfl rfl ?_
            refine V.aload_n (q := 59) dX5_writeBuilding_58 rfl rfl ?_
            refine V.iconst (q := 60) dX5_writeBuilding_59 (v := 2) rfl rfl ?_
            refine V.cVM (q := 63) dX5_writeBuilding_60 (As := [_]) rfl (cM_many hM) MX5_many bw_1180 rfl rfl rfl rfl (by decide) rfl ?_
            refine V.cVMP (q := 66) (As := [_]) dX5_writeBuilding_63 rfl (kM_writeNumber (o := wr (wrN (wbC (wbT u i) i) (wtN u (nI i))) 42) (n := many u 2) hO (by show (wrN (wbC (wbT u i) i) (wtN u (nI i))).1 + 1 + 2 ≤ 80; omega) (by omega)) MX5_writeNumber bw_1604 rfl rfl rfl rfl (by decide) rfl (fun v1 τ1 h1 => ?_)
            obtain ⟨rfl, hfr1, hO, hT1⟩ := h1
            have hM := hfr1.RM hM
            have hfr := hfr.trans hfr1
            have hT := hT1.trans hT
            refine V.iinc (q := 69) dX5_writeBuilding_66 rfl (by first | exact nI_inc _ | rfl) rfl rfl rfl ?_
            refine V.goto (tgt := 12) dX5_writeBuilding_69 (by decide) ?_
            have ew : wrN (wr (wrN (wbC (wbT u i) i) (wtN u (nI i))) 42) (many u 2) = wbT u (i + 1) := by
              show _ = wbL u (wrN (wbC (wbT u i) i) (wtN u (nI i))) i
              unfold wbL
              rw [if_pos c48]
            rw [ew] at hO
            exact ih _ (by omega) (i + 1) _ rfl (by omega) hM hfr hO hT
        · have hi0 : ¬ i = 0 := fun z => by subst z; exact c23 (Int32.le_refl _)
          refine V.aload_n (q := 27) dX5_writeBuilding_26 rfl rfl ?_
          refine V.bipush (q := 29) dX5_writeBuilding_27 (v := 44) rfl rfl ?_
          refine V.cVMP (q := 32) (As := [_]) dX5_writeBuilding_29 rfl (kM_write (o := wbT u i) hO (by omega) ⟨44, by decide, rfl⟩) MX5_write bw_1596 rfl rfl rfl rfl (by decide) rfl (fun v1 τ1 h1 => ?_)
          obtain ⟨rfl, hfr1, hO, hT1⟩ := h1
          have hM := hfr1.RM hM
          have hfr := hfr.trans hfr1
          have hT := hT1.trans hT
          have hO : MO τ1 (wbC (wbT u i) i) := by unfold wbC; rw [if_neg hi0]; exact hO
          refine V.aload_n (q := 33) dX5_writeBuilding_32 rfl rfl ?_
          refine V.aload_n (q := 34) dX5_writeBuilding_33 rfl rfl ?_
          refine V.iload_n (q := 35) dX5_writeBuilding_34 rfl rfl ?_
          refine V.cVM (q := 38) dX5_writeBuilding_35 (As := [_]) rfl (kM_waiting hM) MX5_waiting bw_1435 rfl rfl rfl rfl (by decide) rfl ?_
          refine V.cVMP (q := 41) (As := [_]) dX5_writeBuilding_38 rfl (kM_writeNumber (o := wbC (wbT u i) i) (n := wtN u (nI i)) hO (by omega) (by omega)) MX5_writeNumber bw_1604 rfl rfl rfl rfl (by decide) rfl (fun v1 τ1 h1 => ?_)
          obtain ⟨rfl, hfr1, hO, hT1⟩ := h1
          have hM := hfr1.RM hM
          have hfr := hfr.trans hfr1
          have hT := hT1.trans hT
          refine V.iload_n (q := 42) dX5_writeBuilding_41 rfl rfl ?_
          refine V.aload_n (q := 43) dX5_writeBuilding_42 rfl rfl ?_
          refine V.gM (q := 46) dX5_writeBuilding_43 (j := 1) rfl bw_1012 rfl rfl rfl rfl ?_
          refine V.iconst (q := 47) dX5_writeBuilding_46 (v := 4) rfl rfl ?_
          refine V.ldMu (q := 48) 4 dX5_writeBuilding_47 hM rfl rfl rfl ?_
          refine V.icmp_ne (tgt := 66) (q := 51) dX5_writeBuilding_48 (by decide) rfl (fun c48 => ?_) (fun c48 => ?_)
          · refine V.iinc (q := 69) dX5_writeBuilding_66 rfl (by first | exact nI_inc _ | rfl) rfl rfl rfl ?_
            refine V.goto (tgt := 12) dX5_writeBuilding_69 (by decide) ?_
            have ew : (wrN (wbC (wbT u i) i) (wtN u (nI i))) = wbT u (i + 1) := by
              show _ = wbL u (wrN (wbC (wbT u i) i) (wtN u (nI i))) i
              unfold wbL
              rw [if_neg c48]
            rw [ew] at hO
            exact ih _ (by omega) (i + 1) _ rfl (by omega) hM hfr hO hT
          · refine V.aload_n (q := 52) dX5_writeBuilding_51 rfl rfl ?_
            refine V.bipush (q := 54) dX5_writeBuilding_52 (v := 42) rfl rfl ?_
            refine V.cVMP (q := 57) (As := [_]) dX5_writeBuilding_54 rfl (kM_write (o := (wrN (wbC (wbT u i) i) (wtN u (nI i)))) hO (by omega) ⟨42, by decide, rfl⟩) MX5_write bw_1596 rfl rfl rfl rfl (by decide) rfl (fun v1 τ1 h1 => ?_)
            obtain ⟨rfl, hfr1, hO, hT1⟩ := h1
            have hM := hfr1.RM hM
            have hfr := hfr.trans hfr1
            have hT := hT1.trans hT
            refine V.aload_n (q := 58) dX5_writeBuilding_57 rfl rfl ?_
            refine V.aload_n (q := 59) dX5_writeBuilding_58 rfl rfl ?_
            refine V.iconst (q := 60) dX5_writeBuilding_59 (v := 2) rfl rfl ?_
            refine V.cVM (q := 63) dX5_writeBuilding_60 (As := [_]) rfl (cM_many hM) MX5_many bw_1180 rfl rfl rfl rfl (by decide) rfl ?_
            refine V.cVMP (q := 66) (As := [_]) dX5_writeBuilding_63 rfl (kM_writeNumber (o := wr (wrN (wbC (wbT u i) i) (wtN u (nI i))) 42) (n := many u 2) hO (by show (wrN (wbC (wbT u i) i) (wtN u (nI i))).1 + 1 + 2 ≤ 80; omega) (by omega)) MX5_writeNumber bw_1604 rfl rfl rfl rfl (by decide) rfl (fun v1 τ1 h1 => ?_)
            obtain ⟨rfl, hfr1, hO, hT1⟩ := h1
            have hM := hfr1.RM hM
            have hfr := hfr.trans hfr1
            have hT := hT1.trans hT
            refine V.iinc (q := 69) dX5_writeBuilding_66 rfl (by first | exact nI_inc _ | rfl) rfl rfl rfl ?_
            refine V.goto (tgt := 12) dX5_writeBuilding_69 (by decide) ?_
            have ew : wrN (wr (wrN (wbC (wbT u i) i) (wtN u (nI i))) 42) (many u 2) = wbT u (i + 1) := by
              show _ = wbL u (wrN (wbC (wbT u i) i) (wtN u (nI i))) i
              unfold wbL
              rw [if_pos c48]
            rw [ew] at hO
            exact ih _ (by omega) (i + 1) _ rfl (by omega) hM hfr hO hT
  refine V.aload_n (q := 1) dX5_writeBuilding_0 rfl rfl ?_
  refine V.iconst (q := 2) dX5_writeBuilding_1 (v := 0) rfl rfl ?_
  refine V.pM (q := 5) dX5_writeBuilding_2 (j := 0) rfl bw_1011 rfl rfl rfl rfl rfl rfl ?_
  refine V.aload_n (q := 6) dX5_writeBuilding_5 rfl rfl ?_
  refine V.iconst (q := 7) dX5_writeBuilding_6 (v := 0) rfl rfl ?_
  refine V.pM (q := 10) dX5_writeBuilding_7 (j := 15) rfl bw_1026 rfl rfl rfl rfl rfl rfl ?_
  refine V.iconst (q := 11) dX5_writeBuilding_10 (v := 0) rfl rfl ?_
  refine V.istore_n (q := 12) dX5_writeBuilding_11 rfl rfl rfl rfl ?_
  exact loop _ 0 _ rfl (Nat.zero_le _) (FrMO.len.RM (FrMO.z.RM hM)) (FrMO.z.trans FrMO.len) MO.zero (thr_15.trans thr_z)
def FrMI (σ τ : St) : Prop := (∀ k j, ¬ (k = 94 ∧ (j = 0 ∨ j = 7)) → sF τ k j = sF σ k j) ∧ (∀ k, k ≠ 97 → sA τ k = sA σ k) ∧ τ.2.2 = σ.2.2
theorem FrMI.rf {σ : St} : FrMI σ σ := ⟨fun _ _ _ => rfl, fun _ _ => rfl, rfl⟩
theorem FrMI.trans {σ τ υ : St} (h : FrMI σ τ) (h2 : FrMI τ υ) : FrMI σ υ := ⟨fun k j a => (h2.1 k j a).trans (h.1 k j a), fun k a => (h2.2.1 k a).trans (h.2.1 k a), h2.2.2.trans h.2.2⟩
theorem FrMI.z {σ : St} {x : Int32} : FrMI σ (stF σ 94 0 x) := ⟨fun k j a => by
  show up2 (sF σ) 94 0 x k j = _
  rw [up2_if, if_neg (fun z => a ⟨z.1, Or.inl z.2⟩)], fun _ _ => rfl, rfl⟩
theorem FrMI.len {σ : St} {x : Int32} : FrMI σ (stF σ 94 7 x) := ⟨fun k j a => by
  show up2 (sF σ) 94 7 x k j = _
  rw [up2_if, if_neg (fun z => a ⟨z.1, Or.inr z.2⟩)], fun _ _ => rfl, rfl⟩
theorem FrMI.ar {σ : St} {i : Nat} {x : Int32} : FrMI σ (stA σ 97 i x) := ⟨fun _ _ _ => rfl, fun k a => (up2_ne a), rfl⟩
theorem MI.z {σ : St} {o : Txt} {x : Int32} (h : MI σ o) : MI (stF σ 94 0 x) o := ⟨(up2_in (by decide) : up2 (sF σ) 94 0 x 94 7 = sF σ 94 7).trans h.1, h.2⟩
theorem MI_cut {σ : St} {o : Txt} {x : Int32} (h : MI σ o) (h1 : 0 ≤ x.toInt) (hx : x.toNatClampNeg ≤ o.1) : MI (stF σ 94 7 x) (x.toNatClampNeg, o.2) := ⟨(up2_at : up2 (sF σ) 94 7 x 94 7 = x).trans (nI_back h1), fun i hi => h.2 i (by have hi : i < x.toNatClampNeg := hi; omega)⟩
theorem MI_wr {σ : St} {o : Txt} {x z : Int32} (h : MI σ o) (hz : z = nI (o.1 + 1)) : MI (stF (stA σ 97 o.1 x) 94 7 z) (wr o x) := ⟨(up2_at : up2 (sF σ) 94 7 z 94 7 = z).trans hz, fun i hi => by
  show up2 (sA σ) 97 o.1 x 97 i = if i = o.1 then x else o.2 i
  rw [up2_if]
  by_cases e : i = o.1
  · rw [if_pos ⟨rfl, e⟩, if_pos e]
  · rw [if_neg (fun w => e w.2), if_neg e]
    exact h.2 i (by have hi : i < o.1 + 1 := hi; omega)⟩
theorem thr_7 {σ : St} {x : Int32} : thr (stF σ 94 7 x) = thr σ := (up2_in (by decide) : up2 (sF σ) 94 7 x 94 0 = sF σ 94 0)
set_option maxHeartbeats 2000000 in
theorem kM_parseError {l : Launch} {G : GG} {σ : St}   : CtP l G TX5_parseError 0 [.ref (gB G + 94)] σ (fun v τ => v = some (.int (sF σ 94 11)) ∧ FrX σ τ ∧ thr τ = 0) := by
  refine CtP.ofV (by decide +kernel) rfl rfl (Nat.le_of_ble_eq_true rfl) ?_
  refine V.aload_n (q := 1) dX5_parseError_0 rfl rfl ?_
  refine V.iconst (q := 2) dX5_parseError_1 (v := 0) rfl rfl ?_
  refine V.pM (q := 5) dX5_parseError_2 (j := 0) rfl bw_1011 rfl rfl rfl rfl rfl rfl ?_
  refine V.aload_n (q := 6) dX5_parseError_5 rfl rfl ?_
  refine V.gM (q := 9) dX5_parseError_6 (j := 11) rfl bw_1022 rfl rfl rfl rfl ?_
  rw [show sF (stF σ 94 0 0) 94 11 = sF σ 94 11 from (up2_in (by decide) : up2 (sF σ) 94 0 0 94 11 = sF σ 94 11)]
  exact V.iret dX5_parseError_9 rfl ⟨_, _, rfl, rfl, rfl, rfl, FrX.z, thr_z⟩
set_option maxHeartbeats 2000000 in
theorem kM_parseErrorPosition {l : Launch} {G : GG} {σ : St}   : CtP l G TX5_parseErrorPosition 0 [.ref (gB G + 94)] σ (fun v τ => v = some (.int (sF σ 94 10)) ∧ FrX σ τ ∧ thr τ = 0) := by
  refine CtP.ofV (by decide +kernel) rfl rfl (Nat.le_of_ble_eq_true rfl) ?_
  refine V.aload_n (q := 1) dX5_parseErrorPosition_0 rfl rfl ?_
  refine V.iconst (q := 2) dX5_parseErrorPosition_1 (v := 0) rfl rfl ?_
  refine V.pM (q := 5) dX5_parseErrorPosition_2 (j := 0) rfl bw_1011 rfl rfl rfl rfl rfl rfl ?_
  refine V.aload_n (q := 6) dX5_parseErrorPosition_5 rfl rfl ?_
  refine V.gM (q := 9) dX5_parseErrorPosition_6 (j := 10) rfl bw_1021 rfl rfl rfl rfl ?_
  rw [show sF (stF σ 94 0 0) 94 10 = sF σ 94 10 from (up2_in (by decide) : up2 (sF σ) 94 0 0 94 10 = sF σ 94 10)]
  exact V.iret dX5_parseErrorPosition_9 rfl ⟨_, _, rfl, rfl, rfl, rfl, FrX.z, thr_z⟩
set_option maxHeartbeats 2000000 in
theorem kM_truncate {l : Launch} {G : GG} {σ : St} {o : Txt}  (hI : MI σ o) (ho : o.1 ≤ 500) {x : Int32} : CtP l G TX5_truncate 0 [.ref (gB G + 94), .int x] σ (fun w τ => w = some (.int (bI (trB o x))) ∧ FrMI σ τ ∧ MI τ (if trB o x = true then (x.toNatClampNeg, o.2) else o) ∧ thr τ = 0) := by
  refine CtP.ofV (by decide +kernel) rfl rfl (Nat.le_of_ble_eq_true rfl) ?_
  refine V.aload_n (q := 1) dX5_truncate_0 rfl rfl ?_
  refine V.iconst (q := 2) dX5_truncate_1 (v := 0) rfl rfl ?_
  refine V.pM (q := 5) dX5_truncate_2 (j := 0) rfl bw_1011 rfl rfl rfl rfl rfl rfl ?_
  have hI : MI (stF σ 94 0 0) o := hI.z
  refine V.iload_n (q := 6) dX5_truncate_5 rfl rfl ?_
  refine V.if_lt (tgt := 17) (q := 9) dX5_truncate_6 (by decide) rfl (fun c6 => ?_) (fun c6 => ?_)
  · have g : trB o x = false := okN1 (nge c6)
    refine V.iconst (q := 18) dX5_truncate_17 (v := 0) rfl rfl ?_
    exact V.zret (ty := .boolean) rfl dX5_truncate_18 rfl ⟨_, _, rfl, rfl, rfl, by rw [g]; rfl, FrMI.z, by rw [g]; exact hI, thr_z⟩
  · refine V.iload_n (q := 10) dX5_truncate_9 rfl rfl ?_
    refine V.aload_n (q := 11) dX5_truncate_10 rfl rfl ?_
    refine V.gM (q := 14) dX5_truncate_11 (j := 7) rfl bw_1018 rfl rfl rfl rfl ?_
    rw [hI.1]
    refine V.icmp_le (tgt := 19) (q := 17) dX5_truncate_14 (by decide) rfl (fun c14 => ?_) (fun c14 => ?_)
    · have g : trB o x = true := okT (ge0 c6) (leT c14)
      obtain ⟨h0, hle⟩ := trB_i ho g
      refine V.aload_n (q := 20) dX5_truncate_19 rfl rfl ?_
      refine V.iload_n (q := 21) dX5_truncate_20 rfl rfl ?_
      refine V.pM (q := 24) dX5_truncate_21 (j := 7) rfl bw_1018 rfl rfl rfl rfl rfl rfl ?_
      refine V.iconst (q := 25) dX5_truncate_24 (v := 1) rfl rfl ?_
      exact V.zret (ty := .boolean) rfl dX5_truncate_25 rfl ⟨_, _, rfl, rfl, rfl, by rw [g]; rfl, FrMI.z.trans FrMI.len, by rw [g]; exact MI_cut hI h0 hle, thr_7.trans thr_z⟩
    · have g : trB o x = false := okN2 (nleT c14)
      refine V.iconst (q := 18) dX5_truncate_17 (v := 0) rfl rfl ?_
      exact V.zret (ty := .boolean) rfl dX5_truncate_18 rfl ⟨_, _, rfl, rfl, rfl, by rw [g]; rfl, FrMI.z, by rw [g]; exact hI, thr_z⟩
