/-! the model's output texts; input -/
set_option maxHeartbeats 2000000 in
theorem kM_writeStatus {l : Launch} {G : GG} {σ : St} {u : Vw} (hM : RM σ u)  : CtP l G TX5_writeStatus 3 [.ref (gB G + 94)] σ (fun v τ => v = some (.int (nI (un u))) ∧ FrMO σ τ ∧ MO τ (wrST u (un u)) ∧ thr τ = 0) := by
  have hn : un u ≤ 40 := hM.1
  refine CtP.ofV (by decide +kernel) rfl rfl (Nat.le_of_ble_eq_true rfl) ?_
  have loop : ∀ (m : Nat) (i : Nat) (τ : St) (L2 : Option Value), m = un u - i → i ≤ un u → RM τ u → FrMO σ τ → MO τ (wrST u i) → thr τ = 0 → V l G TX5_writeStatus 3 0 0 (RetP G (fun v τ => v = some (.int (nI (un u))) ∧ FrMO σ τ ∧ MO τ (wrST u (un u)) ∧ thr τ = 0)) 0 0 12 [some (.ref (gB G + 94)), some (.int (nI i)), L2] [] (hof G τ) NC := by
    intro m
    induction m using Nat.strongRecOn with
    | _ m ih =>
      intro i τ L2 hm hile hM hfr hO hT
      refine V.iload_n (q := 13) dX5_writeStatus_12 rfl rfl ?_
      refine V.aload_n (q := 14) dX5_writeStatus_13 rfl rfl ?_
      refine V.gM (q := 17) dX5_writeStatus_14 (j := 1) rfl bw_1008 rfl rfl rfl rfl ?_
      refine V.bipush (q := 19) dX5_writeStatus_17 (v := 10) rfl rfl ?_
      refine V.ldMn (q := 20) dX5_writeStatus_19 hM rfl rfl ?_
      refine V.icmp_ge (tgt := 70) (q := 23) dX5_writeStatus_20 (by decide) rfl (fun c20 => ?_) (fun c20 => ?_)
      · have hie : i = un u := Nat.le_antisymm hile (nle c20 (by omega) (by omega))
        refine V.aload_n (q := 71) dX5_writeStatus_70 rfl rfl ?_
        refine V.gM (q := 74) dX5_writeStatus_71 (j := 15) rfl bw_1022 rfl rfl rfl rfl ?_
        rw [hO.1, wrST_len, hie]
        exact V.iret dX5_writeStatus_74 rfl ⟨_, _, rfl, rfl, rfl, rfl, hfr, by rw [← hie]; exact hO, hT⟩
      · have hlt : i < un u := nnle c20 (by omega) (by omega)
        refine V.aload_n (q := 24) dX5_writeStatus_23 rfl rfl ?_
        refine V.iload_n (q := 25) dX5_writeStatus_24 rfl rfl ?_
        refine V.cVM (q := 28) dX5_writeStatus_25 (As := [_]) rfl (cM_status hM hlt) MX5_status bw_1180 rfl rfl rfl rfl (by decide) rfl ?_
        refine V.istore_n (q := 29) dX5_writeStatus_28 rfl rfl rfl rfl ?_
        refine V.aload_n (q := 30) dX5_writeStatus_29 rfl rfl ?_
        refine V.iload_n (q := 31) dX5_writeStatus_30 rfl rfl ?_
        refine V.if_ne (tgt := 39) (q := 34) dX5_writeStatus_31 (by decide) rfl (fun c31 => ?_) (fun c31 => ?_)
        · refine V.iload_n (q := 40) dX5_writeStatus_39 rfl rfl ?_
          refine V.iconst (q := 41) dX5_writeStatus_40 (v := 1) rfl rfl ?_
          refine V.icmp_ne (tgt := 49) (q := 44) dX5_writeStatus_41 (by decide) rfl (fun c41 => ?_) (fun c41 => ?_)
          · refine V.iload_n (q := 50) dX5_writeStatus_49 rfl rfl ?_
            refine V.iconst (q := 51) dX5_writeStatus_50 (v := 2) rfl rfl ?_
            refine V.icmp_ne (tgt := 59) (q := 54) dX5_writeStatus_51 (by decide) rfl (fun c51 => ?_) (fun c51 => ?_)
            · refine V.bipush (q := 61) dX5_writeStatus_59 (v := 100) rfl rfl ?_
              refine V.cVMP (q := 64) (As := [_]) dX5_writeStatus_61 rfl (kM_write (o := wrST u i) (x := 100) hO (by rw [wrST_len]; omega) ⟨100, by decide, rfl⟩) MX5_write bw_1592 rfl rfl rfl rfl (by decide) rfl (fun v1 τ1 h1 => ?_)
              obtain ⟨rfl, hfr1, hO, hT1⟩ := h1
              have hM := hfr1.RM hM
              have hfr := hfr.trans hfr1
              have hT := hT1.trans hT
              have el : lttr (stat u i) = 100 := by rw [(((stat_4 u i).resolve_left c31).resolve_left c41).resolve_left c51]; rfl
              have hO : MO τ1 (wrST u (i + 1)) := by
                show MO τ1 (wr (wrST u i) (lttr (stat u i)))
                rw [el]
                exact hO
              refine V.iinc (q := 67) dX5_writeStatus_64 rfl (by first | exact nI_inc _ | rfl) rfl rfl rfl ?_
              refine V.goto (tgt := 12) dX5_writeStatus_67 (by decide) ?_
              exact ih _ (by omega) (i + 1) _ _ rfl (by omega) hM hfr hO hT
            · refine V.bipush (q := 56) dX5_writeStatus_54 (v := 114) rfl rfl ?_
              refine V.goto (tgt := 61) dX5_writeStatus_56 (by decide) ?_
              refine V.cVMP (q := 64) (As := [_]) dX5_writeStatus_61 rfl (kM_write (o := wrST u i) (x := 114) hO (by rw [wrST_len]; omega) ⟨114, by decide, rfl⟩) MX5_write bw_1592 rfl rfl rfl rfl (by decide) rfl (fun v1 τ1 h1 => ?_)
              obtain ⟨rfl, hfr1, hO, hT1⟩ := h1
              have hM := hfr1.RM hM
              have hfr := hfr.trans hfr1
              have hT := hT1.trans hT
              have el : lttr (stat u i) = 114 := by rw [c51]; rfl
              have hO : MO τ1 (wrST u (i + 1)) := by
                show MO τ1 (wr (wrST u i) (lttr (stat u i)))
                rw [el]
                exact hO
              refine V.iinc (q := 67) dX5_writeStatus_64 rfl (by first | exact nI_inc _ | rfl) rfl rfl rfl ?_
              refine V.goto (tgt := 12) dX5_writeStatus_67 (by decide) ?_
              exact ih _ (by omega) (i + 1) _ _ rfl (by omega) hM hfr hO hT
          · refine V.bipush (q := 46) dX5_writeStatus_44 (v := 119) rfl rfl ?_
            refine V.goto (tgt := 61) dX5_writeStatus_46 (by decide) ?_
            refine V.cVMP (q := 64) (As := [_]) dX5_writeStatus_61 rfl (kM_write (o := wrST u i) (x := 119) hO (by rw [wrST_len]; omega) ⟨119, by decide, rfl⟩) MX5_write bw_1592 rfl rfl rfl rfl (by decide) rfl (fun v1 τ1 h1 => ?_)
            obtain ⟨rfl, hfr1, hO, hT1⟩ := h1
            have hM := hfr1.RM hM
            have hfr := hfr.trans hfr1
            have hT := hT1.trans hT
            have el : lttr (stat u i) = 119 := by rw [c41]; rfl
            have hO : MO τ1 (wrST u (i + 1)) := by
              show MO τ1 (wr (wrST u i) (lttr (stat u i)))
              rw [el]
              exact hO
            refine V.iinc (q := 67) dX5_writeStatus_64 rfl (by first | exact nI_inc _ | rfl) rfl rfl rfl ?_
            refine V.goto (tgt := 12) dX5_writeStatus_67 (by decide) ?_
            exact ih _ (by omega) (i + 1) _ _ rfl (by omega) hM hfr hO hT
        · refine V.bipush (q := 36) dX5_writeStatus_34 (v := 46) rfl rfl ?_
          refine V.goto (tgt := 61) dX5_writeStatus_36 (by decide) ?_
          refine V.cVMP (q := 64) (As := [_]) dX5_writeStatus_61 rfl (kM_write (o := wrST u i) (x := 46) hO (by rw [wrST_len]; omega) ⟨46, by decide, rfl⟩) MX5_write bw_1592 rfl rfl rfl rfl (by decide) rfl (fun v1 τ1 h1 => ?_)
          obtain ⟨rfl, hfr1, hO, hT1⟩ := h1
          have hM := hfr1.RM hM
          have hfr := hfr.trans hfr1
          have hT := hT1.trans hT
          have el : lttr (stat u i) = 46 := by rw [c31]; rfl
          have hO : MO τ1 (wrST u (i + 1)) := by
            show MO τ1 (wr (wrST u i) (lttr (stat u i)))
            rw [el]
            exact hO
          refine V.iinc (q := 67) dX5_writeStatus_64 rfl (by first | exact nI_inc _ | rfl) rfl rfl rfl ?_
          refine V.goto (tgt := 12) dX5_writeStatus_67 (by decide) ?_
          exact ih _ (by omega) (i + 1) _ _ rfl (by omega) hM hfr hO hT
  refine V.aload_n (q := 1) dX5_writeStatus_0 rfl rfl ?_
  refine V.iconst (q := 2) dX5_writeStatus_1 (v := 0) rfl rfl ?_
  refine V.pM (q := 5) dX5_writeStatus_2 (j := 0) rfl bw_1007 rfl rfl rfl rfl rfl rfl ?_
  refine V.aload_n (q := 6) dX5_writeStatus_5 rfl rfl ?_
  refine V.iconst (q := 7) dX5_writeStatus_6 (v := 0) rfl rfl ?_
  refine V.pM (q := 10) dX5_writeStatus_7 (j := 15) rfl bw_1022 rfl rfl rfl rfl rfl rfl ?_
  refine V.iconst (q := 11) dX5_writeStatus_10 (v := 0) rfl rfl ?_
  refine V.istore_n (q := 12) dX5_writeStatus_11 rfl rfl rfl rfl ?_
  exact loop _ 0 _ _ rfl (Nat.zero_le _) (FrMO.len.RM (FrMO.z.RM hM)) (FrMO.z.trans FrMO.len) MO.zero (thr_15.trans thr_z)
