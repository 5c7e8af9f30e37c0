/-! the model: nearest stops, target, doors, moves, ticks -/
theorem dn_step {m : Int32} {F k : Nat} (hk : k ≤ F) : dnI m (F + 1 - k) = if hasB m (nI (F - k)) then nI (F - k) else dnI m (F + 1 - (k + 1)) := by
  rw [show F + 1 - k = (F - k) + 1 by omega, show F + 1 - (k + 1) = F - k by omega]
  rfl
theorem dn_out {m : Int32} {F k : Nat} (hk : F < k) : dnI m (F + 1 - k) = -1 := by
  rw [show F + 1 - k = 0 by omega]; rfl
theorem up_step {m : Int32} {F N k : Nat} (hk : F + k < N) : upI m (F + k) (N - (F + k)) = if hasB m (nI (F + k)) then nI (F + k) else upI m (F + (k + 1)) (N - (F + (k + 1))) := by
  rw [show N - (F + k) = (N - (F + (k + 1))) + 1 by omega]
  rfl
theorem up_out {m : Int32} {F N k : Nat} (hk : N ≤ F + k) : upI m (F + k) (N - (F + k)) = -1 := by
  rw [show N - (F + k) = 0 by omega]; rfl
theorem nI_subn {a b : Nat} (h : b ≤ a) : nI a + -nI b = nI (a - b) := by
  rw [← Int32.sub_eq_add_neg, pk_sub h]
theorem nI_subneg {a b : Nat} (h : a < b) (hb : b < 2 ^ 30) : nI a + -nI b < 0 := by
  rw [← Int32.sub_eq_add_neg]; exact pk_sneg hb h
set_option maxHeartbeats 2000000 in
theorem cM_nearUp {l : Launch} {G : GG} {σ : St} {u : Vw} (hM : RM σ u) (hI : Iu u) {m9 : Int32} : CtS l G TX5_nearestIn 1 [.ref (gB G + 94), .int m9, .int 1] σ (some (.int (upI m9 (uF u + 1) (uN u - (uF u + 1))))) σ := by
  have hn : un u ≤ 40 := hM.1
  obtain ⟨hF, hN, hFN, hN20, -⟩ := hI.F
  refine CtS.ofV (by decide +kernel) rfl rfl (Nat.le_of_ble_eq_true rfl) ?_
  have loop : ∀ (m : Nat) (k : Nat) (L4 : Option Value), m = uN u - k → 1 ≤ k → k ≤ uN u → upI m9 (uF u + 1) (uN u - (uF u + 1)) = upI m9 (uF u + k) (uN u - (uF u + k)) → V l G TX5_nearestIn 1 0 0 (RetS G (some (.int (upI m9 (uF u + 1) (uN u - (uF u + 1))))) σ) 0 0 2 [some (.ref (gB G + 94)), some (.int m9), some (.int 1), some (.int (nI k)), L4] [] (hof G σ) NC := by
    intro m
    induction m using Nat.strongRecOn with
    | _ m ih =>
      intro k L4 hm hk1 hkN hv
      refine V.iload_n (q := 3) dX5_nearestIn_2 rfl rfl ?_
      refine V.aload_n (q := 4) dX5_nearestIn_3 rfl rfl ?_
      refine V.gM (q := 7) dX5_nearestIn_4 (j := 1) rfl bw_1012 rfl rfl rfl rfl ?_
      refine V.iconst (q := 8) dX5_nearestIn_7 (v := 0) rfl rfl ?_
      refine V.ldMu (q := 9) 0 dX5_nearestIn_8 hM rfl rfl rfl ?_
      rw [hN]
      refine V.icmp_ge (tgt := 66) (q := 12) dX5_nearestIn_9 (by decide) rfl (fun c9 => ?_) (fun c9 => ?_)
      · have hie : uN u ≤ k := nle c9 (by omega) (by omega)
        refine V.iconst (q := 67) dX5_nearestIn_66 (v := -1) rfl rfl ?_
        exact V.iret dX5_nearestIn_67 rfl ⟨by rw [hv, up_out (by omega)], rfl, rfl⟩
      · have hlt : k < uN u := nnle c9 (by omega) (by omega)
        refine V.aload_n (q := 13) dX5_nearestIn_12 rfl rfl ?_
        refine V.gM (q := 16) dX5_nearestIn_13 (j := 1) rfl bw_1012 rfl rfl rfl rfl ?_
        refine V.iconst (q := 17) dX5_nearestIn_16 (v := 4) rfl rfl ?_
        refine V.ldMu (q := 18) 4 dX5_nearestIn_17 hM rfl rfl rfl ?_
        rw [hF]
        refine V.iload_n (q := 19) dX5_nearestIn_18 rfl rfl ?_
        refine V.if_eq (tgt := 26) (q := 22) dX5_nearestIn_19 (by decide) rfl (fun c19 => ?_) (fun c19 => ?_)
        · exact absurd c19 (by decide)
        · refine V.iload_n (q := 23) dX5_nearestIn_22 rfl rfl ?_
          refine V.goto (tgt := 28) dX5_nearestIn_23 (by decide) ?_
          refine V.iadd (q := 29) dX5_nearestIn_28 rfl ?_
          rw [nI_add]
          refine V.istore (q := 31) dX5_nearestIn_29 rfl rfl rfl ?_
          refine V.iload (q := 33) dX5_nearestIn_31 rfl rfl ?_
          refine V.iconst (q := 34) dX5_nearestIn_33 (v := 0) rfl rfl ?_
          refine V.aload_n (q := 35) dX5_nearestIn_34 rfl rfl ?_
          refine V.gM (q := 38) dX5_nearestIn_35 (j := 1) rfl bw_1012 rfl rfl rfl rfl ?_
          refine V.iconst (q := 39) dX5_nearestIn_38 (v := 0) rfl rfl ?_
          refine V.ldMu (q := 40) 0 dX5_nearestIn_39 hM rfl rfl rfl ?_
          rw [hN]
          refine V.iconst (q := 41) dX5_nearestIn_40 (v := 1) rfl rfl ?_
          refine V.isub (q := 42) dX5_nearestIn_41 rfl ?_
          rw [show nI (uN u) - 1 = nI (uN u - 1) by rw [show uN u = (uN u - 1) + 1 by omega, nI_pred, Nat.add_sub_cancel]]
          refine V.cSt (q := 45) dX5_nearestIn_42 (As := [_, _, _]) rfl cM_inRange MX5_inRange bw_1097 rfl rfl (by decide) rfl ?_
          refine V.if_eq (tgt := 60) (q := 48) dX5_nearestIn_45 (by decide) rfl (fun c45 => ?_) (fun c45 => ?_)
          · have hout : uN u ≤ uF u + k := by
              rcases Nat.lt_or_ge (uF u + k) (uN u) with q | q
              · exfalso
                have h9 := bI0.mp c45
                simp [nI_pos' (show uF u + k < 2 ^ 31 by omega), nI_le (show uF u + k ≤ uN u - 1 by omega) (by omega)] at h9
              · exact q
            refine V.iinc (q := 63) dX5_nearestIn_60 rfl (by first | exact nI_inc _ | rfl) rfl rfl rfl ?_
            refine V.goto (tgt := 2) dX5_nearestIn_63 (by decide) ?_
            exact ih _ (by omega) (k + 1) _ rfl (by omega) (by omega) (by rw [hv, up_out hout, up_out (by omega)])
          · have hin : uF u + k < uN u := by
              have h9 := bI1.mp c45
              simp only [Bool.and_eq_true, decide_eq_true_eq] at h9
              have := nle h9.2 (by omega) (by omega)
              omega
            refine V.iload_n (q := 49) dX5_nearestIn_48 rfl rfl ?_
            refine V.iload (q := 51) dX5_nearestIn_49 rfl rfl ?_
            refine V.cSt (q := 54) dX5_nearestIn_51 (As := [_, _]) rfl cM_has MX5_has bw_1208 rfl rfl (by decide) rfl ?_
            refine V.if_eq (tgt := 60) (q := 57) dX5_nearestIn_54 (by decide) rfl (fun c54 => ?_) (fun c54 => ?_)
            · refine V.iinc (q := 63) dX5_nearestIn_60 rfl (by first | exact nI_inc _ | rfl) rfl rfl rfl ?_
              refine V.goto (tgt := 2) dX5_nearestIn_63 (by decide) ?_
              exact ih _ (by omega) (k + 1) _ rfl (by omega) (by omega) (by rw [hv, up_step hin, if_neg (by rw [bI0.mp c54]; decide)])
            · refine V.iload (q := 59) dX5_nearestIn_57 rfl rfl ?_
              exact V.iret dX5_nearestIn_59 rfl ⟨by rw [hv, up_step hin, if_pos (bI1.mp c54)], rfl, rfl⟩
  refine V.iconst (q := 1) dX5_nearestIn_0 (v := 1) rfl rfl ?_
  refine V.istore_n (q := 2) dX5_nearestIn_1 rfl rfl rfl rfl ?_
  exact loop _ 1 none rfl (Nat.le_refl _) (by omega) rfl
set_option maxHeartbeats 2000000 in
theorem cM_nearDn {l : Launch} {G : GG} {σ : St} {u : Vw} (hM : RM σ u) (hI : Iu u) {m9 : Int32} : CtS l G TX5_nearestIn 1 [.ref (gB G + 94), .int m9, .int 0] σ (some (.int (dnI m9 (uF u)))) σ := by
  have hn : un u ≤ 40 := hM.1
  obtain ⟨hF, hN, hFN, hN20, -⟩ := hI.F
  refine CtS.ofV (by decide +kernel) rfl rfl (Nat.le_of_ble_eq_true rfl) ?_
  have loop : ∀ (m : Nat) (k : Nat) (L4 : Option Value), m = uN u - k → 1 ≤ k → k ≤ uN u → dnI m9 (uF u) = dnI m9 (uF u + 1 - k) → V l G TX5_nearestIn 1 0 0 (RetS G (some (.int (dnI m9 (uF u)))) σ) 0 0 2 [some (.ref (gB G + 94)), some (.int m9), some (.int 0), some (.int (nI k)), L4] [] (hof G σ) NC := by
    intro m
    induction m using Nat.strongRecOn with
    | _ m ih =>
      intro k L4 hm hk1 hkN hv
      refine V.iload_n (q := 3) dX5_nearestIn_2 rfl rfl ?_
      refine V.aload_n (q := 4) dX5_nearestIn_3 rfl rfl ?_
      refine V.gM (q := 7) dX5_nearestIn_4 (j := 1) rfl bw_1012 rfl rfl rfl rfl ?_
      refine V.iconst (q := 8) dX5_nearestIn_7 (v := 0) rfl rfl ?_
      refine V.ldMu (q := 9) 0 dX5_nearestIn_8 hM rfl rfl rfl ?_
      rw [hN]
      refine V.icmp_ge (tgt := 66) (q := 12) dX5_nearestIn_9 (by decide) rfl (fun c9 => ?_) (fun c9 => ?_)
      · have hie : uN u ≤ k := nle c9 (by omega) (by omega)
        refine V.iconst (q := 67) dX5_nearestIn_66 (v := -1) rfl rfl ?_
        exact V.iret dX5_nearestIn_67 rfl ⟨by rw [hv, dn_out (by omega)], rfl, rfl⟩
      · have hlt : k < uN u := nnle c9 (by omega) (by omega)
        refine V.aload_n (q := 13) dX5_nearestIn_12 rfl rfl ?_
        refine V.gM (q := 16) dX5_nearestIn_13 (j := 1) rfl bw_1012 rfl rfl rfl rfl ?_
        refine V.iconst (q := 17) dX5_nearestIn_16 (v := 4) rfl rfl ?_
        refine V.ldMu (q := 18) 4 dX5_nearestIn_17 hM rfl rfl rfl ?_
        rw [hF]
        refine V.iload_n (q := 19) dX5_nearestIn_18 rfl rfl ?_
        refine V.if_eq (tgt := 26) (q := 22) dX5_nearestIn_19 (by decide) rfl (fun c19 => ?_) (fun c19 => ?_)
        · refine V.iload_n (q := 27) dX5_nearestIn_26 rfl rfl ?_
          refine V.ineg (q := 28) dX5_nearestIn_27 rfl ?_
          refine V.iadd (q := 29) dX5_nearestIn_28 rfl ?_
          refine V.istore (q := 31) dX5_nearestIn_29 rfl rfl rfl ?_
          refine V.iload (q := 33) dX5_nearestIn_31 rfl rfl ?_
          refine V.iconst (q := 34) dX5_nearestIn_33 (v := 0) rfl rfl ?_
          refine V.aload_n (q := 35) dX5_nearestIn_34 rfl rfl ?_
          refine V.gM (q := 38) dX5_nearestIn_35 (j := 1) rfl bw_1012 rfl rfl rfl rfl ?_
          refine V.iconst (q := 39) dX5_nearestIn_38 (v := 0) rfl rfl ?_
          refine V.ldMu (q := 40) 0 dX5_nearestIn_39 hM rfl rfl rfl ?_
          rw [hN]
          refine V.iconst (q := 41) dX5_nearestIn_40 (v := 1) rfl rfl ?_
          refine V.isub (q := 42) dX5_nearestIn_41 rfl ?_
          rw [show nI (uN u) - 1 = nI (uN u - 1) by rw [show uN u = (uN u - 1) + 1 by omega, nI_pred, Nat.add_sub_cancel]]
          refine V.cSt (q := 45) dX5_nearestIn_42 (As := [_, _, _]) rfl cM_inRange MX5_inRange bw_1097 rfl rfl (by decide) rfl ?_
          refine V.if_eq (tgt := 60) (q := 48) dX5_nearestIn_45 (by decide) rfl (fun c45 => ?_) (fun c45 => ?_)
          · have hout : uF u < k := by
              rcases Nat.lt_or_ge (uF u) k with q | q
              · exact q
              · exfalso
                have h9 := bI0.mp c45
                rw [nI_subn q] at h9
                simp [nI_pos' (show uF u - k < 2 ^ 31 by omega), nI_le (show uF u - k ≤ uN u - 1 by omega) (by omega)] at h9
            refine V.iinc (q := 63) dX5_nearestIn_60 rfl (by first | exact nI_inc _ | rfl) rfl rfl rfl ?_
            refine V.goto (tgt := 2) dX5_nearestIn_63 (by decide) ?_
            exact ih _ (by omega) (k + 1) _ rfl (by omega) (by omega) (by rw [hv, dn_out hout, dn_out (by omega)])
          · have hin : k ≤ uF u := by
              rcases Nat.lt_or_ge (uF u) k with q | q
              · exfalso
                have h9 := bI1.mp c45
                simp only [Bool.and_eq_true, decide_eq_true_eq] at h9
                exact absurd (nI_subneg q (by omega)) (Int32.not_lt.mpr h9.1)
              · exact q
            have hsub : nI (uF u) + -nI k = nI (uF u - k) := nI_subn hin
            rw [hsub]
            refine V.iload_n (q := 49) dX5_nearestIn_48 rfl rfl ?_
            refine V.iload (q := 51) dX5_nearestIn_49 rfl rfl ?_
            refine V.cSt (q := 54) dX5_nearestIn_51 (As := [_, _]) rfl cM_has MX5_has bw_1208 rfl rfl (by decide) rfl ?_
            refine V.if_eq (tgt := 60) (q := 57) dX5_nearestIn_54 (by decide) rfl (fun c54 => ?_) (fun c54 => ?_)
            · refine V.iinc (q := 63) dX5_nearestIn_60 rfl (by first | exact nI_inc _ | rfl) rfl rfl rfl ?_
              refine V.goto (tgt := 2) dX5_nearestIn_63 (by decide) ?_
              exact ih _ (by omega) (k + 1) _ rfl (by omega) (by omega) (by rw [hv, dn_step hin, if_neg (by rw [bI0.mp c54]; decide)])
            · refine V.iload (q := 59) dX5_nearestIn_57 rfl rfl ?_
              exact V.iret dX5_nearestIn_59 rfl ⟨by rw [hv, dn_step hin, if_pos (bI1.mp c54)], rfl, rfl⟩
        · exact absurd rfl c19
  refine V.iconst (q := 1) dX5_nearestIn_0 (v := 1) rfl rfl ?_
  refine V.istore_n (q := 2) dX5_nearestIn_1 rfl rfl rfl rfl ?_
  exact loop _ 1 none rfl (Nat.le_refl _) (by omega) rfl
set_option maxHeartbeats 2000000 in
theorem cM_nearest {l : Launch} {G : GG} {σ : St} {u : Vw} (hM : RM σ u) (hI : Iu u) {m9 : Int32} : CtS l G TX5_nearest 4 [.ref (gB G + 94), .int m9] σ (some (.int (if dnI m9 (uF u) = -1 then upI m9 (uF u + 1) (uN u - (uF u + 1)) else if upI m9 (uF u + 1) (uN u - (uF u + 1)) = -1 then dnI m9 (uF u) else if us u 4 - dnI m9 (uF u) ≤ upI m9 (uF u + 1) (uN u - (uF u + 1)) - us u 4 then dnI m9 (uF u) else upI m9 (uF u + 1) (uN u - (uF u + 1))))) σ := by
  have hn : un u ≤ 40 := hM.1
  refine CtS.ofV (by decide +kernel) rfl rfl (Nat.le_of_ble_eq_true rfl) ?_
  refine V.aload_n (q := 1) dX5_nearest_0 rfl rfl ?_
  refine V.iload_n (q := 2) dX5_nearest_1 rfl rfl ?_
  refine V.iconst (q := 3) dX5_nearest_2 (v := 1) rfl rfl ?_
  refine V.cVM (q := 6) dX5_nearest_3 (As := [_, _]) rfl (cM_nearUp hM hI) MX5_nearestIn bw_1239 rfl rfl rfl rfl (by decide) rfl ?_
  refine V.istore_n (q := 7) dX5_nearest_6 rfl rfl rfl rfl ?_
  refine V.aload_n (q := 8) dX5_nearest_7 rfl rfl ?_
  refine V.iload_n (q := 9) dX5_nearest_8 rfl rfl ?_
  refine V.iconst (q := 10) dX5_nearest_9 (v := 0) rfl rfl ?_
  refine V.cVM (q := 13) dX5_nearest_10 (As := [_, _]) rfl (cM_nearDn hM hI) MX5_nearestIn bw_1239 rfl rfl rfl rfl (by decide) rfl ?_
  refine V.istore_n (q := 14) dX5_nearest_13 rfl rfl rfl rfl ?_
  refine V.iload_n (q := 15) dX5_nearest_14 rfl rfl ?_
  refine V.iconst (q := 16) dX5_nearest_15 (v := -1) rfl rfl ?_
  refine V.icmp_eq (tgt := 24) (q := 19) dX5_nearest_16 (by decide) rfl (fun c16 => ?_) (fun c16 => ?_)
  · refine V.iload_n (q := 25) dX5_nearest_24 rfl rfl ?_
    refine V.iconst (q := 26) dX5_nearest_25 (v := -1) rfl rfl ?_
    refine V.icmp_ne (tgt := 33) (q := 29) dX5_nearest_26 (by decide) rfl (fun c26 => ?_) (fun c26 => ?_)
    · exact absurd c16 c26
    · refine V.iload_n (q := 30) dX5_nearest_29 rfl rfl ?_
      refine V.goto (tgt := 34) dX5_nearest_30 (by decide) ?_
      exact V.iret dX5_nearest_34 rfl ⟨by
     by_cases z : dnI m9 (uF u) = -1
     · rw [if_pos z, z, c26]
     · rw [if_neg z, if_pos c26], rfl, rfl⟩
  · refine V.iload_n (q := 20) dX5_nearest_19 rfl rfl ?_
    refine V.iconst (q := 21) dX5_nearest_20 (v := -1) rfl rfl ?_
    refine V.icmp_ne (tgt := 35) (q := 24) dX5_nearest_21 (by decide) rfl (fun c21 => ?_) (fun c21 => ?_)
    · refine V.iload_n (q := 36) dX5_nearest_35 rfl rfl ?_
      refine V.aload_n (q := 37) dX5_nearest_36 rfl rfl ?_
      refine V.gM (q := 40) dX5_nearest_37 (j := 1) rfl bw_1012 rfl rfl rfl rfl ?_
      refine V.iconst (q := 41) dX5_nearest_40 (v := 4) rfl rfl ?_
      refine V.ldMu (q := 42) 4 dX5_nearest_41 hM rfl rfl rfl ?_
      refine V.isub (q := 43) dX5_nearest_42 rfl ?_
      refine V.aload_n (q := 44) dX5_nearest_43 rfl rfl ?_
      refine V.gM (q := 47) dX5_nearest_44 (j := 1) rfl bw_1012 rfl rfl rfl rfl ?_
      refine V.iconst (q := 48) dX5_nearest_47 (v := 4) rfl rfl ?_
      refine V.ldMu (q := 49) 4 dX5_nearest_48 hM rfl rfl rfl ?_
      refine V.iload_n (q := 50) dX5_nearest_49 rfl rfl ?_
      refine V.isub (q := 51) dX5_nearest_50 rfl ?_
      refine V.icmp_ge (tgt := 58) (q := 54) dX5_nearest_51 (by decide) rfl (fun c51 => ?_) (fun c51 => ?_)
      · refine V.iload_n (q := 59) dX5_nearest_58 rfl rfl ?_
        exact V.iret dX5_nearest_59 rfl ⟨by rw [if_neg c21, if_neg c16, if_pos c51], rfl, rfl⟩
      · refine V.iload_n (q := 55) dX5_nearest_54 rfl rfl ?_
        refine V.goto (tgt := 59) dX5_nearest_55 (by decide) ?_
        exact V.iret dX5_nearest_59 rfl ⟨by rw [if_neg c21, if_neg c16, if_neg c51], rfl, rfl⟩
    · refine V.iload_n (q := 25) dX5_nearest_24 rfl rfl ?_
      refine V.iconst (q := 26) dX5_nearest_25 (v := -1) rfl rfl ?_
      refine V.icmp_ne (tgt := 33) (q := 29) dX5_nearest_26 (by decide) rfl (fun c26 => ?_) (fun c26 => ?_)
      · refine V.iload_n (q := 34) dX5_nearest_33 rfl rfl ?_
        exact V.iret dX5_nearest_34 rfl ⟨by rw [if_pos c21], rfl, rfl⟩
      · refine V.iload_n (q := 30) dX5_nearest_29 rfl rfl ?_
        refine V.goto (tgt := 34) dX5_nearest_30 (by decide) ?_
        exact V.iret dX5_nearest_34 rfl ⟨by
     by_cases z : dnI m9 (uF u) = -1
     · rw [if_pos z, z, c26]
     · rw [if_neg z, if_pos c26], rfl, rfl⟩
set_option maxHeartbeats 2000000 in
theorem cM_inOrder {l : Launch} {G : GG} {σ : St} {u : Vw} (hM : RM σ u)  : CtS l G TX5_inOrder 4 [.ref (gB G + 94)] σ (some (.int (pfc u))) σ := by
  have hn : un u ≤ 40 := hM.1
  refine CtS.ofV (by decide +kernel) rfl rfl (Nat.le_of_ble_eq_true rfl) ?_
  have loop : ∀ (m : Nat) (i : Nat), m = un u - i → i ≤ un u → fst (isR u) 0 (un u) = fst (isR u) i (un u - i) → V l G TX5_inOrder 4 0 0 (RetS G (some (.int (pfc u))) σ) 0 0 2 [some (.ref (gB G + 94)), some (.int (nI i))] [] (hof G σ) NC := by
    intro m
    induction m using Nat.strongRecOn with
    | _ m ih =>
      intro i hm hile hf
      refine V.iload_n (q := 3) dX5_inOrder_2 rfl rfl ?_
      refine V.aload_n (q := 4) dX5_inOrder_3 rfl rfl ?_
      refine V.gM (q := 7) dX5_inOrder_4 (j := 1) rfl bw_1012 rfl rfl rfl rfl ?_
      refine V.bipush (q := 9) dX5_inOrder_7 (v := 10) rfl rfl ?_
      refine V.ldMn (q := 10) dX5_inOrder_9 hM rfl rfl ?_
      refine V.icmp_ge (tgt := 34) (q := 13) dX5_inOrder_10 (by decide) rfl (fun c10 => ?_) (fun c10 => ?_)
      · have hie : i = un u := Nat.le_antisymm hile (nle c10 (by omega) (by omega))
        have hfr : fst (isR u) 0 (un u) = none := by rw [hf, hie, Nat.sub_self]; rfl
        refine V.aload_n (q := 35) dX5_inOrder_34 rfl rfl ?_
        refine V.iconst (q := 36) dX5_inOrder_35 (v := -1) rfl rfl ?_
        refine V.cVM (q := 39) dX5_inOrder_36 (As := [_]) rfl (cM_first hM) MX5_first bw_1215 rfl rfl rfl rfl (by decide) rfl ?_
        rw [isWf_any]
        refine V.istore_n (q := 40) dX5_inOrder_39 rfl rfl rfl rfl ?_
        cases hfw : fw u (isW u) (un u) with
        | none =>
          show V _ _ _ _ _ _ _ _ _ _ [_, some (.int (-1))] _ _ _
          refine V.iload_n (q := 41) dX5_inOrder_40 rfl rfl ?_
          refine V.iconst (q := 42) dX5_inOrder_41 (v := -1) rfl rfl ?_
          refine V.icmp_ne (tgt := 49) (q := 45) dX5_inOrder_42 (by decide) rfl (fun c42 => ?_) (fun c42 => ?_)
          · exact absurd rfl c42
          · refine V.iconst (q := 46) dX5_inOrder_45 (v := -1) rfl rfl ?_
            refine V.goto (tgt := 54) dX5_inOrder_46 (by decide) ?_
            exact V.iret dX5_inOrder_54 rfl ⟨by simp [pfc, hfr, hfw], rfl, rfl⟩
        | some r =>
          have hr : r < un u := (fw_some hfw).1
          show V _ _ _ _ _ _ _ _ _ _ [_, some (.int (nI r))] _ _ _
          refine V.iload_n (q := 41) dX5_inOrder_40 rfl rfl ?_
          refine V.iconst (q := 42) dX5_inOrder_41 (v := -1) rfl rfl ?_
          refine V.icmp_ne (tgt := 49) (q := 45) dX5_inOrder_42 (by decide) rfl (fun c42 => ?_) (fun c42 => ?_)
          · refine V.aload_n (q := 50) dX5_inOrder_49 rfl rfl ?_
            refine V.iload_n (q := 51) dX5_inOrder_50 rfl rfl ?_
            refine V.cVM (q := 54) dX5_inOrder_51 (As := [_]) rfl (cM_origin hM (by omega)) MX5_origin bw_1204 rfl rfl rfl rfl (by decide) rfl ?_
            exact V.iret dX5_inOrder_54 rfl ⟨by simp [pfc, hfr, hfw], rfl, rfl⟩
          · exact absurd c42 (nne1 (by omega))
      · have hlt : i < un u := nnle c10 (by omega) (by omega)
        refine V.aload_n (q := 14) dX5_inOrder_13 rfl rfl ?_
        refine V.iload_n (q := 15) dX5_inOrder_14 rfl rfl ?_
        refine V.cVM (q := 18) dX5_inOrder_15 (As := [_]) rfl (cM_status hM (by omega)) MX5_status bw_1184 rfl rfl rfl rfl (by decide) rfl ?_
        refine V.iconst (q := 19) dX5_inOrder_18 (v := 2) rfl rfl ?_
        refine V.icmp_ne (tgt := 28) (q := 22) dX5_inOrder_19 (by decide) rfl (fun c19 => ?_) (fun c19 => ?_)
        · refine V.iinc (q := 31) dX5_inOrder_28 rfl (by first | exact nI_inc _ | rfl) rfl rfl rfl ?_
          refine V.goto (tgt := 2) dX5_inOrder_31 (by decide) ?_
          refine ih _ (by omega) (i + 1) rfl (by omega) ?_
          rw [hf, show un u - i = (un u - (i + 1)) + 1 by omega]
          simp [fst, isR, c19]
        · refine V.aload_n (q := 23) dX5_inOrder_22 rfl rfl ?_
          refine V.iload_n (q := 24) dX5_inOrder_23 rfl rfl ?_
          refine V.cVM (q := 27) dX5_inOrder_24 (As := [_]) rfl (cM_destination hM (by omega)) MX5_destination bw_1200 rfl rfl rfl rfl (by decide) rfl ?_
          exact V.iret dX5_inOrder_27 rfl ⟨by rw [pfc, hf, show un u - i = (un u - (i + 1)) + 1 by omega]; simp [fst, isR, c19], rfl, rfl⟩
  refine V.iconst (q := 1) dX5_inOrder_0 (v := 0) rfl rfl ?_
  refine V.istore_n (q := 2) dX5_inOrder_1 rfl rfl rfl rfl ?_
  exact loop _ 0 rfl (Nat.zero_le _) rfl
set_option maxHeartbeats 2000000 in
theorem cM_reverses {l : Launch} {G : GG} {σ : St} {u : Vw} (hM : RM σ u) (hI : Iu u) {m9 : Int32} : CtS l G TX5_reverses 2 [.ref (gB G + 94), .int m9] σ (some (.int (bI (decide ((if us u 5 = 1 then upI m9 (uF u + 1) (uN u - (uF u + 1)) else dnI m9 (uF u)) = -1))))) σ := by
  have hn : un u ≤ 40 := hM.1
  refine CtS.ofV (by decide +kernel) rfl rfl (Nat.le_of_ble_eq_true rfl) ?_
  refine V.aload_n (q := 1) dX5_reverses_0 rfl rfl ?_
  refine V.iload_n (q := 2) dX5_reverses_1 rfl rfl ?_
  refine V.aload_n (q := 3) dX5_reverses_2 rfl rfl ?_
  refine V.gM (q := 6) dX5_reverses_3 (j := 1) rfl bw_1012 rfl rfl rfl rfl ?_
  refine V.iconst (q := 7) dX5_reverses_6 (v := 5) rfl rfl ?_
  refine V.ldMu (q := 8) 5 dX5_reverses_7 hM rfl rfl rfl ?_
  refine V.iconst (q := 9) dX5_reverses_8 (v := 1) rfl rfl ?_
  refine V.icmp_ne (tgt := 16) (q := 12) dX5_reverses_9 (by decide) rfl (fun c9 => ?_) (fun c9 => ?_)
  · refine V.iconst (q := 17) dX5_reverses_16 (v := 0) rfl rfl ?_
    refine V.cVM (q := 20) dX5_reverses_17 (As := [_, _]) rfl (cM_nearDn hM hI) MX5_nearestIn bw_1239 rfl rfl rfl rfl (by decide) rfl ?_
    refine V.iconst (q := 21) dX5_reverses_20 (v := -1) rfl rfl ?_
    refine V.icmp_ne (tgt := 28) (q := 24) dX5_reverses_21 (by decide) rfl (fun c21 => ?_) (fun c21 => ?_)
    · refine V.iconst (q := 29) dX5_reverses_28 (v := 0) rfl rfl ?_
      exact V.zret (ty := .boolean) rfl dX5_reverses_29 rfl ⟨by rw [if_neg c9]; simp [bI, c21], rfl, rfl⟩
    · refine V.iconst (q := 25) dX5_reverses_24 (v := 1) rfl rfl ?_
      refine V.goto (tgt := 29) dX5_reverses_25 (by decide) ?_
      exact V.zret (ty := .boolean) rfl dX5_reverses_29 rfl ⟨by rw [if_neg c9]; simp [bI, c21], rfl, rfl⟩
  · refine V.iconst (q := 13) dX5_reverses_12 (v := 1) rfl rfl ?_
    refine V.goto (tgt := 17) dX5_reverses_13 (by decide) ?_
    refine V.cVM (q := 20) dX5_reverses_17 (As := [_, _]) rfl (cM_nearUp hM hI) MX5_nearestIn bw_1239 rfl rfl rfl rfl (by decide) rfl ?_
    refine V.iconst (q := 21) dX5_reverses_20 (v := -1) rfl rfl ?_
    refine V.icmp_ne (tgt := 28) (q := 24) dX5_reverses_21 (by decide) rfl (fun c21 => ?_) (fun c21 => ?_)
    · refine V.iconst (q := 29) dX5_reverses_28 (v := 0) rfl rfl ?_
      exact V.zret (ty := .boolean) rfl dX5_reverses_29 rfl ⟨by rw [if_pos c9]; simp [bI, c21], rfl, rfl⟩
    · refine V.iconst (q := 25) dX5_reverses_24 (v := 1) rfl rfl ?_
      refine V.goto (tgt := 29) dX5_reverses_25 (by decide) ?_
      exact V.zret (ty := .boolean) rfl dX5_reverses_29 rfl ⟨by rw [if_pos c9]; simp [bI, c21], rfl, rfl⟩
theorem sw_11 {u : Vw} {m : Int32} (hb : us u 5 = 0 ∨ us u 5 = 1) (h : us u 5 = 1) (h2 : ¬ (1 : Int32) = bI (decide ((if us u 5 = 1 then upI m (uF u + 1) (uN u - (uF u + 1)) else dnI m (uF u)) = -1))) : upI m (uF u + 1) (uN u - (uF u + 1)) = (if dnI m (uF u) = -1 then upI m (uF u + 1) (uN u - (uF u + 1)) else if upI m (uF u + 1) (uN u - (uF u + 1)) = -1 then dnI m (uF u) else if us u 5 = 0 then dnI m (uF u) else upI m (uF u + 1) (uN u - (uF u + 1))) := by
  rw [if_pos h] at h2
  have h3 : ¬ upI m (uF u + 1) (uN u - (uF u + 1)) = -1 := fun z => h2 (by simp [bI, z])
  have h4 : ¬ us u 5 = 0 := by rw [h]; decide
  rw [if_neg h3, if_neg h4]
  simp
theorem sw_10 {u : Vw} {m : Int32} (hb : us u 5 = 0 ∨ us u 5 = 1) (h : us u 5 = 1) (h2 : (1 : Int32) = bI (decide ((if us u 5 = 1 then upI m (uF u + 1) (uN u - (uF u + 1)) else dnI m (uF u)) = -1))) : dnI m (uF u) = (if dnI m (uF u) = -1 then upI m (uF u + 1) (uN u - (uF u + 1)) else if upI m (uF u + 1) (uN u - (uF u + 1)) = -1 then dnI m (uF u) else if us u 5 = 0 then dnI m (uF u) else upI m (uF u + 1) (uN u - (uF u + 1))) := by
  rw [if_pos h] at h2
  have h3 : upI m (uF u + 1) (uN u - (uF u + 1)) = -1 := by
    by_cases z : upI m (uF u + 1) (uN u - (uF u + 1)) = -1
    · exact z
    · simp [bI, z] at h2
  rw [if_pos h3, h3]
  split
  · rename_i z; exact z
  · rfl
theorem sw_01 {u : Vw} {m : Int32} (hb : us u 5 = 0 ∨ us u 5 = 1) (h : ¬ us u 5 = 1) (h2 : ¬ (0 : Int32) = bI (decide ((if us u 5 = 1 then upI m (uF u + 1) (uN u - (uF u + 1)) else dnI m (uF u)) = -1))) : upI m (uF u + 1) (uN u - (uF u + 1)) = (if dnI m (uF u) = -1 then upI m (uF u + 1) (uN u - (uF u + 1)) else if upI m (uF u + 1) (uN u - (uF u + 1)) = -1 then dnI m (uF u) else if us u 5 = 0 then dnI m (uF u) else upI m (uF u + 1) (uN u - (uF u + 1))) := by
  rw [if_neg h] at h2
  have h3 : dnI m (uF u) = -1 := by
    by_cases z : dnI m (uF u) = -1
    · exact z
    · simp [bI, z] at h2
  rw [if_pos h3]
theorem sw_00 {u : Vw} {m : Int32} (hb : us u 5 = 0 ∨ us u 5 = 1) (h : ¬ us u 5 = 1) (h2 : (0 : Int32) = bI (decide ((if us u 5 = 1 then upI m (uF u + 1) (uN u - (uF u + 1)) else dnI m (uF u)) = -1))) : dnI m (uF u) = (if dnI m (uF u) = -1 then upI m (uF u + 1) (uN u - (uF u + 1)) else if upI m (uF u + 1) (uN u - (uF u + 1)) = -1 then dnI m (uF u) else if us u 5 = 0 then dnI m (uF u) else upI m (uF u + 1) (uN u - (uF u + 1))) := by
  rw [if_neg h] at h2
  have h3 : ¬ dnI m (uF u) = -1 := fun z => by simp [bI, z] at h2
  have h4 : us u 5 = 0 := hb.resolve_right h
  rw [if_neg h3, if_pos h4]
  simp
set_option maxHeartbeats 4000000 in
theorem cM_target {l : Launch} {G : GG} {σ : St} {u : Vw} (hM : RM σ u) (hI : Iu u) {pol : Int32} (hpol : pol = 0 ∨ pol = 1 ∨ pol = 2) : CtS l G TX5_target 6 [.ref (gB G + 94), .int pol] σ (some (.int (tgt u pol))) σ := by
  have hn : un u ≤ 40 := hM.1
  have hmc := hI.2.2.2.2.2.2.2.2
  have hb := hI.2.2.2.2.2.2.1
  refine CtS.ofV (by decide +kernel) rfl rfl (Nat.le_of_ble_eq_true rfl) ?_
  refine V.aload_n (q := 1) dX5_target_0 rfl rfl ?_
  refine V.cVM (q := 4) dX5_target_1 (As := []) rfl (cM_stops hM hmc) MX5_stops bw_1172 rfl rfl rfl rfl (by decide) rfl ?_
  refine V.istore_n (q := 5) dX5_target_4 rfl rfl rfl rfl ?_
  refine V.iload_n (q := 6) dX5_target_5 rfl rfl ?_
  refine V.if_ne (tgt := 11) (q := 9) dX5_target_6 (by decide) rfl (fun c6 => ?_) (fun c6 => ?_)
  · refine V.iload_n (q := 12) dX5_target_11 rfl rfl ?_
    refine V.aload_n (q := 13) dX5_target_12 rfl rfl ?_
    refine V.gM (q := 16) dX5_target_13 (j := 1) rfl bw_1012 rfl rfl rfl rfl ?_
    refine V.iconst (q := 17) dX5_target_16 (v := 4) rfl rfl ?_
    refine V.ldMu (q := 18) 4 dX5_target_17 hM rfl rfl rfl ?_
    refine V.cSt (q := 21) dX5_target_18 (As := [_, _]) rfl cM_has MX5_has bw_1208 rfl rfl (by decide) rfl ?_
    refine V.if_eq (tgt := 31) (q := 24) dX5_target_21 (by decide) rfl (fun c21 => ?_) (fun c21 => ?_)
    · refine V.iload_n (q := 32) dX5_target_31 rfl rfl ?_
      refine V.if_ne (tgt := 40) (q := 35) dX5_target_32 (by decide) rfl (fun c32 => ?_) (fun c32 => ?_)
      · refine V.iload_n (q := 41) dX5_target_40 rfl rfl ?_
        refine V.iconst (q := 42) dX5_target_41 (v := 1) rfl rfl ?_
        refine V.icmp_ne (tgt := 53) (q := 45) dX5_target_42 (by decide) rfl (fun c42 => ?_) (fun c42 => ?_)
        · have hp2 : pol = 2 := (hpol.resolve_left c32).resolve_left c42
          refine V.aload_n (q := 54) dX5_target_53 rfl rfl ?_
          refine V.iload_n (q := 55) dX5_target_54 rfl rfl ?_
          refine V.aload_n (q := 56) dX5_target_55 rfl rfl ?_
          refine V.gM (q := 59) dX5_target_56 (j := 1) rfl bw_1012 rfl rfl rfl rfl ?_
          refine V.iconst (q := 60) dX5_target_59 (v := 5) rfl rfl ?_
          refine V.ldMu (q := 61) 5 dX5_target_60 hM rfl rfl rfl ?_
          refine V.iconst (q := 62) dX5_target_61 (v := 1) rfl rfl ?_
          refine V.icmp_ne (tgt := 69) (q := 65) dX5_target_62 (by decide) rfl (fun c62 => ?_) (fun c62 => ?_)
          · refine V.iconst (q := 70) dX5_target_69 (v := 0) rfl rfl ?_
            refine V.aload_n (q := 71) dX5_target_70 rfl rfl ?_
            refine V.iload_n (q := 72) dX5_target_71 rfl rfl ?_
            refine V.cVM (q := 75) dX5_target_72 (As := [_]) rfl (cM_reverses hM hI) MX5_reverses bw_1243 rfl rfl rfl rfl (by decide) rfl ?_
            refine V.icmp_eq (tgt := 82) (q := 78) dX5_target_75 (by decide) rfl (fun c75 => ?_) (fun c75 => ?_)
            · refine V.iconst (q := 83) dX5_target_82 (v := 0) rfl rfl ?_
              refine V.cVM (q := 86) dX5_target_83 (As := [_, _]) rfl (cM_nearDn hM hI) MX5_nearestIn bw_1239 rfl rfl rfl rfl (by decide) rfl ?_
              exact V.iret dX5_target_86 rfl ⟨by unfold tgt; rw [if_neg c6, if_neg (show ¬ hasB (stp u) (us u 4) = true by rw [bI0.mp c21]; decide), if_neg c32, if_pos hp2]; exact congrArg (fun z => Sum.inl (some (Value.int z))) (sw_00 hb c62 c75), rfl, rfl⟩
            · refine V.iconst (q := 79) dX5_target_78 (v := 1) rfl rfl ?_
              refine V.goto (tgt := 83) dX5_target_79 (by decide) ?_
              refine V.cVM (q := 86) dX5_target_83 (As := [_, _]) rfl (cM_nearUp hM hI) MX5_nearestIn bw_1239 rfl rfl rfl rfl (by decide) rfl ?_
              exact V.iret dX5_target_86 rfl ⟨by unfold tgt; rw [if_neg c6, if_neg (show ¬ hasB (stp u) (us u 4) = true by rw [bI0.mp c21]; decide), if_neg c32, if_pos hp2]; exact congrArg (fun z => Sum.inl (some (Value.int z))) (sw_01 hb c62 c75), rfl, rfl⟩
          · refine V.iconst (q := 66) dX5_target_65 (v := 1) rfl rfl ?_
            refine V.goto (tgt := 70) dX5_target_66 (by decide) ?_
            refine V.aload_n (q := 71) dX5_target_70 rfl rfl ?_
            refine V.iload_n (q := 72) dX5_target_71 rfl rfl ?_
            refine V.cVM (q := 75) dX5_target_72 (As := [_]) rfl (cM_reverses hM hI) MX5_reverses bw_1243 rfl rfl rfl rfl (by decide) rfl ?_
            refine V.icmp_eq (tgt := 82) (q := 78) dX5_target_75 (by decide) rfl (fun c75 => ?_) (fun c75 => ?_)
            · refine V.iconst (q := 83) dX5_target_82 (v := 0) rfl rfl ?_
              refine V.cVM (q := 86) dX5_target_83 (As := [_, _]) rfl (cM_nearDn hM hI) MX5_nearestIn bw_1239 rfl rfl rfl rfl (by decide) rfl ?_
              exact V.iret dX5_target_86 rfl ⟨by unfold tgt; rw [if_neg c6, if_neg (show ¬ hasB (stp u) (us u 4) = true by rw [bI0.mp c21]; decide), if_neg c32, if_pos hp2]; exact congrArg (fun z => Sum.inl (some (Value.int z))) (sw_10 hb c62 c75), rfl, rfl⟩
            · refine V.iconst (q := 79) dX5_target_78 (v := 1) rfl rfl ?_
              refine V.goto (tgt := 83) dX5_target_79 (by decide) ?_
              refine V.cVM (q := 86) dX5_target_83 (As := [_, _]) rfl (cM_nearUp hM hI) MX5_nearestIn bw_1239 rfl rfl rfl rfl (by decide) rfl ?_
              exact V.iret dX5_target_86 rfl ⟨by unfold tgt; rw [if_neg c6, if_neg (show ¬ hasB (stp u) (us u 4) = true by rw [bI0.mp c21]; decide), if_neg c32, if_pos hp2]; exact congrArg (fun z => Sum.inl (some (Value.int z))) (sw_11 hb c62 c75), rfl, rfl⟩
        · refine V.aload_n (q := 46) dX5_target_45 rfl rfl ?_
          refine V.iload_n (q := 47) dX5_target_46 rfl rfl ?_
          refine V.cVM (q := 50) dX5_target_47 (As := [_]) rfl (cM_nearest hM hI) MX5_nearest bw_1235 rfl rfl rfl rfl (by decide) rfl ?_
          refine V.goto (tgt := 86) dX5_target_50 (by decide) ?_
          exact V.iret dX5_target_86 rfl ⟨by unfold tgt; rw [if_neg c6, if_neg (show ¬ hasB (stp u) (us u 4) = true by rw [bI0.mp c21]; decide), if_neg c32, if_neg (show ¬ pol = 2 by rw [c42]; decide)], rfl, rfl⟩
      · refine V.aload_n (q := 36) dX5_target_35 rfl rfl ?_
        refine V.cVM (q := 39) dX5_target_36 (As := []) rfl (cM_inOrder hM) MX5_inOrder bw_1231 rfl rfl rfl rfl (by decide) rfl ?_
        exact V.iret dX5_target_39 rfl ⟨by unfold tgt; rw [if_neg c6, if_neg (show ¬ hasB (stp u) (us u 4) = true by rw [bI0.mp c21]; decide), if_pos c32], rfl, rfl⟩
    · refine V.aload_n (q := 25) dX5_target_24 rfl rfl ?_
      refine V.gM (q := 28) dX5_target_25 (j := 1) rfl bw_1012 rfl rfl rfl rfl ?_
      refine V.iconst (q := 29) dX5_target_28 (v := 4) rfl rfl ?_
      refine V.ldMu (q := 30) 4 dX5_target_29 hM rfl rfl rfl ?_
      exact V.iret dX5_target_30 rfl ⟨by unfold tgt; rw [if_neg c6, if_pos (bI1.mp c21)], rfl, rfl⟩
  · refine V.iconst (q := 10) dX5_target_9 (v := -1) rfl rfl ?_
    exact V.iret dX5_target_10 rfl ⟨by unfold tgt; rw [if_pos c6], rfl, rfl⟩
