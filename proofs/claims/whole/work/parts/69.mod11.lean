/-! the model's slots -/
set_option maxHeartbeats 2000000 in
theorem kM_save0 {l : Launch} {G : GG} {σ : St} {u : Vw} (hM : RM σ u) {b : Nat → Bool} {v : Nat → Vw} (hS : MS σ b v) : CtP l G TX5_save 1 [.ref (gB G + 94), .int 0] σ (fun w τ => w = some (.int (bI (!(b 0)))) ∧ FrMS σ τ ∧ MS τ (slB b 0) (slV v 0 u) ∧ thr τ = 0) := by
  have hn : un u ≤ 40 := hM.1
  refine CtP.ofV (by decide +kernel) rfl rfl (Nat.le_of_ble_eq_true rfl) ?_
  refine V.aload_n (q := 1) dX5_save_0 rfl rfl ?_
  refine V.iconst (q := 2) dX5_save_1 (v := 0) rfl rfl ?_
  refine V.pM (q := 5) dX5_save_2 (j := 0) rfl bw_1011 rfl rfl rfl rfl rfl rfl ?_
  have hM : RM (stF σ 94 0 0) u := hM.scF
  have hS : MS (stF σ 94 0 0) b v := hS.z
  refine V.aload_n (q := 6) dX5_save_5 rfl rfl ?_
  refine V.iload_n (q := 7) dX5_save_6 rfl rfl ?_
  refine V.iconst (q := 8) dX5_save_7 (v := 0) rfl rfl ?_
  refine V.iconst (q := 9) dX5_save_8 (v := 1) rfl rfl ?_
  refine V.cSt (q := 12) dX5_save_9 (As := [_, _, _]) rfl cM_inRange MX5_inRange bw_1097 rfl rfl (by decide) rfl ?_
  refine V.if_ne (tgt := 19) (q := 15) dX5_save_12 (by decide) rfl (fun c12 => ?_) (fun c12 => ?_)
  · refine V.iconst (q := 20) dX5_save_19 (v := 0) rfl rfl ?_
    refine V.iconst (q := 21) dX5_save_20 (v := 1) rfl rfl ?_
    refine V.cVMP (q := 24) (As := [_, _]) dX5_save_21 rfl (kM_fails_false) MX5_fails bw_1351 rfl rfl rfl rfl (by decide) rfl (fun v1 τ1 h1 => ?_)
    obtain ⟨rfl, rfl⟩ := h1
    refine V.if_eq (tgt := 29) (q := 27) dX5_save_24 (by decide) rfl (fun c24 => ?_) (fun c24 => ?_)
    · refine V.iload_n (q := 30) dX5_save_29 rfl rfl ?_
      refine V.if_ne (tgt := 40) (q := 33) dX5_save_30 (by decide) rfl (fun c30 => ?_) (fun c30 => ?_)
      · exact absurd rfl c30
      · refine V.aload_n (q := 34) dX5_save_33 rfl rfl ?_
        refine V.gM (q := 37) dX5_save_34 (j := 4) rfl bw_1015 rfl rfl rfl rfl ?_
        rw [hS.1]
        refine V.goto (tgt := 44) dX5_save_37 (by decide) ?_
        refine V.istore_n (q := 45) dX5_save_44 rfl rfl rfl rfl ?_
        refine V.aload_n (q := 46) dX5_save_45 rfl rfl ?_
        refine V.bipush (q := 48) dX5_save_46 (v := 8) rfl rfl ?_
        refine V.iload_n (q := 49) dX5_save_48 rfl rfl ?_
        refine V.iadd (q := 50) dX5_save_49 rfl ?_
        rw [show (8 : Int32) + 0 = nI 8 from rfl]
        refine V.cVMP (q := 53) (As := [_]) dX5_save_50 rfl (cM_keeps (pl := 8) (by decide)) MX5_keeps bw_1080 rfl rfl rfl rfl (by decide) rfl (fun v3 τ3 h3 => ?_)
        obtain ⟨rfl, hK⟩ := h3
        have e4 : sF τ3 94 4 = bI (b 0) := by rw [hK.1.1]; exact hS.1
        have e5 : sF τ3 94 5 = bI (b 1) := by rw [hK.1.1]; exact hS.2.1
        refine V.aload_n (q := 54) dX5_save_53 rfl rfl ?_
        refine V.aload_n (q := 55) dX5_save_54 rfl rfl ?_
        refine V.gM (q := 58) dX5_save_55 (j := 4) rfl bw_1015 rfl rfl rfl rfl ?_
        rw [e4]
        refine V.if_ne (tgt := 65) (q := 61) dX5_save_58 (by decide) rfl (fun c58 => ?_) (fun c58 => ?_)
        · refine V.iconst (q := 66) dX5_save_65 (v := 1) rfl rfl ?_
          refine V.goto (tgt := 70) dX5_save_66 (by decide) ?_
          refine V.pM (q := 73) dX5_save_70 (j := 4) rfl bw_1015 rfl rfl rfl rfl rfl rfl ?_
          refine V.aload_n (q := 74) dX5_save_73 rfl rfl ?_
          refine V.aload_n (q := 75) dX5_save_74 rfl rfl ?_
          refine V.gM (q := 78) dX5_save_75 (j := 5) rfl bw_1016 rfl rfl rfl rfl ?_
          rw [show sF (stF τ3 94 4 1) 94 5 = bI (b 1) from (up2_in (by decide) : up2 (sF τ3) 94 4 1 94 5 = sF τ3 94 5).trans e5]
          refine V.if_ne (tgt := 86) (q := 81) dX5_save_78 (by decide) rfl (fun c78 => ?_) (fun c78 => ?_)
          · refine V.iconst (q := 87) dX5_save_86 (v := 1) rfl rfl ?_
            refine V.goto (tgt := 91) dX5_save_87 (by decide) ?_
            refine V.pM (q := 94) dX5_save_91 (j := 5) rfl bw_1016 rfl rfl rfl rfl rfl rfl ?_
            refine V.iload_n (q := 95) dX5_save_94 rfl rfl ?_
            refine V.if_ne (tgt := 102) (q := 98) dX5_save_95 (by decide) rfl (fun c95 => ?_) (fun c95 => ?_)
            · refine V.iconst (q := 103) dX5_save_102 (v := 0) rfl rfl ?_
              exact V.zret (ty := .boolean) rfl dX5_save_103 rfl ⟨_, _, rfl, rfl, rfl, by rw [bI1.mp c95]; rfl, FrMS.z.trans ((KeepP.ms (s := 0) hK).trans FrMS.fl), MS.save hS hM (by decide) hK ((up2_in (by decide) : up2 (up2 (sF τ3) 94 4 1) 94 5 1 94 4 = up2 (sF τ3) 94 4 1 94 4).trans up2_at) ((up2_at : up2 (up2 (sF τ3) 94 4 1) 94 5 1 94 5 = 1).trans (congrArg bI (bI1.mp c78)).symm) rfl, ((up2_in (by decide) : up2 (up2 (sF τ3) 94 4 1) 94 5 1 94 0 = up2 (sF τ3) 94 4 1 94 0).trans (up2_in (by decide))).trans (hK.1.thr.trans thr_z)⟩
            · refine V.iconst (q := 99) dX5_save_98 (v := 1) rfl rfl ?_
              refine V.goto (tgt := 103) dX5_save_99 (by decide) ?_
              exact V.zret (ty := .boolean) rfl dX5_save_103 rfl ⟨_, _, rfl, rfl, rfl, by rw [bI0.mp c95]; rfl, FrMS.z.trans ((KeepP.ms (s := 0) hK).trans FrMS.fl), MS.save hS hM (by decide) hK ((up2_in (by decide) : up2 (up2 (sF τ3) 94 4 1) 94 5 1 94 4 = up2 (sF τ3) 94 4 1 94 4).trans up2_at) ((up2_at : up2 (up2 (sF τ3) 94 4 1) 94 5 1 94 5 = 1).trans (congrArg bI (bI1.mp c78)).symm) rfl, ((up2_in (by decide) : up2 (up2 (sF τ3) 94 4 1) 94 5 1 94 0 = up2 (sF τ3) 94 4 1 94 0).trans (up2_in (by decide))).trans (hK.1.thr.trans thr_z)⟩
          · refine V.iload_n (q := 82) dX5_save_81 rfl rfl ?_
            refine V.iconst (q := 83) dX5_save_82 (v := 1) rfl rfl ?_
            refine V.icmp_ne (tgt := 90) (q := 86) dX5_save_83 (by decide) rfl (fun c83 => ?_) (fun c83 => ?_)
            · refine V.iconst (q := 91) dX5_save_90 (v := 0) rfl rfl ?_
              refine V.pM (q := 94) dX5_save_91 (j := 5) rfl bw_1016 rfl rfl rfl rfl rfl rfl ?_
              refine V.iload_n (q := 95) dX5_save_94 rfl rfl ?_
              refine V.if_ne (tgt := 102) (q := 98) dX5_save_95 (by decide) rfl (fun c95 => ?_) (fun c95 => ?_)
              · refine V.iconst (q := 103) dX5_save_102 (v := 0) rfl rfl ?_
                exact V.zret (ty := .boolean) rfl dX5_save_103 rfl ⟨_, _, rfl, rfl, rfl, by rw [bI1.mp c95]; rfl, FrMS.z.trans ((KeepP.ms (s := 0) hK).trans FrMS.fl), MS.save hS hM (by decide) hK ((up2_in (by decide) : up2 (up2 (sF τ3) 94 4 1) 94 5 0 94 4 = up2 (sF τ3) 94 4 1 94 4).trans up2_at) ((up2_at : up2 (up2 (sF τ3) 94 4 1) 94 5 0 94 5 = 0).trans (congrArg bI (bI0.mp c78)).symm) rfl, ((up2_in (by decide) : up2 (up2 (sF τ3) 94 4 1) 94 5 0 94 0 = up2 (sF τ3) 94 4 1 94 0).trans (up2_in (by decide))).trans (hK.1.thr.trans thr_z)⟩
              · refine V.iconst (q := 99) dX5_save_98 (v := 1) rfl rfl ?_
                refine V.goto (tgt := 103) dX5_save_99 (by decide) ?_
                exact V.zret (ty := .boolean) rfl dX5_save_103 rfl ⟨_, _, rfl, rfl, rfl, by rw [bI0.mp c95]; rfl, FrMS.z.trans ((KeepP.ms (s := 0) hK).trans FrMS.fl), MS.save hS hM (by decide) hK ((up2_in (by decide) : up2 (up2 (sF τ3) 94 4 1) 94 5 0 94 4 = up2 (sF τ3) 94 4 1 94 4).trans up2_at) ((up2_at : up2 (up2 (sF τ3) 94 4 1) 94 5 0 94 5 = 0).trans (congrArg bI (bI0.mp c78)).symm) rfl, ((up2_in (by decide) : up2 (up2 (sF τ3) 94 4 1) 94 5 0 94 0 = up2 (sF τ3) 94 4 1 94 0).trans (up2_in (by decide))).trans (hK.1.thr.trans thr_z)⟩
            · exact absurd c83 (by decide)
        · refine V.iload_n (q := 62) dX5_save_61 rfl rfl ?_
          refine V.if_ne (tgt := 69) (q := 65) dX5_save_62 (by decide) rfl (fun c62 => ?_) (fun c62 => ?_)
          · exact absurd rfl c62
          · refine V.iconst (q := 66) dX5_save_65 (v := 1) rfl rfl ?_
            refine V.goto (tgt := 70) dX5_save_66 (by decide) ?_
            refine V.pM (q := 73) dX5_save_70 (j := 4) rfl bw_1015 rfl rfl rfl rfl rfl rfl ?_
            refine V.aload_n (q := 74) dX5_save_73 rfl rfl ?_
            refine V.aload_n (q := 75) dX5_save_74 rfl rfl ?_
            refine V.gM (q := 78) dX5_save_75 (j := 5) rfl bw_1016 rfl rfl rfl rfl ?_
            rw [show sF (stF τ3 94 4 1) 94 5 = bI (b 1) from (up2_in (by decide) : up2 (sF τ3) 94 4 1 94 5 = sF τ3 94 5).trans e5]
            refine V.if_ne (tgt := 86) (q := 81) dX5_save_78 (by decide) rfl (fun c78 => ?_) (fun c78 => ?_)
            · refine V.iconst (q := 87) dX5_save_86 (v := 1) rfl rfl ?_
              refine V.goto (tgt := 91) dX5_save_87 (by decide) ?_
              refine V.pM (q := 94) dX5_save_91 (j := 5) rfl bw_1016 rfl rfl rfl rfl rfl rfl ?_
              refine V.iload_n (q := 95) dX5_save_94 rfl rfl ?_
              refine V.if_ne (tgt := 102) (q := 98) dX5_save_95 (by decide) rfl (fun c95 => ?_) (fun c95 => ?_)
              · refine V.iconst (q := 103) dX5_save_102 (v := 0) rfl rfl ?_
                exact V.zret (ty := .boolean) rfl dX5_save_103 rfl ⟨_, _, rfl, rfl, rfl, by rw [bI1.mp c95]; rfl, FrMS.z.trans ((KeepP.ms (s := 0) hK).trans FrMS.fl), MS.save hS hM (by decide) hK ((up2_in (by decide) : up2 (up2 (sF τ3) 94 4 1) 94 5 1 94 4 = up2 (sF τ3) 94 4 1 94 4).trans up2_at) ((up2_at : up2 (up2 (sF τ3) 94 4 1) 94 5 1 94 5 = 1).trans (congrArg bI (bI1.mp c78)).symm) rfl, ((up2_in (by decide) : up2 (up2 (sF τ3) 94 4 1) 94 5 1 94 0 = up2 (sF τ3) 94 4 1 94 0).trans (up2_in (by decide))).trans (hK.1.thr.trans thr_z)⟩
              · refine V.iconst (q := 99) dX5_save_98 (v := 1) rfl rfl ?_
                refine V.goto (tgt := 103) dX5_save_99 (by decide) ?_
                exact V.zret (ty := .boolean) rfl dX5_save_103 rfl ⟨_, _, rfl, rfl, rfl, by rw [bI0.mp c95]; rfl, FrMS.z.trans ((KeepP.ms (s := 0) hK).trans FrMS.fl), MS.save hS hM (by decide) hK ((up2_in (by decide) : up2 (up2 (sF τ3) 94 4 1) 94 5 1 94 4 = up2 (sF τ3) 94 4 1 94 4).trans up2_at) ((up2_at : up2 (up2 (sF τ3) 94 4 1) 94 5 1 94 5 = 1).trans (congrArg bI (bI1.mp c78)).symm) rfl, ((up2_in (by decide) : up2 (up2 (sF τ3) 94 4 1) 94 5 1 94 0 = up2 (sF τ3) 94 4 1 94 0).trans (up2_in (by decide))).trans (hK.1.thr.trans thr_z)⟩
            · refine V.iload_n (q := 82) dX5_save_81 rfl rfl ?_
              refine V.iconst (q := 83) dX5_save_82 (v := 1) rfl rfl ?_
              refine V.icmp_ne (tgt := 90) (q := 86) dX5_save_83 (by decide) rfl (fun c83 => ?_) (fun c83 => ?_)
              · refine V.iconst (q := 91) dX5_save_90 (v := 0) rfl rfl ?_
                refine V.pM (q := 94) dX5_save_91 (j := 5) rfl bw_1016 rfl rfl rfl rfl rfl rfl ?_
                refine V.iload_n (q := 95) dX5_save_94 rfl rfl ?_
                refine V.if_ne (tgt := 102) (q := 98) dX5_save_95 (by decide) rfl (fun c95 => ?_) (fun c95 => ?_)
                · refine V.iconst (q := 103) dX5_save_102 (v := 0) rfl rfl ?_
                  exact V.zret (ty := .boolean) rfl dX5_save_103 rfl ⟨_, _, rfl, rfl, rfl, by rw [bI1.mp c95]; rfl, FrMS.z.trans ((KeepP.ms (s := 0) hK).trans FrMS.fl), MS.save hS hM (by decide) hK ((up2_in (by decide) : up2 (up2 (sF τ3) 94 4 1) 94 5 0 94 4 = up2 (sF τ3) 94 4 1 94 4).trans up2_at) ((up2_at : up2 (up2 (sF τ3) 94 4 1) 94 5 0 94 5 = 0).trans (congrArg bI (bI0.mp c78)).symm) rfl, ((up2_in (by decide) : up2 (up2 (sF τ3) 94 4 1) 94 5 0 94 0 = up2 (sF τ3) 94 4 1 94 0).trans (up2_in (by decide))).trans (hK.1.thr.trans thr_z)⟩
                · refine V.iconst (q := 99) dX5_save_98 (v := 1) rfl rfl ?_
                  refine V.goto (tgt := 103) dX5_save_99 (by decide) ?_
                  exact V.zret (ty := .boolean) rfl dX5_save_103 rfl ⟨_, _, rfl, rfl, rfl, by rw [bI0.mp c95]; rfl, FrMS.z.trans ((KeepP.ms (s := 0) hK).trans FrMS.fl), MS.save hS hM (by decide) hK ((up2_in (by decide) : up2 (up2 (sF τ3) 94 4 1) 94 5 0 94 4 = up2 (sF τ3) 94 4 1 94 4).trans up2_at) ((up2_at : up2 (up2 (sF τ3) 94 4 1) 94 5 0 94 5 = 0).trans (congrArg bI (bI0.mp c78)).symm) rfl, ((up2_in (by decide) : up2 (up2 (sF τ3) 94 4 1) 94 5 0 94 0 = up2 (sF τ3) 94 4 1 94 0).trans (up2_in (by decide))).trans (hK.1.thr.trans thr_z)⟩
              · exact absurd c83 (by decide)
    · exact absurd rfl c24
  · exact absurd c12 (by decide)
set_option maxHeartbeats 2000000 in
theorem kM_save1 {l : Launch} {G : GG} {σ : St} {u : Vw} (hM : RM σ u) {b : Nat → Bool} {v : Nat → Vw} (hS : MS σ b v) : CtP l G TX5_save 1 [.ref (gB G + 94), .int 1] σ (fun w τ => w = some (.int (bI (!(b 1)))) ∧ FrMS σ τ ∧ MS τ (slB b 1) (slV v 1 u) ∧ thr τ = 0) := by
  have hn : un u ≤ 40 := hM.1
  refine CtP.ofV (by decide +kernel) rfl rfl (Nat.le_of_ble_eq_true rfl) ?_
  refine V.aload_n (q := 1) dX5_save_0 rfl rfl ?_
  refine V.iconst (q := 2) dX5_save_1 (v := 0) rfl rfl ?_
  refine V.pM (q := 5) dX5_save_2 (j := 0) rfl bw_1011 rfl rfl rfl rfl rfl rfl ?_
  have hM : RM (stF σ 94 0 0) u := hM.scF
  have hS : MS (stF σ 94 0 0) b v := hS.z
  refine V.aload_n (q := 6) dX5_save_5 rfl rfl ?_
  refine V.iload_n (q := 7) dX5_save_6 rfl rfl ?_
  refine V.iconst (q := 8) dX5_save_7 (v := 0) rfl rfl ?_
  refine V.iconst (q := 9) dX5_save_8 (v := 1) rfl rfl ?_
  refine V.cSt (q := 12) dX5_save_9 (As := [_, _, _]) rfl cM_inRange MX5_inRange bw_1097 rfl rfl (by decide) rfl ?_
  refine V.if_ne (tgt := 19) (q := 15) dX5_save_12 (by decide) rfl (fun c12 => ?_) (fun c12 => ?_)
  · refine V.iconst (q := 20) dX5_save_19 (v := 0) rfl rfl ?_
    refine V.iconst (q := 21) dX5_save_20 (v := 1) rfl rfl ?_
    refine V.cVMP (q := 24) (As := [_, _]) dX5_save_21 rfl (kM_fails_false) MX5_fails bw_1351 rfl rfl rfl rfl (by decide) rfl (fun v1 τ1 h1 => ?_)
    obtain ⟨rfl, rfl⟩ := h1
    refine V.if_eq (tgt := 29) (q := 27) dX5_save_24 (by decide) rfl (fun c24 => ?_) (fun c24 => ?_)
    · refine V.iload_n (q := 30) dX5_save_29 rfl rfl ?_
      refine V.if_ne (tgt := 40) (q := 33) dX5_save_30 (by decide) rfl (fun c30 => ?_) (fun c30 => ?_)
      · refine V.aload_n (q := 41) dX5_save_40 rfl rfl ?_
        refine V.gM (q := 44) dX5_save_41 (j := 5) rfl bw_1016 rfl rfl rfl rfl ?_
        rw [hS.2.1]
        refine V.istore_n (q := 45) dX5_save_44 rfl rfl rfl rfl ?_
        refine V.aload_n (q := 46) dX5_save_45 rfl rfl ?_
        refine V.bipush (q := 48) dX5_save_46 (v := 8) rfl rfl ?_
        refine V.iload_n (q := 49) dX5_save_48 rfl rfl ?_
        refine V.iadd (q := 50) dX5_save_49 rfl ?_
        rw [show (8 : Int32) + 1 = nI 9 from rfl]
        refine V.cVMP (q := 53) (As := [_]) dX5_save_50 rfl (cM_keeps (pl := 9) (by decide)) MX5_keeps bw_1080 rfl rfl rfl rfl (by decide) rfl (fun v3 τ3 h3 => ?_)
        obtain ⟨rfl, hK⟩ := h3
        have e4 : sF τ3 94 4 = bI (b 0) := by rw [hK.1.1]; exact hS.1
        have e5 : sF τ3 94 5 = bI (b 1) := by rw [hK.1.1]; exact hS.2.1
        refine V.aload_n (q := 54) dX5_save_53 rfl rfl ?_
        refine V.aload_n (q := 55) dX5_save_54 rfl rfl ?_
        refine V.gM (q := 58) dX5_save_55 (j := 4) rfl bw_1015 rfl rfl rfl rfl ?_
        rw [e4]
        refine V.if_ne (tgt := 65) (q := 61) dX5_save_58 (by decide) rfl (fun c58 => ?_) (fun c58 => ?_)
        · refine V.iconst (q := 66) dX5_save_65 (v := 1) rfl rfl ?_
          refine V.goto (tgt := 70) dX5_save_66 (by decide) ?_
          refine V.pM (q := 73) dX5_save_70 (j := 4) rfl bw_1015 rfl rfl rfl rfl rfl rfl ?_
          refine V.aload_n (q := 74) dX5_save_73 rfl rfl ?_
          refine V.aload_n (q := 75) dX5_save_74 rfl rfl ?_
          refine V.gM (q := 78) dX5_save_75 (j := 5) rfl bw_1016 rfl rfl rfl rfl ?_
          rw [show sF (stF τ3 94 4 1) 94 5 = bI (b 1) from (up2_in (by decide) : up2 (sF τ3) 94 4 1 94 5 = sF τ3 94 5).trans e5]
          refine V.if_ne (tgt := 86) (q := 81) dX5_save_78 (by decide) rfl (fun c78 => ?_) (fun c78 => ?_)
          · refine V.iconst (q := 87) dX5_save_86 (v := 1) rfl rfl ?_
            refine V.goto (tgt := 91) dX5_save_87 (by decide) ?_
            refine V.pM (q := 94) dX5_save_91 (j := 5) rfl bw_1016 rfl rfl rfl rfl rfl rfl ?_
            refine V.iload_n (q := 95) dX5_save_94 rfl rfl ?_
            refine V.if_ne (tgt := 102) (q := 98) dX5_save_95 (by decide) rfl (fun c95 => ?_) (fun c95 => ?_)
            · refine V.iconst (q := 103) dX5_save_102 (v := 0) rfl rfl ?_
              exact V.zret (ty := .boolean) rfl dX5_save_103 rfl ⟨_, _, rfl, rfl, rfl, by rw [bI1.mp c95]; rfl, FrMS.z.trans ((KeepP.ms (s := 1) hK).trans FrMS.fl), MS.save hS hM (by decide) hK (((up2_in (by decide) : up2 (up2 (sF τ3) 94 4 1) 94 5 1 94 4 = up2 (sF τ3) 94 4 1 94 4).trans up2_at).trans (congrArg bI (bI1.mp c58)).symm) (up2_at : up2 (up2 (sF τ3) 94 4 1) 94 5 1 94 5 = 1) rfl, ((up2_in (by decide) : up2 (up2 (sF τ3) 94 4 1) 94 5 1 94 0 = up2 (sF τ3) 94 4 1 94 0).trans (up2_in (by decide))).trans (hK.1.thr.trans thr_z)⟩
            · refine V.iconst (q := 99) dX5_save_98 (v := 1) rfl rfl ?_
              refine V.goto (tgt := 103) dX5_save_99 (by decide) ?_
              exact V.zret (ty := .boolean) rfl dX5_save_103 rfl ⟨_, _, rfl, rfl, rfl, by rw [bI0.mp c95]; rfl, FrMS.z.trans ((KeepP.ms (s := 1) hK).trans FrMS.fl), MS.save hS hM (by decide) hK (((up2_in (by decide) : up2 (up2 (sF τ3) 94 4 1) 94 5 1 94 4 = up2 (sF τ3) 94 4 1 94 4).trans up2_at).trans (congrArg bI (bI1.mp c58)).symm) (up2_at : up2 (up2 (sF τ3) 94 4 1) 94 5 1 94 5 = 1) rfl, ((up2_in (by decide) : up2 (up2 (sF τ3) 94 4 1) 94 5 1 94 0 = up2 (sF τ3) 94 4 1 94 0).trans (up2_in (by decide))).trans (hK.1.thr.trans thr_z)⟩
          · refine V.iload_n (q := 82) dX5_save_81 rfl rfl ?_
            refine V.iconst (q := 83) dX5_save_82 (v := 1) rfl rfl ?_
            refine V.icmp_ne (tgt := 90) (q := 86) dX5_save_83 (by decide) rfl (fun c83 => ?_) (fun c83 => ?_)
            · exact absurd rfl c83
            · refine V.iconst (q := 87) dX5_save_86 (v := 1) rfl rfl ?_
              refine V.goto (tgt := 91) dX5_save_87 (by decide) ?_
              refine V.pM (q := 94) dX5_save_91 (j := 5) rfl bw_1016 rfl rfl rfl rfl rfl rfl ?_
              refine V.iload_n (q := 95) dX5_save_94 rfl rfl ?_
              refine V.if_ne (tgt := 102) (q := 98) dX5_save_95 (by decide) rfl (fun c95 => ?_) (fun c95 => ?_)
              · refine V.iconst (q := 103) dX5_save_102 (v := 0) rfl rfl ?_
                exact V.zret (ty := .boolean) rfl dX5_save_103 rfl ⟨_, _, rfl, rfl, rfl, by rw [bI1.mp c95]; rfl, FrMS.z.trans ((KeepP.ms (s := 1) hK).trans FrMS.fl), MS.save hS hM (by decide) hK (((up2_in (by decide) : up2 (up2 (sF τ3) 94 4 1) 94 5 1 94 4 = up2 (sF τ3) 94 4 1 94 4).trans up2_at).trans (congrArg bI (bI1.mp c58)).symm) (up2_at : up2 (up2 (sF τ3) 94 4 1) 94 5 1 94 5 = 1) rfl, ((up2_in (by decide) : up2 (up2 (sF τ3) 94 4 1) 94 5 1 94 0 = up2 (sF τ3) 94 4 1 94 0).trans (up2_in (by decide))).trans (hK.1.thr.trans thr_z)⟩
              · refine V.iconst (q := 99) dX5_save_98 (v := 1) rfl rfl ?_
                refine V.goto (tgt := 103) dX5_save_99 (by decide) ?_
                exact V.zret (ty := .boolean) rfl dX5_save_103 rfl ⟨_, _, rfl, rfl, rfl, by rw [bI0.mp c95]; rfl, FrMS.z.trans ((KeepP.ms (s := 1) hK).trans FrMS.fl), MS.save hS hM (by decide) hK (((up2_in (by decide) : up2 (up2 (sF τ3) 94 4 1) 94 5 1 94 4 = up2 (sF τ3) 94 4 1 94 4).trans up2_at).trans (congrArg bI (bI1.mp c58)).symm) (up2_at : up2 (up2 (sF τ3) 94 4 1) 94 5 1 94 5 = 1) rfl, ((up2_in (by decide) : up2 (up2 (sF τ3) 94 4 1) 94 5 1 94 0 = up2 (sF τ3) 94 4 1 94 0).trans (up2_in (by decide))).trans (hK.1.thr.trans thr_z)⟩
        · refine V.iload_n (q := 62) dX5_save_61 rfl rfl ?_
          refine V.if_ne (tgt := 69) (q := 65) dX5_save_62 (by decide) rfl (fun c62 => ?_) (fun c62 => ?_)
          · refine V.iconst (q := 70) dX5_save_69 (v := 0) rfl rfl ?_
            refine V.pM (q := 73) dX5_save_70 (j := 4) rfl bw_1015 rfl rfl rfl rfl rfl rfl ?_
            refine V.aload_n (q := 74) dX5_save_73 rfl rfl ?_
            refine V.aload_n (q := 75) dX5_save_74 rfl rfl ?_
            refine V.gM (q := 78) dX5_save_75 (j := 5) rfl bw_1016 rfl rfl rfl rfl ?_
            rw [show sF (stF τ3 94 4 0) 94 5 = bI (b 1) from (up2_in (by decide) : up2 (sF τ3) 94 4 0 94 5 = sF τ3 94 5).trans e5]
            refine V.if_ne (tgt := 86) (q := 81) dX5_save_78 (by decide) rfl (fun c78 => ?_) (fun c78 => ?_)
            · refine V.iconst (q := 87) dX5_save_86 (v := 1) rfl rfl ?_
              refine V.goto (tgt := 91) dX5_save_87 (by decide) ?_
              refine V.pM (q := 94) dX5_save_91 (j := 5) rfl bw_1016 rfl rfl rfl rfl rfl rfl ?_
              refine V.iload_n (q := 95) dX5_save_94 rfl rfl ?_
              refine V.if_ne (tgt := 102) (q := 98) dX5_save_95 (by decide) rfl (fun c95 => ?_) (fun c95 => ?_)
              · refine V.iconst (q := 103) dX5_save_102 (v := 0) rfl rfl ?_
                exact V.zret (ty := .boolean) rfl dX5_save_103 rfl ⟨_, _, rfl, rfl, rfl, by rw [bI1.mp c95]; rfl, FrMS.z.trans ((KeepP.ms (s := 1) hK).trans FrMS.fl), MS.save hS hM (by decide) hK (((up2_in (by decide) : up2 (up2 (sF τ3) 94 4 0) 94 5 1 94 4 = up2 (sF τ3) 94 4 0 94 4).trans up2_at).trans (congrArg bI (bI0.mp c58)).symm) (up2_at : up2 (up2 (sF τ3) 94 4 0) 94 5 1 94 5 = 1) rfl, ((up2_in (by decide) : up2 (up2 (sF τ3) 94 4 0) 94 5 1 94 0 = up2 (sF τ3) 94 4 0 94 0).trans (up2_in (by decide))).trans (hK.1.thr.trans thr_z)⟩
              · refine V.iconst (q := 99) dX5_save_98 (v := 1) rfl rfl ?_
                refine V.goto (tgt := 103) dX5_save_99 (by decide) ?_
                exact V.zret (ty := .boolean) rfl dX5_save_103 rfl ⟨_, _, rfl, rfl, rfl, by rw [bI0.mp c95]; rfl, FrMS.z.trans ((KeepP.ms (s := 1) hK).trans FrMS.fl), MS.save hS hM (by decide) hK (((up2_in (by decide) : up2 (up2 (sF τ3) 94 4 0) 94 5 1 94 4 = up2 (sF τ3) 94 4 0 94 4).trans up2_at).trans (congrArg bI (bI0.mp c58)).symm) (up2_at : up2 (up2 (sF τ3) 94 4 0) 94 5 1 94 5 = 1) rfl, ((up2_in (by decide) : up2 (up2 (sF τ3) 94 4 0) 94 5 1 94 0 = up2 (sF τ3) 94 4 0 94 0).trans (up2_in (by decide))).trans (hK.1.thr.trans thr_z)⟩
            · refine V.iload_n (q := 82) dX5_save_81 rfl rfl ?_
              refine V.iconst (q := 83) dX5_save_82 (v := 1) rfl rfl ?_
              refine V.icmp_ne (tgt := 90) (q := 86) dX5_save_83 (by decide) rfl (fun c83 => ?_) (fun c83 => ?_)
              · exact absurd rfl c83
              · refine V.iconst (q := 87) dX5_save_86 (v := 1) rfl rfl ?_
                refine V.goto (tgt := 91) dX5_save_87 (by decide) ?_
                refine V.pM (q := 94) dX5_save_91 (j := 5) rfl bw_1016 rfl rfl rfl rfl rfl rfl ?_
                refine V.iload_n (q := 95) dX5_save_94 rfl rfl ?_
                refine V.if_ne (tgt := 102) (q := 98) dX5_save_95 (by decide) rfl (fun c95 => ?_) (fun c95 => ?_)
                · refine V.iconst (q := 103) dX5_save_102 (v := 0) rfl rfl ?_
                  exact V.zret (ty := .boolean) rfl dX5_save_103 rfl ⟨_, _, rfl, rfl, rfl, by rw [bI1.mp c95]; rfl, FrMS.z.trans ((KeepP.ms (s := 1) hK).trans FrMS.fl), MS.save hS hM (by decide) hK (((up2_in (by decide) : up2 (up2 (sF τ3) 94 4 0) 94 5 1 94 4 = up2 (sF τ3) 94 4 0 94 4).trans up2_at).trans (congrArg bI (bI0.mp c58)).symm) (up2_at : up2 (up2 (sF τ3) 94 4 0) 94 5 1 94 5 = 1) rfl, ((up2_in (by decide) : up2 (up2 (sF τ3) 94 4 0) 94 5 1 94 0 = up2 (sF τ3) 94 4 0 94 0).trans (up2_in (by decide))).trans (hK.1.thr.trans thr_z)⟩
                · refine V.iconst (q := 99) dX5_save_98 (v := 1) rfl rfl ?_
                  refine V.goto (tgt := 103) dX5_save_99 (by decide) ?_
                  exact V.zret (ty := .boolean) rfl dX5_save_103 rfl ⟨_, _, rfl, rfl, rfl, by rw [bI0.mp c95]; rfl, FrMS.z.trans ((KeepP.ms (s := 1) hK).trans FrMS.fl), MS.save hS hM (by decide) hK (((up2_in (by decide) : up2 (up2 (sF τ3) 94 4 0) 94 5 1 94 4 = up2 (sF τ3) 94 4 0 94 4).trans up2_at).trans (congrArg bI (bI0.mp c58)).symm) (up2_at : up2 (up2 (sF τ3) 94 4 0) 94 5 1 94 5 = 1) rfl, ((up2_in (by decide) : up2 (up2 (sF τ3) 94 4 0) 94 5 1 94 0 = up2 (sF τ3) 94 4 0 94 0).trans (up2_in (by decide))).trans (hK.1.thr.trans thr_z)⟩
          · exact absurd c62 (by decide)
      · exact absurd c30 (by decide)
    · exact absurd rfl c24
  · exact absurd c12 (by decide)
set_option maxHeartbeats 2000000 in
theorem kM_saveN {l : Launch} {G : GG} {σ : St} {u : Vw} (hM : RM σ u) {b : Nat → Bool} {v : Nat → Vw} (hS : MS σ b v) {x : Int32} (hx : okI 0 1 x = false) : CtP l G TX5_save 1 [.ref (gB G + 94), .int x] σ (fun v τ => v = some (.int (0)) ∧ FrX σ τ ∧ RM τ u ∧ thr τ = 1) := by
  have hn : un u ≤ 40 := hM.1
  refine CtP.ofV (by decide +kernel) rfl rfl (Nat.le_of_ble_eq_true rfl) ?_
  refine V.aload_n (q := 1) dX5_save_0 rfl rfl ?_
  refine V.iconst (q := 2) dX5_save_1 (v := 0) rfl rfl ?_
  refine V.pM (q := 5) dX5_save_2 (j := 0) rfl bw_1011 rfl rfl rfl rfl rfl rfl ?_
  have hM : RM (stF σ 94 0 0) u := hM.scF
  have hS : MS (stF σ 94 0 0) b v := hS.z
  refine V.aload_n (q := 6) dX5_save_5 rfl rfl ?_
  refine V.iload_n (q := 7) dX5_save_6 rfl rfl ?_
  refine V.iconst (q := 8) dX5_save_7 (v := 0) rfl rfl ?_
  refine V.iconst (q := 9) dX5_save_8 (v := 1) rfl rfl ?_
  refine V.cSt (q := 12) dX5_save_9 (As := [_, _, _]) rfl cM_inRange MX5_inRange bw_1097 rfl rfl (by decide) rfl ?_
  refine V.if_ne (tgt := 19) (q := 15) dX5_save_12 (by decide) rfl (fun c12 => ?_) (fun c12 => ?_)
  · exact absurd (bI1.mp c12) (by rw [show (decide ((0 : Int32) ≤ x) && decide (x ≤ 1)) = false from hx]; decide)
  · refine V.iconst (q := 16) dX5_save_15 (v := 1) rfl rfl ?_
    refine V.goto (tgt := 20) dX5_save_16 (by decide) ?_
    refine V.iconst (q := 21) dX5_save_20 (v := 1) rfl rfl ?_
    refine V.cVMP (q := 24) (As := [_, _]) dX5_save_21 rfl (kM_fails_true) MX5_fails bw_1351 rfl rfl rfl rfl (by decide) rfl (fun v1 τ1 h1 => ?_)
    obtain ⟨rfl, rfl⟩ := h1
    refine V.if_eq (tgt := 29) (q := 27) dX5_save_24 (by decide) rfl (fun c24 => ?_) (fun c24 => ?_)
    · exact absurd c24 (by decide)
    · refine V.iconst (q := 28) dX5_save_27 (v := 0) rfl rfl ?_
      exact V.zret (ty := .boolean) rfl dX5_save_28 rfl ⟨_, _, rfl, rfl, rfl, rfl, FrX.z.trans FrX.z, hM.scF, thr_z⟩
