/-! Simulation: the first waiting, the nearest stops, the target -/
set_option maxHeartbeats 1000000 in
theorem cS_findFirstWaiting {l : Launch} {G : GG} {σ : St} {u : Vw} {qq : Nat → Nat} {p : Nat} (hp : kd p = 1) (hR : RC σ p u qq) (hl : Lb u) : CtS l G TX3_findFirstWaiting 0 [.ref (gB G + p)] σ (some (.int (oI (fw u (isW u) (un u))))) σ := by
  have hn : un u ≤ 40 := hR.1
  have hq : Qok u qq := hR.2.2.2.2.2.2.2
  refine CtS.ofV (by decide +kernel) rfl rfl (Nat.le_of_ble_eq_true rfl) ?_
  have loop : ∀ (m : Nat) (i : Nat) (L2 : Option Value), m = un u - i → i ≤ un u → (∀ j, j < i → ¬ ur u 3 (qq j) = -1) → V l G TX3_findFirstWaiting 0 0 0 (RetS G (some (.int (oI (fw u (isW u) (un u))))) σ) 0 0 2 [some (.ref (gB G + p)), some (.int (nI i)), L2] [] (hof G σ) NC := by
    intro m
    induction m using Nat.strongRecOn with
    | _ m ih =>
      intro i L2 hm hile hb
      refine V.iload_n (q := 3) dX3_findFirstWaiting_2 rfl rfl ?_
      refine V.aload_n (q := 4) dX3_findFirstWaiting_3 rfl rfl ?_
      refine V.gSn (q := 7) dX3_findFirstWaiting_4 hR hp bw_68 rfl ?_
      refine V.icmp_ge (tgt := 52) (q := 10) dX3_findFirstWaiting_7 (by decide) rfl (fun c7 => ?_) (fun c7 => ?_)
      · have hie : i = un u := Nat.le_antisymm hile (nle c7 (by omega) (by omega))
        refine V.iconst (q := 53) dX3_findFirstWaiting_52 (v := -1) rfl rfl ?_
        exact V.iret dX3_findFirstWaiting_53 rfl ⟨by rw [fw_queue_end hq (fun j hj => hb j (by omega))]; rfl, rfl, rfl⟩
      · have hlt : i < un u := nnle c7 (by omega) (by omega)
        have hqi : qq i < un u := hq.1 i hlt
        refine V.aload_n (q := 11) dX3_findFirstWaiting_10 rfl rfl ?_
        refine V.gS (q := 14) dX3_findFirstWaiting_11 (j := 18) hp bw_86 rfl rfl rfl rfl ?_
        refine V.iload_n (q := 15) dX3_findFirstWaiting_14 rfl rfl ?_
        refine V.ldSq (q := 16) dX3_findFirstWaiting_15 hR hp rfl (by omega) rfl ?_
        refine V.istore_n (q := 17) dX3_findFirstWaiting_16 rfl rfl rfl rfl ?_
        refine V.aload_n (q := 18) dX3_findFirstWaiting_17 rfl rfl ?_
        refine V.gS (q := 21) dX3_findFirstWaiting_18 (j := 16) hp bw_82 rfl rfl rfl rfl ?_
        refine V.iload_n (q := 22) dX3_findFirstWaiting_21 rfl rfl ?_
        refine V.ldSu (q := 23) 3 dX3_findFirstWaiting_22 hR hp rfl rfl hqi rfl ?_
        refine V.iconst (q := 24) dX3_findFirstWaiting_23 (v := -1) rfl rfl ?_
        refine V.icmp_ne (tgt := 46) (q := 27) dX3_findFirstWaiting_24 (by decide) rfl (fun c24 => ?_) (fun c24 => ?_)
        · refine V.iinc (q := 49) dX3_findFirstWaiting_46 rfl (by first | exact nI_inc _ | rfl) rfl rfl rfl ?_
          refine V.goto (tgt := 2) dX3_findFirstWaiting_49 (by decide) ?_
          refine ih _ (by omega) (i + 1) _ rfl (by omega) (fun j hj => ?_)
          by_cases e : j = i
          · subst e; exact c24
          · exact hb j (by omega)
        · refine V.aload_n (q := 28) dX3_findFirstWaiting_27 rfl rfl ?_
          refine V.gS (q := 31) dX3_findFirstWaiting_28 (j := 15) hp bw_80 rfl rfl rfl rfl ?_
          refine V.iload_n (q := 32) dX3_findFirstWaiting_31 rfl rfl ?_
          refine V.ldSu (q := 33) 2 dX3_findFirstWaiting_32 hR hp rfl rfl hqi rfl ?_
          refine V.aload_n (q := 34) dX3_findFirstWaiting_33 rfl rfl ?_
          refine V.gSu (q := 37) 3 dX3_findFirstWaiting_34 hR hp bw_52 rfl rfl ?_
          refine V.icmp_gt (tgt := 44) (q := 40) dX3_findFirstWaiting_37 (by decide) rfl (fun c37 => ?_) (fun c37 => ?_)
          · refine V.iconst (q := 45) dX3_findFirstWaiting_44 (v := -1) rfl rfl ?_
            exact V.iret dX3_findFirstWaiting_45 rfl ⟨by rw [(fw_queue hq hl hlt hb c24).2 (Int32.not_le.mpr c37)]; rfl, rfl, rfl⟩
          · refine V.iload_n (q := 41) dX3_findFirstWaiting_40 rfl rfl ?_
            refine V.goto (tgt := 45) dX3_findFirstWaiting_41 (by decide) ?_
            exact V.iret dX3_findFirstWaiting_45 rfl ⟨by rw [(fw_queue hq hl hlt hb c24).1 (Int32.not_lt.mp c37)]; rfl, rfl, rfl⟩
  refine V.iconst (q := 1) dX3_findFirstWaiting_0 (v := 0) rfl rfl ?_
  refine V.istore_n (q := 2) dX3_findFirstWaiting_1 rfl rfl rfl rfl ?_
  exact loop _ 0 none rfl (Nat.zero_le _) (fun j hj => absurd hj (Nat.not_lt_zero j))
set_option maxHeartbeats 1000000 in
theorem cS_findStopBelow {l : Launch} {G : GG} {σ : St} {u : Vw} {qq : Nat → Nat} {p : Nat} (hp : kd p = 1) (hR : RC σ p u qq) (hI : Iu u) {m9 : Int32} : CtS l G TX3_findStopBelow 0 [.ref (gB G + p), .int m9] σ (some (.int (dnI m9 (uF u)))) σ := by
  have hn : un u ≤ 40 := hR.1
  obtain ⟨hF, hN, hFN, hN20, -⟩ := hI.F
  refine CtS.ofV (by decide +kernel) rfl rfl (Nat.le_of_ble_eq_true rfl) ?_
  have loop : ∀ k : Nat, k ≤ uF u → dnI m9 (uF u) = dnI m9 k → V l G TX3_findStopBelow 0 0 0 (RetS G (some (.int (dnI m9 (uF u)))) σ) 0 0 7 [some (.ref (gB G + p)), some (.int m9), some (.int (nI k - 1))] [] (hof G σ) NC := by
    intro k
    induction k with
    | zero =>
      intro hk hd
      refine V.iload_n (q := 8) dX3_findStopBelow_7 rfl rfl ?_
      refine V.if_lt (tgt := 27) (q := 11) dX3_findStopBelow_8 (by decide) rfl (fun c8 => ?_) (fun c8 => ?_)
      · refine V.iconst (q := 28) dX3_findStopBelow_27 (v := -1) rfl rfl ?_
        exact V.iret dX3_findStopBelow_28 rfl ⟨by rw [hd]; rfl, rfl, rfl⟩
      · exact absurd (show nI 0 - 1 < 0 by decide) c8
    | succ k ih =>
      intro hk hd
      rw [nI_pred]
      refine V.iload_n (q := 8) dX3_findStopBelow_7 rfl rfl ?_
      refine V.if_lt (tgt := 27) (q := 11) dX3_findStopBelow_8 (by decide) rfl (fun c8 => ?_) (fun c8 => ?_)
      · exact absurd c8 (nlt0 (by omega))
      · refine V.iload_n (q := 12) dX3_findStopBelow_11 rfl rfl ?_
        refine V.iload_n (q := 13) dX3_findStopBelow_12 rfl rfl ?_
        refine V.ishr (q := 14) dX3_findStopBelow_13 rfl ?_
        refine V.iconst (q := 15) dX3_findStopBelow_14 (v := 1) rfl rfl ?_
        refine V.iand (q := 16) dX3_findStopBelow_15 rfl ?_
        refine V.if_eq (tgt := 21) (q := 19) dX3_findStopBelow_16 (by decide) rfl (fun c16 => ?_) (fun c16 => ?_)
        · refine V.iinc (q := 24) dX3_findStopBelow_21 rfl rfl rfl rfl rfl ?_
          refine V.goto (tgt := 7) dX3_findStopBelow_24 (by decide) ?_
          refine V.to (L2 := [some (.ref (gB G + p)), some (.int m9), some (.int (nI k - 1))]) ?_ rfl rfl rfl (ih (by omega) ?_)
          · rw [← nI_m1]; rfl
          · rw [hd]; simp [dnI, hasB, c16]
        · refine V.iload_n (q := 20) dX3_findStopBelow_19 rfl rfl ?_
          exact V.iret dX3_findStopBelow_20 rfl ⟨by rw [hd]; simp [dnI, hasB, c16], rfl, rfl⟩
  refine V.aload_n (q := 1) dX3_findStopBelow_0 rfl rfl ?_
  refine V.gSu (q := 4) 4 dX3_findStopBelow_1 hR hp bw_55 rfl rfl ?_
  rw [hF]
  refine V.iconst (q := 5) dX3_findStopBelow_4 (v := 1) rfl rfl ?_
  refine V.isub (q := 6) dX3_findStopBelow_5 rfl ?_
  refine V.istore_n (q := 7) dX3_findStopBelow_6 rfl rfl rfl rfl ?_
  exact loop _ (Nat.le_refl _) rfl
set_option maxHeartbeats 1000000 in
theorem cS_findStopAbove {l : Launch} {G : GG} {σ : St} {u : Vw} {qq : Nat → Nat} {p : Nat} (hp : kd p = 1) (hR : RC σ p u qq) (hI : Iu u) {m9 : Int32} : CtS l G TX3_findStopAbove 0 [.ref (gB G + p), .int m9] σ (some (.int (upI m9 (uF u + 1) (uN u - (uF u + 1))))) σ := by
  have hn : un u ≤ 40 := hR.1
  obtain ⟨hF, hN, hFN, hN20, -⟩ := hI.F
  refine CtS.ofV (by decide +kernel) rfl rfl (Nat.le_of_ble_eq_true rfl) ?_
  have loop : ∀ (m : Nat) (i : Nat), m = uN u - i → i ≤ uN u → upI m9 (uF u + 1) (uN u - (uF u + 1)) = upI m9 i (uN u - i) → V l G TX3_findStopAbove 0 0 0 (RetS G (some (.int (upI m9 (uF u + 1) (uN u - (uF u + 1))))) σ) 0 0 7 [some (.ref (gB G + p)), some (.int m9), some (.int (nI i))] [] (hof G σ) NC := by
    intro m
    induction m using Nat.strongRecOn with
    | _ m ih =>
      intro i hm hile hd
      refine V.iload_n (q := 8) dX3_findStopAbove_7 rfl rfl ?_
      refine V.aload_n (q := 9) dX3_findStopAbove_8 rfl rfl ?_
      refine V.gSu (q := 12) 0 dX3_findStopAbove_9 hR hp bw_43 rfl rfl ?_
      rw [hN]
      refine V.icmp_ge (tgt := 31) (q := 15) dX3_findStopAbove_12 (by decide) rfl (fun c12 => ?_) (fun c12 => ?_)
      · have hie : i = uN u := Nat.le_antisymm hile (nle c12 (by omega) (by omega))
        refine V.iconst (q := 32) dX3_findStopAbove_31 (v := -1) rfl rfl ?_
        exact V.iret dX3_findStopAbove_32 rfl ⟨by rw [hd, show uN u - i = 0 by omega]; rfl, rfl, rfl⟩
      · have hlt : i < uN u := nnle c12 (by omega) (by omega)
        refine V.iload_n (q := 16) dX3_findStopAbove_15 rfl rfl ?_
        refine V.iload_n (q := 17) dX3_findStopAbove_16 rfl rfl ?_
        refine V.ishr (q := 18) dX3_findStopAbove_17 rfl ?_
        refine V.iconst (q := 19) dX3_findStopAbove_18 (v := 1) rfl rfl ?_
        refine V.iand (q := 20) dX3_findStopAbove_19 rfl ?_
        refine V.if_eq (tgt := 25) (q := 23) dX3_findStopAbove_20 (by decide) rfl (fun c20 => ?_) (fun c20 => ?_)
        · refine V.iinc (q := 28) dX3_findStopAbove_25 rfl (by first | exact nI_inc _ | rfl) rfl rfl rfl ?_
          refine V.goto (tgt := 7) dX3_findStopAbove_28 (by decide) ?_
          refine ih _ (by omega) (i + 1) rfl (by omega) ?_
          rw [hd, show uN u - i = (uN u - (i + 1)) + 1 by omega]
          simp [upI, hasB, c20]
        · refine V.iload_n (q := 24) dX3_findStopAbove_23 rfl rfl ?_
          exact V.iret dX3_findStopAbove_24 rfl ⟨by rw [hd, show uN u - i = (uN u - (i + 1)) + 1 by omega]; simp [upI, hasB, c20], rfl, rfl⟩
  refine V.aload_n (q := 1) dX3_findStopAbove_0 rfl rfl ?_
  refine V.gSu (q := 4) 4 dX3_findStopAbove_1 hR hp bw_55 rfl rfl ?_
  rw [hF]
  refine V.iconst (q := 5) dX3_findStopAbove_4 (v := 1) rfl rfl ?_
  refine V.iadd (q := 6) dX3_findStopAbove_5 rfl ?_
  refine V.istore_n (q := 7) dX3_findStopAbove_6 rfl rfl rfl rfl ?_
  refine V.to (L2 := [some (.ref (gB G + p)), some (.int m9), some (.int (nI (uF u + 1)))]) ?_ rfl rfl rfl (loop _ (uF u + 1) rfl (by omega) rfl)
  rw [← nI_1]; rfl
set_option maxHeartbeats 4000000 in
theorem cS_findTarget {l : Launch} {G : GG} {σ : St} {u : Vw} {qq : Nat → Nat} {p : Nat} (hp : kd p = 1) (hR : RC σ p u qq) (hI : Iu u) {pol : Int32} : CtS l G TX3_findTarget 1 [.ref (gB G + p), .int pol] σ (some (.int (tgt u pol))) σ := by
  have hn : un u ≤ 40 := hR.1
  refine CtS.ofV (by decide +kernel) rfl rfl (Nat.le_of_ble_eq_true rfl) ?_
  refine V.aload_n (q := 1) dX3_findTarget_0 rfl rfl ?_
  refine V.cVS (q := 4) dX3_findTarget_1 (As := []) rfl (cS_findStops hp hR) MX3_findStops bw_312 hp rfl rfl rfl (by decide) rfl ?_
  refine V.istore_n (q := 5) dX3_findTarget_4 rfl rfl rfl rfl ?_
  refine V.iload_n (q := 6) dX3_findTarget_5 rfl rfl ?_
  refine V.if_ne (tgt := 11) (q := 9) dX3_findTarget_6 (by decide) rfl (fun c6 => ?_) (fun c6 => ?_)
  · refine V.iload_n (q := 12) dX3_findTarget_11 rfl rfl ?_
    refine V.aload_n (q := 13) dX3_findTarget_12 rfl rfl ?_
    refine V.gSu (q := 16) 4 dX3_findTarget_13 hR hp bw_55 rfl rfl ?_
    refine V.ishr (q := 17) dX3_findTarget_16 rfl ?_
    refine V.iconst (q := 18) dX3_findTarget_17 (v := 1) rfl rfl ?_
    refine V.iand (q := 19) dX3_findTarget_18 rfl ?_
    refine V.if_eq (tgt := 27) (q := 22) dX3_findTarget_19 (by decide) rfl (fun c19 => ?_) (fun c19 => ?_)
    · refine V.iload_n (q := 28) dX3_findTarget_27 rfl rfl ?_
      refine V.if_ne (tgt := 82) (q := 31) dX3_findTarget_28 (by decide) rfl (fun c28 => ?_) (fun c28 => ?_)
      · refine V.aload_n (q := 83) dX3_findTarget_82 rfl rfl ?_
        refine V.iload_n (q := 84) dX3_findTarget_83 rfl rfl ?_
        refine V.cVS (q := 87) dX3_findTarget_84 (As := [_]) rfl (cS_findStopBelow hp hR hI) MX3_findStopBelow bw_321 hp rfl rfl rfl (by decide) rfl ?_
        refine V.istore_n (q := 88) dX3_findTarget_87 rfl rfl rfl rfl ?_
        refine V.aload_n (q := 89) dX3_findTarget_88 rfl rfl ?_
        refine V.iload_n (q := 90) dX3_findTarget_89 rfl rfl ?_
        refine V.cVS (q := 93) dX3_findTarget_90 (As := [_]) rfl (cS_findStopAbove hp hR hI) MX3_findStopAbove bw_325 hp rfl rfl rfl (by decide) rfl ?_
        refine V.istore (q := 95) dX3_findTarget_93 rfl rfl rfl ?_
        refine V.iload_n (q := 96) dX3_findTarget_95 rfl rfl ?_
        refine V.iconst (q := 97) dX3_findTarget_96 (v := -1) rfl rfl ?_
        refine V.icmp_ne (tgt := 103) (q := 100) dX3_findTarget_97 (by decide) rfl (fun c97 => ?_) (fun c97 => ?_)
        · refine V.iload (q := 105) dX3_findTarget_103 rfl rfl ?_
          refine V.iconst (q := 106) dX3_findTarget_105 (v := -1) rfl rfl ?_
          refine V.icmp_ne (tgt := 111) (q := 109) dX3_findTarget_106 (by decide) rfl (fun c106 => ?_) (fun c106 => ?_)
          · refine V.iload_n (q := 112) dX3_findTarget_111 rfl rfl ?_
            refine V.iconst (q := 113) dX3_findTarget_112 (v := 2) rfl rfl ?_
            refine V.icmp_ne (tgt := 130) (q := 116) dX3_findTarget_113 (by decide) rfl (fun c113 => ?_) (fun c113 => ?_)
            · refine V.aload_n (q := 131) dX3_findTarget_130 rfl rfl ?_
              refine V.gSu (q := 134) 4 dX3_findTarget_131 hR hp bw_55 rfl rfl ?_
              refine V.iload_n (q := 135) dX3_findTarget_134 rfl rfl ?_
              refine V.isub (q := 136) dX3_findTarget_135 rfl ?_
              refine V.iload (q := 138) dX3_findTarget_136 rfl rfl ?_
              refine V.aload_n (q := 139) dX3_findTarget_138 rfl rfl ?_
              refine V.gSu (q := 142) 4 dX3_findTarget_139 hR hp bw_55 rfl rfl ?_
              refine V.isub (q := 143) dX3_findTarget_142 rfl ?_
              refine V.icmp_gt (tgt := 150) (q := 146) dX3_findTarget_143 (by decide) rfl (fun c143 => ?_) (fun c143 => ?_)
              · refine V.iload (q := 152) dX3_findTarget_150 rfl rfl ?_
                exact V.iret dX3_findTarget_152 rfl ⟨by simp [tgt, hasB, c6, c19, c28, c97, c106, c113, Int32.not_le.mpr c143], rfl, rfl⟩
              · refine V.iload_n (q := 147) dX3_findTarget_146 rfl rfl ?_
                refine V.goto (tgt := 152) dX3_findTarget_147 (by decide) ?_
                exact V.iret dX3_findTarget_152 rfl ⟨by simp [tgt, hasB, c6, c19, c28, c97, c106, c113, Int32.not_lt.mp c143], rfl, rfl⟩
            · refine V.aload_n (q := 117) dX3_findTarget_116 rfl rfl ?_
              refine V.gSu (q := 120) 5 dX3_findTarget_117 hR hp bw_58 rfl rfl ?_
              refine V.if_eq (tgt := 128) (q := 123) dX3_findTarget_120 (by decide) rfl (fun c120 => ?_) (fun c120 => ?_)
              · refine V.iload_n (q := 129) dX3_findTarget_128 rfl rfl ?_
                exact V.iret dX3_findTarget_129 rfl ⟨by simp [tgt, hasB, c6, c19, c28, c97, c106, c113, c120], rfl, rfl⟩
              · refine V.iload (q := 125) dX3_findTarget_123 rfl rfl ?_
                refine V.goto (tgt := 129) dX3_findTarget_125 (by decide) ?_
                exact V.iret dX3_findTarget_129 rfl ⟨by simp [tgt, hasB, c6, c19, c28, c97, c106, c113, c120], rfl, rfl⟩
          · refine V.iload_n (q := 110) dX3_findTarget_109 rfl rfl ?_
            exact V.iret dX3_findTarget_110 rfl ⟨by simp [tgt, hasB, c6, c19, c28, c97, c106], rfl, rfl⟩
        · refine V.iload (q := 102) dX3_findTarget_100 rfl rfl ?_
          exact V.iret dX3_findTarget_102 rfl ⟨by simp [tgt, hasB, c6, c19, c28, c97], rfl, rfl⟩
      · refine V.aload_n (q := 32) dX3_findTarget_31 rfl rfl ?_
        refine V.cVS (q := 35) dX3_findTarget_32 (As := []) rfl (cS_findFirstRiding hp hR) MX3_findFirstRiding bw_313 hp rfl rfl rfl (by decide) rfl ?_
        cases hfr : fst (isR u) 0 (un u) with
        | none =>
          show V _ _ _ _ _ _ _ _ _ _ _ (.int (-1) :: _) _ _
          refine V.istore_n (q := 36) dX3_findTarget_35 rfl rfl rfl rfl ?_
          refine V.iload_n (q := 37) dX3_findTarget_36 rfl rfl ?_
          refine V.iconst (q := 38) dX3_findTarget_37 (v := -1) rfl rfl ?_
          refine V.icmp_ne (tgt := 48) (q := 41) dX3_findTarget_38 (by decide) rfl (fun c38 => ?_) (fun c38 => ?_)
          · exact absurd rfl c38
          · refine V.aload_n (q := 42) dX3_findTarget_41 rfl rfl ?_
            refine V.cVS (q := 45) dX3_findTarget_42 (As := []) rfl (cS_findFirstWaiting hp hR hI.lb) MX3_findFirstWaiting bw_317 hp rfl rfl rfl (by decide) rfl ?_
            cases hfw : fw u (isW u) (un u) with
            | none =>
              show V _ _ _ _ _ _ _ _ _ _ _ (.int (-1) :: _) _ _
              refine V.goto (tgt := 49) dX3_findTarget_45 (by decide) ?_
              refine V.istore (q := 51) dX3_findTarget_49 rfl rfl rfl ?_
              refine V.iload (q := 53) dX3_findTarget_51 rfl rfl ?_
              refine V.iconst (q := 54) dX3_findTarget_53 (v := -1) rfl rfl ?_
              refine V.icmp_ne (tgt := 59) (q := 57) dX3_findTarget_54 (by decide) rfl (fun c54 => ?_) (fun c54 => ?_)
              · exact absurd rfl c54
              · refine V.iconst (q := 58) dX3_findTarget_57 (v := -1) rfl rfl ?_
                exact V.iret dX3_findTarget_58 rfl ⟨by simp [tgt, hasB, c6, c19, c28, pfc, hfr, hfw], rfl, rfl⟩
            | some r =>
              have hr : r < un u := (fw_some hfw).1
              refine V.goto (tgt := 49) dX3_findTarget_45 (by decide) ?_
              refine V.istore (q := 51) dX3_findTarget_49 rfl rfl rfl ?_
              refine V.iload (q := 53) dX3_findTarget_51 rfl rfl ?_
              refine V.iconst (q := 54) dX3_findTarget_53 (v := -1) rfl rfl ?_
              refine V.icmp_ne (tgt := 59) (q := 57) dX3_findTarget_54 (by decide) rfl (fun c54 => ?_) (fun c54 => ?_)
              · refine V.iload_n (q := 60) dX3_findTarget_59 rfl rfl ?_
                refine V.iconst (q := 61) dX3_findTarget_60 (v := -1) rfl rfl ?_
                refine V.icmp_ne (tgt := 74) (q := 64) dX3_findTarget_61 (by decide) rfl (fun c61 => ?_) (fun c61 => ?_)
                · exact absurd rfl c61
                · refine V.aload_n (q := 65) dX3_findTarget_64 rfl rfl ?_
                  refine V.gS (q := 68) dX3_findTarget_65 (j := 13) hp bw_76 rfl rfl rfl rfl ?_
                  refine V.iload (q := 70) dX3_findTarget_68 rfl rfl ?_
                  refine V.ldSu (q := 71) 0 dX3_findTarget_70 hR hp rfl rfl (by omega) rfl ?_
                  refine V.goto (tgt := 81) dX3_findTarget_71 (by decide) ?_
                  exact V.iret dX3_findTarget_81 rfl ⟨by simp [tgt, hasB, c6, c19, c28, pfc, hfr, hfw], rfl, rfl⟩
              · exact absurd c54 (nne1 (by omega))
        | some r =>
          have hr : r < un u := by have := fst_some hfr; omega
          refine V.istore_n (q := 36) dX3_findTarget_35 rfl rfl rfl rfl ?_
          refine V.iload_n (q := 37) dX3_findTarget_36 rfl rfl ?_
          refine V.iconst (q := 38) dX3_findTarget_37 (v := -1) rfl rfl ?_
          refine V.icmp_ne (tgt := 48) (q := 41) dX3_findTarget_38 (by decide) rfl (fun c38 => ?_) (fun c38 => ?_)
          · refine V.iload_n (q := 49) dX3_findTarget_48 rfl rfl ?_
            refine V.istore (q := 51) dX3_findTarget_49 rfl rfl rfl ?_
            refine V.iload (q := 53) dX3_findTarget_51 rfl rfl ?_
            refine V.iconst (q := 54) dX3_findTarget_53 (v := -1) rfl rfl ?_
            refine V.icmp_ne (tgt := 59) (q := 57) dX3_findTarget_54 (by decide) rfl (fun c54 => ?_) (fun c54 => ?_)
            · refine V.iload_n (q := 60) dX3_findTarget_59 rfl rfl ?_
              refine V.iconst (q := 61) dX3_findTarget_60 (v := -1) rfl rfl ?_
              refine V.icmp_ne (tgt := 74) (q := 64) dX3_findTarget_61 (by decide) rfl (fun c61 => ?_) (fun c61 => ?_)
              · refine V.aload_n (q := 75) dX3_findTarget_74 rfl rfl ?_
                refine V.gS (q := 78) dX3_findTarget_75 (j := 14) hp bw_78 rfl rfl rfl rfl ?_
                refine V.iload (q := 80) dX3_findTarget_78 rfl rfl ?_
                refine V.ldSu (q := 81) 1 dX3_findTarget_80 hR hp rfl rfl (by omega) rfl ?_
                exact V.iret dX3_findTarget_81 rfl ⟨by simp [tgt, hasB, c6, c19, c28, pfc, hfr], rfl, rfl⟩
              · exact absurd c61 (nne1 (by omega))
            · exact absurd c54 (nne1 (by omega))
          · exact absurd c38 (nne1 (by omega))
    · refine V.aload_n (q := 23) dX3_findTarget_22 rfl rfl ?_
      refine V.gSu (q := 26) 4 dX3_findTarget_23 hR hp bw_55 rfl rfl ?_
      exact V.iret dX3_findTarget_26 rfl ⟨by simp [tgt, hasB, c6, c19], rfl, rfl⟩
  · refine V.iconst (q := 10) dX3_findTarget_9 (v := -1) rfl rfl ?_
    exact V.iret dX3_findTarget_10 rfl ⟨by simp [tgt, hasB, c6], rfl, rfl⟩
