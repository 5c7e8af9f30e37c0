/-! Simulation: a new building; one passenger more -/
set_option maxHeartbeats 4000000 in
theorem cS_begin {l : Launch} {G : GG} {σ : St} {p : Nat} (hp : kd p = 1) {f1 c1 q1 : Int32} : CtP l G TX3_begin 0 [.ref (gB G + p), .int f1, .int c1, .int q1] σ (fun v τ => v = none ∧ FrS p σ τ ∧ RC τ p (begu f1 c1 q1) id) := by
  have hc : CpF σ p (begu f1 c1 q1) 0 := fun j hj => absurd hj (Nat.not_lt_zero j)
  have hfr : FrS p σ σ := FrS.rf
  refine CtP.ofV (by decide +kernel) rfl rfl (Nat.le_of_ble_eq_true rfl) ?_
  refine V.aload_n (q := 1) dX3_begin_0 rfl rfl ?_
  refine V.iload_n (q := 2) dX3_begin_1 rfl rfl ?_
  refine V.pS (q := 5) dX3_begin_2 (j := 0) hp bw_43 rfl rfl rfl rfl rfl rfl ?_
  have hc := hc.step (k := 0) (x := f1) rfl
  have hfr := hfr.sc (j := 0) (x := f1)
  refine V.aload_n (q := 6) dX3_begin_5 rfl rfl ?_
  refine V.iload_n (q := 7) dX3_begin_6 rfl rfl ?_
  refine V.pS (q := 10) dX3_begin_7 (j := 1) hp bw_46 rfl rfl rfl rfl rfl rfl ?_
  have hc := hc.step (k := 1) (x := c1) rfl
  have hfr := hfr.sc (j := 1) (x := c1)
  refine V.aload_n (q := 11) dX3_begin_10 rfl rfl ?_
  refine V.iload_n (q := 12) dX3_begin_11 rfl rfl ?_
  refine V.pS (q := 15) dX3_begin_12 (j := 2) hp bw_49 rfl rfl rfl rfl rfl rfl ?_
  have hc := hc.step (k := 2) (x := q1) rfl
  have hfr := hfr.sc (j := 2) (x := q1)
  refine V.aload_n (q := 16) dX3_begin_15 rfl rfl ?_
  refine V.iconst (q := 17) dX3_begin_16 (v := 0) rfl rfl ?_
  refine V.pS (q := 20) dX3_begin_17 (j := 3) hp bw_52 rfl rfl rfl rfl rfl rfl ?_
  have hc := hc.step (k := 3) (x := 0) rfl
  have hfr := hfr.sc (j := 3) (x := 0)
  refine V.aload_n (q := 21) dX3_begin_20 rfl rfl ?_
  refine V.iconst (q := 22) dX3_begin_21 (v := 0) rfl rfl ?_
  refine V.pS (q := 25) dX3_begin_22 (j := 4) hp bw_55 rfl rfl rfl rfl rfl rfl ?_
  have hc := hc.step (k := 4) (x := 0) rfl
  have hfr := hfr.sc (j := 4) (x := 0)
  refine V.aload_n (q := 26) dX3_begin_25 rfl rfl ?_
  refine V.iconst (q := 27) dX3_begin_26 (v := 1) rfl rfl ?_
  refine V.pS (q := 30) dX3_begin_27 (j := 5) hp bw_58 rfl rfl rfl rfl rfl rfl ?_
  have hc := hc.step (k := 5) (x := 1) rfl
  have hfr := hfr.sc (j := 5) (x := 1)
  refine V.aload_n (q := 31) dX3_begin_30 rfl rfl ?_
  refine V.iconst (q := 32) dX3_begin_31 (v := 0) rfl rfl ?_
  refine V.pS (q := 35) dX3_begin_32 (j := 6) hp bw_60 rfl rfl rfl rfl rfl rfl ?_
  have hc := hc.step (k := 6) (x := 0) rfl
  have hfr := hfr.sc (j := 6) (x := 0)
  refine V.aload_n (q := 36) dX3_begin_35 rfl rfl ?_
  refine V.iconst (q := 37) dX3_begin_36 (v := 0) rfl rfl ?_
  refine V.pS (q := 40) dX3_begin_37 (j := 7) hp bw_63 rfl rfl rfl rfl rfl rfl ?_
  have hc := hc.step (k := 7) (x := 0) rfl
  have hfr := hfr.sc (j := 7) (x := 0)
  refine V.aload_n (q := 41) dX3_begin_40 rfl rfl ?_
  refine V.iconst (q := 42) dX3_begin_41 (v := 0) rfl rfl ?_
  refine V.pS (q := 45) dX3_begin_42 (j := 8) hp bw_65 rfl rfl rfl rfl rfl rfl ?_
  have hc := hc.step (k := 8) (x := 0) rfl
  have hfr := hfr.sc (j := 8) (x := 0)
  refine V.aload_n (q := 46) dX3_begin_45 rfl rfl ?_
  refine V.iconst (q := 47) dX3_begin_46 (v := 0) rfl rfl ?_
  refine V.pS (q := 50) dX3_begin_47 (j := 9) hp bw_67 rfl rfl rfl rfl rfl rfl ?_
  have hc := hc.step (k := 9) (x := 0) rfl
  have hfr := hfr.sc (j := 9) (x := 0)
  refine V.aload_n (q := 51) dX3_begin_50 rfl rfl ?_
  refine V.iconst (q := 52) dX3_begin_51 (v := 0) rfl rfl ?_
  refine V.pS (q := 55) dX3_begin_52 (j := 10) hp bw_68 rfl rfl rfl rfl rfl rfl ?_
  have hc := hc.step (k := 10) (x := 0) rfl
  have hfr := hfr.sc (j := 10) (x := 0)
  refine V.aload_n (q := 56) dX3_begin_55 rfl rfl ?_
  refine V.iconst (q := 57) dX3_begin_56 (v := 0) rfl rfl ?_
  refine V.pS (q := 60) dX3_begin_57 (j := 11) hp bw_71 rfl rfl rfl rfl rfl rfl ?_
  have hc := hc.step (k := 11) (x := 0) rfl
  have hfr := hfr.sc (j := 11) (x := 0)
  refine V.aload_n (q := 61) dX3_begin_60 rfl rfl ?_
  refine V.iconst (q := 62) dX3_begin_61 (v := 0) rfl rfl ?_
  refine V.pS (q := 65) dX3_begin_62 (j := 12) hp bw_74 rfl rfl rfl rfl rfl rfl ?_
  have hc := hc.step (k := 12) (x := 0) rfl
  have hfr := hfr.sc (j := 12) (x := 0)
  exact V.vret dX3_begin_65 rfl ⟨none, _, rfl, rfl, rfl, rfl, hfr, RC.beg hc⟩
set_option maxHeartbeats 4000000 in
theorem cS_addArrival {l : Launch} {G : GG} {σ : St} {u : Vw} {qq : Nat → Nat} {p : Nat} (hp : kd p = 1) (hR : RC σ p u qq) (hn4 : un u < 40) {a1 b1 t1 : Int32} : CtP l G TX3_addArrival 0 [.ref (gB G + p), .int a1, .int b1, .int t1] σ (fun v τ => v = none ∧ FrS p σ τ ∧ ∃ q2, RC τ p (addu u a1 b1 t1) q2) := by
  have hR0 := hR
  have hfr : FrS p σ σ := FrS.rf
  refine CtP.ofV (by decide +kernel) rfl rfl (Nat.le_of_ble_eq_true rfl) ?_
  have loop : ∀ (m : Nat) (k : Nat) (τ : St), m = k → FrS p σ τ → AQ τ p u qq a1 b1 t1 k → V l G TX3_addArrival 0 0 0 (RetP G (fun v τ => v = none ∧ FrS p σ τ ∧ ∃ q2, RC τ p (addu u a1 b1 t1) q2)) 0 0 66 [some (.ref (gB G + p)), some (.int a1), some (.int b1), some (.int t1), some (.int (nI k))] [] (hof G τ) NC := by
    intro m
    induction m using Nat.strongRecOn with
    | _ m ih =>
      intro k τ hm hfr hA
      have hkn := hA.2.2.2.2.2.2.2.2.2.2
      refine V.iload (q := 68) dX3_addArrival_66 rfl rfl ?_
      refine V.if_le (tgt := 111) (q := 71) dX3_addArrival_68 (by decide) rfl (fun c68 => ?_) (fun c68 => ?_)
      · have hk0 : k = 0 := Nat.le_zero.mp (nle (b := 0) c68 (by omega) (by decide))
        have hkk : k = 0 ∨ ur u 2 (qq (k - 1)) ≤ t1 := Or.inl hk0
        refine V.aload_n (q := 112) dX3_addArrival_111 rfl rfl ?_
        refine V.gS (q := 115) dX3_addArrival_112 (j := 18) hp bw_86 rfl rfl rfl rfl ?_
        refine V.iload (q := 117) dX3_addArrival_115 rfl rfl ?_
        refine V.aload_n (q := 118) dX3_addArrival_117 rfl rfl ?_
        refine V.gS (q := 121) dX3_addArrival_118 (j := 10) hp bw_68 rfl rfl rfl rfl ?_
        refine V.st2 (q := 122) dX3_addArrival_121 (i := k) (kd_sim hp).2.2.2.2.2 rfl (by omega) rfl ?_
        refine V.aload_n (q := 123) dX3_addArrival_122 rfl rfl ?_
        refine V.dup (q := 124) dX3_addArrival_123 rfl rfl ?_
        refine V.gS (q := 127) dX3_addArrival_124 (j := 10) hp bw_68 rfl rfl rfl rfl ?_
        refine V.iconst (q := 128) dX3_addArrival_127 (v := 1) rfl rfl ?_
        refine V.iadd (q := 129) dX3_addArrival_128 rfl ?_
        refine V.pS (q := 132) dX3_addArrival_129 (j := 10) hp bw_68 rfl rfl rfl rfl rfl rfl ?_
        exact V.vret dX3_addArrival_132 rfl ⟨none, _, rfl, rfl, rfl, rfl, (hfr.ar (by omega) (by omega)).sc, _, hA.fin hkk hA.2.2.1 (by rw [← hA.2.2.1]; rfl)⟩
      · have hk0 : 0 < k := by
          rcases Nat.eq_zero_or_pos k with z | z
          · subst z; exact absurd (Int32.le_refl _) c68
          · exact z
        have hqn := hA.2.2.2.2.2.2.2.2.1.1 (k - 1) (by omega)
        have hq1 := hA.2.2.2.2.2.2.1 (k - 1) (by omega)
        have hq2 := hA.2.2.2.2.2.1 2 (qq (k - 1)) (by decide) (by omega)
        rw [addu_in hqn] at hq2
        refine V.aload_n (q := 72) dX3_addArrival_71 rfl rfl ?_
        refine V.gS (q := 75) dX3_addArrival_72 (j := 15) hp bw_80 rfl rfl rfl rfl ?_
        refine V.aload_n (q := 76) dX3_addArrival_75 rfl rfl ?_
        refine V.gS (q := 79) dX3_addArrival_76 (j := 18) hp bw_86 rfl rfl rfl rfl ?_
        refine V.iload (q := 81) dX3_addArrival_79 rfl rfl ?_
        refine V.iconst (q := 82) dX3_addArrival_81 (v := 1) rfl rfl ?_
        refine V.isub (q := 83) dX3_addArrival_82 rfl ?_
        refine V.ld2 (q := 84) dX3_addArrival_83 (i := k - 1) (kd_sim hp).2.2.2.2.2 (pk_sub (b := 1) (by omega)) (by omega) rfl ?_
        refine V.ld2 (q := 85) dX3_addArrival_84 (i := qq (k - 1)) (kd_sim hp).2.2.1 hq1 (by omega) rfl ?_
        refine V.iload_n (q := 86) dX3_addArrival_85 rfl rfl ?_
        refine V.icmp_le (tgt := 111) (q := 89) dX3_addArrival_86 (by decide) rfl (fun c86 => ?_) (fun c86 => ?_)
        · rw [hq2] at c86
          have hkk : k = 0 ∨ ur u 2 (qq (k - 1)) ≤ t1 := Or.inr c86
          refine V.aload_n (q := 112) dX3_addArrival_111 rfl rfl ?_
          refine V.gS (q := 115) dX3_addArrival_112 (j := 18) hp bw_86 rfl rfl rfl rfl ?_
          refine V.iload (q := 117) dX3_addArrival_115 rfl rfl ?_
          refine V.aload_n (q := 118) dX3_addArrival_117 rfl rfl ?_
          refine V.gS (q := 121) dX3_addArrival_118 (j := 10) hp bw_68 rfl rfl rfl rfl ?_
          refine V.st2 (q := 122) dX3_addArrival_121 (i := k) (kd_sim hp).2.2.2.2.2 rfl (by omega) rfl ?_
          refine V.aload_n (q := 123) dX3_addArrival_122 rfl rfl ?_
          refine V.dup (q := 124) dX3_addArrival_123 rfl rfl ?_
          refine V.gS (q := 127) dX3_addArrival_124 (j := 10) hp bw_68 rfl rfl rfl rfl ?_
          refine V.iconst (q := 128) dX3_addArrival_127 (v := 1) rfl rfl ?_
          refine V.iadd (q := 129) dX3_addArrival_128 rfl ?_
          refine V.pS (q := 132) dX3_addArrival_129 (j := 10) hp bw_68 rfl rfl rfl rfl rfl rfl ?_
          exact V.vret dX3_addArrival_132 rfl ⟨none, _, rfl, rfl, rfl, rfl, (hfr.ar (by omega) (by omega)).sc, _, hA.fin hkk hA.2.2.1 (by rw [← hA.2.2.1]; rfl)⟩
        · rw [hq2] at c86
          have hlt := Int32.not_le.mp c86
          refine V.aload_n (q := 90) dX3_addArrival_89 rfl rfl ?_
          refine V.gS (q := 93) dX3_addArrival_90 (j := 18) hp bw_86 rfl rfl rfl rfl ?_
          refine V.iload (q := 95) dX3_addArrival_93 rfl rfl ?_
          refine V.aload_n (q := 96) dX3_addArrival_95 rfl rfl ?_
          refine V.gS (q := 99) dX3_addArrival_96 (j := 18) hp bw_86 rfl rfl rfl rfl ?_
          refine V.iload (q := 101) dX3_addArrival_99 rfl rfl ?_
          refine V.iconst (q := 102) dX3_addArrival_101 (v := 1) rfl rfl ?_
          refine V.isub (q := 103) dX3_addArrival_102 rfl ?_
          refine V.ld2 (q := 104) dX3_addArrival_103 (i := k - 1) (kd_sim hp).2.2.2.2.2 (pk_sub (b := 1) (by omega)) (by omega) rfl ?_
          refine V.st2 (q := 105) dX3_addArrival_104 (i := k) (kd_sim hp).2.2.2.2.2 rfl (by omega) rfl ?_
          refine V.iinc (q := 108) dX3_addArrival_105 rfl rfl rfl rfl rfl ?_
          rw [show nI k + Int32.ofInt (-1) = nI (k - 1) from by rw [nI_m1]; exact pk_sub (b := 1) (by omega)]
          refine V.goto (tgt := 66) dX3_addArrival_108 (by decide) ?_
          refine ih (k - 1) (by omega) (k - 1) _ rfl (hfr.ar (by omega) (by omega)) ?_
          have hA2 : AQ τ p u qq a1 b1 t1 ((k - 1) + 1) := by rw [Nat.sub_add_cancel hk0]; exact hA
          have hA3 := hA2.up hq1 hlt
          rw [Nat.sub_add_cancel hk0] at hA3
          exact hA3
  refine V.aload_n (q := 1) dX3_addArrival_0 rfl rfl ?_
  refine V.gSn (q := 4) dX3_addArrival_1 hR hp bw_68 rfl ?_
  refine V.bipush (q := 6) dX3_addArrival_4 (v := 40) rfl rfl ?_
  refine V.icmp_lt (tgt := 10) (q := 9) dX3_addArrival_6 (by decide) rfl (fun c6 => ?_) (fun c6 => ?_)
  · refine V.aload_n (q := 11) dX3_addArrival_10 rfl rfl ?_
    refine V.gS (q := 14) dX3_addArrival_11 (j := 13) hp bw_76 rfl rfl rfl rfl ?_
    refine V.aload_n (q := 15) dX3_addArrival_14 rfl rfl ?_
    refine V.gSn (q := 18) dX3_addArrival_15 hR hp bw_68 rfl ?_
    refine V.iload_n (q := 19) dX3_addArrival_18 rfl rfl ?_
    refine V.st2 (q := 20) dX3_addArrival_19 (i := un u) (kd_sim hp).1 rfl (by omega) rfl ?_
    have hR := hR.out (k := p + 1) (i := un u) (x := a1) (Nat.le_refl _)
    have hfr := hfr.ar (k := p + 1) (j := un u) (x := a1) (by omega) (by omega)
    refine V.aload_n (q := 21) dX3_addArrival_20 rfl rfl ?_
    refine V.gS (q := 24) dX3_addArrival_21 (j := 14) hp bw_78 rfl rfl rfl rfl ?_
    refine V.aload_n (q := 25) dX3_addArrival_24 rfl rfl ?_
    refine V.gSn (q := 28) dX3_addArrival_25 hR hp bw_68 rfl ?_
    refine V.iload_n (q := 29) dX3_addArrival_28 rfl rfl ?_
    refine V.st2 (q := 30) dX3_addArrival_29 (i := un u) (kd_sim hp).2.1 rfl (by omega) rfl ?_
    have hR := hR.out (k := p + 2) (i := un u) (x := b1) (Nat.le_refl _)
    have hfr := hfr.ar (k := p + 2) (j := un u) (x := b1) (by omega) (by omega)
    refine V.aload_n (q := 31) dX3_addArrival_30 rfl rfl ?_
    refine V.gS (q := 34) dX3_addArrival_31 (j := 15) hp bw_80 rfl rfl rfl rfl ?_
    refine V.aload_n (q := 35) dX3_addArrival_34 rfl rfl ?_
    refine V.gSn (q := 38) dX3_addArrival_35 hR hp bw_68 rfl ?_
    refine V.iload_n (q := 39) dX3_addArrival_38 rfl rfl ?_
    refine V.st2 (q := 40) dX3_addArrival_39 (i := un u) (kd_sim hp).2.2.1 rfl (by omega) rfl ?_
    have hR := hR.out (k := p + 3) (i := un u) (x := t1) (Nat.le_refl _)
    have hfr := hfr.ar (k := p + 3) (j := un u) (x := t1) (by omega) (by omega)
    refine V.aload_n (q := 41) dX3_addArrival_40 rfl rfl ?_
    refine V.gS (q := 44) dX3_addArrival_41 (j := 16) hp bw_82 rfl rfl rfl rfl ?_
    refine V.aload_n (q := 45) dX3_addArrival_44 rfl rfl ?_
    refine V.gSn (q := 48) dX3_addArrival_45 hR hp bw_68 rfl ?_
    refine V.iconst (q := 49) dX3_addArrival_48 (v := -1) rfl rfl ?_
    refine V.st2 (q := 50) dX3_addArrival_49 (i := un u) (kd_sim hp).2.2.2.1 rfl (by omega) rfl ?_
    have hR := hR.out (k := p + 4) (i := un u) (x := (-1)) (Nat.le_refl _)
    have hfr := hfr.ar (k := p + 4) (j := un u) (x := (-1)) (by omega) (by omega)
    refine V.aload_n (q := 51) dX3_addArrival_50 rfl rfl ?_
    refine V.gS (q := 54) dX3_addArrival_51 (j := 17) hp bw_84 rfl rfl rfl rfl ?_
    refine V.aload_n (q := 55) dX3_addArrival_54 rfl rfl ?_
    refine V.gSn (q := 58) dX3_addArrival_55 hR hp bw_68 rfl ?_
    refine V.iconst (q := 59) dX3_addArrival_58 (v := -1) rfl rfl ?_
    refine V.st2 (q := 60) dX3_addArrival_59 (i := un u) (kd_sim hp).2.2.2.2.1 rfl (by omega) rfl ?_
    have hR := hR.out (k := p + 5) (i := un u) (x := (-1)) (Nat.le_refl _)
    have hfr := hfr.ar (k := p + 5) (j := un u) (x := (-1)) (by omega) (by omega)
    refine V.aload_n (q := 61) dX3_addArrival_60 rfl rfl ?_
    refine V.gSn (q := 64) dX3_addArrival_61 hR hp bw_68 rfl ?_
    refine V.istore (q := 66) dX3_addArrival_64 rfl rfl rfl ?_
    exact loop _ (un u) _ rfl hfr (AQ.start hR0 hn4)
  · exact absurd (nI_ltI (by omega) (by decide) |>.mpr hn4) c6
