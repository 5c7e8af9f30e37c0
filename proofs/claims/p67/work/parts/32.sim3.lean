/-! Simulation: the doors, a move, a tick -/
set_option maxHeartbeats 4000000 in
theorem cS_openDoors {l : Launch} {G : GG} {σ : St} {u : Vw} {qq : Nat → Nat} {p : Nat} (hp : kd p = 1) (hR : RC σ p u qq) (hI : Iu u) : CtP l G TX3_openDoors 0 [.ref (gB G + p)] σ (fun v τ => v = none ∧ FrS p σ τ ∧ RC τ p (opn u) qq) := by
  have hn : un u ≤ 40 := hR.1
  have hR0 := hR
  have ht := hI.t
  have hf := hI.f
  obtain ⟨W9, hW⟩ : ∃ w, w = brd (un u) (lvS u (un u)) := ⟨_, rfl⟩
  have eX : opn u = uS W9 7 (us W9 7 + 1) := by
    unfold opn
    rw [hW]
    have e7 : us (brd (un u) (lvS u (un u))) 7 = us u 7 := by rw [brd_us]; rfl
    rw [e7]
  rw [eX]
  refine CtP.ofV (by decide +kernel) rfl rfl (Nat.le_of_ble_eq_true rfl) ?_
  have loop0 : ∀ (m : Nat) (i : Nat) (τ : St) (v : Vw) (L2 : Option Value), m = un u - i → i ≤ un u → FrS p σ τ → RC τ p v qq → un v = un u → us v = us u → Lb v → bq qq i (un v - i) v = W9 → V l G TX3_openDoors 0 0 0 (RetP G (fun v τ => v = none ∧ FrS p σ τ ∧ RC τ p (uS W9 7 (us W9 7 + 1)) qq)) 0 0 81 [some (.ref (gB G + p)), some (.int (nI i)), L2] [] (hof G τ) NC := by
    intro m
    induction m using Nat.strongRecOn with
    | _ m ih =>
      intro i τ v L2 hm hile hfr hR hun hus hlb hb
      have hnv : un v ≤ 40 := hR.1
      refine V.iload_n (q := 82) dX3_openDoors_81 rfl rfl ?_
      refine V.aload_n (q := 83) dX3_openDoors_82 rfl rfl ?_
      refine V.gSn (q := 86) dX3_openDoors_83 hR hp bw_68 rfl ?_
      refine V.icmp_ge (tgt := 169) (q := 89) dX3_openDoors_86 (by decide) rfl (fun c86 => ?_) (fun c86 => ?_)
      · have hie : i = un u := Nat.le_antisymm hile (by have := nle c86 (by omega) (by omega); omega)
        have hv : v = W9 := by rw [← hb, hun, hie, Nat.sub_self]; rfl
        refine V.aload_n (q := 170) dX3_openDoors_169 rfl rfl ?_
        refine V.dup (q := 171) dX3_openDoors_170 rfl rfl ?_
        refine V.gSu (q := 174) 7 dX3_openDoors_171 hR hp bw_63 rfl rfl ?_
        refine V.iconst (q := 175) dX3_openDoors_174 (v := 1) rfl rfl ?_
        refine V.iadd (q := 176) dX3_openDoors_175 rfl ?_
        refine V.pS (q := 179) dX3_openDoors_176 (j := 7) hp bw_63 rfl rfl rfl rfl rfl rfl ?_
        exact V.vret dX3_openDoors_179 rfl ⟨none, _, rfl, rfl, rfl, rfl, (by repeat (first | exact hfr | exact FrS.rf | refine FrS.sc ?_ | refine FrS.ar ?_ (by omega) (by omega))), by have h9 := hR.sc 7 (us v 7 + 1) (by decide); rw [hv] at h9 ⊢; exact h9⟩
      · have hlt : i < un u := by have := nnle c86 (by omega) (by omega); omega
        have hqi : qq i < un v := by rw [hun]; exact hR0.2.2.2.2.2.2.2.1 i hlt
        refine V.aload_n (q := 90) dX3_openDoors_89 rfl rfl ?_
        refine V.gSr (q := 93) dX3_openDoors_90 hR hp bw_71 rfl ?_
        refine V.aload_n (q := 94) dX3_openDoors_93 rfl rfl ?_
        refine V.gSu (q := 97) 1 dX3_openDoors_94 hR hp bw_46 rfl rfl ?_
        refine V.icmp_ge (tgt := 169) (q := 100) dX3_openDoors_97 (by decide) rfl (fun c97 => ?_) (fun c97 => ?_)
        · have hv : v = W9 := by
            rw [← hb, hun, show un u - i = (un u - (i + 1)) + 1 by omega]
            simp only [bq]
            rw [if_neg (by unfold rmB; simpa using Int32.not_lt.mpr c97)]
          refine V.aload_n (q := 170) dX3_openDoors_169 rfl rfl ?_
          refine V.dup (q := 171) dX3_openDoors_170 rfl rfl ?_
          refine V.gSu (q := 174) 7 dX3_openDoors_171 hR hp bw_63 rfl rfl ?_
          refine V.iconst (q := 175) dX3_openDoors_174 (v := 1) rfl rfl ?_
          refine V.iadd (q := 176) dX3_openDoors_175 rfl ?_
          refine V.pS (q := 179) dX3_openDoors_176 (j := 7) hp bw_63 rfl rfl rfl rfl rfl rfl ?_
          exact V.vret dX3_openDoors_179 rfl ⟨none, _, rfl, rfl, rfl, rfl, (by repeat (first | exact hfr | exact FrS.rf | refine FrS.sc ?_ | refine FrS.ar ?_ (by omega) (by omega))), by have h9 := hR.sc 7 (us v 7 + 1) (by decide); rw [hv] at h9 ⊢; exact h9⟩
        · have hrm : rmB v = true := decide_eq_true (Int32.not_le.mp c97)
          refine V.aload_n (q := 101) dX3_openDoors_100 rfl rfl ?_
          refine V.gS (q := 104) dX3_openDoors_101 (j := 18) hp bw_86 rfl rfl rfl rfl ?_
          refine V.iload_n (q := 105) dX3_openDoors_104 rfl rfl ?_
          refine V.ldSq (q := 106) dX3_openDoors_105 hR hp rfl (by omega) rfl ?_
          refine V.istore_n (q := 107) dX3_openDoors_106 rfl rfl rfl rfl ?_
          refine V.aload_n (q := 108) dX3_openDoors_107 rfl rfl ?_
          refine V.gS (q := 111) dX3_openDoors_108 (j := 13) hp bw_76 rfl rfl rfl rfl ?_
          refine V.iload_n (q := 112) dX3_openDoors_111 rfl rfl ?_
          refine V.ldSu (q := 113) 0 dX3_openDoors_112 hR hp rfl rfl (by omega) rfl ?_
          refine V.aload_n (q := 114) dX3_openDoors_113 rfl rfl ?_
          refine V.gSu (q := 117) 4 dX3_openDoors_114 hR hp bw_55 rfl rfl ?_
          refine V.icmp_ne (tgt := 163) (q := 120) dX3_openDoors_117 (by decide) rfl (fun c117 => ?_) (fun c117 => ?_)
          · refine V.iinc (q := 166) dX3_openDoors_163 rfl (by first | exact nI_inc _ | rfl) rfl rfl rfl ?_
            refine V.goto (tgt := 81) dX3_openDoors_166 (by decide) ?_
            have hfv : ¬ us v 4 = -1 := by rw [hus]; exact hf
            have hno : ¬ isWf v (us v 4) (qq i) = true := fun z9 => by
              have z := (isWf_iff hfv).mp z9
              exact c117 z.2
            refine ih _ (by omega) (i + 1) _ v _ rfl (by omega) hfr hR hun hus hlb ?_
            rw [← hb]
            have hs : un v - i = (un v - (i + 1)) + 1 := by rw [hun]; omega
            rw [hs]
            simp only [bq]
            rw [if_pos hrm, if_neg hno]
          · refine V.aload_n (q := 121) dX3_openDoors_120 rfl rfl ?_
            refine V.gS (q := 124) dX3_openDoors_121 (j := 16) hp bw_82 rfl rfl rfl rfl ?_
            refine V.iload_n (q := 125) dX3_openDoors_124 rfl rfl ?_
            refine V.ldSu (q := 126) 3 dX3_openDoors_125 hR hp rfl rfl (by omega) rfl ?_
            refine V.iconst (q := 127) dX3_openDoors_126 (v := -1) rfl rfl ?_
            refine V.icmp_ne (tgt := 163) (q := 130) dX3_openDoors_127 (by decide) rfl (fun c127 => ?_) (fun c127 => ?_)
            · refine V.iinc (q := 166) dX3_openDoors_163 rfl (by first | exact nI_inc _ | rfl) rfl rfl rfl ?_
              refine V.goto (tgt := 81) dX3_openDoors_166 (by decide) ?_
              have hfv : ¬ us v 4 = -1 := by rw [hus]; exact hf
              have hno : ¬ isWf v (us v 4) (qq i) = true := fun z9 => by
                have z := (isWf_iff hfv).mp z9
                exact c127 (stat_eq1.mp z.1).2.1
              refine ih _ (by omega) (i + 1) _ v _ rfl (by omega) hfr hR hun hus hlb ?_
              rw [← hb]
              have hs : un v - i = (un v - (i + 1)) + 1 := by rw [hun]; omega
              rw [hs]
              simp only [bq]
              rw [if_pos hrm, if_neg hno]
            · refine V.aload_n (q := 131) dX3_openDoors_130 rfl rfl ?_
              refine V.gS (q := 134) dX3_openDoors_131 (j := 15) hp bw_80 rfl rfl rfl rfl ?_
              refine V.iload_n (q := 135) dX3_openDoors_134 rfl rfl ?_
              refine V.ldSu (q := 136) 2 dX3_openDoors_135 hR hp rfl rfl (by omega) rfl ?_
              refine V.aload_n (q := 137) dX3_openDoors_136 rfl rfl ?_
              refine V.gSu (q := 140) 3 dX3_openDoors_137 hR hp bw_52 rfl rfl ?_
              refine V.icmp_gt (tgt := 163) (q := 143) dX3_openDoors_140 (by decide) rfl (fun c140 => ?_) (fun c140 => ?_)
              · refine V.iinc (q := 166) dX3_openDoors_163 rfl (by first | exact nI_inc _ | rfl) rfl rfl rfl ?_
                refine V.goto (tgt := 81) dX3_openDoors_166 (by decide) ?_
                have hfv : ¬ us v 4 = -1 := by rw [hus]; exact hf
                have hno : ¬ isWf v (us v 4) (qq i) = true := fun z9 => by
                  have z := (isWf_iff hfv).mp z9
                  exact (Int32.not_le.mpr c140) (stat_eq1.mp z.1).2.2
                refine ih _ (by omega) (i + 1) _ v _ rfl (by omega) hfr hR hun hus hlb ?_
                rw [← hb]
                have hs : un v - i = (un v - (i + 1)) + 1 := by rw [hun]; omega
                rw [hs]
                simp only [bq]
                rw [if_pos hrm, if_neg hno]
              · refine V.aload_n (q := 144) dX3_openDoors_143 rfl rfl ?_
                refine V.gS (q := 147) dX3_openDoors_144 (j := 16) hp bw_82 rfl rfl rfl rfl ?_
                refine V.iload_n (q := 148) dX3_openDoors_147 rfl rfl ?_
                refine V.aload_n (q := 149) dX3_openDoors_148 rfl rfl ?_
                refine V.gSu (q := 152) 3 dX3_openDoors_149 hR hp bw_52 rfl rfl ?_
                refine V.st2 (q := 153) dX3_openDoors_152 (i := qq i) (kd_sim hp).2.2.2.1 rfl (by omega) rfl ?_
                refine V.aload_n (q := 154) dX3_openDoors_153 rfl rfl ?_
                refine V.dup (q := 155) dX3_openDoors_154 rfl rfl ?_
                refine V.gS (q := 158) dX3_openDoors_155 (j := 11) hp bw_71 rfl rfl rfl rfl ?_
                refine V.iconst (q := 159) dX3_openDoors_158 (v := 1) rfl rfl ?_
                refine V.iadd (q := 160) dX3_openDoors_159 rfl ?_
                refine V.pS (q := 163) dX3_openDoors_160 (j := 11) hp bw_71 rfl rfl rfl rfl rfl rfl ?_
                refine V.iinc (q := 166) dX3_openDoors_163 rfl (by first | exact nI_inc _ | rfl) rfl rfl rfl ?_
                refine V.goto (tgt := 81) dX3_openDoors_166 (by decide) ?_
                have hw : stat v (qq i) = 1 := by
                  refine stat_eq1.mpr ⟨?_, c127, Int32.not_lt.mp c140⟩
                  by_cases z : ur v 4 (qq i) = -1
                  · exact z
                  · exact absurd c127 (hlb _ hqi z)
                have htv : ¬ us v 3 = -1 := by rw [hus]; exact ht
                have hfv : ¬ us v 4 = -1 := by rw [hus]; exact hf
                refine ih _ (by omega) (i + 1) _ (uR v 3 (qq i) (us v 3)) _ rfl (by omega) (by repeat (first | exact hfr | exact FrS.rf | refine FrS.sc ?_ | refine FrS.ar ?_ (by omega) (by omega))) (RC.board hR htv hqi hw (by rw [← hR.2.2.2.1]; rfl)) hun hus (hlb.board htv) ?_
                rw [← hb]
                have hs : un v - i = (un v - (i + 1)) + 1 := by rw [hun]; omega
                rw [hs]
                simp only [bq]
                rw [if_pos hrm, if_pos ((isWf_iff hfv).mpr ⟨hw, c117⟩)]
                rfl
  have loop2 : ∀ (τ : St) (L2 : Option Value), FrS p σ τ → RC τ p (lvS u (un u)) qq → V l G TX3_openDoors 0 0 0 (RetP G (fun v τ => v = none ∧ FrS p σ τ ∧ RC τ p (uS W9 7 (us W9 7 + 1)) qq)) 0 0 79 [some (.ref (gB G + p)), some (.int (nI (un u))), L2] [] (hof G τ) NC := by
    intro τ L2 hfr hR
    refine V.iconst (q := 80) dX3_openDoors_79 (v := 0) rfl rfl ?_
    refine V.istore_n (q := 81) dX3_openDoors_80 rfl rfl rfl rfl ?_
    refine loop0 _ 0 τ (lvS u (un u)) L2 rfl (Nat.zero_le _) hfr hR rfl rfl (hI.lb.lvS _) ?_
    rw [hW]
    exact bq_brd _ 0 _ _ hR.2.2.2.2.2.2.2 ht hf rfl (Nat.zero_le _) (Nat.sub_le _ _) (fun j hj => absurd hj (Nat.not_lt_zero j))
  have loop : ∀ (m : Nat) (i : Nat) (τ : St), m = un u - i → i ≤ un u → FrS p σ τ → RC τ p (lvS u i) qq → V l G TX3_openDoors 0 0 0 (RetP G (fun v τ => v = none ∧ FrS p σ τ ∧ RC τ p (uS W9 7 (us W9 7 + 1)) qq)) 0 0 2 [some (.ref (gB G + p)), some (.int (nI i)), none] [] (hof G τ) NC := by
    intro m
    induction m using Nat.strongRecOn with
    | _ m ih =>
      intro i τ hm hile hfr hR
      have hnv : un (lvS u i) ≤ 40 := hR.1
      refine V.iload_n (q := 3) dX3_openDoors_2 rfl rfl ?_
      refine V.aload_n (q := 4) dX3_openDoors_3 rfl rfl ?_
      refine V.gSn (q := 7) dX3_openDoors_4 hR hp bw_68 rfl ?_
      refine V.icmp_ge (tgt := 79) (q := 10) dX3_openDoors_7 (by decide) rfl (fun c7 => ?_) (fun c7 => ?_)
      · have hie : i = un u := Nat.le_antisymm hile (nle c7 (by omega) (by omega))
        rw [hie]
        exact loop2 _ _ hfr (by rw [← hie]; exact hR)
      · have hlt : i < un u := nnle c7 (by omega) (by omega)
        have hlt2 : i < un (lvS u i) := hlt
        refine V.aload_n (q := 11) dX3_openDoors_10 rfl rfl ?_
        refine V.gS (q := 14) dX3_openDoors_11 (j := 14) hp bw_78 rfl rfl rfl rfl ?_
        refine V.iload_n (q := 15) dX3_openDoors_14 rfl rfl ?_
        refine V.ldSu (q := 16) 1 dX3_openDoors_15 hR hp rfl rfl (by omega) rfl ?_
        refine V.aload_n (q := 17) dX3_openDoors_16 rfl rfl ?_
        refine V.gSu (q := 20) 4 dX3_openDoors_17 hR hp bw_55 rfl rfl ?_
        refine V.icmp_ne (tgt := 73) (q := 23) dX3_openDoors_20 (by decide) rfl (fun c20 => ?_) (fun c20 => ?_)
        · refine V.iinc (q := 76) dX3_openDoors_73 rfl (by first | exact nI_inc _ | rfl) rfl rfl rfl ?_
          refine V.goto (tgt := 2) dX3_openDoors_76 (by decide) ?_
          refine ih _ (by omega) (i + 1) _ rfl (by omega) hfr ?_
          rw [lvS_no (fun z => c20 (by rw [lvS_row (by decide)]; exact z.2))]
          exact hR
        · refine V.aload_n (q := 24) dX3_openDoors_23 rfl rfl ?_
          refine V.gS (q := 27) dX3_openDoors_24 (j := 16) hp bw_82 rfl rfl rfl rfl ?_
          refine V.iload_n (q := 28) dX3_openDoors_27 rfl rfl ?_
          refine V.ldSu (q := 29) 3 dX3_openDoors_28 hR hp rfl rfl (by omega) rfl ?_
          refine V.iconst (q := 30) dX3_openDoors_29 (v := -1) rfl rfl ?_
          refine V.icmp_eq (tgt := 73) (q := 33) dX3_openDoors_30 (by decide) rfl (fun c30 => ?_) (fun c30 => ?_)
          · refine V.iinc (q := 76) dX3_openDoors_73 rfl (by first | exact nI_inc _ | rfl) rfl rfl rfl ?_
            refine V.goto (tgt := 2) dX3_openDoors_76 (by decide) ?_
            refine ih _ (by omega) (i + 1) _ rfl (by omega) hfr ?_
            rw [lvS_no (fun z => (stat_eq2.mp z.1).2 (by have := c30; rw [lvS_row (by decide)] at this; exact this))]
            exact hR
          · refine V.aload_n (q := 34) dX3_openDoors_33 rfl rfl ?_
            refine V.gS (q := 37) dX3_openDoors_34 (j := 17) hp bw_84 rfl rfl rfl rfl ?_
            refine V.iload_n (q := 38) dX3_openDoors_37 rfl rfl ?_
            refine V.ldSu (q := 39) 4 dX3_openDoors_38 hR hp rfl rfl (by omega) rfl ?_
            refine V.iconst (q := 40) dX3_openDoors_39 (v := -1) rfl rfl ?_
            refine V.icmp_ne (tgt := 73) (q := 43) dX3_openDoors_40 (by decide) rfl (fun c40 => ?_) (fun c40 => ?_)
            · refine V.iinc (q := 76) dX3_openDoors_73 rfl (by first | exact nI_inc _ | rfl) rfl rfl rfl ?_
              refine V.goto (tgt := 2) dX3_openDoors_76 (by decide) ?_
              refine ih _ (by omega) (i + 1) _ rfl (by omega) hfr ?_
              rw [lvS_no (fun z => c40 (by rw [lvS_4 (Nat.le_refl _)]; exact (stat_eq2.mp z.1).1))]
              exact hR
            · refine V.aload_n (q := 44) dX3_openDoors_43 rfl rfl ?_
              refine V.gS (q := 47) dX3_openDoors_44 (j := 17) hp bw_84 rfl rfl rfl rfl ?_
              refine V.iload_n (q := 48) dX3_openDoors_47 rfl rfl ?_
              refine V.aload_n (q := 49) dX3_openDoors_48 rfl rfl ?_
              refine V.gSu (q := 52) 3 dX3_openDoors_49 hR hp bw_52 rfl rfl ?_
              refine V.st2 (q := 53) dX3_openDoors_52 (i := _) (kd_sim hp).2.2.2.2.1 rfl (by omega) rfl ?_
              refine V.aload_n (q := 54) dX3_openDoors_53 rfl rfl ?_
              refine V.dup (q := 55) dX3_openDoors_54 rfl rfl ?_
              refine V.gS (q := 58) dX3_openDoors_55 (j := 11) hp bw_71 rfl rfl rfl rfl ?_
              refine V.iconst (q := 59) dX3_openDoors_58 (v := 1) rfl rfl ?_
              refine V.isub (q := 60) dX3_openDoors_59 rfl ?_
              refine V.pS (q := 63) dX3_openDoors_60 (j := 11) hp bw_71 rfl rfl rfl rfl rfl rfl ?_
              refine V.aload_n (q := 64) dX3_openDoors_63 rfl rfl ?_
              refine V.dup (q := 65) dX3_openDoors_64 rfl rfl ?_
              refine V.gS (q := 68) dX3_openDoors_65 (j := 12) hp bw_74 rfl rfl rfl rfl ?_
              refine V.iconst (q := 69) dX3_openDoors_68 (v := 1) rfl rfl ?_
              refine V.iadd (q := 70) dX3_openDoors_69 rfl ?_
              refine V.pS (q := 73) dX3_openDoors_70 (j := 12) hp bw_74 rfl rfl rfl rfl rfl rfl ?_
              refine V.iinc (q := 76) dX3_openDoors_73 rfl (by first | exact nI_inc _ | rfl) rfl rfl rfl ?_
              refine V.goto (tgt := 2) dX3_openDoors_76 (by decide) ?_
              refine ih _ (by omega) (i + 1) _ rfl (by omega) (by repeat (first | exact hfr | exact FrS.rf | refine FrS.sc ?_ | refine FrS.ar ?_ (by omega) (by omega))) ?_
              have e1 : ur u 1 i = us u 4 := by have := c20; rw [lvS_row (by decide)] at this; exact this
              have e3 : ¬ ur u 3 i = -1 := by have := c30; rw [lvS_row (by decide)] at this; exact this
              have e4 : ur u 4 i = -1 := by have := c40; rw [lvS_4 (Nat.le_refl _)] at this; exact this
              have e2 : stat u i = 2 := stat_eq2.mpr ⟨e4, e3⟩
              rw [← lvS_yes e2 e1]
              exact RC.leave hR ht hlt (by rw [lvS_stat (Nat.le_refl _)]; exact e2) (by rw [← hR.2.2.2.1]; rfl) (by rw [← hR.2.2.2.2.1]; exact congrArg (· + 1) (up2_in (by decide)))
  refine V.iconst (q := 1) dX3_openDoors_0 (v := 0) rfl rfl ?_
  refine V.istore_n (q := 2) dX3_openDoors_1 rfl rfl rfl rfl ?_
  exact loop _ 0 _ rfl (Nat.zero_le _) FrS.rf (by rw [lvS_0]; exact hR)
set_option maxHeartbeats 4000000 in
theorem cS_moveTowards {l : Launch} {G : GG} {σ : St} {u : Vw} {qq : Nat → Nat} {p : Nat} (hp : kd p = 1) (hR : RC σ p u qq) {t : Int32} : CtP l G TX3_moveTowards 0 [.ref (gB G + p), .int t] σ (fun v τ => v = none ∧ FrS p σ τ ∧ RC τ p (mv u t) qq) := by
  have hn : un u ≤ 40 := hR.1
  have hfr : FrS p σ σ := FrS.rf
  refine CtP.ofV (by decide +kernel) rfl rfl (Nat.le_of_ble_eq_true rfl) ?_
  refine V.iload_n (q := 1) dX3_moveTowards_0 rfl rfl ?_
  refine V.aload_n (q := 2) dX3_moveTowards_1 rfl rfl ?_
  refine V.gSu (q := 5) 4 dX3_moveTowards_2 hR hp bw_55 rfl rfl ?_
  refine V.icmp_le (tgt := 12) (q := 8) dX3_moveTowards_5 (by decide) rfl (fun c5 => ?_) (fun c5 => ?_)
  · refine V.iconst (q := 13) dX3_moveTowards_12 (v := 0) rfl rfl ?_
    refine V.istore_n (q := 14) dX3_moveTowards_13 rfl rfl rfl rfl ?_
    refine V.aload_n (q := 15) dX3_moveTowards_14 rfl rfl ?_
    refine V.gSu (q := 18) 2 dX3_moveTowards_15 hR hp bw_49 rfl rfl ?_
    refine V.iconst (q := 19) dX3_moveTowards_18 (v := 2) rfl rfl ?_
    refine V.icmp_ne (tgt := 45) (q := 22) dX3_moveTowards_19 (by decide) rfl (fun c19 => ?_) (fun c19 => ?_)
    · refine V.aload_n (q := 46) dX3_moveTowards_45 rfl rfl ?_
      refine V.dup (q := 47) dX3_moveTowards_46 rfl rfl ?_
      refine V.gSu (q := 50) 4 dX3_moveTowards_47 hR hp bw_55 rfl rfl ?_
      refine V.iload_n (q := 51) dX3_moveTowards_50 rfl rfl ?_
      refine V.if_eq (tgt := 58) (q := 54) dX3_moveTowards_51 (by decide) rfl (fun c51 => ?_) (fun c51 => ?_)
      · refine V.iconst (q := 59) dX3_moveTowards_58 (v := -1) rfl rfl ?_
        refine V.iadd (q := 60) dX3_moveTowards_59 rfl ?_
        refine V.pS (q := 63) dX3_moveTowards_60 (j := 4) hp bw_55 rfl rfl rfl rfl rfl rfl ?_
        have hR := RC.sc hR 4 (us u 4 + -1) (by decide)
        refine V.aload_n (q := 64) dX3_moveTowards_63 rfl rfl ?_
        refine V.dup (q := 65) dX3_moveTowards_64 rfl rfl ?_
        refine V.gSu (q := 68) 6 dX3_moveTowards_65 hR hp bw_60 rfl rfl ?_
        refine V.iconst (q := 69) dX3_moveTowards_68 (v := 1) rfl rfl ?_
        refine V.iadd (q := 70) dX3_moveTowards_69 rfl ?_
        refine V.pS (q := 73) dX3_moveTowards_70 (j := 6) hp bw_60 rfl rfl rfl rfl rfl rfl ?_
        have hR := RC.sc hR 6 (us (uS u 4 (us u 4 + -1)) 6 + 1) (by decide)
        refine V.vret dX3_moveTowards_73 rfl ⟨none, _, rfl, rfl, rfl, rfl, (by repeat (first | exact hfr | exact FrS.rf | refine FrS.sc ?_ | refine FrS.ar ?_ (by omega) (by omega))), ?_⟩
        have e : mv u t = uS (uS u 4 (us u 4 + -1)) 6 (us (uS u 4 (us u 4 + -1)) 6 + 1) := by
          have hd : decide (us u 4 < t) = false := decide_eq_false (Int32.not_lt.mpr c5)
          unfold mv mvd
          rw [if_neg (of_decide_eq_false hd)]
          rw [hd]
          unfold bI
          rw [if_neg (fun z => c19 z.1)]
          rfl
        rw [e]
        exact hR
      · exact absurd rfl c51
    · refine V.iload_n (q := 23) dX3_moveTowards_22 rfl rfl ?_
      refine V.aload_n (q := 24) dX3_moveTowards_23 rfl rfl ?_
      refine V.gSu (q := 27) 5 dX3_moveTowards_24 hR hp bw_58 rfl rfl ?_
      refine V.icmp_eq (tgt := 45) (q := 30) dX3_moveTowards_27 (by decide) rfl (fun c27 => ?_) (fun c27 => ?_)
      · refine V.aload_n (q := 46) dX3_moveTowards_45 rfl rfl ?_
        refine V.dup (q := 47) dX3_moveTowards_46 rfl rfl ?_
        refine V.gSu (q := 50) 4 dX3_moveTowards_47 hR hp bw_55 rfl rfl ?_
        refine V.iload_n (q := 51) dX3_moveTowards_50 rfl rfl ?_
        refine V.if_eq (tgt := 58) (q := 54) dX3_moveTowards_51 (by decide) rfl (fun c51 => ?_) (fun c51 => ?_)
        · refine V.iconst (q := 59) dX3_moveTowards_58 (v := -1) rfl rfl ?_
          refine V.iadd (q := 60) dX3_moveTowards_59 rfl ?_
          refine V.pS (q := 63) dX3_moveTowards_60 (j := 4) hp bw_55 rfl rfl rfl rfl rfl rfl ?_
          have hR := RC.sc hR 4 (us u 4 + -1) (by decide)
          refine V.aload_n (q := 64) dX3_moveTowards_63 rfl rfl ?_
          refine V.dup (q := 65) dX3_moveTowards_64 rfl rfl ?_
          refine V.gSu (q := 68) 6 dX3_moveTowards_65 hR hp bw_60 rfl rfl ?_
          refine V.iconst (q := 69) dX3_moveTowards_68 (v := 1) rfl rfl ?_
          refine V.iadd (q := 70) dX3_moveTowards_69 rfl ?_
          refine V.pS (q := 73) dX3_moveTowards_70 (j := 6) hp bw_60 rfl rfl rfl rfl rfl rfl ?_
          have hR := RC.sc hR 6 (us (uS u 4 (us u 4 + -1)) 6 + 1) (by decide)
          refine V.vret dX3_moveTowards_73 rfl ⟨none, _, rfl, rfl, rfl, rfl, (by repeat (first | exact hfr | exact FrS.rf | refine FrS.sc ?_ | refine FrS.ar ?_ (by omega) (by omega))), ?_⟩
          have e : mv u t = uS (uS u 4 (us u 4 + -1)) 6 (us (uS u 4 (us u 4 + -1)) 6 + 1) := by
            have hd : decide (us u 4 < t) = false := decide_eq_false (Int32.not_lt.mpr c5)
            unfold mv mvd
            rw [if_neg (of_decide_eq_false hd)]
            rw [hd]
            unfold bI
            rw [if_neg (fun z => z.2 c27)]
            rfl
          rw [e]
          exact hR
        · exact absurd rfl c51
      · refine V.aload_n (q := 31) dX3_moveTowards_30 rfl rfl ?_
        refine V.iload_n (q := 32) dX3_moveTowards_31 rfl rfl ?_
        refine V.pS (q := 35) dX3_moveTowards_32 (j := 5) hp bw_58 rfl rfl rfl rfl rfl rfl ?_
        have hR := RC.sc (x := 0) hR 5 (by decide)
        refine V.aload_n (q := 36) dX3_moveTowards_35 rfl rfl ?_
        refine V.dup (q := 37) dX3_moveTowards_36 rfl rfl ?_
        refine V.gSu (q := 40) 9 dX3_moveTowards_37 hR hp bw_67 rfl rfl ?_
        refine V.iconst (q := 41) dX3_moveTowards_40 (v := 1) rfl rfl ?_
        refine V.iadd (q := 42) dX3_moveTowards_41 rfl ?_
        refine V.pS (q := 45) dX3_moveTowards_42 (j := 9) hp bw_67 rfl rfl rfl rfl rfl rfl ?_
        have hR := RC.sc hR 9 (us (uS u 5 0) 9 + 1) (by decide)
        refine V.aload_n (q := 46) dX3_moveTowards_45 rfl rfl ?_
        refine V.dup (q := 47) dX3_moveTowards_46 rfl rfl ?_
        refine V.gSu (q := 50) 4 dX3_moveTowards_47 hR hp bw_55 rfl rfl ?_
        refine V.iload_n (q := 51) dX3_moveTowards_50 rfl rfl ?_
        refine V.if_eq (tgt := 58) (q := 54) dX3_moveTowards_51 (by decide) rfl (fun c51 => ?_) (fun c51 => ?_)
        · refine V.iconst (q := 59) dX3_moveTowards_58 (v := -1) rfl rfl ?_
          refine V.iadd (q := 60) dX3_moveTowards_59 rfl ?_
          refine V.pS (q := 63) dX3_moveTowards_60 (j := 4) hp bw_55 rfl rfl rfl rfl rfl rfl ?_
          have hR := RC.sc hR 4 (us (uS (uS u 5 0) 9 (us (uS u 5 0) 9 + 1)) 4 + -1) (by decide)
          refine V.aload_n (q := 64) dX3_moveTowards_63 rfl rfl ?_
          refine V.dup (q := 65) dX3_moveTowards_64 rfl rfl ?_
          refine V.gSu (q := 68) 6 dX3_moveTowards_65 hR hp bw_60 rfl rfl ?_
          refine V.iconst (q := 69) dX3_moveTowards_68 (v := 1) rfl rfl ?_
          refine V.iadd (q := 70) dX3_moveTowards_69 rfl ?_
          refine V.pS (q := 73) dX3_moveTowards_70 (j := 6) hp bw_60 rfl rfl rfl rfl rfl rfl ?_
          have hR := RC.sc hR 6 (us (uS (uS (uS u 5 0) 9 (us (uS u 5 0) 9 + 1)) 4 (us (uS (uS u 5 0) 9 (us (uS u 5 0) 9 + 1)) 4 + -1)) 6 + 1) (by decide)
          refine V.vret dX3_moveTowards_73 rfl ⟨none, _, rfl, rfl, rfl, rfl, (by repeat (first | exact hfr | exact FrS.rf | refine FrS.sc ?_ | refine FrS.ar ?_ (by omega) (by omega))), ?_⟩
          have e : mv u t = uS (uS (uS (uS u 5 0) 9 (us (uS u 5 0) 9 + 1)) 4 (us (uS (uS u 5 0) 9 (us (uS u 5 0) 9 + 1)) 4 + -1)) 6 (us (uS (uS (uS u 5 0) 9 (us (uS u 5 0) 9 + 1)) 4 (us (uS (uS u 5 0) 9 (us (uS u 5 0) 9 + 1)) 4 + -1)) 6 + 1) := by
            have hd : decide (us u 4 < t) = false := decide_eq_false (Int32.not_lt.mpr c5)
            unfold mv mvd
            rw [if_neg (of_decide_eq_false hd)]
            rw [hd]
            unfold bI
            rw [if_pos ⟨c19, fun z => c27 z⟩]
            rfl
          rw [e]
          exact hR
        · exact absurd rfl c51
  · refine V.iconst (q := 9) dX3_moveTowards_8 (v := 1) rfl rfl ?_
    refine V.goto (tgt := 13) dX3_moveTowards_9 (by decide) ?_
    refine V.istore_n (q := 14) dX3_moveTowards_13 rfl rfl rfl rfl ?_
    refine V.aload_n (q := 15) dX3_moveTowards_14 rfl rfl ?_
    refine V.gSu (q := 18) 2 dX3_moveTowards_15 hR hp bw_49 rfl rfl ?_
    refine V.iconst (q := 19) dX3_moveTowards_18 (v := 2) rfl rfl ?_
    refine V.icmp_ne (tgt := 45) (q := 22) dX3_moveTowards_19 (by decide) rfl (fun c19 => ?_) (fun c19 => ?_)
    · refine V.aload_n (q := 46) dX3_moveTowards_45 rfl rfl ?_
      refine V.dup (q := 47) dX3_moveTowards_46 rfl rfl ?_
      refine V.gSu (q := 50) 4 dX3_moveTowards_47 hR hp bw_55 rfl rfl ?_
      refine V.iload_n (q := 51) dX3_moveTowards_50 rfl rfl ?_
      refine V.if_eq (tgt := 58) (q := 54) dX3_moveTowards_51 (by decide) rfl (fun c51 => ?_) (fun c51 => ?_)
      · exact absurd c51 (by decide)
      · refine V.iconst (q := 55) dX3_moveTowards_54 (v := 1) rfl rfl ?_
        refine V.goto (tgt := 59) dX3_moveTowards_55 (by decide) ?_
        refine V.iadd (q := 60) dX3_moveTowards_59 rfl ?_
        refine V.pS (q := 63) dX3_moveTowards_60 (j := 4) hp bw_55 rfl rfl rfl rfl rfl rfl ?_
        have hR := RC.sc hR 4 (us u 4 + 1) (by decide)
        refine V.aload_n (q := 64) dX3_moveTowards_63 rfl rfl ?_
        refine V.dup (q := 65) dX3_moveTowards_64 rfl rfl ?_
        refine V.gSu (q := 68) 6 dX3_moveTowards_65 hR hp bw_60 rfl rfl ?_
        refine V.iconst (q := 69) dX3_moveTowards_68 (v := 1) rfl rfl ?_
        refine V.iadd (q := 70) dX3_moveTowards_69 rfl ?_
        refine V.pS (q := 73) dX3_moveTowards_70 (j := 6) hp bw_60 rfl rfl rfl rfl rfl rfl ?_
        have hR := RC.sc hR 6 (us (uS u 4 (us u 4 + 1)) 6 + 1) (by decide)
        refine V.vret dX3_moveTowards_73 rfl ⟨none, _, rfl, rfl, rfl, rfl, (by repeat (first | exact hfr | exact FrS.rf | refine FrS.sc ?_ | refine FrS.ar ?_ (by omega) (by omega))), ?_⟩
        have e : mv u t = uS (uS u 4 (us u 4 + 1)) 6 (us (uS u 4 (us u 4 + 1)) 6 + 1) := by
          have hd : decide (us u 4 < t) = true := decide_eq_true (Int32.not_le.mp c5)
          unfold mv mvd
          rw [if_pos (of_decide_eq_true hd)]
          rw [hd]
          unfold bI
          rw [if_neg (fun z => c19 z.1)]
          rfl
        rw [e]
        exact hR
    · refine V.iload_n (q := 23) dX3_moveTowards_22 rfl rfl ?_
      refine V.aload_n (q := 24) dX3_moveTowards_23 rfl rfl ?_
      refine V.gSu (q := 27) 5 dX3_moveTowards_24 hR hp bw_58 rfl rfl ?_
      refine V.icmp_eq (tgt := 45) (q := 30) dX3_moveTowards_27 (by decide) rfl (fun c27 => ?_) (fun c27 => ?_)
      · refine V.aload_n (q := 46) dX3_moveTowards_45 rfl rfl ?_
        refine V.dup (q := 47) dX3_moveTowards_46 rfl rfl ?_
        refine V.gSu (q := 50) 4 dX3_moveTowards_47 hR hp bw_55 rfl rfl ?_
        refine V.iload_n (q := 51) dX3_moveTowards_50 rfl rfl ?_
        refine V.if_eq (tgt := 58) (q := 54) dX3_moveTowards_51 (by decide) rfl (fun c51 => ?_) (fun c51 => ?_)
        · exact absurd c51 (by decide)
        · refine V.iconst (q := 55) dX3_moveTowards_54 (v := 1) rfl rfl ?_
          refine V.goto (tgt := 59) dX3_moveTowards_55 (by decide) ?_
          refine V.iadd (q := 60) dX3_moveTowards_59 rfl ?_
          refine V.pS (q := 63) dX3_moveTowards_60 (j := 4) hp bw_55 rfl rfl rfl rfl rfl rfl ?_
          have hR := RC.sc hR 4 (us u 4 + 1) (by decide)
          refine V.aload_n (q := 64) dX3_moveTowards_63 rfl rfl ?_
          refine V.dup (q := 65) dX3_moveTowards_64 rfl rfl ?_
          refine V.gSu (q := 68) 6 dX3_moveTowards_65 hR hp bw_60 rfl rfl ?_
          refine V.iconst (q := 69) dX3_moveTowards_68 (v := 1) rfl rfl ?_
          refine V.iadd (q := 70) dX3_moveTowards_69 rfl ?_
          refine V.pS (q := 73) dX3_moveTowards_70 (j := 6) hp bw_60 rfl rfl rfl rfl rfl rfl ?_
          have hR := RC.sc hR 6 (us (uS u 4 (us u 4 + 1)) 6 + 1) (by decide)
          refine V.vret dX3_moveTowards_73 rfl ⟨none, _, rfl, rfl, rfl, rfl, (by repeat (first | exact hfr | exact FrS.rf | refine FrS.sc ?_ | refine FrS.ar ?_ (by omega) (by omega))), ?_⟩
          have e : mv u t = uS (uS u 4 (us u 4 + 1)) 6 (us (uS u 4 (us u 4 + 1)) 6 + 1) := by
            have hd : decide (us u 4 < t) = true := decide_eq_true (Int32.not_le.mp c5)
            unfold mv mvd
            rw [if_pos (of_decide_eq_true hd)]
            rw [hd]
            unfold bI
            rw [if_neg (fun z => z.2 c27)]
            rfl
          rw [e]
          exact hR
      · refine V.aload_n (q := 31) dX3_moveTowards_30 rfl rfl ?_
        refine V.iload_n (q := 32) dX3_moveTowards_31 rfl rfl ?_
        refine V.pS (q := 35) dX3_moveTowards_32 (j := 5) hp bw_58 rfl rfl rfl rfl rfl rfl ?_
        have hR := RC.sc (x := 1) hR 5 (by decide)
        refine V.aload_n (q := 36) dX3_moveTowards_35 rfl rfl ?_
        refine V.dup (q := 37) dX3_moveTowards_36 rfl rfl ?_
        refine V.gSu (q := 40) 9 dX3_moveTowards_37 hR hp bw_67 rfl rfl ?_
        refine V.iconst (q := 41) dX3_moveTowards_40 (v := 1) rfl rfl ?_
        refine V.iadd (q := 42) dX3_moveTowards_41 rfl ?_
        refine V.pS (q := 45) dX3_moveTowards_42 (j := 9) hp bw_67 rfl rfl rfl rfl rfl rfl ?_
        have hR := RC.sc hR 9 (us (uS u 5 1) 9 + 1) (by decide)
        refine V.aload_n (q := 46) dX3_moveTowards_45 rfl rfl ?_
        refine V.dup (q := 47) dX3_moveTowards_46 rfl rfl ?_
        refine V.gSu (q := 50) 4 dX3_moveTowards_47 hR hp bw_55 rfl rfl ?_
        refine V.iload_n (q := 51) dX3_moveTowards_50 rfl rfl ?_
        refine V.if_eq (tgt := 58) (q := 54) dX3_moveTowards_51 (by decide) rfl (fun c51 => ?_) (fun c51 => ?_)
        · exact absurd c51 (by decide)
        · refine V.iconst (q := 55) dX3_moveTowards_54 (v := 1) rfl rfl ?_
          refine V.goto (tgt := 59) dX3_moveTowards_55 (by decide) ?_
          refine V.iadd (q := 60) dX3_moveTowards_59 rfl ?_
          refine V.pS (q := 63) dX3_moveTowards_60 (j := 4) hp bw_55 rfl rfl rfl rfl rfl rfl ?_
          have hR := RC.sc hR 4 (us (uS (uS u 5 1) 9 (us (uS u 5 1) 9 + 1)) 4 + 1) (by decide)
          refine V.aload_n (q := 64) dX3_moveTowards_63 rfl rfl ?_
          refine V.dup (q := 65) dX3_moveTowards_64 rfl rfl ?_
          refine V.gSu (q := 68) 6 dX3_moveTowards_65 hR hp bw_60 rfl rfl ?_
          refine V.iconst (q := 69) dX3_moveTowards_68 (v := 1) rfl rfl ?_
          refine V.iadd (q := 70) dX3_moveTowards_69 rfl ?_
          refine V.pS (q := 73) dX3_moveTowards_70 (j := 6) hp bw_60 rfl rfl rfl rfl rfl rfl ?_
          have hR := RC.sc hR 6 (us (uS (uS (uS u 5 1) 9 (us (uS u 5 1) 9 + 1)) 4 (us (uS (uS u 5 1) 9 (us (uS u 5 1) 9 + 1)) 4 + 1)) 6 + 1) (by decide)
          refine V.vret dX3_moveTowards_73 rfl ⟨none, _, rfl, rfl, rfl, rfl, (by repeat (first | exact hfr | exact FrS.rf | refine FrS.sc ?_ | refine FrS.ar ?_ (by omega) (by omega))), ?_⟩
          have e : mv u t = uS (uS (uS (uS u 5 1) 9 (us (uS u 5 1) 9 + 1)) 4 (us (uS (uS u 5 1) 9 (us (uS u 5 1) 9 + 1)) 4 + 1)) 6 (us (uS (uS (uS u 5 1) 9 (us (uS u 5 1) 9 + 1)) 4 (us (uS (uS u 5 1) 9 (us (uS u 5 1) 9 + 1)) 4 + 1)) 6 + 1) := by
            have hd : decide (us u 4 < t) = true := decide_eq_true (Int32.not_le.mp c5)
            unfold mv mvd
            rw [if_pos (of_decide_eq_true hd)]
            rw [hd]
            unfold bI
            rw [if_pos ⟨c19, fun z => c27 z⟩]
            rfl
          rw [e]
          exact hR
set_option maxHeartbeats 4000000 in
theorem cS_tick {l : Launch} {G : GG} {σ : St} {u : Vw} {qq : Nat → Nat} {p : Nat} (hp : kd p = 1) (hR : RC σ p u qq) (hI : Iu u) : CtP l G TX3_tick 2 [.ref (gB G + p)] σ (fun v τ => v = none ∧ FrS p σ τ ∧ RC τ p (tk u) qq) := by
  have hn : un u ≤ 40 := hR.1
  refine CtP.ofV (by decide +kernel) rfl rfl (Nat.le_of_ble_eq_true rfl) ?_
  refine V.aload_n (q := 1) dX3_tick_0 rfl rfl ?_
  refine V.aload_n (q := 2) dX3_tick_1 rfl rfl ?_
  refine V.gSu (q := 5) 2 dX3_tick_2 hR hp bw_49 rfl rfl ?_
  refine V.cVS (q := 8) dX3_tick_5 (As := [_]) rfl (cS_findTarget hp hR hI) MX3_findTarget bw_503 hp rfl rfl rfl (by decide) rfl ?_
  refine V.istore_n (q := 9) dX3_tick_8 rfl rfl rfl rfl ?_
  refine V.iload_n (q := 10) dX3_tick_9 rfl rfl ?_
  refine V.iconst (q := 11) dX3_tick_10 (v := -1) rfl rfl ?_
  refine V.icmp_ne (tgt := 27) (q := 14) dX3_tick_11 (by decide) rfl (fun c11 => ?_) (fun c11 => ?_)
  · refine V.iload_n (q := 28) dX3_tick_27 rfl rfl ?_
    refine V.aload_n (q := 29) dX3_tick_28 rfl rfl ?_
    refine V.gSu (q := 32) 4 dX3_tick_29 hR hp bw_55 rfl rfl ?_
    refine V.icmp_ne (tgt := 42) (q := 35) dX3_tick_32 (by decide) rfl (fun c32 => ?_) (fun c32 => ?_)
    · refine V.aload_n (q := 43) dX3_tick_42 rfl rfl ?_
      refine V.iload_n (q := 44) dX3_tick_43 rfl rfl ?_
      refine V.cVSP (q := 47) (As := [_]) dX3_tick_44 rfl (cS_moveTowards hp hR) MX3_moveTowards bw_508 hp rfl rfl rfl (by decide) rfl (fun v1 τ1 h1 => ?_)
      obtain ⟨rfl, hfr, hR⟩ := h1
      refine V.aload_n (q := 48) dX3_tick_47 rfl rfl ?_
      refine V.dup (q := 49) dX3_tick_48 rfl rfl ?_
      refine V.gSu (q := 52) 3 dX3_tick_49 hR hp bw_52 rfl rfl ?_
      refine V.iconst (q := 53) dX3_tick_52 (v := 1) rfl rfl ?_
      refine V.iadd (q := 54) dX3_tick_53 rfl ?_
      refine V.pS (q := 57) dX3_tick_54 (j := 3) hp bw_52 rfl rfl rfl rfl rfl rfl ?_
      have e0 : tk0 u = mv u (tgt u (us u 2)) := by unfold tk0; rw [if_neg c11, if_neg c32]
      have e3 : us (mv u (tgt u (us u 2))) 3 = us u 3 := by rw [← e0]; exact tk0_3 u
      rw [show tk u = uS (mv u (tgt u (us u 2))) 3 (us (mv u (tgt u (us u 2))) 3 + 1) by unfold tk; rw [e0, e3]]
      exact V.vret dX3_tick_57 rfl ⟨none, _, rfl, rfl, rfl, rfl, (by repeat (first | exact hfr | exact FrS.rf | refine FrS.sc ?_ | refine FrS.ar ?_ (by omega) (by omega))), RC.sc hR 3 _ (by decide)⟩
    · refine V.aload_n (q := 36) dX3_tick_35 rfl rfl ?_
      refine V.cVSP (q := 39) (As := []) dX3_tick_36 rfl (cS_openDoors hp hR hI) MX3_openDoors bw_504 hp rfl rfl rfl (by decide) rfl (fun v1 τ1 h1 => ?_)
      obtain ⟨rfl, hfr, hR⟩ := h1
      refine V.goto (tgt := 47) dX3_tick_39 (by decide) ?_
      refine V.aload_n (q := 48) dX3_tick_47 rfl rfl ?_
      refine V.dup (q := 49) dX3_tick_48 rfl rfl ?_
      refine V.gSu (q := 52) 3 dX3_tick_49 hR hp bw_52 rfl rfl ?_
      refine V.iconst (q := 53) dX3_tick_52 (v := 1) rfl rfl ?_
      refine V.iadd (q := 54) dX3_tick_53 rfl ?_
      refine V.pS (q := 57) dX3_tick_54 (j := 3) hp bw_52 rfl rfl rfl rfl rfl rfl ?_
      have e0 : tk0 u = opn u := by unfold tk0; rw [if_neg c11, if_pos c32]
      have e3 : us (opn u) 3 = us u 3 := by rw [← e0]; exact tk0_3 u
      rw [show tk u = uS (opn u) 3 (us (opn u) 3 + 1) by unfold tk; rw [e0, e3]]
      exact V.vret dX3_tick_57 rfl ⟨none, _, rfl, rfl, rfl, rfl, (by repeat (first | exact hfr | exact FrS.rf | refine FrS.sc ?_ | refine FrS.ar ?_ (by omega) (by omega))), RC.sc hR 3 _ (by decide)⟩
  · refine V.aload_n (q := 15) dX3_tick_14 rfl rfl ?_
    refine V.dup (q := 16) dX3_tick_15 rfl rfl ?_
    refine V.gSu (q := 19) 8 dX3_tick_16 hR hp bw_65 rfl rfl ?_
    refine V.iconst (q := 20) dX3_tick_19 (v := 1) rfl rfl ?_
    refine V.iadd (q := 21) dX3_tick_20 rfl ?_
    refine V.pS (q := 24) dX3_tick_21 (j := 8) hp bw_65 rfl rfl rfl rfl rfl rfl ?_
    have hR := RC.sc hR 8 (us u 8 + 1) (by decide)
    have hfr : FrS p σ (stF σ p 8 (us u 8 + 1)) := FrS.sc FrS.rf
    refine V.goto (tgt := 47) dX3_tick_24 (by decide) ?_
    refine V.aload_n (q := 48) dX3_tick_47 rfl rfl ?_
    refine V.dup (q := 49) dX3_tick_48 rfl rfl ?_
    refine V.gSu (q := 52) 3 dX3_tick_49 hR hp bw_52 rfl rfl ?_
    refine V.iconst (q := 53) dX3_tick_52 (v := 1) rfl rfl ?_
    refine V.iadd (q := 54) dX3_tick_53 rfl ?_
    refine V.pS (q := 57) dX3_tick_54 (j := 3) hp bw_52 rfl rfl rfl rfl rfl rfl ?_
    have e0 : tk0 u = uS u 8 (us u 8 + 1) := by unfold tk0; rw [if_pos c11]
    have e3 : us (uS u 8 (us u 8 + 1)) 3 = us u 3 := by rw [← e0]; exact tk0_3 u
    rw [show tk u = uS (uS u 8 (us u 8 + 1)) 3 (us (uS u 8 (us u 8 + 1)) 3 + 1) by unfold tk; rw [e0, e3]]
    exact V.vret dX3_tick_57 rfl ⟨none, _, rfl, rfl, rfl, rfl, (by repeat (first | exact hfr | exact FrS.rf | refine FrS.sc ?_ | refine FrS.ar ?_ (by omega) (by omega))), RC.sc hR 3 _ (by decide)⟩
