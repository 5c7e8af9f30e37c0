/-! the model: doors, moves, ticks -/
set_option maxHeartbeats 4000000 in
theorem cM_opens {l : Launch} {G : GG} {σ : St} {u : Vw} (hM : RM σ u) (hI : Iu u) : CtP l G TX5_opens 5 [.ref (gB G + 94)] σ (fun v τ => v = none ∧ FrM σ τ ∧ RM τ (opn u)) := by
  have hn : un u ≤ 40 := hM.1
  have ht := hI.t
  have hf := hI.f
  obtain ⟨W9, hW⟩ : ∃ w, w = brd (un u) (lvS u (un u)) := ⟨_, rfl⟩
  have eX : opn u = uS W9 7 (us W9 7 + 1) := by
    unfold opn
    rw [hW]
    have e7 : us (brd (un u) (lvS u (un u))) 7 = us u 7 := by rw [brd_us]; rfl
    rw [e7]
  rw [eX]
  refine CtP.ofV (by decide +kernel) rfl rfl (Nat.le_of_ble_eq_true rfl) ?_
  have loop0 : ∀ (k : Nat) (τ : St) (v : Vw), cnt (isWf v (us v 4)) (un v) ≤ k → FrM σ τ → RM τ v → un v = un u → us v = us u → (many v 2 : Int) ≤ (us v 1).toInt → brd k v = W9 → V l G TX5_opens 5 0 0 (RetP G (fun v τ => v = none ∧ FrM σ τ ∧ RM τ (uS W9 7 (us W9 7 + 1)))) 0 0 70 [some (.ref (gB G + 94)), some (.int (oI (fw v (isWf v (us v 4)) (un v))))] [] (hof G τ) NC := by
    intro k
    induction k with
    | zero =>
      intro τ v hk hfr hM hun hus hmc hb
      have hnv : un v ≤ 40 := hM.1
      cases hfw : fw v (isWf v (us v 4)) (un v) with
      | none =>
        show V _ _ _ _ _ _ _ _ _ _ [_, some (.int (-1))] _ _ _
        refine V.iload_n (q := 71) dX5_opens_70 rfl rfl ?_
        refine V.iconst (q := 72) dX5_opens_71 (v := -1) rfl rfl ?_
        refine V.icmp_eq (tgt := 113) (q := 75) dX5_opens_72 (by decide) rfl (fun c72 => ?_) (fun c72 => ?_)
        · have hv : v = W9 := hb
          refine V.aload_n (q := 114) dX5_opens_113 rfl rfl ?_
          refine V.gM (q := 117) dX5_opens_114 (j := 1) rfl bw_1012 rfl rfl rfl rfl ?_
          refine V.bipush (q := 119) dX5_opens_117 (v := 7) rfl rfl ?_
          refine V.dup2 (q := 120) dX5_opens_119 rfl rfl rfl ?_
          refine V.ldMu (q := 121) 7 dX5_opens_120 hM rfl rfl rfl ?_
          refine V.iconst (q := 122) dX5_opens_121 (v := 1) rfl rfl ?_
          refine V.iadd (q := 123) dX5_opens_122 rfl ?_
          refine V.st12 (q := 124) dX5_opens_123 (i := 7) rfl rfl (by decide) rfl ?_
          exact V.vret dX5_opens_124 rfl ⟨none, _, rfl, rfl, rfl, rfl, (by repeat (first | exact hfr | exact FrM.rf | refine FrM.ar ?_)), by have h9 := RM.sc hM 7 (us v 7 + 1) (by decide); rw [hv] at h9 ⊢; exact h9⟩
        · exact absurd rfl c72
      | some g =>
        exact absurd (fw_some hfw).2.1 (by rw [cnt_zero (Nat.le_zero.mp hk) g (fw_some hfw).1]; decide)
    | succ k ih =>
      intro τ v hk hfr hM hun hus hmc hb
      have hnv : un v ≤ 40 := hM.1
      have htv : ¬ us v 3 = -1 := by rw [hus]; exact ht
      have hfv : ¬ us v 4 = -1 := by rw [hus]; exact hf
      cases hfw : fw v (isWf v (us v 4)) (un v) with
      | none =>
        show V _ _ _ _ _ _ _ _ _ _ [_, some (.int (-1))] _ _ _
        refine V.iload_n (q := 71) dX5_opens_70 rfl rfl ?_
        refine V.iconst (q := 72) dX5_opens_71 (v := -1) rfl rfl ?_
        refine V.icmp_eq (tgt := 113) (q := 75) dX5_opens_72 (by decide) rfl (fun c72 => ?_) (fun c72 => ?_)
        · have hv : v = W9 := by
            rw [← hb]
            simp only [brd, hfw]
          refine V.aload_n (q := 114) dX5_opens_113 rfl rfl ?_
          refine V.gM (q := 117) dX5_opens_114 (j := 1) rfl bw_1012 rfl rfl rfl rfl ?_
          refine V.bipush (q := 119) dX5_opens_117 (v := 7) rfl rfl ?_
          refine V.dup2 (q := 120) dX5_opens_119 rfl rfl rfl ?_
          refine V.ldMu (q := 121) 7 dX5_opens_120 hM rfl rfl rfl ?_
          refine V.iconst (q := 122) dX5_opens_121 (v := 1) rfl rfl ?_
          refine V.iadd (q := 123) dX5_opens_122 rfl ?_
          refine V.st12 (q := 124) dX5_opens_123 (i := 7) rfl rfl (by decide) rfl ?_
          exact V.vret dX5_opens_124 rfl ⟨none, _, rfl, rfl, rfl, rfl, (by repeat (first | exact hfr | exact FrM.rf | refine FrM.ar ?_)), by have h9 := RM.sc hM 7 (us v 7 + 1) (by decide); rw [hv] at h9 ⊢; exact h9⟩
        · exact absurd rfl c72
      | some g =>
        obtain ⟨hgn, hge, -⟩ := fw_some hfw
        have hg40 : g < 40 := by omega
        have hst : stat v g = 1 := ((isWf_iff hfv).mp hge).1
        show V _ _ _ _ _ _ _ _ _ _ [_, some (.int (nI g))] _ _ _
        refine V.iload_n (q := 71) dX5_opens_70 rfl rfl ?_
        refine V.iconst (q := 72) dX5_opens_71 (v := -1) rfl rfl ?_
        refine V.icmp_eq (tgt := 113) (q := 75) dX5_opens_72 (by decide) rfl (fun c72 => ?_) (fun c72 => ?_)
        · exact absurd c72 (nne1 (by omega))
        · refine V.aload_n (q := 76) dX5_opens_75 rfl rfl ?_
          refine V.cVM (q := 79) dX5_opens_76 (As := []) rfl (cM_full hM hmc) MX5_full bw_1176 rfl rfl rfl rfl (by decide) rfl ?_
          refine V.if_ne (tgt := 113) (q := 82) dX5_opens_79 (by decide) rfl (fun c79 => ?_) (fun c79 => ?_)
          · have hv : v = W9 := by
              rw [← hb]
              simp only [brd, hfw]
              rw [if_neg (by have := bI1.mp c79; simpa using this)]
            refine V.aload_n (q := 114) dX5_opens_113 rfl rfl ?_
            refine V.gM (q := 117) dX5_opens_114 (j := 1) rfl bw_1012 rfl rfl rfl rfl ?_
            refine V.bipush (q := 119) dX5_opens_117 (v := 7) rfl rfl ?_
            refine V.dup2 (q := 120) dX5_opens_119 rfl rfl rfl ?_
            refine V.ldMu (q := 121) 7 dX5_opens_120 hM rfl rfl rfl ?_
            refine V.iconst (q := 122) dX5_opens_121 (v := 1) rfl rfl ?_
            refine V.iadd (q := 123) dX5_opens_122 rfl ?_
            refine V.st12 (q := 124) dX5_opens_123 (i := 7) rfl rfl (by decide) rfl ?_
            exact V.vret dX5_opens_124 rfl ⟨none, _, rfl, rfl, rfl, rfl, (by repeat (first | exact hfr | exact FrM.rf | refine FrM.ar ?_)), by have h9 := RM.sc hM 7 (us v 7 + 1) (by decide); rw [hv] at h9 ⊢; exact h9⟩
          · have hrm : rmB v = true := by simpa using bI0.mp c79
            refine V.aload_n (q := 83) dX5_opens_82 rfl rfl ?_
            refine V.gM (q := 86) dX5_opens_83 (j := 1) rfl bw_1012 rfl rfl rfl rfl ?_
            refine V.iload_n (q := 87) dX5_opens_86 rfl rfl ?_
            refine V.cSt (q := 90) dX5_opens_87 (As := [_]) rfl cM_at MX5_at bw_1160 rfl rfl (by decide) rfl ?_
            refine V.iconst (q := 91) dX5_opens_90 (v := 3) rfl rfl ?_
            refine V.iadd (q := 92) dX5_opens_91 rfl ?_
            refine V.aload_n (q := 93) dX5_opens_92 rfl rfl ?_
            refine V.gM (q := 96) dX5_opens_93 (j := 1) rfl bw_1012 rfl rfl rfl rfl ?_
            refine V.iconst (q := 97) dX5_opens_96 (v := 3) rfl rfl ?_
            refine V.ldMu (q := 98) 3 dX5_opens_97 hM rfl rfl rfl ?_
            refine V.st12 (q := 99) dX5_opens_98 (i := 11 + 5 * g + 3) rfl (nI_add _ 3) (by omega) rfl ?_
            have hmb := many_board (u := v) htv hgn hst
            have hmc : (many (uR v 3 g (us v 3)) 2 : Int) ≤ (us v 1).toInt := by have := rmB_lt hnv hrm; rw [hmb.1]; omega
            have hM := RM.row hM 3 g (us v 3) (Or.inl rfl) hgn
            refine V.aload_n (q := 100) dX5_opens_99 rfl rfl ?_
            refine V.aload_n (q := 101) dX5_opens_100 rfl rfl ?_
            refine V.gM (q := 104) dX5_opens_101 (j := 1) rfl bw_1012 rfl rfl rfl rfl ?_
            refine V.iconst (q := 105) dX5_opens_104 (v := 4) rfl rfl ?_
            refine V.ldMu (q := 106) 4 dX5_opens_105 hM rfl rfl rfl ?_
            refine V.cVM (q := 109) dX5_opens_106 (As := [_]) rfl (cM_first hM) MX5_first bw_1215 rfl rfl rfl rfl (by decide) rfl ?_
            refine V.istore_n (q := 110) dX5_opens_109 rfl rfl rfl rfl ?_
            refine V.goto (tgt := 70) dX5_opens_110 (by decide) ?_
            refine ih _ (uR v 3 g (us v 3)) ?_ (by repeat (first | exact hfr | exact FrM.rf | refine FrM.ar ?_)) hM hun hus hmc ?_
            · have h4 := (stat_eq1.mp hst).1
              have h8 := cnt_upd (p := isWf v (us v 4)) (q := isWf (uR v 3 g (us v 3)) (us v 4)) (i := g) (n := un v) hgn (fun j hj => by
                apply Bool.eq_iff_iff.mpr
                rw [isWf_board htv h4 hfv]
                exact ⟨fun z => z.2, fun z => ⟨hj, z⟩⟩)
              have h7 : isWf (uR v 3 g (us v 3)) (us v 4) g = false := by
                cases hc : isWf (uR v 3 g (us v 3)) (us v 4) g with
                | false => rfl
                | true => exact absurd rfl ((isWf_board htv h4 hfv).mp hc).1
              rw [hge, h7] at h8
              simp at h8
              show cnt (isWf (uR v 3 g (us v 3)) (us v 4)) (un v) ≤ k
              omega
            · rw [← hb]
              simp only [brd, hfw]
              rw [if_pos hrm]
  have loop2 : ∀ (τ : St), FrM σ τ → RM τ (lvS u (un u)) → V l G TX5_opens 5 0 0 (RetP G (fun v τ => v = none ∧ FrM σ τ ∧ RM τ (uS W9 7 (us W9 7 + 1)))) 0 0 59 [some (.ref (gB G + 94)), some (.int (nI (un u)))] [] (hof G τ) NC := by
    intro τ hfr hM
    have hnv : un (lvS u (un u)) ≤ 40 := hM.1
    refine V.aload_n (q := 60) dX5_opens_59 rfl rfl ?_
    refine V.aload_n (q := 61) dX5_opens_60 rfl rfl ?_
    refine V.gM (q := 64) dX5_opens_61 (j := 1) rfl bw_1012 rfl rfl rfl rfl ?_
    refine V.iconst (q := 65) dX5_opens_64 (v := 4) rfl rfl ?_
    refine V.ldMu (q := 66) 4 dX5_opens_65 hM rfl rfl rfl ?_
    refine V.cVM (q := 69) dX5_opens_66 (As := [_]) rfl (cM_first hM) MX5_first bw_1215 rfl rfl rfl rfl (by decide) rfl ?_
    refine V.istore_n (q := 70) dX5_opens_69 rfl rfl rfl rfl ?_
    refine loop0 (un u) τ (lvS u (un u)) (cnt_le _ _) hfr hM rfl rfl ?_ hW.symm
    have := many_lvS ht (un u) (Nat.le_refl _)
    have h9 := hI.2.2.2.2.2.2.2.2
    show ((many (lvS u (un u)) 2 : Nat) : Int) ≤ (us u 1).toInt
    omega
  have loop : ∀ (m : Nat) (i : Nat) (τ : St), m = un u - i → i ≤ un u → FrM σ τ → RM τ (lvS u i) → V l G TX5_opens 5 0 0 (RetP G (fun v τ => v = none ∧ FrM σ τ ∧ RM τ (uS W9 7 (us W9 7 + 1)))) 0 0 2 [some (.ref (gB G + 94)), some (.int (nI i))] [] (hof G τ) NC := by
    intro m
    induction m using Nat.strongRecOn with
    | _ m ih =>
      intro i τ hm hile hfr hM
      have hnv : un (lvS u i) ≤ 40 := hM.1
      refine V.iload_n (q := 3) dX5_opens_2 rfl rfl ?_
      refine V.aload_n (q := 4) dX5_opens_3 rfl rfl ?_
      refine V.gM (q := 7) dX5_opens_4 (j := 1) rfl bw_1012 rfl rfl rfl rfl ?_
      refine V.bipush (q := 9) dX5_opens_7 (v := 10) rfl rfl ?_
      refine V.ldMn (q := 10) dX5_opens_9 hM rfl rfl ?_
      refine V.icmp_ge (tgt := 59) (q := 13) dX5_opens_10 (by decide) rfl (fun c10 => ?_) (fun c10 => ?_)
      · have hie : i = un u := Nat.le_antisymm hile (nle c10 (by omega) (by omega))
        rw [hie]
        exact loop2 _ hfr (by rw [← hie]; exact hM)
      · have hlt : i < un u := nnle c10 (by omega) (by omega)
        have hlt2 : i < un (lvS u i) := hlt
        refine V.aload_n (q := 14) dX5_opens_13 rfl rfl ?_
        refine V.iload_n (q := 15) dX5_opens_14 rfl rfl ?_
        refine V.cVM (q := 18) dX5_opens_15 (As := [_]) rfl (cM_status hM (by omega)) MX5_status bw_1184 rfl rfl rfl rfl (by decide) rfl ?_
        refine V.iconst (q := 19) dX5_opens_18 (v := 2) rfl rfl ?_
        refine V.icmp_ne (tgt := 53) (q := 22) dX5_opens_19 (by decide) rfl (fun c19 => ?_) (fun c19 => ?_)
        · refine V.iinc (q := 56) dX5_opens_53 rfl (by first | exact nI_inc _ | rfl) rfl rfl rfl ?_
          refine V.goto (tgt := 2) dX5_opens_56 (by decide) ?_
          refine ih _ (by omega) (i + 1) _ rfl (by omega) hfr ?_
          rw [lvS_no (fun z => c19 (by rw [lvS_stat (Nat.le_refl _)]; exact z.1))]
          exact hM
        · refine V.aload_n (q := 23) dX5_opens_22 rfl rfl ?_
          refine V.iload_n (q := 24) dX5_opens_23 rfl rfl ?_
          refine V.cVM (q := 27) dX5_opens_24 (As := [_]) rfl (cM_destination hM (by omega)) MX5_destination bw_1200 rfl rfl rfl rfl (by decide) rfl ?_
          refine V.aload_n (q := 28) dX5_opens_27 rfl rfl ?_
          refine V.gM (q := 31) dX5_opens_28 (j := 1) rfl bw_1012 rfl rfl rfl rfl ?_
          refine V.iconst (q := 32) dX5_opens_31 (v := 4) rfl rfl ?_
          refine V.ldMu (q := 33) 4 dX5_opens_32 hM rfl rfl rfl ?_
          refine V.icmp_ne (tgt := 53) (q := 36) dX5_opens_33 (by decide) rfl (fun c33 => ?_) (fun c33 => ?_)
          · refine V.iinc (q := 56) dX5_opens_53 rfl (by first | exact nI_inc _ | rfl) rfl rfl rfl ?_
            refine V.goto (tgt := 2) dX5_opens_56 (by decide) ?_
            refine ih _ (by omega) (i + 1) _ rfl (by omega) hfr ?_
            rw [lvS_no (fun z => c33 (by rw [lvS_row (by decide)]; exact z.2))]
            exact hM
          · refine V.aload_n (q := 37) dX5_opens_36 rfl rfl ?_
            refine V.gM (q := 40) dX5_opens_37 (j := 1) rfl bw_1012 rfl rfl rfl rfl ?_
            refine V.iload_n (q := 41) dX5_opens_40 rfl rfl ?_
            refine V.cSt (q := 44) dX5_opens_41 (As := [_]) rfl cM_at MX5_at bw_1160 rfl rfl (by decide) rfl ?_
            refine V.iconst (q := 45) dX5_opens_44 (v := 4) rfl rfl ?_
            refine V.iadd (q := 46) dX5_opens_45 rfl ?_
            refine V.aload_n (q := 47) dX5_opens_46 rfl rfl ?_
            refine V.gM (q := 50) dX5_opens_47 (j := 1) rfl bw_1012 rfl rfl rfl rfl ?_
            refine V.iconst (q := 51) dX5_opens_50 (v := 3) rfl rfl ?_
            refine V.ldMu (q := 52) 3 dX5_opens_51 hM rfl rfl rfl ?_
            refine V.st12 (q := 53) dX5_opens_52 (i := 11 + 5 * i + 4) rfl (nI_add _ 4) (by omega) rfl ?_
            refine V.iinc (q := 56) dX5_opens_53 rfl (by first | exact nI_inc _ | rfl) rfl rfl rfl ?_
            refine V.goto (tgt := 2) dX5_opens_56 (by decide) ?_
            refine ih _ (by omega) (i + 1) _ rfl (by omega) (by repeat (first | exact hfr | exact FrM.rf | refine FrM.ar ?_)) ?_
            have e2 : stat u i = 2 := by have := c19; rw [lvS_stat (Nat.le_refl _)] at this; exact this
            have e1 : ur u 1 i = us u 4 := by have := c33; rw [lvS_row (by decide)] at this; exact this
            rw [← lvS_yes e2 e1]
            exact RM.row hM 4 i _ (Or.inr rfl) hlt2
  refine V.iconst (q := 1) dX5_opens_0 (v := 0) rfl rfl ?_
  refine V.istore_n (q := 2) dX5_opens_1 rfl rfl rfl rfl ?_
  exact loop _ 0 _ rfl (Nat.zero_le _) FrM.rf (by rw [lvS_0]; exact hM)
set_option maxHeartbeats 4000000 in
theorem cM_moves {l : Launch} {G : GG} {σ : St} {u : Vw} (hM : RM σ u) (hI : Iu u) (h0 : ¬ stp u = 0) (hf : ¬ hasB (stp u) (us u 4) = true) : CtP l G TX5_moves 7 [.ref (gB G + 94), .int (stp u)] σ (fun v τ => v = none ∧ FrM σ τ ∧ RM τ (mv u (tgt u (us u 2)))) := by
  have hn : un u ≤ 40 := hM.1
  have hfr : FrM σ σ := FrM.rf
  refine CtP.ofV (by decide +kernel) rfl rfl (Nat.le_of_ble_eq_true rfl) ?_
  refine V.aload_n (q := 1) dX5_moves_0 rfl rfl ?_
  refine V.aload_n (q := 2) dX5_moves_1 rfl rfl ?_
  refine V.gM (q := 5) dX5_moves_2 (j := 1) rfl bw_1012 rfl rfl rfl rfl ?_
  refine V.iconst (q := 6) dX5_moves_5 (v := 2) rfl rfl ?_
  refine V.ldMu (q := 7) 2 dX5_moves_6 hM rfl rfl rfl ?_
  refine V.cVM (q := 10) dX5_moves_7 (As := [_]) rfl (cM_target hM hI hI.pol) MX5_target bw_1227 rfl rfl rfl rfl (by decide) rfl ?_
  refine V.istore_n (q := 11) dX5_moves_10 rfl rfl rfl rfl ?_
  refine V.aload_n (q := 12) dX5_moves_11 rfl rfl ?_
  refine V.gM (q := 15) dX5_moves_12 (j := 1) rfl bw_1012 rfl rfl rfl rfl ?_
  refine V.iconst (q := 16) dX5_moves_15 (v := 2) rfl rfl ?_
  refine V.ldMu (q := 17) 2 dX5_moves_16 hM rfl rfl rfl ?_
  refine V.iconst (q := 18) dX5_moves_17 (v := 2) rfl rfl ?_
  refine V.icmp_ne (tgt := 54) (q := 21) dX5_moves_18 (by decide) rfl (fun c18 => ?_) (fun c18 => ?_)
  · refine V.aload_n (q := 55) dX5_moves_54 rfl rfl ?_
    refine V.gM (q := 58) dX5_moves_55 (j := 1) rfl bw_1012 rfl rfl rfl rfl ?_
    refine V.iconst (q := 59) dX5_moves_58 (v := 4) rfl rfl ?_
    refine V.dup2 (q := 60) dX5_moves_59 rfl rfl rfl ?_
    refine V.ldMu (q := 61) 4 dX5_moves_60 hM rfl rfl rfl ?_
    refine V.iload_n (q := 62) dX5_moves_61 rfl rfl ?_
    refine V.aload_n (q := 63) dX5_moves_62 rfl rfl ?_
    refine V.gM (q := 66) dX5_moves_63 (j := 1) rfl bw_1012 rfl rfl rfl rfl ?_
    refine V.iconst (q := 67) dX5_moves_66 (v := 4) rfl rfl ?_
    refine V.ldMu (q := 68) 4 dX5_moves_67 hM rfl rfl rfl ?_
    refine V.icmp_le (tgt := 75) (q := 71) dX5_moves_68 (by decide) rfl (fun c68 => ?_) (fun c68 => ?_)
    · refine V.iconst (q := 76) dX5_moves_75 (v := -1) rfl rfl ?_
      refine V.iadd (q := 77) dX5_moves_76 rfl ?_
      refine V.st12 (q := 78) dX5_moves_77 (i := 4) rfl rfl (by decide) rfl ?_
      have hM := RM.sc hM 4 (us u 4 + -1) (by decide)
      refine V.aload_n (q := 79) dX5_moves_78 rfl rfl ?_
      refine V.gM (q := 82) dX5_moves_79 (j := 1) rfl bw_1012 rfl rfl rfl rfl ?_
      refine V.bipush (q := 84) dX5_moves_82 (v := 6) rfl rfl ?_
      refine V.dup2 (q := 85) dX5_moves_84 rfl rfl rfl ?_
      refine V.ldMu (q := 86) 6 dX5_moves_85 hM rfl rfl rfl ?_
      refine V.iconst (q := 87) dX5_moves_86 (v := 1) rfl rfl ?_
      refine V.iadd (q := 88) dX5_moves_87 rfl ?_
      refine V.st12 (q := 89) dX5_moves_88 (i := 6) rfl rfl (by decide) rfl ?_
      have hM := RM.sc hM 6 (us u 6 + 1) (by decide)
      refine V.vret dX5_moves_89 rfl ⟨none, _, rfl, rfl, rfl, rfl, (by repeat (first | exact hfr | exact FrM.rf | refine FrM.ar ?_)), ?_⟩
      skip
      have e : mv u (tgt u (us u 2)) = uS (uS u 4 (us u 4 + -1)) 6 (us u 6 + 1) := by
        unfold mv mvd
        rw [if_neg (show ¬ us u 4 < tgt u (us u 2) from Int32.not_lt.mpr c68)]
        rw [if_neg (fun z => c18 z.1)]
        try rfl
      rw [e]
      exact hM
    · refine V.iconst (q := 72) dX5_moves_71 (v := 1) rfl rfl ?_
      refine V.goto (tgt := 76) dX5_moves_72 (by decide) ?_
      refine V.iadd (q := 77) dX5_moves_76 rfl ?_
      refine V.st12 (q := 78) dX5_moves_77 (i := 4) rfl rfl (by decide) rfl ?_
      have hM := RM.sc hM 4 (us u 4 + 1) (by decide)
      refine V.aload_n (q := 79) dX5_moves_78 rfl rfl ?_
      refine V.gM (q := 82) dX5_moves_79 (j := 1) rfl bw_1012 rfl rfl rfl rfl ?_
      refine V.bipush (q := 84) dX5_moves_82 (v := 6) rfl rfl ?_
      refine V.dup2 (q := 85) dX5_moves_84 rfl rfl rfl ?_
      refine V.ldMu (q := 86) 6 dX5_moves_85 hM rfl rfl rfl ?_
      refine V.iconst (q := 87) dX5_moves_86 (v := 1) rfl rfl ?_
      refine V.iadd (q := 88) dX5_moves_87 rfl ?_
      refine V.st12 (q := 89) dX5_moves_88 (i := 6) rfl rfl (by decide) rfl ?_
      have hM := RM.sc hM 6 (us u 6 + 1) (by decide)
      refine V.vret dX5_moves_89 rfl ⟨none, _, rfl, rfl, rfl, rfl, (by repeat (first | exact hfr | exact FrM.rf | refine FrM.ar ?_)), ?_⟩
      skip
      have e : mv u (tgt u (us u 2)) = uS (uS u 4 (us u 4 + 1)) 6 (us u 6 + 1) := by
        unfold mv mvd
        rw [if_pos (show us u 4 < tgt u (us u 2) from Int32.not_le.mp c68)]
        rw [if_neg (fun z => c18 z.1)]
        try rfl
      rw [e]
      exact hM
  · refine V.aload_n (q := 22) dX5_moves_21 rfl rfl ?_
    refine V.iload_n (q := 23) dX5_moves_22 rfl rfl ?_
    refine V.cVM (q := 26) dX5_moves_23 (As := [_]) rfl (cM_reverses hM hI) MX5_reverses bw_1243 rfl rfl rfl rfl (by decide) rfl ?_
    refine V.if_eq (tgt := 54) (q := 29) dX5_moves_26 (by decide) rfl (fun c26 => ?_) (fun c26 => ?_)
    · refine V.aload_n (q := 55) dX5_moves_54 rfl rfl ?_
      refine V.gM (q := 58) dX5_moves_55 (j := 1) rfl bw_1012 rfl rfl rfl rfl ?_
      refine V.iconst (q := 59) dX5_moves_58 (v := 4) rfl rfl ?_
      refine V.dup2 (q := 60) dX5_moves_59 rfl rfl rfl ?_
      refine V.ldMu (q := 61) 4 dX5_moves_60 hM rfl rfl rfl ?_
      refine V.iload_n (q := 62) dX5_moves_61 rfl rfl ?_
      refine V.aload_n (q := 63) dX5_moves_62 rfl rfl ?_
      refine V.gM (q := 66) dX5_moves_63 (j := 1) rfl bw_1012 rfl rfl rfl rfl ?_
      refine V.iconst (q := 67) dX5_moves_66 (v := 4) rfl rfl ?_
      refine V.ldMu (q := 68) 4 dX5_moves_67 hM rfl rfl rfl ?_
      refine V.icmp_le (tgt := 75) (q := 71) dX5_moves_68 (by decide) rfl (fun c68 => ?_) (fun c68 => ?_)
      · refine V.iconst (q := 76) dX5_moves_75 (v := -1) rfl rfl ?_
        refine V.iadd (q := 77) dX5_moves_76 rfl ?_
        refine V.st12 (q := 78) dX5_moves_77 (i := 4) rfl rfl (by decide) rfl ?_
        have hM := RM.sc hM 4 (us u 4 + -1) (by decide)
        refine V.aload_n (q := 79) dX5_moves_78 rfl rfl ?_
        refine V.gM (q := 82) dX5_moves_79 (j := 1) rfl bw_1012 rfl rfl rfl rfl ?_
        refine V.bipush (q := 84) dX5_moves_82 (v := 6) rfl rfl ?_
        refine V.dup2 (q := 85) dX5_moves_84 rfl rfl rfl ?_
        refine V.ldMu (q := 86) 6 dX5_moves_85 hM rfl rfl rfl ?_
        refine V.iconst (q := 87) dX5_moves_86 (v := 1) rfl rfl ?_
        refine V.iadd (q := 88) dX5_moves_87 rfl ?_
        refine V.st12 (q := 89) dX5_moves_88 (i := 6) rfl rfl (by decide) rfl ?_
        have hM := RM.sc hM 6 (us u 6 + 1) (by decide)
        refine V.vret dX5_moves_89 rfl ⟨none, _, rfl, rfl, rfl, rfl, (by repeat (first | exact hfr | exact FrM.rf | refine FrM.ar ?_)), ?_⟩
        have hs := (sweep hI h0 hf c18).2 (of_decide_eq_false (bI0.mp c26))
        have e : mv u (tgt u (us u 2)) = uS (uS u 4 (us u 4 + -1)) 6 (us u 6 + 1) := by
          unfold mv mvd
          rw [if_neg (show ¬ us u 4 < tgt u (us u 2) from Int32.not_lt.mpr c68)]
          rw [if_neg (fun z => z.2 hs)]
          try rfl
        rw [e]
        exact hM
      · refine V.iconst (q := 72) dX5_moves_71 (v := 1) rfl rfl ?_
        refine V.goto (tgt := 76) dX5_moves_72 (by decide) ?_
        refine V.iadd (q := 77) dX5_moves_76 rfl ?_
        refine V.st12 (q := 78) dX5_moves_77 (i := 4) rfl rfl (by decide) rfl ?_
        have hM := RM.sc hM 4 (us u 4 + 1) (by decide)
        refine V.aload_n (q := 79) dX5_moves_78 rfl rfl ?_
        refine V.gM (q := 82) dX5_moves_79 (j := 1) rfl bw_1012 rfl rfl rfl rfl ?_
        refine V.bipush (q := 84) dX5_moves_82 (v := 6) rfl rfl ?_
        refine V.dup2 (q := 85) dX5_moves_84 rfl rfl rfl ?_
        refine V.ldMu (q := 86) 6 dX5_moves_85 hM rfl rfl rfl ?_
        refine V.iconst (q := 87) dX5_moves_86 (v := 1) rfl rfl ?_
        refine V.iadd (q := 88) dX5_moves_87 rfl ?_
        refine V.st12 (q := 89) dX5_moves_88 (i := 6) rfl rfl (by decide) rfl ?_
        have hM := RM.sc hM 6 (us u 6 + 1) (by decide)
        refine V.vret dX5_moves_89 rfl ⟨none, _, rfl, rfl, rfl, rfl, (by repeat (first | exact hfr | exact FrM.rf | refine FrM.ar ?_)), ?_⟩
        have hs := (sweep hI h0 hf c18).2 (of_decide_eq_false (bI0.mp c26))
        have e : mv u (tgt u (us u 2)) = uS (uS u 4 (us u 4 + 1)) 6 (us u 6 + 1) := by
          unfold mv mvd
          rw [if_pos (show us u 4 < tgt u (us u 2) from Int32.not_le.mp c68)]
          rw [if_neg (fun z => z.2 hs)]
          try rfl
        rw [e]
        exact hM
    · refine V.aload_n (q := 30) dX5_moves_29 rfl rfl ?_
      refine V.gM (q := 33) dX5_moves_30 (j := 1) rfl bw_1012 rfl rfl rfl rfl ?_
      refine V.iconst (q := 34) dX5_moves_33 (v := 5) rfl rfl ?_
      refine V.iconst (q := 35) dX5_moves_34 (v := 1) rfl rfl ?_
      refine V.aload_n (q := 36) dX5_moves_35 rfl rfl ?_
      refine V.gM (q := 39) dX5_moves_36 (j := 1) rfl bw_1012 rfl rfl rfl rfl ?_
      refine V.iconst (q := 40) dX5_moves_39 (v := 5) rfl rfl ?_
      refine V.ldMu (q := 41) 5 dX5_moves_40 hM rfl rfl rfl ?_
      refine V.isub (q := 42) dX5_moves_41 rfl ?_
      refine V.st12 (q := 43) dX5_moves_42 (i := 5) rfl rfl (by decide) rfl ?_
      have hM := RM.sc hM 5 (1 - us u 5) (by decide)
      refine V.aload_n (q := 44) dX5_moves_43 rfl rfl ?_
      refine V.gM (q := 47) dX5_moves_44 (j := 1) rfl bw_1012 rfl rfl rfl rfl ?_
      refine V.bipush (q := 49) dX5_moves_47 (v := 9) rfl rfl ?_
      refine V.dup2 (q := 50) dX5_moves_49 rfl rfl rfl ?_
      refine V.ldMu (q := 51) 9 dX5_moves_50 hM rfl rfl rfl ?_
      refine V.iconst (q := 52) dX5_moves_51 (v := 1) rfl rfl ?_
      refine V.iadd (q := 53) dX5_moves_52 rfl ?_
      refine V.st12 (q := 54) dX5_moves_53 (i := 9) rfl rfl (by decide) rfl ?_
      have hM := RM.sc hM 9 (us u 9 + 1) (by decide)
      refine V.aload_n (q := 55) dX5_moves_54 rfl rfl ?_
      refine V.gM (q := 58) dX5_moves_55 (j := 1) rfl bw_1012 rfl rfl rfl rfl ?_
      refine V.iconst (q := 59) dX5_moves_58 (v := 4) rfl rfl ?_
      refine V.dup2 (q := 60) dX5_moves_59 rfl rfl rfl ?_
      refine V.ldMu (q := 61) 4 dX5_moves_60 hM rfl rfl rfl ?_
      refine V.iload_n (q := 62) dX5_moves_61 rfl rfl ?_
      refine V.aload_n (q := 63) dX5_moves_62 rfl rfl ?_
      refine V.gM (q := 66) dX5_moves_63 (j := 1) rfl bw_1012 rfl rfl rfl rfl ?_
      refine V.iconst (q := 67) dX5_moves_66 (v := 4) rfl rfl ?_
      refine V.ldMu (q := 68) 4 dX5_moves_67 hM rfl rfl rfl ?_
      refine V.icmp_le (tgt := 75) (q := 71) dX5_moves_68 (by decide) rfl (fun c68 => ?_) (fun c68 => ?_)
      · refine V.iconst (q := 76) dX5_moves_75 (v := -1) rfl rfl ?_
        refine V.iadd (q := 77) dX5_moves_76 rfl ?_
        refine V.st12 (q := 78) dX5_moves_77 (i := 4) rfl rfl (by decide) rfl ?_
        have hM := RM.sc hM 4 (us (uS (uS u 5 (1 - us u 5)) 9 (us u 9 + 1)) 4 + -1) (by decide)
        refine V.aload_n (q := 79) dX5_moves_78 rfl rfl ?_
        refine V.gM (q := 82) dX5_moves_79 (j := 1) rfl bw_1012 rfl rfl rfl rfl ?_
        refine V.bipush (q := 84) dX5_moves_82 (v := 6) rfl rfl ?_
        refine V.dup2 (q := 85) dX5_moves_84 rfl rfl rfl ?_
        refine V.ldMu (q := 86) 6 dX5_moves_85 hM rfl rfl rfl ?_
        refine V.iconst (q := 87) dX5_moves_86 (v := 1) rfl rfl ?_
        refine V.iadd (q := 88) dX5_moves_87 rfl ?_
        refine V.st12 (q := 89) dX5_moves_88 (i := 6) rfl rfl (by decide) rfl ?_
        have hM := RM.sc hM 6 (us u 6 + 1) (by decide)
        refine V.vret dX5_moves_89 rfl ⟨none, _, rfl, rfl, rfl, rfl, (by repeat (first | exact hfr | exact FrM.rf | refine FrM.ar ?_)), ?_⟩
        have hs := (sweep hI h0 hf c18).1 (of_decide_eq_true (bI1.mp c26))
        have e : mv u (tgt u (us u 2)) = uS (uS (uS (uS u 5 (1 - us u 5)) 9 (us u 9 + 1)) 4 (us (uS (uS u 5 (1 - us u 5)) 9 (us u 9 + 1)) 4 + -1)) 6 (us u 6 + 1) := by
          unfold mv mvd
          rw [if_neg (show ¬ us u 4 < tgt u (us u 2) from Int32.not_lt.mpr c68)]
          rw [if_pos ⟨c18, hs.2⟩, hs.1]
          try rfl
        rw [e]
        exact hM
      · refine V.iconst (q := 72) dX5_moves_71 (v := 1) rfl rfl ?_
        refine V.goto (tgt := 76) dX5_moves_72 (by decide) ?_
        refine V.iadd (q := 77) dX5_moves_76 rfl ?_
        refine V.st12 (q := 78) dX5_moves_77 (i := 4) rfl rfl (by decide) rfl ?_
        have hM := RM.sc hM 4 (us (uS (uS u 5 (1 - us u 5)) 9 (us u 9 + 1)) 4 + 1) (by decide)
        refine V.aload_n (q := 79) dX5_moves_78 rfl rfl ?_
        refine V.gM (q := 82) dX5_moves_79 (j := 1) rfl bw_1012 rfl rfl rfl rfl ?_
        refine V.bipush (q := 84) dX5_moves_82 (v := 6) rfl rfl ?_
        refine V.dup2 (q := 85) dX5_moves_84 rfl rfl rfl ?_
        refine V.ldMu (q := 86) 6 dX5_moves_85 hM rfl rfl rfl ?_
        refine V.iconst (q := 87) dX5_moves_86 (v := 1) rfl rfl ?_
        refine V.iadd (q := 88) dX5_moves_87 rfl ?_
        refine V.st12 (q := 89) dX5_moves_88 (i := 6) rfl rfl (by decide) rfl ?_
        have hM := RM.sc hM 6 (us u 6 + 1) (by decide)
        refine V.vret dX5_moves_89 rfl ⟨none, _, rfl, rfl, rfl, rfl, (by repeat (first | exact hfr | exact FrM.rf | refine FrM.ar ?_)), ?_⟩
        have hs := (sweep hI h0 hf c18).1 (of_decide_eq_true (bI1.mp c26))
        have e : mv u (tgt u (us u 2)) = uS (uS (uS (uS u 5 (1 - us u 5)) 9 (us u 9 + 1)) 4 (us (uS (uS u 5 (1 - us u 5)) 9 (us u 9 + 1)) 4 + 1)) 6 (us u 6 + 1) := by
          unfold mv mvd
          rw [if_pos (show us u 4 < tgt u (us u 2) from Int32.not_le.mp c68)]
          rw [if_pos ⟨c18, hs.2⟩, hs.1]
          try rfl
        rw [e]
        exact hM
set_option maxHeartbeats 4000000 in
theorem cM_ticks {l : Launch} {G : GG} {σ : St} {u : Vw} (hM : RM σ u) (hI : Iu u) : CtP l G TX5_ticks 8 [.ref (gB G + 94)] σ (fun v τ => v = none ∧ FrM σ τ ∧ RM τ (tk u)) := by
  have hn : un u ≤ 40 := hM.1
  refine CtP.ofV (by decide +kernel) rfl rfl (Nat.le_of_ble_eq_true rfl) ?_
  refine V.aload_n (q := 1) dX5_ticks_0 rfl rfl ?_
  refine V.cVM (q := 4) dX5_ticks_1 (As := []) rfl (cM_stops hM hI.2.2.2.2.2.2.2.2) MX5_stops bw_1172 rfl rfl rfl rfl (by decide) rfl ?_
  refine V.istore_n (q := 5) dX5_ticks_4 rfl rfl rfl rfl ?_
  refine V.iload_n (q := 6) dX5_ticks_5 rfl rfl ?_
  refine V.aload_n (q := 7) dX5_ticks_6 rfl rfl ?_
  refine V.gM (q := 10) dX5_ticks_7 (j := 1) rfl bw_1012 rfl rfl rfl rfl ?_
  refine V.iconst (q := 11) dX5_ticks_10 (v := 4) rfl rfl ?_
  refine V.ldMu (q := 12) 4 dX5_ticks_11 hM rfl rfl rfl ?_
  refine V.cSt (q := 15) dX5_ticks_12 (As := [_, _]) rfl cM_has MX5_has bw_1208 rfl rfl (by decide) rfl ?_
  refine V.if_eq (tgt := 25) (q := 18) dX5_ticks_15 (by decide) rfl (fun c15 => ?_) (fun c15 => ?_)
  · refine V.iload_n (q := 26) dX5_ticks_25 rfl rfl ?_
    refine V.if_eq (tgt := 37) (q := 29) dX5_ticks_26 (by decide) rfl (fun c26 => ?_) (fun c26 => ?_)
    · refine V.aload_n (q := 38) dX5_ticks_37 rfl rfl ?_
      refine V.gM (q := 41) dX5_ticks_38 (j := 1) rfl bw_1012 rfl rfl rfl rfl ?_
      refine V.bipush (q := 43) dX5_ticks_41 (v := 8) rfl rfl ?_
      refine V.dup2 (q := 44) dX5_ticks_43 rfl rfl rfl ?_
      refine V.ldMu (q := 45) 8 dX5_ticks_44 hM rfl rfl rfl ?_
      refine V.iconst (q := 46) dX5_ticks_45 (v := 1) rfl rfl ?_
      refine V.iadd (q := 47) dX5_ticks_46 rfl ?_
      refine V.st12 (q := 48) dX5_ticks_47 (i := 8) rfl rfl (by decide) rfl ?_
      have hM := RM.sc hM 8 (us u 8 + 1) (by decide)
      have hfr : FrM σ (stA σ 95 8 (us u 8 + 1)) := FrM.ar FrM.rf
      refine V.aload_n (q := 49) dX5_ticks_48 rfl rfl ?_
      refine V.gM (q := 52) dX5_ticks_49 (j := 1) rfl bw_1012 rfl rfl rfl rfl ?_
      refine V.iconst (q := 53) dX5_ticks_52 (v := 3) rfl rfl ?_
      refine V.dup2 (q := 54) dX5_ticks_53 rfl rfl rfl ?_
      refine V.ldMu (q := 55) 3 dX5_ticks_54 hM rfl rfl rfl ?_
      refine V.iconst (q := 56) dX5_ticks_55 (v := 1) rfl rfl ?_
      refine V.iadd (q := 57) dX5_ticks_56 rfl ?_
      refine V.st12 (q := 58) dX5_ticks_57 (i := 3) rfl rfl (by decide) rfl ?_
      have e0 : tk0 u = uS u 8 (us u 8 + 1) := by
        rcases tk0_cases hI with ⟨-, -, z⟩ | ⟨z, -, -⟩ | ⟨z, -, -⟩
        · exact z
        · exact absurd c26 z
        · exact absurd c26 z
      have e3 : us (uS u 8 (us u 8 + 1)) 3 = us u 3 := by rw [← e0]; exact tk0_3 u
      rw [show tk u = uS (uS u 8 (us u 8 + 1)) 3 (us (uS u 8 (us u 8 + 1)) 3 + 1) by unfold tk; rw [e0, e3]]
      exact V.vret dX5_ticks_58 rfl ⟨none, _, rfl, rfl, rfl, rfl, (by repeat (first | exact hfr | exact FrM.rf | refine FrM.ar ?_)), RM.sc hM 3 _ (by decide)⟩
    · refine V.aload_n (q := 30) dX5_ticks_29 rfl rfl ?_
      refine V.iload_n (q := 31) dX5_ticks_30 rfl rfl ?_
      refine V.cVMP (q := 34) (As := [_]) dX5_ticks_31 rfl (cM_moves hM hI c26 (by rw [bI0.mp c15]; decide)) MX5_moves bw_1223 rfl rfl rfl rfl (by decide) rfl (fun v1 τ1 h1 => ?_)
      obtain ⟨rfl, hfr, hM⟩ := h1
      refine V.goto (tgt := 48) dX5_ticks_34 (by decide) ?_
      refine V.aload_n (q := 49) dX5_ticks_48 rfl rfl ?_
      refine V.gM (q := 52) dX5_ticks_49 (j := 1) rfl bw_1012 rfl rfl rfl rfl ?_
      refine V.iconst (q := 53) dX5_ticks_52 (v := 3) rfl rfl ?_
      refine V.dup2 (q := 54) dX5_ticks_53 rfl rfl rfl ?_
      refine V.ldMu (q := 55) 3 dX5_ticks_54 hM rfl rfl rfl ?_
      refine V.iconst (q := 56) dX5_ticks_55 (v := 1) rfl rfl ?_
      refine V.iadd (q := 57) dX5_ticks_56 rfl ?_
      refine V.st12 (q := 58) dX5_ticks_57 (i := 3) rfl rfl (by decide) rfl ?_
      have e0 : tk0 u = mv u (tgt u (us u 2)) := by
        rcases tk0_cases hI with ⟨z, -, -⟩ | ⟨-, z, -⟩ | ⟨-, -, z, -⟩
        · exact absurd z c26
        · rw [bI0.mp c15] at z; cases z
        · exact z
      have e3 : us (mv u (tgt u (us u 2))) 3 = us u 3 := by rw [← e0]; exact tk0_3 u
      rw [show tk u = uS (mv u (tgt u (us u 2))) 3 (us (mv u (tgt u (us u 2))) 3 + 1) by unfold tk; rw [e0, e3]]
      exact V.vret dX5_ticks_58 rfl ⟨none, _, rfl, rfl, rfl, rfl, (by repeat (first | exact hfr | exact FrM.rf | refine FrM.ar ?_)), RM.sc hM 3 _ (by decide)⟩
  · refine V.aload_n (q := 19) dX5_ticks_18 rfl rfl ?_
    refine V.cVMP (q := 22) (As := []) dX5_ticks_19 rfl (cM_opens hM hI) MX5_opens bw_1211 rfl rfl rfl rfl (by decide) rfl (fun v1 τ1 h1 => ?_)
    obtain ⟨rfl, hfr, hM⟩ := h1
    refine V.goto (tgt := 48) dX5_ticks_22 (by decide) ?_
    refine V.aload_n (q := 49) dX5_ticks_48 rfl rfl ?_
    refine V.gM (q := 52) dX5_ticks_49 (j := 1) rfl bw_1012 rfl rfl rfl rfl ?_
    refine V.iconst (q := 53) dX5_ticks_52 (v := 3) rfl rfl ?_
    refine V.dup2 (q := 54) dX5_ticks_53 rfl rfl rfl ?_
    refine V.ldMu (q := 55) 3 dX5_ticks_54 hM rfl rfl rfl ?_
    refine V.iconst (q := 56) dX5_ticks_55 (v := 1) rfl rfl ?_
    refine V.iadd (q := 57) dX5_ticks_56 rfl ?_
    refine V.st12 (q := 58) dX5_ticks_57 (i := 3) rfl rfl (by decide) rfl ?_
    have e0 : tk0 u = opn u := by
      rcases tk0_cases hI with ⟨-, z, -⟩ | ⟨-, -, z⟩ | ⟨-, z, -⟩
      · exact absurd (bI1.mp c15) z
      · exact z
      · exact absurd (bI1.mp c15) z
    have e3 : us (opn u) 3 = us u 3 := by rw [← e0]; exact tk0_3 u
    rw [show tk u = uS (opn u) 3 (us (opn u) 3 + 1) by unfold tk; rw [e0, e3]]
    exact V.vret dX5_ticks_58 rfl ⟨none, _, rfl, rfl, rfl, rfl, (by repeat (first | exact hfr | exact FrM.rf | refine FrM.ar ?_)), RM.sc hM 3 _ (by decide)⟩
