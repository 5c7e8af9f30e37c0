/-! the model: copies, remembered states, one passenger more, ticks to the end -/
set_option maxHeartbeats 4000000 in
theorem cM_keeps {l : Launch} {G : GG} {σ : St} {pl : Nat} (hpl : pl < 12) : CtP l G TX5_keeps 0 [.ref (gB G + 94), .int (nI pl)] σ (fun v τ => v = none ∧ KeepP σ τ pl) := by
  refine CtP.ofV (by decide +kernel) rfl rfl (Nat.le_of_ble_eq_true rfl) ?_
  have loop : ∀ (m : Nat) (k : Nat) (τ : St), m = 211 - k → k ≤ 211 → CpA 96 σ τ (sA σ 95) (211 * pl) k → V l G TX5_keeps 0 0 0 (RetP G (fun v τ => v = none ∧ KeepP σ τ pl)) 0 0 2 [some (.ref (gB G + 94)), some (.int (nI pl)), some (.int (nI k))] [] (hof G τ) NC := by
    intro m
    induction m using Nat.strongRecOn with
    | _ m ih =>
      intro k τ hm hk hC
      refine V.iload_n (q := 3) dX5_keeps_2 rfl rfl ?_
      refine V.sipush (q := 6) dX5_keeps_3 (v := 211) rfl rfl ?_
      refine V.icmp_ge (tgt := 33) (q := 9) dX5_keeps_6 (by decide) rfl (fun c6 => ?_) (fun c6 => ?_)
      · have hie : k = 211 := Nat.le_antisymm hk (nle (a := 211) (b := k) c6 (by decide) (by omega))
        subst hie
        exact V.vret dX5_keeps_33 rfl ⟨none, _, rfl, rfl, rfl, rfl, KeepP.of hC⟩
      · have hlt : k < 211 := nnle (a := 211) (b := k) c6 (by decide) (by omega)
        refine V.aload_n (q := 10) dX5_keeps_9 rfl rfl ?_
        refine V.gM (q := 13) dX5_keeps_10 (j := 2) rfl bw_1013 rfl rfl rfl rfl ?_
        refine V.sipush (q := 16) dX5_keeps_13 (v := 211) rfl rfl ?_
        refine V.iload_n (q := 17) dX5_keeps_16 rfl rfl ?_
        refine V.imul (q := 18) dX5_keeps_17 rfl ?_
        refine V.iload_n (q := 19) dX5_keeps_18 rfl rfl ?_
        refine V.iadd (q := 20) dX5_keeps_19 rfl ?_
        refine V.aload_n (q := 21) dX5_keeps_20 rfl rfl ?_
        refine V.gM (q := 24) dX5_keeps_21 (j := 1) rfl bw_1012 rfl rfl rfl rfl ?_
        refine V.iload_n (q := 25) dX5_keeps_24 rfl rfl ?_
        refine V.ld12 (q := 26) dX5_keeps_25 (i := k) rfl rfl (by omega) rfl ?_
        rw [hC.1.2.1 95 (by decide)]
        refine V.st13 (q := 27) dX5_keeps_26 (i := 211 * pl + k) rfl (by rw [show (211 : Int32) = nI 211 from rfl, pk_mul, nI_add]) (by omega) rfl ?_
        refine V.iinc (q := 30) dX5_keeps_27 rfl (by first | exact nI_inc _ | rfl) rfl rfl rfl ?_
        refine V.goto (tgt := 2) dX5_keeps_30 (by decide) ?_
        refine ih _ (by omega) (k + 1) _ rfl (by omega) ?_
        have h9 := hC.step (x := (sA σ 95) k) rfl
        exact h9
  refine V.iconst (q := 1) dX5_keeps_0 (v := 0) rfl rfl ?_
  refine V.istore_n (q := 2) dX5_keeps_1 rfl rfl rfl rfl ?_
  exact loop _ 0 _ rfl (Nat.zero_le _) CpA.start
set_option maxHeartbeats 4000000 in
theorem cM_bringsBack {l : Launch} {G : GG} {σ : St} {pl : Nat} (hpl : pl < 12) : CtP l G TX5_bringsBack 0 [.ref (gB G + 94), .int (nI pl)] σ (fun v τ => v = none ∧ BackP σ τ pl) := by
  refine CtP.ofV (by decide +kernel) rfl rfl (Nat.le_of_ble_eq_true rfl) ?_
  have loop : ∀ (m : Nat) (k : Nat) (τ : St), m = 211 - k → k ≤ 211 → CpA 95 σ τ (fun i => sA σ 96 (211 * pl + i)) (0) k → V l G TX5_bringsBack 0 0 0 (RetP G (fun v τ => v = none ∧ BackP σ τ pl)) 0 0 2 [some (.ref (gB G + 94)), some (.int (nI pl)), some (.int (nI k))] [] (hof G τ) NC := by
    intro m
    induction m using Nat.strongRecOn with
    | _ m ih =>
      intro k τ hm hk hC
      refine V.iload_n (q := 3) dX5_bringsBack_2 rfl rfl ?_
      refine V.sipush (q := 6) dX5_bringsBack_3 (v := 211) rfl rfl ?_
      refine V.icmp_ge (tgt := 33) (q := 9) dX5_bringsBack_6 (by decide) rfl (fun c6 => ?_) (fun c6 => ?_)
      · have hie : k = 211 := Nat.le_antisymm hk (nle (a := 211) (b := k) c6 (by decide) (by omega))
        subst hie
        exact V.vret dX5_bringsBack_33 rfl ⟨none, _, rfl, rfl, rfl, rfl, BackP.of hC⟩
      · have hlt : k < 211 := nnle (a := 211) (b := k) c6 (by decide) (by omega)
        refine V.aload_n (q := 10) dX5_bringsBack_9 rfl rfl ?_
        refine V.gM (q := 13) dX5_bringsBack_10 (j := 1) rfl bw_1012 rfl rfl rfl rfl ?_
        refine V.iload_n (q := 14) dX5_bringsBack_13 rfl rfl ?_
        refine V.aload_n (q := 15) dX5_bringsBack_14 rfl rfl ?_
        refine V.gM (q := 18) dX5_bringsBack_15 (j := 2) rfl bw_1013 rfl rfl rfl rfl ?_
        refine V.sipush (q := 21) dX5_bringsBack_18 (v := 211) rfl rfl ?_
        refine V.iload_n (q := 22) dX5_bringsBack_21 rfl rfl ?_
        refine V.imul (q := 23) dX5_bringsBack_22 rfl ?_
        refine V.iload_n (q := 24) dX5_bringsBack_23 rfl rfl ?_
        refine V.iadd (q := 25) dX5_bringsBack_24 rfl ?_
        refine V.ld13 (q := 26) dX5_bringsBack_25 (i := 211 * pl + k) rfl (by rw [show (211 : Int32) = nI 211 from rfl, pk_mul, nI_add]) (by omega) rfl ?_
        rw [hC.1.2.1 96 (by decide)]
        refine V.st12 (q := 27) dX5_bringsBack_26 (i := k) rfl rfl (by omega) rfl ?_
        refine V.iinc (q := 30) dX5_bringsBack_27 rfl (by first | exact nI_inc _ | rfl) rfl rfl rfl ?_
        refine V.goto (tgt := 2) dX5_bringsBack_30 (by decide) ?_
        refine ih _ (by omega) (k + 1) _ rfl (by omega) ?_
        have h9 := hC.step (x := (fun i => sA σ 96 (211 * pl + i)) k) rfl
        rw [Nat.zero_add] at h9
        exact h9
  refine V.iconst (q := 1) dX5_bringsBack_0 (v := 0) rfl rfl ?_
  refine V.istore_n (q := 2) dX5_bringsBack_1 rfl rfl rfl rfl ?_
  exact loop _ 0 _ rfl (Nat.zero_le _) CpA.start
set_option maxHeartbeats 4000000 in
theorem cM_records {l : Launch} {G : GG} {σ : St} {r : Nat} {hv : Nat → Vw} {u : Vw} (hH : Hist σ r hv) (hM : RM σ u) : CtP l G TX5_records 1 [.ref (gB G + 94)] σ (fun v τ => v = none ∧ FrH σ τ ∧ Hist τ (pushN r) (pushV r hv u)) := by
  refine CtP.ofV (by decide +kernel) rfl rfl (Nat.le_of_ble_eq_true rfl) ?_
  obtain ⟨hr, hr8, hall⟩ := hH
  by_cases h8 : r = 8
  · subst h8
    rw [show pushN 8 = 8 from rfl, show pushV 8 hv u = (fun i => if i < 7 then hv (i + 1) else u) from rfl]
    have loop : ∀ (m : Nat) (k : Nat) (τ : St), m = 1477 - k → k ≤ 1477 → CpA 96 σ τ (fun i => sA σ 96 (i + 211)) 0 k → V l G TX5_records 1 0 0 (RetP G (fun v τ => v = none ∧ FrH σ τ ∧ Hist τ 8 (fun i => if i < 7 then hv (i + 1) else u))) 0 0 11 [some (.ref (gB G + 94)), some (.int (nI k))] [] (hof G τ) NC := by
      intro m
      induction m using Nat.strongRecOn with
      | _ m ih =>
        intro k τ hm hk hC
        refine V.iload_n (q := 12) dX5_records_11 rfl rfl ?_
        refine V.sipush (q := 15) dX5_records_12 (v := 1477) rfl rfl ?_
        refine V.icmp_ge (tgt := 40) (q := 18) dX5_records_15 (by decide) rfl (fun c15 => ?_) (fun c15 => ?_)
        · have hie : k = 1477 := Nat.le_antisymm hk (nle (a := 1477) (b := k) c15 (by decide) (by omega))
          subst hie
          have hS := ShP.of hC
          have hM3 : RM (stF τ 94 3 (nI 8 - 1)) u := (hS.fr.RM hM).scF
          refine V.aload_n (q := 41) dX5_records_40 rfl rfl ?_
          refine V.dup (q := 42) dX5_records_41 rfl rfl ?_
          refine V.gM (q := 45) dX5_records_42 (j := 3) rfl bw_1014 rfl rfl rfl rfl ?_
          rw [show sF τ 94 3 = nI 8 by rw [hC.1.1]; exact hr]
          refine V.iconst (q := 46) dX5_records_45 (v := 1) rfl rfl ?_
          refine V.isub (q := 47) dX5_records_46 rfl ?_
          refine V.pM (q := 50) dX5_records_47 (j := 3) rfl bw_1014 rfl rfl rfl rfl rfl rfl ?_
          refine V.aload_n (q := 51) dX5_records_50 rfl rfl ?_
          refine V.aload_n (q := 52) dX5_records_51 rfl rfl ?_
          refine V.gM (q := 55) dX5_records_52 (j := 3) rfl bw_1014 rfl rfl rfl rfl ?_
          rw [show sF (stF τ 94 3 (nI 8 - 1)) 94 3 = nI 7 from (up2_at : up2 (sF τ) 94 3 (nI 8 - 1) 94 3 = nI 8 - 1).trans (by decide)]
          refine V.cVMP (q := 58) (As := [_]) dX5_records_55 rfl (cM_keeps (pl := 7) (by omega)) MX5_keeps bw_1080 rfl rfl rfl rfl (by decide) rfl (fun v1 τ1 h1 => ?_)
          obtain ⟨rfl, hK⟩ := h1
          refine V.aload_n (q := 59) dX5_records_58 rfl rfl ?_
          refine V.dup (q := 60) dX5_records_59 rfl rfl ?_
          refine V.gM (q := 63) dX5_records_60 (j := 3) rfl bw_1014 rfl rfl rfl rfl ?_
          rw [show sF τ1 94 3 = nI 7 by rw [hK.1.1]; exact (up2_at : up2 (sF τ) 94 3 (nI 8 - 1) 94 3 = nI 8 - 1).trans (by decide)]
          refine V.iconst (q := 64) dX5_records_63 (v := 1) rfl rfl ?_
          refine V.iadd (q := 65) dX5_records_64 rfl ?_
          refine V.pM (q := 68) dX5_records_65 (j := 3) rfl bw_1014 rfl rfl rfl rfl rfl rfl ?_
          exact V.vret dX5_records_68 rfl ⟨none, _, rfl, rfl, rfl, rfl, (hS.fr.trans FrH.sc).trans ((hK.fr (by decide)).trans FrH.sc), Hist.push (r := 7) (by decide) (fun i hi => (hS.KM hi (hall (i + 1) (by omega))).sc) hM3 hK rfl⟩
        · have hlt : k < 1477 := nnle (a := 1477) (b := k) c15 (by decide) (by omega)
          refine V.aload_n (q := 19) dX5_records_18 rfl rfl ?_
          refine V.gM (q := 22) dX5_records_19 (j := 2) rfl bw_1013 rfl rfl rfl rfl ?_
          refine V.iload_n (q := 23) dX5_records_22 rfl rfl ?_
          refine V.aload_n (q := 24) dX5_records_23 rfl rfl ?_
          refine V.gM (q := 27) dX5_records_24 (j := 2) rfl bw_1013 rfl rfl rfl rfl ?_
          refine V.iload_n (q := 28) dX5_records_27 rfl rfl ?_
          refine V.sipush (q := 31) dX5_records_28 (v := 211) rfl rfl ?_
          refine V.iadd (q := 32) dX5_records_31 rfl ?_
          refine V.ld13 (q := 33) dX5_records_32 (i := k + 211) rfl (nI_add _ 211) (by omega) rfl ?_
          rw [show sA τ 96 (k + 211) = sA σ 96 (k + 211) by rw [hC.2, if_neg (by omega)]]
          refine V.st13 (q := 34) dX5_records_33 (i := k) rfl rfl (by omega) rfl ?_
          refine V.iinc (q := 37) dX5_records_34 rfl (by first | exact nI_inc _ | rfl) rfl rfl rfl ?_
          refine V.goto (tgt := 11) dX5_records_37 (by decide) ?_
          refine ih _ (by omega) (k + 1) _ rfl (by omega) ?_
          have h9 := hC.step (x := sA σ 96 (k + 211)) rfl
          rw [Nat.zero_add] at h9
          exact h9
    refine V.aload_n (q := 1) dX5_records_0 rfl rfl ?_
    refine V.gM (q := 4) dX5_records_1 (j := 3) rfl bw_1014 rfl rfl rfl rfl ?_
    rw [hr]
    refine V.bipush (q := 6) dX5_records_4 (v := 8) rfl rfl ?_
    refine V.icmp_ne (tgt := 50) (q := 9) dX5_records_6 (by decide) rfl (fun c6 => ?_) (fun c6 => ?_)
    · exact absurd rfl c6
    · refine V.iconst (q := 10) dX5_records_9 (v := 0) rfl rfl ?_
      refine V.istore_n (q := 11) dX5_records_10 rfl rfl rfl rfl ?_
      exact loop _ 0 _ rfl (Nat.zero_le _) CpA.start
  · rw [show pushN r = r + 1 from if_neg h8, show pushV r hv u = (fun i => if i < r then hv i else u) from if_neg h8]
    refine V.aload_n (q := 1) dX5_records_0 rfl rfl ?_
    refine V.gM (q := 4) dX5_records_1 (j := 3) rfl bw_1014 rfl rfl rfl rfl ?_
    rw [hr]
    refine V.bipush (q := 6) dX5_records_4 (v := 8) rfl rfl ?_
    refine V.icmp_ne (tgt := 50) (q := 9) dX5_records_6 (by decide) rfl (fun c6 => ?_) (fun c6 => ?_)
    · refine V.aload_n (q := 51) dX5_records_50 rfl rfl ?_
      refine V.aload_n (q := 52) dX5_records_51 rfl rfl ?_
      refine V.gM (q := 55) dX5_records_52 (j := 3) rfl bw_1014 rfl rfl rfl rfl ?_
      rw [hr]
      refine V.cVMP (q := 58) (As := [_]) dX5_records_55 rfl (cM_keeps (pl := r) (by omega)) MX5_keeps bw_1080 rfl rfl rfl rfl (by decide) rfl (fun v1 τ1 h1 => ?_)
      obtain ⟨rfl, hK⟩ := h1
      refine V.aload_n (q := 59) dX5_records_58 rfl rfl ?_
      refine V.dup (q := 60) dX5_records_59 rfl rfl ?_
      refine V.gM (q := 63) dX5_records_60 (j := 3) rfl bw_1014 rfl rfl rfl rfl ?_
      rw [show sF τ1 94 3 = nI r by rw [hK.1.1]; exact hr]
      refine V.iconst (q := 64) dX5_records_63 (v := 1) rfl rfl ?_
      refine V.iadd (q := 65) dX5_records_64 rfl ?_
      refine V.pM (q := 68) dX5_records_65 (j := 3) rfl bw_1014 rfl rfl rfl rfl rfl rfl ?_
      exact V.vret dX5_records_68 rfl ⟨none, _, rfl, rfl, rfl, rfl, (hK.fr (by omega)).trans FrH.sc, Hist.push (by omega) hall hM hK (nI_1 _)⟩
    · exact absurd (neq c6 (by omega) (by decide)) h8
set_option maxHeartbeats 4000000 in
theorem cM_adds {l : Launch} {G : GG} {σ : St} {u : Vw} (hM : RM σ u) (hn4 : un u < 40) {a1 b1 t1 : Int32} : CtP l G TX5_adds 1 [.ref (gB G + 94), .int a1, .int b1, .int t1] σ (fun v τ => v = none ∧ FrM σ τ ∧ RM τ (addu u a1 b1 t1)) := by
  have h10 : sA (stA (stA (stA (stA (stA σ 95 (11 + 5 * un u) t1) 95 (11 + 5 * un u + 1) a1) 95 (11 + 5 * un u + 2) b1) 95 (11 + 5 * un u + 3) (-1)) 95 (11 + 5 * un u + 4) (-1)) 95 10 = nI (un u) := by
    refine ((((up2_in (by omega)).trans (up2_in (by omega))).trans (up2_in (by omega))).trans (up2_in (by omega))).trans ((up2_in (by omega)).trans hM.2.2.1)
  have hfr : FrM σ σ := FrM.rf
  refine CtP.ofV (by decide +kernel) rfl rfl (Nat.le_of_ble_eq_true rfl) ?_
  refine V.aload_n (q := 1) dX5_adds_0 rfl rfl ?_
  refine V.gM (q := 4) dX5_adds_1 (j := 1) rfl bw_1012 rfl rfl rfl rfl ?_
  refine V.bipush (q := 6) dX5_adds_4 (v := 10) rfl rfl ?_
  refine V.ldMn (q := 7) dX5_adds_6 hM rfl rfl ?_
  refine V.cSt (q := 10) dX5_adds_7 (As := [_]) rfl cM_at MX5_at bw_1160 rfl rfl (by decide) rfl ?_
  refine V.istore (q := 12) dX5_adds_10 rfl rfl rfl ?_
  refine V.aload_n (q := 13) dX5_adds_12 rfl rfl ?_
  refine V.gM (q := 16) dX5_adds_13 (j := 1) rfl bw_1012 rfl rfl rfl rfl ?_
  refine V.iload (q := 18) dX5_adds_16 rfl rfl ?_
  refine V.iload_n (q := 19) dX5_adds_18 rfl rfl ?_
  refine V.st12 (q := 20) dX5_adds_19 (i := 11 + 5 * un u) rfl rfl (by omega) rfl ?_
  refine V.aload_n (q := 21) dX5_adds_20 rfl rfl ?_
  refine V.gM (q := 24) dX5_adds_21 (j := 1) rfl bw_1012 rfl rfl rfl rfl ?_
  refine V.iload (q := 26) dX5_adds_24 rfl rfl ?_
  refine V.iconst (q := 27) dX5_adds_26 (v := 1) rfl rfl ?_
  refine V.iadd (q := 28) dX5_adds_27 rfl ?_
  refine V.iload_n (q := 29) dX5_adds_28 rfl rfl ?_
  refine V.st12 (q := 30) dX5_adds_29 (i := 11 + 5 * un u + 1) rfl (nI_add _ 1) (by omega) rfl ?_
  refine V.aload_n (q := 31) dX5_adds_30 rfl rfl ?_
  refine V.gM (q := 34) dX5_adds_31 (j := 1) rfl bw_1012 rfl rfl rfl rfl ?_
  refine V.iload (q := 36) dX5_adds_34 rfl rfl ?_
  refine V.iconst (q := 37) dX5_adds_36 (v := 2) rfl rfl ?_
  refine V.iadd (q := 38) dX5_adds_37 rfl ?_
  refine V.iload_n (q := 39) dX5_adds_38 rfl rfl ?_
  refine V.st12 (q := 40) dX5_adds_39 (i := 11 + 5 * un u + 2) rfl (nI_add _ 2) (by omega) rfl ?_
  refine V.aload_n (q := 41) dX5_adds_40 rfl rfl ?_
  refine V.gM (q := 44) dX5_adds_41 (j := 1) rfl bw_1012 rfl rfl rfl rfl ?_
  refine V.iload (q := 46) dX5_adds_44 rfl rfl ?_
  refine V.iconst (q := 47) dX5_adds_46 (v := 3) rfl rfl ?_
  refine V.iadd (q := 48) dX5_adds_47 rfl ?_
  refine V.iconst (q := 49) dX5_adds_48 (v := -1) rfl rfl ?_
  refine V.st12 (q := 50) dX5_adds_49 (i := 11 + 5 * un u + 3) rfl (nI_add _ 3) (by omega) rfl ?_
  refine V.aload_n (q := 51) dX5_adds_50 rfl rfl ?_
  refine V.gM (q := 54) dX5_adds_51 (j := 1) rfl bw_1012 rfl rfl rfl rfl ?_
  refine V.iload (q := 56) dX5_adds_54 rfl rfl ?_
  refine V.iconst (q := 57) dX5_adds_56 (v := 4) rfl rfl ?_
  refine V.iadd (q := 58) dX5_adds_57 rfl ?_
  refine V.iconst (q := 59) dX5_adds_58 (v := -1) rfl rfl ?_
  refine V.st12 (q := 60) dX5_adds_59 (i := 11 + 5 * un u + 4) rfl (nI_add _ 4) (by omega) rfl ?_
  refine V.aload_n (q := 61) dX5_adds_60 rfl rfl ?_
  refine V.gM (q := 64) dX5_adds_61 (j := 1) rfl bw_1012 rfl rfl rfl rfl ?_
  refine V.bipush (q := 66) dX5_adds_64 (v := 10) rfl rfl ?_
  refine V.dup2 (q := 67) dX5_adds_66 rfl rfl rfl ?_
  refine V.ld12 (q := 68) dX5_adds_67 (i := 10) rfl rfl (by decide) rfl ?_
  refine V.iconst (q := 69) dX5_adds_68 (v := 1) rfl rfl ?_
  refine V.iadd (q := 70) dX5_adds_69 rfl ?_
  refine V.st12 (q := 71) dX5_adds_70 (i := 10) rfl rfl (by decide) rfl ?_
  exact V.vret dX5_adds_71 rfl ⟨none, _, rfl, rfl, rfl, rfl, (by repeat (first | exact hfr | exact FrM.rf | refine FrM.ar ?_)), RM.add hM hn4 (by rw [← h10])⟩
set_option maxHeartbeats 4000000 in
theorem cM_finishes {l : Launch} {G : GG} {σ : St} {u : Vw} (hM : RM σ u) (hI : Iu u) {K : Nat} (hK : K ≤ 10000000) : CtP l G TX5_finishes 9 [.ref (gB G + 94), .int (nI K)] σ (fun v τ => v = some (.int (nI (fzn (K - uT u) u))) ∧ FrM σ τ ∧ RM τ (fzu (K - uT u) u)) := by
  refine CtP.ofV (by decide +kernel) rfl rfl (Nat.le_of_ble_eq_true rfl) ?_
  have loop : ∀ (m : Nat) (j : Nat) (τ : St) (v : Vw), m = K - uT v → FrM σ τ → RM τ v → Iu v → fzu (K - uT v) v = fzu (K - uT u) u → j + fzn (K - uT v) v = fzn (K - uT u) u → V l G TX5_finishes 9 0 0 (RetP G (fun v τ => v = some (.int (nI (fzn (K - uT u) u))) ∧ FrM σ τ ∧ RM τ (fzu (K - uT u) u))) 0 0 2 [some (.ref (gB G + 94)), some (.int (nI K)), some (.int (nI j))] [] (hof G τ) NC := by
    intro m
    induction m using Nat.strongRecOn with
    | _ m ih =>
      intro j τ v hm hfr hM hI hU hN
      refine V.aload_n (q := 3) dX5_finishes_2 rfl rfl ?_
      refine V.cVM (q := 6) dX5_finishes_3 (As := []) rfl (cM_finished hM) MX5_finished bw_1252 rfl rfl rfl rfl (by decide) rfl ?_
      refine V.if_ne (tgt := 29) (q := 9) dX5_finishes_6 (by decide) rfl (fun c6 => ?_) (fun c6 => ?_)
      · have hf : many v 3 = un v := by
          by_cases z : many v 3 = un v
          · exact z
          · rw [if_neg z] at c6; exact absurd rfl c6
        refine V.iload_n (q := 30) dX5_finishes_29 rfl rfl ?_
        have e1 : v = fzu (K - uT u) u := by rw [← hU, fzu_fin hf]
        have e2 : j = fzn (K - uT u) u := by rw [← hN, fzn_fin hf]; rfl
        exact V.iret dX5_finishes_30 rfl ⟨_, τ, rfl, rfl, rfl, by rw [e2], hfr, by rw [← e1]; exact hM⟩
      · have hf : ¬ many v 3 = un v := fun z => by rw [if_pos z] at c6; exact absurd c6 (by decide)
        have hT := hI.T
        have hTb : uT v ≤ 10000000 := by have := hI.2.2.2.2.1.2; omega
        refine V.aload_n (q := 10) dX5_finishes_9 rfl rfl ?_
        refine V.gM (q := 13) dX5_finishes_10 (j := 1) rfl bw_1012 rfl rfl rfl rfl ?_
        refine V.iconst (q := 14) dX5_finishes_13 (v := 3) rfl rfl ?_
        refine V.ldMu (q := 15) 3 dX5_finishes_14 hM rfl rfl rfl ?_
        refine V.iload_n (q := 16) dX5_finishes_15 rfl rfl ?_
        refine V.icmp_ge (tgt := 29) (q := 19) dX5_finishes_16 (by decide) rfl (fun c16 => ?_) (fun c16 => ?_)
        · rw [hT.1] at c16
          have hge : K ≤ uT v := nle c16 (by omega) (by omega)
          refine V.iload_n (q := 30) dX5_finishes_29 rfl rfl ?_
          have e1 : v = fzu (K - uT u) u := by rw [← hU, show K - uT v = 0 by omega]; rfl
          have e2 : j = fzn (K - uT u) u := by rw [← hN, show K - uT v = 0 by omega]; rfl
          exact V.iret dX5_finishes_30 rfl ⟨_, τ, rfl, rfl, rfl, by rw [e2], hfr, by rw [← e1]; exact hM⟩
        · rw [hT.1] at c16
          have hlt : uT v < K := nnle c16 (by omega) (by omega)
          have hI2 := Iu_tkN hI (by omega)
          have hT2 := (tk_T hI).1
          refine V.aload_n (q := 20) dX5_finishes_19 rfl rfl ?_
          refine V.cVMP (q := 23) (As := []) dX5_finishes_20 rfl (cM_ticks hM hI) MX5_ticks bw_1168 rfl rfl rfl rfl (by decide) rfl (fun v1 τ1 h1 => ?_)
          obtain ⟨rfl, hfr1, hM⟩ := h1
          have hfr := hfr.trans hfr1
          refine V.iinc (q := 26) dX5_finishes_23 rfl (by first | exact nI_inc _ | rfl) rfl rfl rfl ?_
          refine V.goto (tgt := 2) dX5_finishes_26 (by decide) ?_
          refine ih _ (by omega) (j + 1) _ (tk v) rfl hfr hM hI2 ?_ ?_
          · rw [← hU, hT2, show K - uT v = (K - (uT v + 1)) + 1 by omega, fzu_step hf]
          · rw [← hN, hT2, show K - uT v = (K - (uT v + 1)) + 1 by omega, fzn_step hf]; omega
  refine V.iconst (q := 1) dX5_finishes_0 (v := 0) rfl rfl ?_
  refine V.istore_n (q := 2) dX5_finishes_1 rfl rfl rfl rfl ?_
  exact loop _ 0 _ u rfl FrM.rf hM hI rfl (Nat.zero_add _)
set_option maxHeartbeats 4000000 in
theorem cM_forecasts {l : Launch} {G : GG} {σ : St} {u : Vw} (hM : RM σ u) (hI : Iu u) : CtP l G TX5_forecasts 10 [.ref (gB G + 94)] σ (fun v τ => v = some (.int (nI (fzn (99999 - uT u) u))) ∧ FrM σ τ ∧ RM τ (fzu (99999 - uT u) u)) := by
  refine CtP.ofV (by decide +kernel) rfl rfl (Nat.le_of_ble_eq_true rfl) ?_
  refine V.aload_n (q := 1) dX5_forecasts_0 rfl rfl ?_
  refine V.ldc (q := 3) dX5_forecasts_1 (v := 99999) bw_1523 rfl ?_
  refine V.cVMP (q := 6) (As := [_]) dX5_forecasts_3 rfl (cM_finishes (K := 99999) hM hI (by decide)) MX5_finishes bw_1248 rfl rfl rfl rfl (by decide) rfl (fun v1 τ1 h1 => ?_)
  obtain ⟨rfl, hfr1, hM⟩ := h1
  exact V.iret dX5_forecasts_6 rfl ⟨_, _, rfl, rfl, rfl, rfl, hfr1, hM⟩
