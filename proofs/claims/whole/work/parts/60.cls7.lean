/-! LiftScheduler: output -/
set_option maxHeartbeats 4000000 in
theorem kL_letter0 {l : Launch} {G : GG} {σ : St}  : CtS l G TX4_letterOf 0 [.int 0] σ (some (.int 46)) σ := by
  refine CtS.ofV (by decide +kernel) rfl rfl (Nat.le_of_ble_eq_true rfl) ?_
  refine V.iload_n (q := 1) dX4_letterOf_0 rfl rfl ?_
  refine V.tableOut (tgt := 37) dX4_letterOf_1 (by decide) (by decide) ?_
  refine V.bipush (q := 39) dX4_letterOf_37 (v := 46) rfl rfl ?_
  exact V.iret dX4_letterOf_39 rfl ⟨rfl, rfl, rfl⟩
set_option maxHeartbeats 4000000 in
theorem kL_letter1 {l : Launch} {G : GG} {σ : St}  : CtS l G TX4_letterOf 0 [.int 1] σ (some (.int 119)) σ := by
  refine CtS.ofV (by decide +kernel) rfl rfl (Nat.le_of_ble_eq_true rfl) ?_
  refine V.iload_n (q := 1) dX4_letterOf_0 rfl rfl ?_
  refine V.tableIn (off := 27) (tgt := 28) dX4_letterOf_1 (by decide) (by decide) rfl (by decide) ?_
  refine V.bipush (q := 30) dX4_letterOf_28 (v := 119) rfl rfl ?_
  exact V.iret dX4_letterOf_30 rfl ⟨rfl, rfl, rfl⟩
set_option maxHeartbeats 4000000 in
theorem kL_letter2 {l : Launch} {G : GG} {σ : St}  : CtS l G TX4_letterOf 0 [.int 2] σ (some (.int 114)) σ := by
  refine CtS.ofV (by decide +kernel) rfl rfl (Nat.le_of_ble_eq_true rfl) ?_
  refine V.iload_n (q := 1) dX4_letterOf_0 rfl rfl ?_
  refine V.tableIn (off := 30) (tgt := 31) dX4_letterOf_1 (by decide) (by decide) rfl (by decide) ?_
  refine V.bipush (q := 33) dX4_letterOf_31 (v := 114) rfl rfl ?_
  exact V.iret dX4_letterOf_33 rfl ⟨rfl, rfl, rfl⟩
set_option maxHeartbeats 4000000 in
theorem kL_letter3 {l : Launch} {G : GG} {σ : St}  : CtS l G TX4_letterOf 0 [.int 3] σ (some (.int 100)) σ := by
  refine CtS.ofV (by decide +kernel) rfl rfl (Nat.le_of_ble_eq_true rfl) ?_
  refine V.iload_n (q := 1) dX4_letterOf_0 rfl rfl ?_
  refine V.tableIn (off := 33) (tgt := 34) dX4_letterOf_1 (by decide) (by decide) rfl (by decide) ?_
  refine V.bipush (q := 36) dX4_letterOf_34 (v := 100) rfl rfl ?_
  exact V.iret dX4_letterOf_36 rfl ⟨rfl, rfl, rfl⟩
theorem kL_letter {l : Launch} {G : GG} {σ : St} {u : Vw} {i : Nat} : CtS l G TX4_letterOf 0 [.int (stat u i)] σ (some (.int (lttr (stat u i)))) σ := by
  rcases stat_4 u i with z | z | z | z <;> rw [z]
  · exact kL_letter0
  · exact kL_letter1
  · exact kL_letter2
  · exact kL_letter3
set_option maxHeartbeats 4000000 in
theorem kL_writeByte {l : Launch} {G : GG} {σ : St} {o : Txt} (hO : CO σ o) (ho : o.1 < 64) {x : Int32} (hx : Asc x) : CtP l G TX4_writeByte 0 [.ref (gB G + 0), .int x] σ (fun v τ => v = none ∧ FrO σ τ ∧ CO τ (wr o x)) := by
  refine CtP.ofV (by decide +kernel) rfl rfl (Nat.le_of_ble_eq_true rfl) ?_
  refine V.aload_n (q := 1) dX4_writeByte_0 rfl rfl ?_
  refine V.gL (q := 4) dX4_writeByte_1 (j := 11) rfl bw_179 rfl rfl rfl rfl ?_
  refine V.bipush (q := 6) dX4_writeByte_4 (v := 64) rfl rfl ?_
  refine V.icmp_ge (tgt := 30) (q := 9) dX4_writeByte_6 (by decide) rfl (fun c6 => ?_) (fun c6 => ?_)
  · exact absurd (nle (a := 64) (b := o.1) (by rw [← hO.1]; exact c6) (by decide) (by omega)) (Nat.not_le.mpr ho)
  · refine V.aload_n (q := 10) dX4_writeByte_9 rfl rfl ?_
    refine V.gL (q := 13) dX4_writeByte_10 (j := 10) rfl bw_178 rfl rfl rfl rfl ?_
    refine V.aload_n (q := 14) dX4_writeByte_13 rfl rfl ?_
    refine V.gL (q := 17) dX4_writeByte_14 (j := 11) rfl bw_179 rfl rfl rfl rfl ?_
    rw [hO.1]
    refine V.iload_n (q := 18) dX4_writeByte_17 rfl rfl ?_
    refine V.i2b (q := 19) dX4_writeByte_18 rfl ?_
    refine V.st10 (q := 20) dX4_writeByte_19 (i := o.1) (by first | rfl | assumption) rfl ho rfl ?_
    refine V.aload_n (q := 21) dX4_writeByte_20 rfl rfl ?_
    refine V.dup (q := 22) dX4_writeByte_21 rfl rfl ?_
    refine V.gL (q := 25) dX4_writeByte_22 (j := 11) rfl bw_179 rfl rfl rfl rfl ?_
    rw [show sF (stA σ 23 o.1 (vp_nar .byte x.toInt8.toInt32)) 0 11 = nI o.1 from hO.1]
    refine V.iconst (q := 26) dX4_writeByte_25 (v := 1) rfl rfl ?_
    refine V.iadd (q := 27) dX4_writeByte_26 rfl ?_
    refine V.pL (q := 30) dX4_writeByte_27 (j := 11) rfl bw_179 rfl rfl rfl rfl rfl rfl ?_
    exact V.vret dX4_writeByte_30 rfl ⟨none, _, rfl, rfl, rfl, rfl, FrO.ar.trans FrO.len, CO_wr hO (byt_asc hx) (nI_1 _)⟩
set_option maxHeartbeats 4000000 in
theorem kL_writeNumber {l : Launch} {G : GG} {σ : St} {o : Txt} (hO : CO σ o) (ho : o.1 + 2 ≤ 64) {n : Nat} (hn : n < 100) : CtP l G TX4_writeNumber 1 [.ref (gB G + 0), .int (nI n)] σ (fun v τ => v = none ∧ FrO σ τ ∧ CO τ (wrN o n)) := by
  have hfr : FrO σ σ := FrO.rf
  refine CtP.ofV (by decide +kernel) rfl rfl (Nat.le_of_ble_eq_true rfl) ?_
  refine V.iload_n (q := 1) dX4_writeNumber_0 rfl rfl ?_
  refine V.bipush (q := 3) dX4_writeNumber_1 (v := 10) rfl rfl ?_
  refine V.icmp_lt (tgt := 17) (q := 6) dX4_writeNumber_3 (by decide) rfl (fun c3 => ?_) (fun c3 => ?_)
  · have h10 : ¬ 10 ≤ n := fun z => absurd (nI_le z (by omega)) (Int32.not_le.mpr c3)
    refine V.aload_n (q := 18) dX4_writeNumber_17 rfl rfl ?_
    refine V.bipush (q := 20) dX4_writeNumber_18 (v := 48) rfl rfl ?_
    refine V.iload_n (q := 21) dX4_writeNumber_20 rfl rfl ?_
    refine V.bipush (q := 23) dX4_writeNumber_21 (v := 10) rfl rfl ?_
    refine V.irem (q := 24) dX4_writeNumber_23 (by decide) rfl ?_
    refine V.iadd (q := 25) dX4_writeNumber_24 rfl ?_
    rw [mod10 hn]
    refine V.cVLP (q := 28) (As := [_]) dX4_writeNumber_25 rfl (kL_writeByte (o := o) (x := dig (n % 10)) hO (by omega) (dig_asc (by omega))) MX4_writeByte bw_438 rfl rfl rfl rfl (by decide) rfl (fun v1 τ1 h1 => ?_)
    obtain ⟨rfl, hfr1, hO⟩ := h1
    have hfr := hfr.trans hfr1
    exact V.vret dX4_writeNumber_28 rfl ⟨none, _, rfl, rfl, rfl, rfl, hfr, by unfold wrN; rw [if_neg h10]; exact hO⟩
  · have h10 : 10 ≤ n := nle (a := 10) (b := n) (Int32.not_lt.mp c3) (by decide) (by omega)
    refine V.aload_n (q := 7) dX4_writeNumber_6 rfl rfl ?_
    refine V.bipush (q := 9) dX4_writeNumber_7 (v := 48) rfl rfl ?_
    refine V.iload_n (q := 10) dX4_writeNumber_9 rfl rfl ?_
    refine V.bipush (q := 12) dX4_writeNumber_10 (v := 10) rfl rfl ?_
    refine V.idiv (q := 13) dX4_writeNumber_12 (by decide) rfl ?_
    refine V.iadd (q := 14) dX4_writeNumber_13 rfl ?_
    rw [div10 hn]
    refine V.cVLP (q := 17) (As := [_]) dX4_writeNumber_14 rfl (kL_writeByte (o := o) (x := dig (n / 10)) hO (by omega) (dig_asc (by omega))) MX4_writeByte bw_438 rfl rfl rfl rfl (by decide) rfl (fun v1 τ1 h1 => ?_)
    obtain ⟨rfl, hfr1, hO⟩ := h1
    have hfr := hfr.trans hfr1
    refine V.aload_n (q := 18) dX4_writeNumber_17 rfl rfl ?_
    refine V.bipush (q := 20) dX4_writeNumber_18 (v := 48) rfl rfl ?_
    refine V.iload_n (q := 21) dX4_writeNumber_20 rfl rfl ?_
    refine V.bipush (q := 23) dX4_writeNumber_21 (v := 10) rfl rfl ?_
    refine V.irem (q := 24) dX4_writeNumber_23 (by decide) rfl ?_
    refine V.iadd (q := 25) dX4_writeNumber_24 rfl ?_
    rw [mod10 hn]
    refine V.cVLP (q := 28) (As := [_]) dX4_writeNumber_25 rfl (kL_writeByte (o := wr o (dig (n / 10))) (x := dig (n % 10)) hO (show o.1 + 1 < 64 by omega) (dig_asc (by omega))) MX4_writeByte bw_438 rfl rfl rfl rfl (by decide) rfl (fun v1 τ1 h1 => ?_)
    obtain ⟨rfl, hfr1, hO⟩ := h1
    have hfr := hfr.trans hfr1
    exact V.vret dX4_writeNumber_28 rfl ⟨none, _, rfl, rfl, rfl, rfl, hfr, by unfold wrN; rw [if_pos h10]; exact hO⟩
set_option maxHeartbeats 4000000 in
theorem kL_writeStatus {l : Launch} {G : GG} {σ : St} {u : Vw} {qq : Nat → Nat} (hR : RC σ 1 u qq) : CtP l G TX4_writeStatus 2 [.ref (gB G + 0)] σ (fun v τ => v = some (.int (nI (un u))) ∧ FrO σ τ ∧ CO τ (wrST u (un u))) := by
  have hn : un u ≤ 40 := hR.1
  refine CtP.ofV (by decide +kernel) rfl rfl (Nat.le_of_ble_eq_true rfl) ?_
  have loop : ∀ (m : Nat) (i : Nat) (τ : St), m = un u - i → i ≤ un u → RC τ 1 u qq → FrO σ τ → CO τ (wrST u i) → V l G TX4_writeStatus 2 0 0 (RetP G (fun v τ => v = some (.int (nI (un u))) ∧ FrO σ τ ∧ CO τ (wrST u (un u)))) 0 0 7 [some (.ref (gB G + 0)), some (.int (nI i))] [] (hof G τ) NC := by
    intro m
    induction m using Nat.strongRecOn with
    | _ m ih =>
      intro i τ hm hile hR hfr hO
      refine V.iload_n (q := 8) dX4_writeStatus_7 rfl rfl ?_
      refine V.aload_n (q := 9) dX4_writeStatus_8 rfl rfl ?_
      refine V.gL (q := 12) dX4_writeStatus_9 (j := 0) rfl bw_168 rfl rfl rfl rfl ?_
      refine V.gSn (q := 15) dX4_writeStatus_12 hR rfl bw_66 rfl ?_
      refine V.icmp_ge (tgt := 39) (q := 18) dX4_writeStatus_15 (by decide) rfl (fun c15 => ?_) (fun c15 => ?_)
      · have hie : i = un u := Nat.le_antisymm hile (nle c15 (by omega) (by omega))
        refine V.aload_n (q := 40) dX4_writeStatus_39 rfl rfl ?_
        refine V.gL (q := 43) dX4_writeStatus_40 (j := 11) rfl bw_179 rfl rfl rfl rfl ?_
        rw [hO.1, wrST_len, hie]
        exact V.iret dX4_writeStatus_43 rfl ⟨_, _, rfl, rfl, rfl, rfl, hfr, by rw [← hie]; exact hO⟩
      · have hlt : i < un u := nnle c15 (by omega) (by omega)
        refine V.aload_n (q := 19) dX4_writeStatus_18 rfl rfl ?_
        refine V.aload_n (q := 20) dX4_writeStatus_19 rfl rfl ?_
        refine V.gL (q := 23) dX4_writeStatus_20 (j := 0) rfl bw_168 rfl rfl rfl rfl ?_
        refine V.iload_n (q := 24) dX4_writeStatus_23 rfl rfl ?_
        refine V.cVS (q := 27) dX4_writeStatus_24 (As := [_]) rfl (cS_findStatus rfl hR hlt) MX3_findStatus bw_431 rfl rfl rfl rfl (by decide) rfl ?_
        refine V.cSt (q := 30) dX4_writeStatus_27 (As := [_]) rfl kL_letter MX4_letterOf bw_435 rfl rfl (by decide) rfl ?_
        refine V.cVLP (q := 33) (As := [_]) dX4_writeStatus_30 rfl (kL_writeByte (o := wrST u i) hO (by rw [wrST_len]; omega) (lttr_asc _)) MX4_writeByte bw_438 rfl rfl rfl rfl (by decide) rfl (fun v1 τ1 h1 => ?_)
        obtain ⟨rfl, hfr1, hO⟩ := h1
        have hR := hfr1.RC rfl hR
        have hfr := hfr.trans hfr1
        refine V.iinc (q := 36) dX4_writeStatus_33 rfl (by first | exact nI_inc _ | rfl) rfl rfl rfl ?_
        refine V.goto (tgt := 7) dX4_writeStatus_36 (by decide) ?_
        exact ih _ (by omega) (i + 1) _ rfl (by omega) hR hfr hO
  refine V.aload_n (q := 1) dX4_writeStatus_0 rfl rfl ?_
  refine V.iconst (q := 2) dX4_writeStatus_1 (v := 0) rfl rfl ?_
  refine V.pL (q := 5) dX4_writeStatus_2 (j := 11) rfl bw_179 rfl rfl rfl rfl rfl rfl ?_
  refine V.iconst (q := 6) dX4_writeStatus_5 (v := 0) rfl rfl ?_
  refine V.istore_n (q := 7) dX4_writeStatus_6 rfl rfl rfl rfl ?_
  exact loop _ 0 _ rfl (Nat.zero_le _) (FrO.len.RC rfl hR) FrO.len CO.zero
set_option maxHeartbeats 4000000 in
theorem kL_writeBuilding {l : Launch} {G : GG} {σ : St} {u : Vw} {qq : Nat → Nat} (hR : RC σ 1 u qq) (hI : Iu u) : CtP l G TX4_writeBuilding 2 [.ref (gB G + 0)] σ (fun v τ => v = some (.int (nI (wbT u (uN u)).1)) ∧ FrO σ τ ∧ CO τ (wbT u (uN u))) := by
  have hn : un u ≤ 40 := hR.1
  obtain ⟨hF, hN, hFN, h20, -⟩ := hI.F
  refine CtP.ofV (by decide +kernel) rfl rfl (Nat.le_of_ble_eq_true rfl) ?_
  have loop : ∀ (m : Nat) (i : Nat) (τ : St), m = uN u - i → i ≤ uN u → RC τ 1 u qq → FrO σ τ → CO τ (wbT u i) → V l G TX4_writeBuilding 2 0 0 (RetP G (fun v τ => v = some (.int (nI (wbT u (uN u)).1)) ∧ FrO σ τ ∧ CO τ (wbT u (uN u)))) 0 0 7 [some (.ref (gB G + 0)), some (.int (nI i))] [] (hof G τ) NC := by
    intro m
    induction m using Nat.strongRecOn with
    | _ m ih =>
      intro i τ hm hile hR hfr hO
      refine V.iload_n (q := 8) dX4_writeBuilding_7 rfl rfl ?_
      refine V.aload_n (q := 9) dX4_writeBuilding_8 rfl rfl ?_
      refine V.gL (q := 12) dX4_writeBuilding_9 (j := 0) rfl bw_168 rfl rfl rfl rfl ?_
      refine V.gSu (q := 15) 0 dX4_writeBuilding_12 hR rfl bw_39 rfl rfl ?_
      refine V.icmp_ge (tgt := 74) (q := 18) dX4_writeBuilding_15 (by decide) rfl (fun c15 => ?_) (fun c15 => ?_)
      · have hie : i = uN u := Nat.le_antisymm hile (nle (by rw [hN] at c15; exact c15) (by omega) (by omega))
        refine V.aload_n (q := 75) dX4_writeBuilding_74 rfl rfl ?_
        refine V.gL (q := 78) dX4_writeBuilding_75 (j := 11) rfl bw_179 rfl rfl rfl rfl ?_
        rw [hO.1, hie]
        exact V.iret dX4_writeBuilding_78 rfl ⟨_, _, rfl, rfl, rfl, rfl, hfr, by rw [← hie]; exact hO⟩
      · have hlt : i < uN u := nnle (a := uN u) (b := i) (by rw [hN] at c15; exact c15) (by omega) (by omega)
        have hlen := wbT_len ⟨show uF u < 20 by omega, hF⟩ i (by omega)
        have hl2 : (wbT u i).1 ≤ 3 * i + 3 := by have := hlen.1; split at this <;> omega
        have hlC := wbC_len (wbT u i) i
        have hlN := (wrN_len (o := wbC (wbT u i) i) (n := wtN u (nI i))).1
        have hwn := wtN_le u (nI i)
        have hmn : many u 2 ≤ un u := cnt_le _ _
        refine V.iload_n (q := 19) dX4_writeBuilding_18 rfl rfl ?_
        refine V.if_le (tgt := 28) (q := 22) dX4_writeBuilding_19 (by decide) rfl (fun c19 => ?_) (fun c19 => ?_)
        · have hi0 : i = 0 := Nat.le_zero.mp (nle (b := 0) c19 (by omega) (by decide))
          have hO : CO τ (wbC (wbT u i) i) := by unfold wbC; rw [if_pos hi0]; exact hO
          refine V.aload_n (q := 29) dX4_writeBuilding_28 rfl rfl ?_
          refine V.aload_n (q := 30) dX4_writeBuilding_29 rfl rfl ?_
          refine V.gL (q := 33) dX4_writeBuilding_30 (j := 0) rfl bw_168 rfl rfl rfl rfl ?_
          refine V.iload_n (q := 34) dX4_writeBuilding_33 rfl rfl ?_
          refine V.cVS (q := 37) dX4_writeBuilding_34 (As := [_]) rfl (cS_countWaiting rfl hR) MX3_countWaiting bw_446 rfl rfl rfl rfl (by decide) rfl ?_
          refine V.cVLP (q := 40) (As := [_]) dX4_writeBuilding_37 rfl (kL_writeNumber (o := wbC (wbT u i) i) (n := wtN u (nI i)) hO (by omega) (by omega)) MX4_writeNumber bw_451 rfl rfl rfl rfl (by decide) rfl (fun v1 τ1 h1 => ?_)
          obtain ⟨rfl, hfr1, hO⟩ := h1
          have hR := hfr1.RC rfl hR
          have hfr := hfr.trans hfr1
          refine V.iload_n (q := 41) dX4_writeBuilding_40 rfl rfl ?_
          refine V.aload_n (q := 42) dX4_writeBuilding_41 rfl rfl ?_
          refine V.gL (q := 45) dX4_writeBuilding_42 (j := 0) rfl bw_168 rfl rfl rfl rfl ?_
          refine V.gSu (q := 48) 4 dX4_writeBuilding_45 hR rfl bw_51 rfl rfl ?_
          refine V.icmp_ne (tgt := 68) (q := 51) dX4_writeBuilding_48 (by decide) rfl (fun c48 => ?_) (fun c48 => ?_)
          · refine V.iinc (q := 71) dX4_writeBuilding_68 rfl (by first | exact nI_inc _ | rfl) rfl rfl rfl ?_
            refine V.goto (tgt := 7) dX4_writeBuilding_71 (by decide) ?_
            have ew : wrN (wbC (wbT u i) i) (wtN u (nI i)) = wbT u (i + 1) := by
              show _ = wbL u (wrN (wbC (wbT u i) i) (wtN u (nI i))) i
              unfold wbL
              rw [if_neg c48]
            rw [ew] at hO
            exact ih _ (by omega) (i + 1) _ rfl (by omega) hR hfr hO
          · have hiF : i = uF u := neq (c48.trans hF) (by omega) (by omega)
            have hl3 : (wbT u i).1 ≤ 3 * i := by
              have := hlen.1
              rw [if_neg (by omega)] at this
              exact this
            refine V.aload_n (q := 52) dX4_writeBuilding_51 rfl rfl ?_
            refine V.bipush (q := 54) dX4_writeBuilding_52 (v := 42) rfl rfl ?_
            refine V.cVLP (q := 57) (As := [_]) dX4_writeBuilding_54 rfl (kL_writeByte (o := wrN (wbC (wbT u i) i) (wtN u (nI i))) hO (by omega) ⟨42, by decide, rfl⟩) MX4_writeByte bw_438 rfl rfl rfl rfl (by decide) rfl (fun v1 τ1 h1 => ?_)
            obtain ⟨rfl, hfr1, hO⟩ := h1
            have hR := hfr1.RC rfl hR
            have hfr := hfr.trans hfr1
            refine V.aload_n (q := 58) dX4_writeBuilding_57 rfl rfl ?_
            refine V.aload_n (q := 59) dX4_writeBuilding_58 rfl rfl ?_
            refine V.gL (q := 62) dX4_writeBuilding_59 (j := 0) rfl bw_168 rfl rfl rfl rfl ?_
            refine V.gSr (q := 65) dX4_writeBuilding_62 hR rfl bw_69 rfl ?_
            refine V.cVLP (q := 68) (As := [_]) dX4_writeBuilding_65 rfl (kL_writeNumber (o := wr (wrN (wbC (wbT u i) i) (wtN u (nI i))) 42) (n := many u 2) hO (by show (wrN (wbC (wbT u i) i) (wtN u (nI i))).1 + 1 + 2 ≤ 64; omega) (by omega)) MX4_writeNumber bw_451 rfl rfl rfl rfl (by decide) rfl (fun v1 τ1 h1 => ?_)
            obtain ⟨rfl, hfr1, hO⟩ := h1
            have hR := hfr1.RC rfl hR
            have hfr := hfr.trans hfr1
            refine V.iinc (q := 71) dX4_writeBuilding_68 rfl (by first | exact nI_inc _ | rfl) rfl rfl rfl ?_
            refine V.goto (tgt := 7) dX4_writeBuilding_71 (by decide) ?_
            have ew : wrN (wr (wrN (wbC (wbT u i) i) (wtN u (nI i))) 42) (many u 2) = wbT u (i + 1) := by
              show _ = wbL u (wrN (wbC (wbT u i) i) (wtN u (nI i))) i
              unfold wbL
              rw [if_pos c48]
            rw [ew] at hO
            exact ih _ (by omega) (i + 1) _ rfl (by omega) hR hfr hO
        · have hi0 : ¬ i = 0 := fun z => by subst z; exact c19 (Int32.le_refl _)
          refine V.aload_n (q := 23) dX4_writeBuilding_22 rfl rfl ?_
          refine V.bipush (q := 25) dX4_writeBuilding_23 (v := 44) rfl rfl ?_
          refine V.cVLP (q := 28) (As := [_]) dX4_writeBuilding_25 rfl (kL_writeByte (o := wbT u i) hO (by omega) ⟨44, by decide, rfl⟩) MX4_writeByte bw_438 rfl rfl rfl rfl (by decide) rfl (fun v1 τ1 h1 => ?_)
          obtain ⟨rfl, hfr1, hO⟩ := h1
          have hR := hfr1.RC rfl hR
          have hfr := hfr.trans hfr1
          have hO : CO τ1 (wbC (wbT u i) i) := by unfold wbC; rw [if_neg hi0]; exact hO
          refine V.aload_n (q := 29) dX4_writeBuilding_28 rfl rfl ?_
          refine V.aload_n (q := 30) dX4_writeBuilding_29 rfl rfl ?_
          refine V.gL (q := 33) dX4_writeBuilding_30 (j := 0) rfl bw_168 rfl rfl rfl rfl ?_
          refine V.iload_n (q := 34) dX4_writeBuilding_33 rfl rfl ?_
          refine V.cVS (q := 37) dX4_writeBuilding_34 (As := [_]) rfl (cS_countWaiting rfl hR) MX3_countWaiting bw_446 rfl rfl rfl rfl (by decide) rfl ?_
          refine V.cVLP (q := 40) (As := [_]) dX4_writeBuilding_37 rfl (kL_writeNumber (o := wbC (wbT u i) i) (n := wtN u (nI i)) hO (by omega) (by omega)) MX4_writeNumber bw_451 rfl rfl rfl rfl (by decide) rfl (fun v1 τ1 h1 => ?_)
          obtain ⟨rfl, hfr1, hO⟩ := h1
          have hR := hfr1.RC rfl hR
          have hfr := hfr.trans hfr1
          refine V.iload_n (q := 41) dX4_writeBuilding_40 rfl rfl ?_
          refine V.aload_n (q := 42) dX4_writeBuilding_41 rfl rfl ?_
          refine V.gL (q := 45) dX4_writeBuilding_42 (j := 0) rfl bw_168 rfl rfl rfl rfl ?_
          refine V.gSu (q := 48) 4 dX4_writeBuilding_45 hR rfl bw_51 rfl rfl ?_
          refine V.icmp_ne (tgt := 68) (q := 51) dX4_writeBuilding_48 (by decide) rfl (fun c48 => ?_) (fun c48 => ?_)
          · refine V.iinc (q := 71) dX4_writeBuilding_68 rfl (by first | exact nI_inc _ | rfl) rfl rfl rfl ?_
            refine V.goto (tgt := 7) dX4_writeBuilding_71 (by decide) ?_
            have ew : wrN (wbC (wbT u i) i) (wtN u (nI i)) = wbT u (i + 1) := by
              show _ = wbL u (wrN (wbC (wbT u i) i) (wtN u (nI i))) i
              unfold wbL
              rw [if_neg c48]
            rw [ew] at hO
            exact ih _ (by omega) (i + 1) _ rfl (by omega) hR hfr hO
          · have hiF : i = uF u := neq (c48.trans hF) (by omega) (by omega)
            have hl3 : (wbT u i).1 ≤ 3 * i := by
              have := hlen.1
              rw [if_neg (by omega)] at this
              exact this
            refine V.aload_n (q := 52) dX4_writeBuilding_51 rfl rfl ?_
            refine V.bipush (q := 54) dX4_writeBuilding_52 (v := 42) rfl rfl ?_
            refine V.cVLP (q := 57) (As := [_]) dX4_writeBuilding_54 rfl (kL_writeByte (o := wrN (wbC (wbT u i) i) (wtN u (nI i))) hO (by omega) ⟨42, by decide, rfl⟩) MX4_writeByte bw_438 rfl rfl rfl rfl (by decide) rfl (fun v1 τ1 h1 => ?_)
            obtain ⟨rfl, hfr1, hO⟩ := h1
            have hR := hfr1.RC rfl hR
            have hfr := hfr.trans hfr1
            refine V.aload_n (q := 58) dX4_writeBuilding_57 rfl rfl ?_
            refine V.aload_n (q := 59) dX4_writeBuilding_58 rfl rfl ?_
            refine V.gL (q := 62) dX4_writeBuilding_59 (j := 0) rfl bw_168 rfl rfl rfl rfl ?_
            refine V.gSr (q := 65) dX4_writeBuilding_62 hR rfl bw_69 rfl ?_
            refine V.cVLP (q := 68) (As := [_]) dX4_writeBuilding_65 rfl (kL_writeNumber (o := wr (wrN (wbC (wbT u i) i) (wtN u (nI i))) 42) (n := many u 2) hO (by show (wrN (wbC (wbT u i) i) (wtN u (nI i))).1 + 1 + 2 ≤ 64; omega) (by omega)) MX4_writeNumber bw_451 rfl rfl rfl rfl (by decide) rfl (fun v1 τ1 h1 => ?_)
            obtain ⟨rfl, hfr1, hO⟩ := h1
            have hR := hfr1.RC rfl hR
            have hfr := hfr.trans hfr1
            refine V.iinc (q := 71) dX4_writeBuilding_68 rfl (by first | exact nI_inc _ | rfl) rfl rfl rfl ?_
            refine V.goto (tgt := 7) dX4_writeBuilding_71 (by decide) ?_
            have ew : wrN (wr (wrN (wbC (wbT u i) i) (wtN u (nI i))) 42) (many u 2) = wbT u (i + 1) := by
              show _ = wbL u (wrN (wbC (wbT u i) i) (wtN u (nI i))) i
              unfold wbL
              rw [if_pos c48]
            rw [ew] at hO
            exact ih _ (by omega) (i + 1) _ rfl (by omega) hR hfr hO
  refine V.aload_n (q := 1) dX4_writeBuilding_0 rfl rfl ?_
  refine V.iconst (q := 2) dX4_writeBuilding_1 (v := 0) rfl rfl ?_
  refine V.pL (q := 5) dX4_writeBuilding_2 (j := 11) rfl bw_179 rfl rfl rfl rfl rfl rfl ?_
  refine V.iconst (q := 6) dX4_writeBuilding_5 (v := 0) rfl rfl ?_
  refine V.istore_n (q := 7) dX4_writeBuilding_6 rfl rfl rfl rfl ?_
  exact loop _ 0 _ rfl (Nat.zero_le _) (FrO.len.RC rfl hR) FrO.len CO.zero
def obI (o : Txt) (x : Int32) : Int32 := if 0 ≤ x ∧ x < nI o.1 then o.2 x.toNatClampNeg else -1
set_option maxHeartbeats 4000000 in
theorem kL_outputByte {l : Launch} {G : GG} {σ : St} {o : Txt} (hO : CO σ o) (ho : o.1 ≤ 64) {x : Int32} : CtS l G TX4_outputByte 0 [.ref (gB G + 0), .int x] σ (some (.int (obI o x))) σ := by
  refine CtS.ofV (by decide +kernel) rfl rfl (Nat.le_of_ble_eq_true rfl) ?_
  refine V.iload_n (q := 1) dX4_outputByte_0 rfl rfl ?_
  refine V.if_lt (tgt := 12) (q := 4) dX4_outputByte_1 (by decide) rfl (fun c1 => ?_) (fun c1 => ?_)
  · refine V.iconst (q := 13) dX4_outputByte_12 (v := -1) rfl rfl ?_
    exact V.iret dX4_outputByte_13 rfl ⟨by unfold obI; rw [if_neg (fun z => absurd z.1 (Int32.not_le.mpr c1))], rfl, rfl⟩
  · refine V.iload_n (q := 5) dX4_outputByte_4 rfl rfl ?_
    refine V.aload_n (q := 6) dX4_outputByte_5 rfl rfl ?_
    refine V.gL (q := 9) dX4_outputByte_6 (j := 11) rfl bw_179 rfl rfl rfl rfl ?_
    refine V.icmp_lt (tgt := 14) (q := 12) dX4_outputByte_9 (by decide) rfl (fun c9 => ?_) (fun c9 => ?_)
    · rw [hO.1] at c9
      have h0 := i32_le0 (Int32.not_lt.mp c1)
      have hx := nI_back h0
      have hi : x.toNatClampNeg < o.1 := by
        have h3 := Int32.lt_iff_toInt_lt.mp c9
        have h4 := clamp_int h0
        rw [nI_int (by omega)] at h3
        omega
      refine V.aload_n (q := 15) dX4_outputByte_14 rfl rfl ?_
      refine V.gL (q := 18) dX4_outputByte_15 (j := 10) rfl bw_178 rfl rfl rfl rfl ?_
      refine V.iload_n (q := 19) dX4_outputByte_18 rfl rfl ?_
      refine V.ld10 (q := 20) dX4_outputByte_19 (i := x.toNatClampNeg) (by first | rfl | assumption) hx (by omega) rfl ?_
      exact V.iret dX4_outputByte_20 rfl ⟨by unfold obI; rw [if_pos ⟨Int32.not_lt.mp c1, c9⟩, hO.2 _ hi], rfl, rfl⟩
    · rw [hO.1] at c9
      refine V.iconst (q := 13) dX4_outputByte_12 (v := -1) rfl rfl ?_
      exact V.iret dX4_outputByte_13 rfl ⟨by unfold obI; rw [if_neg (fun z => c9 z.2)], rfl, rfl⟩
