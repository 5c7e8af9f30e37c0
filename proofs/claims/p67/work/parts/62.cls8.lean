/-! LiftScheduler: input -/
set_option maxHeartbeats 4000000 in
theorem kL_appendFour {l : Launch} {G : GG} {σ : St} {o : Txt} (hI : CI σ o) (ho : o.1 + 4 ≤ 500) {v : Int32} : CtP l G TX4_appendFour 0 [.ref (gB G + 0), .int v] σ (fun w τ => w = none ∧ FrI σ τ ∧ CI τ (ap4 o v)) := by
  have hfr : FrI σ σ := FrI.rf
  refine CtP.ofV (by decide +kernel) rfl rfl (Nat.le_of_ble_eq_true rfl) ?_
  refine V.bipush (q := 2) dX4_appendFour_0 (v := 24) rfl rfl ?_
  refine V.istore_n (q := 3) dX4_appendFour_2 rfl rfl rfl rfl ?_
  refine V.iload_n (q := 4) dX4_appendFour_3 rfl rfl ?_
  refine V.if_lt (tgt := 46) (q := 7) dX4_appendFour_4 (by decide) rfl (fun c4 => ?_) (fun c4 => ?_)
  · exact absurd c4 (by decide)
  · refine V.aload_n (q := 8) dX4_appendFour_7 rfl rfl ?_
    refine V.gL (q := 11) dX4_appendFour_8 (j := 8) rfl bw_176 rfl rfl rfl rfl ?_
    rw [hI.1]
    refine V.sipush (q := 14) dX4_appendFour_11 (v := 500) rfl rfl ?_
    refine V.icmp_ge (tgt := 40) (q := 17) dX4_appendFour_14 (by decide) rfl (fun c14 => ?_) (fun c14 => ?_)
    · exact absurd (nle (a := 500) (b := o.1) c14 (by decide) (by show o.1 + 0 < _; omega)) (Nat.not_le.mpr (by show o.1 + 0 < 500; omega))
    · refine V.aload_n (q := 18) dX4_appendFour_17 rfl rfl ?_
      refine V.gL (q := 21) dX4_appendFour_18 (j := 7) rfl bw_175 rfl rfl rfl rfl ?_
      refine V.aload_n (q := 22) dX4_appendFour_21 rfl rfl ?_
      refine V.gL (q := 25) dX4_appendFour_22 (j := 8) rfl bw_176 rfl rfl rfl rfl ?_
      rw [hI.1]
      refine V.iload_n (q := 26) dX4_appendFour_25 rfl rfl ?_
      refine V.iload_n (q := 27) dX4_appendFour_26 rfl rfl ?_
      refine V.iushr (q := 28) dX4_appendFour_27 rfl ?_
      refine V.i2b (q := 29) dX4_appendFour_28 rfl ?_
      refine V.st6 (q := 30) dX4_appendFour_29 (i := o.1) (by first | rfl | assumption) rfl (by show o.1 + 0 < 500; omega) rfl ?_
      rw [sb_u (v := v) (s := 24) (by decide)]
      refine V.aload_n (q := 31) dX4_appendFour_30 rfl rfl ?_
      refine V.dup (q := 32) dX4_appendFour_31 rfl rfl ?_
      refine V.gL (q := 35) dX4_appendFour_32 (j := 8) rfl bw_176 rfl rfl rfl rfl ?_
      rw [show sF (stA σ 18 o.1 (sb v 24)) 0 8 = nI o.1 from hI.1]
      refine V.iconst (q := 36) dX4_appendFour_35 (v := 1) rfl rfl ?_
      refine V.iadd (q := 37) dX4_appendFour_36 rfl ?_
      rw [show nI o.1 + 1 = nI (o.1 + 1) from nI_1 _]
      refine V.pL (q := 40) dX4_appendFour_37 (j := 8) rfl bw_176 rfl rfl rfl rfl rfl rfl ?_
      have hI := CI_wr hI (x := sb v 24) (z := nI (o.1 + 1)) rfl
      have hfr := hfr.trans ((FrI.ar (i := o.1) (x := sb v 24)).trans (FrI.len (x := nI (o.1 + 1))))
      refine V.iinc (q := 43) dX4_appendFour_40 rfl (show (24 : Int32) + Int32.ofInt (-8) = 16 from by decide) rfl rfl rfl ?_
      refine V.goto (tgt := 3) dX4_appendFour_43 (by decide) ?_
      refine V.iload_n (q := 4) dX4_appendFour_3 rfl rfl ?_
      refine V.if_lt (tgt := 46) (q := 7) dX4_appendFour_4 (by decide) rfl (fun c4 => ?_) (fun c4 => ?_)
      · exact absurd c4 (by decide)
      · refine V.aload_n (q := 8) dX4_appendFour_7 rfl rfl ?_
        refine V.gL (q := 11) dX4_appendFour_8 (j := 8) rfl bw_176 rfl rfl rfl rfl ?_
        rw [hI.1]
        refine V.sipush (q := 14) dX4_appendFour_11 (v := 500) rfl rfl ?_
        refine V.icmp_ge (tgt := 40) (q := 17) dX4_appendFour_14 (by decide) rfl (fun c14 => ?_) (fun c14 => ?_)
        · exact absurd (nle (a := 500) (b := (wr o (sb v 24)).1) c14 (by decide) (by show o.1 + 1 < _; omega)) (Nat.not_le.mpr (by show o.1 + 1 < 500; omega))
        · refine V.aload_n (q := 18) dX4_appendFour_17 rfl rfl ?_
          refine V.gL (q := 21) dX4_appendFour_18 (j := 7) rfl bw_175 rfl rfl rfl rfl ?_
          refine V.aload_n (q := 22) dX4_appendFour_21 rfl rfl ?_
          refine V.gL (q := 25) dX4_appendFour_22 (j := 8) rfl bw_176 rfl rfl rfl rfl ?_
          rw [hI.1]
          refine V.iload_n (q := 26) dX4_appendFour_25 rfl rfl ?_
          refine V.iload_n (q := 27) dX4_appendFour_26 rfl rfl ?_
          refine V.iushr (q := 28) dX4_appendFour_27 rfl ?_
          refine V.i2b (q := 29) dX4_appendFour_28 rfl ?_
          refine V.st6 (q := 30) dX4_appendFour_29 (i := (wr o (sb v 24)).1) (by first | rfl | assumption) rfl (by show o.1 + 1 < 500; omega) rfl ?_
          rw [sb_u (v := v) (s := 16) (by decide)]
          refine V.aload_n (q := 31) dX4_appendFour_30 rfl rfl ?_
          refine V.dup (q := 32) dX4_appendFour_31 rfl rfl ?_
          refine V.gL (q := 35) dX4_appendFour_32 (j := 8) rfl bw_176 rfl rfl rfl rfl ?_
          rw [show sF (stA (stF (stA σ 18 o.1 (sb v 24)) 0 8 (nI (o.1 + 1))) 18 (wr o (sb v 24)).1 (sb v 16)) 0 8 = nI (wr o (sb v 24)).1 from hI.1]
          refine V.iconst (q := 36) dX4_appendFour_35 (v := 1) rfl rfl ?_
          refine V.iadd (q := 37) dX4_appendFour_36 rfl ?_
          rw [show nI (wr o (sb v 24)).1 + 1 = nI ((wr o (sb v 24)).1 + 1) from nI_1 _]
          refine V.pL (q := 40) dX4_appendFour_37 (j := 8) rfl bw_176 rfl rfl rfl rfl rfl rfl ?_
          have hI := CI_wr hI (x := sb v 16) (z := nI ((wr o (sb v 24)).1 + 1)) rfl
          have hfr := hfr.trans ((FrI.ar (i := (wr o (sb v 24)).1) (x := sb v 16)).trans (FrI.len (x := nI ((wr o (sb v 24)).1 + 1))))
          refine V.iinc (q := 43) dX4_appendFour_40 rfl (show (16 : Int32) + Int32.ofInt (-8) = 8 from by decide) rfl rfl rfl ?_
          refine V.goto (tgt := 3) dX4_appendFour_43 (by decide) ?_
          refine V.iload_n (q := 4) dX4_appendFour_3 rfl rfl ?_
          refine V.if_lt (tgt := 46) (q := 7) dX4_appendFour_4 (by decide) rfl (fun c4 => ?_) (fun c4 => ?_)
          · exact absurd c4 (by decide)
          · refine V.aload_n (q := 8) dX4_appendFour_7 rfl rfl ?_
            refine V.gL (q := 11) dX4_appendFour_8 (j := 8) rfl bw_176 rfl rfl rfl rfl ?_
            rw [hI.1]
            refine V.sipush (q := 14) dX4_appendFour_11 (v := 500) rfl rfl ?_
            refine V.icmp_ge (tgt := 40) (q := 17) dX4_appendFour_14 (by decide) rfl (fun c14 => ?_) (fun c14 => ?_)
            · exact absurd (nle (a := 500) (b := (wr (wr o (sb v 24)) (sb v 16)).1) c14 (by decide) (by show o.1 + 2 < _; omega)) (Nat.not_le.mpr (by show o.1 + 2 < 500; omega))
            · refine V.aload_n (q := 18) dX4_appendFour_17 rfl rfl ?_
              refine V.gL (q := 21) dX4_appendFour_18 (j := 7) rfl bw_175 rfl rfl rfl rfl ?_
              refine V.aload_n (q := 22) dX4_appendFour_21 rfl rfl ?_
              refine V.gL (q := 25) dX4_appendFour_22 (j := 8) rfl bw_176 rfl rfl rfl rfl ?_
              rw [hI.1]
              refine V.iload_n (q := 26) dX4_appendFour_25 rfl rfl ?_
              refine V.iload_n (q := 27) dX4_appendFour_26 rfl rfl ?_
              refine V.iushr (q := 28) dX4_appendFour_27 rfl ?_
              refine V.i2b (q := 29) dX4_appendFour_28 rfl ?_
              refine V.st6 (q := 30) dX4_appendFour_29 (i := (wr (wr o (sb v 24)) (sb v 16)).1) (by first | rfl | assumption) rfl (by show o.1 + 2 < 500; omega) rfl ?_
              rw [sb_u (v := v) (s := 8) (by decide)]
              refine V.aload_n (q := 31) dX4_appendFour_30 rfl rfl ?_
              refine V.dup (q := 32) dX4_appendFour_31 rfl rfl ?_
              refine V.gL (q := 35) dX4_appendFour_32 (j := 8) rfl bw_176 rfl rfl rfl rfl ?_
              rw [show sF (stA (stF (stA (stF (stA σ 18 o.1 (sb v 24)) 0 8 (nI (o.1 + 1))) 18 (wr o (sb v 24)).1 (sb v 16)) 0 8 (nI ((wr o (sb v 24)).1 + 1))) 18 (wr (wr o (sb v 24)) (sb v 16)).1 (sb v 8)) 0 8 = nI (wr (wr o (sb v 24)) (sb v 16)).1 from hI.1]
              refine V.iconst (q := 36) dX4_appendFour_35 (v := 1) rfl rfl ?_
              refine V.iadd (q := 37) dX4_appendFour_36 rfl ?_
              rw [show nI (wr (wr o (sb v 24)) (sb v 16)).1 + 1 = nI ((wr (wr o (sb v 24)) (sb v 16)).1 + 1) from nI_1 _]
              refine V.pL (q := 40) dX4_appendFour_37 (j := 8) rfl bw_176 rfl rfl rfl rfl rfl rfl ?_
              have hI := CI_wr hI (x := sb v 8) (z := nI ((wr (wr o (sb v 24)) (sb v 16)).1 + 1)) rfl
              have hfr := hfr.trans ((FrI.ar (i := (wr (wr o (sb v 24)) (sb v 16)).1) (x := sb v 8)).trans (FrI.len (x := nI ((wr (wr o (sb v 24)) (sb v 16)).1 + 1))))
              refine V.iinc (q := 43) dX4_appendFour_40 rfl (show (8 : Int32) + Int32.ofInt (-8) = 0 from by decide) rfl rfl rfl ?_
              refine V.goto (tgt := 3) dX4_appendFour_43 (by decide) ?_
              refine V.iload_n (q := 4) dX4_appendFour_3 rfl rfl ?_
              refine V.if_lt (tgt := 46) (q := 7) dX4_appendFour_4 (by decide) rfl (fun c4 => ?_) (fun c4 => ?_)
              · exact absurd c4 (by decide)
              · refine V.aload_n (q := 8) dX4_appendFour_7 rfl rfl ?_
                refine V.gL (q := 11) dX4_appendFour_8 (j := 8) rfl bw_176 rfl rfl rfl rfl ?_
                rw [hI.1]
                refine V.sipush (q := 14) dX4_appendFour_11 (v := 500) rfl rfl ?_
                refine V.icmp_ge (tgt := 40) (q := 17) dX4_appendFour_14 (by decide) rfl (fun c14 => ?_) (fun c14 => ?_)
                · exact absurd (nle (a := 500) (b := (wr (wr (wr o (sb v 24)) (sb v 16)) (sb v 8)).1) c14 (by decide) (by show o.1 + 3 < _; omega)) (Nat.not_le.mpr (by show o.1 + 3 < 500; omega))
                · refine V.aload_n (q := 18) dX4_appendFour_17 rfl rfl ?_
                  refine V.gL (q := 21) dX4_appendFour_18 (j := 7) rfl bw_175 rfl rfl rfl rfl ?_
                  refine V.aload_n (q := 22) dX4_appendFour_21 rfl rfl ?_
                  refine V.gL (q := 25) dX4_appendFour_22 (j := 8) rfl bw_176 rfl rfl rfl rfl ?_
                  rw [hI.1]
                  refine V.iload_n (q := 26) dX4_appendFour_25 rfl rfl ?_
                  refine V.iload_n (q := 27) dX4_appendFour_26 rfl rfl ?_
                  refine V.iushr (q := 28) dX4_appendFour_27 rfl ?_
                  refine V.i2b (q := 29) dX4_appendFour_28 rfl ?_
                  refine V.st6 (q := 30) dX4_appendFour_29 (i := (wr (wr (wr o (sb v 24)) (sb v 16)) (sb v 8)).1) (by first | rfl | assumption) rfl (by show o.1 + 3 < 500; omega) rfl ?_
                  rw [sb_u (v := v) (s := 0) (by decide)]
                  refine V.aload_n (q := 31) dX4_appendFour_30 rfl rfl ?_
                  refine V.dup (q := 32) dX4_appendFour_31 rfl rfl ?_
                  refine V.gL (q := 35) dX4_appendFour_32 (j := 8) rfl bw_176 rfl rfl rfl rfl ?_
                  rw [show sF (stA (stF (stA (stF (stA (stF (stA σ 18 o.1 (sb v 24)) 0 8 (nI (o.1 + 1))) 18 (wr o (sb v 24)).1 (sb v 16)) 0 8 (nI ((wr o (sb v 24)).1 + 1))) 18 (wr (wr o (sb v 24)) (sb v 16)).1 (sb v 8)) 0 8 (nI ((wr (wr o (sb v 24)) (sb v 16)).1 + 1))) 18 (wr (wr (wr o (sb v 24)) (sb v 16)) (sb v 8)).1 (sb v 0)) 0 8 = nI (wr (wr (wr o (sb v 24)) (sb v 16)) (sb v 8)).1 from hI.1]
                  refine V.iconst (q := 36) dX4_appendFour_35 (v := 1) rfl rfl ?_
                  refine V.iadd (q := 37) dX4_appendFour_36 rfl ?_
                  rw [show nI (wr (wr (wr o (sb v 24)) (sb v 16)) (sb v 8)).1 + 1 = nI ((wr (wr (wr o (sb v 24)) (sb v 16)) (sb v 8)).1 + 1) from nI_1 _]
                  refine V.pL (q := 40) dX4_appendFour_37 (j := 8) rfl bw_176 rfl rfl rfl rfl rfl rfl ?_
                  have hI := CI_wr hI (x := sb v 0) (z := nI ((wr (wr (wr o (sb v 24)) (sb v 16)) (sb v 8)).1 + 1)) rfl
                  have hfr := hfr.trans ((FrI.ar (i := (wr (wr (wr o (sb v 24)) (sb v 16)) (sb v 8)).1) (x := sb v 0)).trans (FrI.len (x := nI ((wr (wr (wr o (sb v 24)) (sb v 16)) (sb v 8)).1 + 1))))
                  refine V.iinc (q := 43) dX4_appendFour_40 rfl (show (0 : Int32) + Int32.ofInt (-8) = -8 from by decide) rfl rfl rfl ?_
                  refine V.goto (tgt := 3) dX4_appendFour_43 (by decide) ?_
                  refine V.iload_n (q := 4) dX4_appendFour_3 rfl rfl ?_
                  refine V.if_lt (tgt := 46) (q := 7) dX4_appendFour_4 (by decide) rfl (fun c4 => ?_) (fun c4 => ?_)
                  · exact V.vret dX4_appendFour_46 rfl ⟨none, _, rfl, rfl, rfl, rfl, hfr, hI⟩
                  · exact absurd (by decide) c4
set_option maxHeartbeats 4000000 in
theorem kL_append {l : Launch} {G : GG} {σ : St} {o : Txt} (hI : CI σ o) (ho : o.1 ≤ 500) {a b c d e : Int32} : CtP l G TX4_append 1 [.ref (gB G + 0), .int a, .int b, .int c, .int d, .int e] σ (fun w τ => w = some (.int (if o.1 + 20 ≤ 500 then nI (o.1 + 20) else -1)) ∧ FrI σ τ ∧ CI τ (if o.1 + 20 ≤ 500 then ap20 o a b c d e else o)) := by
  have hfr : FrI σ σ := FrI.rf
  refine CtP.ofV (by decide +kernel) rfl rfl (Nat.le_of_ble_eq_true rfl) ?_
  refine V.aload_n (q := 1) dX4_append_0 rfl rfl ?_
  refine V.gL (q := 4) dX4_append_1 (j := 8) rfl bw_176 rfl rfl rfl rfl ?_
  rw [hI.1]
  refine V.bipush (q := 6) dX4_append_4 (v := 20) rfl rfl ?_
  refine V.iadd (q := 7) dX4_append_6 rfl ?_
  rw [show nI o.1 + 20 = nI (o.1 + 20) from nI_add _ 20]
  refine V.sipush (q := 10) dX4_append_7 (v := 500) rfl rfl ?_
  refine V.icmp_le (tgt := 15) (q := 13) dX4_append_10 (by decide) rfl (fun c10 => ?_) (fun c10 => ?_)
  · have hle : o.1 + 20 ≤ 500 := nle (b := 500) c10 (by omega) (by decide)
    refine V.aload_n (q := 16) dX4_append_15 rfl rfl ?_
    refine V.iload_n (q := 17) dX4_append_16 rfl rfl ?_
    refine V.cVLP (q := 20) (As := [_]) dX4_append_17 rfl (kL_appendFour (o := o) (v := a) hI (by show o.1 + 0 + 4 ≤ 500; omega)) MX4_appendFour bw_789 rfl rfl rfl rfl (by decide) rfl (fun v1 τ1 h1 => ?_)
    obtain ⟨rfl, hfr1, hI⟩ := h1
    have hfr := hfr.trans hfr1
    refine V.aload_n (q := 21) dX4_append_20 rfl rfl ?_
    refine V.iload_n (q := 22) dX4_append_21 rfl rfl ?_
    refine V.cVLP (q := 25) (As := [_]) dX4_append_22 rfl (kL_appendFour (o := (ap4 o a)) (v := b) hI (by show o.1 + 4 + 4 ≤ 500; omega)) MX4_appendFour bw_789 rfl rfl rfl rfl (by decide) rfl (fun v1 τ1 h1 => ?_)
    obtain ⟨rfl, hfr1, hI⟩ := h1
    have hfr := hfr.trans hfr1
    refine V.aload_n (q := 26) dX4_append_25 rfl rfl ?_
    refine V.iload_n (q := 27) dX4_append_26 rfl rfl ?_
    refine V.cVLP (q := 30) (As := [_]) dX4_append_27 rfl (kL_appendFour (o := (ap4 (ap4 o a) b)) (v := c) hI (by show o.1 + 8 + 4 ≤ 500; omega)) MX4_appendFour bw_789 rfl rfl rfl rfl (by decide) rfl (fun v1 τ1 h1 => ?_)
    obtain ⟨rfl, hfr1, hI⟩ := h1
    have hfr := hfr.trans hfr1
    refine V.aload_n (q := 31) dX4_append_30 rfl rfl ?_
    refine V.iload (q := 33) dX4_append_31 rfl rfl ?_
    refine V.cVLP (q := 36) (As := [_]) dX4_append_33 rfl (kL_appendFour (o := (ap4 (ap4 (ap4 o a) b) c)) (v := d) hI (by show o.1 + 12 + 4 ≤ 500; omega)) MX4_appendFour bw_789 rfl rfl rfl rfl (by decide) rfl (fun v1 τ1 h1 => ?_)
    obtain ⟨rfl, hfr1, hI⟩ := h1
    have hfr := hfr.trans hfr1
    refine V.aload_n (q := 37) dX4_append_36 rfl rfl ?_
    refine V.iload (q := 39) dX4_append_37 rfl rfl ?_
    refine V.cVLP (q := 42) (As := [_]) dX4_append_39 rfl (kL_appendFour (o := (ap4 (ap4 (ap4 (ap4 o a) b) c) d)) (v := e) hI (by show o.1 + 16 + 4 ≤ 500; omega)) MX4_appendFour bw_789 rfl rfl rfl rfl (by decide) rfl (fun v1 τ1 h1 => ?_)
    obtain ⟨rfl, hfr1, hI⟩ := h1
    have hfr := hfr.trans hfr1
    refine V.aload_n (q := 43) dX4_append_42 rfl rfl ?_
    refine V.gL (q := 46) dX4_append_43 (j := 8) rfl bw_176 rfl rfl rfl rfl ?_
    rw [hI.1]
    exact V.iret dX4_append_46 rfl ⟨_, _, rfl, rfl, rfl, by rw [if_pos hle]; rfl, hfr, by rw [if_pos hle]; exact hI⟩
  · have hle : ¬ o.1 + 20 ≤ 500 := fun z => c10 (nI_le z (by decide))
    refine V.iconst (q := 14) dX4_append_13 (v := -1) rfl rfl ?_
    exact V.iret dX4_append_14 rfl ⟨_, _, rfl, rfl, rfl, by rw [if_neg hle], FrI.rf, by rw [if_neg hle]; exact hI⟩
set_option maxHeartbeats 4000000 in
theorem kL_truncate {l : Launch} {G : GG} {σ : St} {o : Txt} (hI : CI σ o) (ho : o.1 ≤ 500) {x : Int32} : CtP l G TX4_truncate 0 [.ref (gB G + 0), .int x] σ (fun w τ => w = some (.int (bI (trB o x))) ∧ FrI σ τ ∧ CI τ (if trB o x = true then (x.toNatClampNeg, o.2) else o)) := by
  refine CtP.ofV (by decide +kernel) rfl rfl (Nat.le_of_ble_eq_true rfl) ?_
  refine V.iload_n (q := 1) dX4_truncate_0 rfl rfl ?_
  refine V.if_lt (tgt := 12) (q := 4) dX4_truncate_1 (by decide) rfl (fun c1 => ?_) (fun c1 => ?_)
  · have g : trB o x = false := okN1 (nge c1)
    refine V.iconst (q := 13) dX4_truncate_12 (v := 0) rfl rfl ?_
    exact V.zret (ty := .boolean) rfl dX4_truncate_13 rfl ⟨_, _, rfl, rfl, rfl, by rw [g]; rfl, FrI.rf, by rw [g]; exact hI⟩
  · refine V.iload_n (q := 5) dX4_truncate_4 rfl rfl ?_
    refine V.aload_n (q := 6) dX4_truncate_5 rfl rfl ?_
    refine V.gL (q := 9) dX4_truncate_6 (j := 8) rfl bw_176 rfl rfl rfl rfl ?_
    rw [hI.1]
    refine V.icmp_le (tgt := 14) (q := 12) dX4_truncate_9 (by decide) rfl (fun c9 => ?_) (fun c9 => ?_)
    · have g : trB o x = true := okT (ge0 c1) (leT c9)
      obtain ⟨h0, hle⟩ := trB_i ho g
      refine V.aload_n (q := 15) dX4_truncate_14 rfl rfl ?_
      refine V.iload_n (q := 16) dX4_truncate_15 rfl rfl ?_
      refine V.pL (q := 19) dX4_truncate_16 (j := 8) rfl bw_176 rfl rfl rfl rfl rfl rfl ?_
      refine V.iconst (q := 20) dX4_truncate_19 (v := 1) rfl rfl ?_
      exact V.zret (ty := .boolean) rfl dX4_truncate_20 rfl ⟨_, _, rfl, rfl, rfl, by rw [g]; rfl, FrI.len, by rw [g]; exact CI_cut hI h0 hle⟩
    · have g : trB o x = false := okN2 (nleT c9)
      refine V.iconst (q := 13) dX4_truncate_12 (v := 0) rfl rfl ?_
      exact V.zret (ty := .boolean) rfl dX4_truncate_13 rfl ⟨_, _, rfl, rfl, rfl, by rw [g]; rfl, FrI.rf, by rw [g]; exact hI⟩
set_option maxHeartbeats 4000000 in
theorem kL_parseError {l : Launch} {G : GG} {σ : St}  : CtS l G TX4_parseError 0 [.ref (gB G + 0)] σ (some (.int (sF σ 19 7))) σ := by
  refine CtS.ofV (by decide +kernel) rfl rfl (Nat.le_of_ble_eq_true rfl) ?_
  refine V.aload_n (q := 1) dX4_parseError_0 rfl rfl ?_
  refine V.gL (q := 4) dX4_parseError_1 (j := 9) rfl bw_177 rfl rfl rfl rfl ?_
  refine V.gP (q := 7) dX4_parseError_4 (j := 7) (by first | rfl | assumption) bw_145 rfl rfl rfl rfl ?_
  exact V.iret dX4_parseError_7 rfl ⟨rfl, rfl, rfl⟩
