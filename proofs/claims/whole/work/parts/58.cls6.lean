/-! LiftScheduler: adds, runs, takes back, keeps -/
set_option maxHeartbeats 4000000 in
theorem kL_addPassenger {l : Launch} {G : GG} {σ : St} {u : Vw} {qq : Nat → Nat} (hR : RC σ 1 u qq) (hI : Iu u) (ht : uT u ≤ 999) {r : Nat} {hv : Nat → Vw} (hH : CH σ r hv) {x y t : Int32} : CtX l G TX4_addPassenger 7 3 18 [.ref (gB G + 0), .int x, .int y, .int t] σ (fun a τ => CHG ((okF u x && okF u y) && ((apC u x y t) && (decide (nI (un u) < 40)))) σ τ r hv u (addu u x y t) ∧ a = ans3 (okF u x && okF u y) (apC u x y t) (decide (nI (un u) < 40)) "java/lang/IndexOutOfBoundsException" "java/lang/IllegalArgumentException" "java/lang/IllegalStateException" (.int (nI (un u)))) := by
  have hn : un u ≤ 40 := hR.1
  refine CtX.ofV (by decide +kernel) rfl rfl (Nat.le_of_ble_eq_true rfl) ?_
  refine V.aload_n (q := 1) dX4_addPassenger_0 rfl rfl ?_
  refine V.iload_n (q := 2) dX4_addPassenger_1 rfl rfl ?_
  refine V.cVLX (q := 5) (As := [_]) dX4_addPassenger_2 rfl (kL_reqF hR) MX4_requireFloor bw_859 rfl rfl rfl rfl (by decide) rfl (by decide) (by decide) (fun v9 τ9 h9 => ?_) (fun E9 τ9 h9 => ?_)
  · obtain ⟨rfl, h9⟩ := h9
    obtain ⟨g, rfl⟩ := reqA_inl h9
    have g1 := g
    refine V.aload_n (q := 6) dX4_addPassenger_5 rfl rfl ?_
    refine V.iload_n (q := 7) dX4_addPassenger_6 rfl rfl ?_
    refine V.cVLX (q := 10) (As := [_]) dX4_addPassenger_7 rfl (kL_reqF hR) MX4_requireFloor bw_859 rfl rfl rfl rfl (by decide) rfl (by decide) (by decide) (fun v9 τ9 h9 => ?_) (fun E9 τ9 h9 => ?_)
    · obtain ⟨rfl, h9⟩ := h9
      obtain ⟨g, rfl⟩ := reqA_inl h9
      have gB := okT g1 g
      refine V.iload_n (q := 11) dX4_addPassenger_10 rfl rfl ?_
      refine V.iload_n (q := 12) dX4_addPassenger_11 rfl rfl ?_
      refine V.icmp_ne (tgt := 25) (q := 15) dX4_addPassenger_12 (by decide) rfl (fun c12 => ?_) (fun c12 => ?_)
      · have gy : decide (¬ y = x) = true := decide_eq_true c12
        refine V.iload_n (q := 26) dX4_addPassenger_25 rfl rfl ?_
        refine V.aload_n (q := 27) dX4_addPassenger_26 rfl rfl ?_
        refine V.gL (q := 30) dX4_addPassenger_27 (j := 0) rfl bw_168 rfl rfl rfl rfl ?_
        refine V.gSu (q := 33) 3 dX4_addPassenger_30 hR rfl bw_48 rfl rfl ?_
        refine V.icmp_lt (tgt := 43) (q := 36) dX4_addPassenger_33 (by decide) rfl (fun c33 => ?_) (fun c33 => ?_)
        · exact V.throw (j := 9) thr_IA dX4_addPassenger_43 dX4_addPassenger_46 dX4_addPassenger_47 dX4_addPassenger_49 dX4_addPassenger_52 (by decide) (by decide +kernel) rfl rfl (by decide) (by decide) (by decide) rfl ⟨_, rfl, rfl, CHG.no (okN2 (okN1 (show apC u x y t = false from okN2 (okN1 (nge c33))))), ans3_2 gB (okN2 (okN1 (nge c33)))⟩
        · refine V.iload_n (q := 37) dX4_addPassenger_36 rfl rfl ?_
          refine V.sipush (q := 40) dX4_addPassenger_37 (v := 999) rfl rfl ?_
          refine V.icmp_le (tgt := 53) (q := 43) dX4_addPassenger_40 (by decide) rfl (fun c40 => ?_) (fun c40 => ?_)
          · have gC : apC u x y t = true := okT gy (okT (geT c33) (leT c40))
            refine V.aload_n (q := 54) dX4_addPassenger_53 rfl rfl ?_
            refine V.gL (q := 57) dX4_addPassenger_54 (j := 0) rfl bw_168 rfl rfl rfl rfl ?_
            refine V.gSn (q := 60) dX4_addPassenger_57 hR rfl bw_66 rfl ?_
            refine V.bipush (q := 62) dX4_addPassenger_60 (v := 40) rfl rfl ?_
            refine V.icmp_lt (tgt := 75) (q := 65) dX4_addPassenger_62 (by decide) rfl (fun c62 => ?_) (fun c62 => ?_)
            · have hn4 : un u < 40 := nlt (b := 40) c62 (by omega) (by decide)
              have gD : decide (nI (un u) < 40) = true := decide_eq_true c62
              refine V.aload_n (q := 76) dX4_addPassenger_75 rfl rfl ?_
              refine V.cVLP (q := 79) (As := []) dX4_addPassenger_76 rfl (kL_remember hR hI hH) MX4_rememberState bw_416 rfl rfl rfl rfl (by decide) rfl (fun v2 τ2 h2 => ?_)
              obtain ⟨rfl, hrm, hH2⟩ := h2
              have hR := hrm.RC (Or.inl rfl) hR
              have hfr : FrS 1 τ2 τ2 := FrS.rf
              refine V.aload_n (q := 80) dX4_addPassenger_79 rfl rfl ?_
              refine V.gL (q := 83) dX4_addPassenger_80 (j := 0) rfl bw_168 rfl rfl rfl rfl ?_
              refine V.iload_n (q := 84) dX4_addPassenger_83 rfl rfl ?_
              refine V.iload_n (q := 85) dX4_addPassenger_84 rfl rfl ?_
              refine V.iload_n (q := 86) dX4_addPassenger_85 rfl rfl ?_
              refine V.cVSP (q := 89) (As := [_, _, _]) dX4_addPassenger_86 rfl (cS_addArrival (p := 1) (a1 := x) (b1 := y) (t1 := t) rfl hR hn4) MX3_addArrival bw_952 rfl rfl rfl rfl (by decide) rfl (fun v3 τ3 h3 => ?_)
              obtain ⟨rfl, hfr3, q3, hR⟩ := h3
              refine V.aload_n (q := 90) dX4_addPassenger_89 rfl rfl ?_
              refine V.gL (q := 93) dX4_addPassenger_90 (j := 0) rfl bw_168 rfl rfl rfl rfl ?_
              refine V.gSn (q := 96) dX4_addPassenger_93 hR rfl bw_66 rfl ?_
              refine V.iconst (q := 97) dX4_addPassenger_96 (v := 1) rfl rfl ?_
              refine V.isub (q := 98) dX4_addPassenger_97 rfl ?_
              exact V.iret dX4_addPassenger_98 rfl ⟨_, rfl, rfl, CHG.yes (okT gB (okT gC gD)) hrm hH2 hfr3 hR, ans3_t gB gC gD (by rw [show un (addu u x y t) = un u + 1 from rfl, nI_pred])⟩
            · exact V.throw (j := 10) thr_IS dX4_addPassenger_65 dX4_addPassenger_68 dX4_addPassenger_69 dX4_addPassenger_71 dX4_addPassenger_74 (by decide) (by decide +kernel) rfl rfl (by decide) (by decide) (by decide) rfl ⟨_, rfl, rfl, CHG.no (okN2 (okN2 (nltt c62))), ans3_3 gB gC (nltt c62)⟩
          · exact V.throw (j := 9) thr_IA dX4_addPassenger_43 dX4_addPassenger_46 dX4_addPassenger_47 dX4_addPassenger_49 dX4_addPassenger_52 (by decide) (by decide +kernel) rfl rfl (by decide) (by decide) (by decide) rfl ⟨_, rfl, rfl, CHG.no (okN2 (okN1 (show apC u x y t = false from okN2 (okN2 (nleT c40))))), ans3_2 gB (okN2 (okN2 (nleT c40)))⟩
      · exact V.throw (j := 8) thr_IA dX4_addPassenger_15 dX4_addPassenger_18 dX4_addPassenger_19 dX4_addPassenger_21 dX4_addPassenger_24 (by decide) (by decide +kernel) rfl rfl (by decide) (by decide) (by decide) rfl ⟨_, rfl, rfl, CHG.no (okN2 (okN1 (show apC u x y t = false from okN1 (decide_eq_false (fun z => z c12))))), ans3_2 gB (okN1 (decide_eq_false (fun z => z c12)))⟩
    · obtain ⟨rfl, h9⟩ := h9
      obtain ⟨g, rfl⟩ := reqA_inr h9
      exact VX.out rfl (by decide) (by decide) ⟨_, rfl, rfl, ⟨CHG.no (okN1 (okN2 g)), ans3_1 (okN2 g)⟩⟩
  · obtain ⟨rfl, h9⟩ := h9
    obtain ⟨g, rfl⟩ := reqA_inr h9
    exact VX.out rfl (by decide) (by decide) ⟨_, rfl, rfl, ⟨CHG.no (okN1 (okN1 g)), ans3_1 (okN1 g)⟩⟩
set_option maxHeartbeats 4000000 in
theorem kL_run {l : Launch} {G : GG} {σ : St} {u : Vw} {qq : Nat → Nat} (hR : RC σ 1 u qq) (hI : Iu u) (ht : uT u ≤ 999) {r : Nat} {hv : Nat → Vw} (hH : CH σ r hv) {x : Int32} : CtX l G TX4_run 7 1 6 [.ref (gB G + 0), .int x] σ (fun a τ => CHG ((okI 1 999 x) && (decide (us u 3 + x ≤ 999))) σ τ r hv u (tks x.toNatClampNeg u) ∧ a = ans2 (okI 1 999 x) (decide (us u 3 + x ≤ 999)) "java/lang/IllegalArgumentException" "java/lang/IllegalStateException" (.int (us (tks x.toNatClampNeg u) 4))) := by
  have hn : un u ≤ 40 := hR.1
  refine CtX.ofV (by decide +kernel) rfl rfl (Nat.le_of_ble_eq_true rfl) ?_
  have loop : ∀ (m : Nat) (i : Nat) (τ2 τ : St), m = x.toNatClampNeg - i → i ≤ x.toNatClampNeg → (okI 1 999 x) = true → (decide (us u 3 + x ≤ 999)) = true → FrRm σ τ2 → CH τ2 (pushN r) (pushV r hv u) → FrS 1 τ2 τ → RC τ 1 (tks i u) qq → V l G TX4_run 7 1 6 (RetX G (fun a τ => CHG ((okI 1 999 x) && (decide (us u 3 + x ≤ 999))) σ τ r hv u (tks x.toNatClampNeg u) ∧ a = ans2 (okI 1 999 x) (decide (us u 3 + x ≤ 999)) "java/lang/IllegalArgumentException" "java/lang/IllegalStateException" (.int (us (tks x.toNatClampNeg u) 4)))) 0 0 53 [some (.ref (gB G + 0)), some (.int x), some (.int (nI i))] [] (hof G τ) NC := by
    intro m
    induction m using Nat.strongRecOn with
    | _ m ih =>
      intro i τ2 τ hm hile gB gC hrm hH2 hfr hR
      obtain ⟨hx, hx1, hx2⟩ := okI_n (b := 999) (by decide) gB
      refine V.iload_n (q := 54) dX4_run_53 rfl rfl ?_
      refine V.iload_n (q := 55) dX4_run_54 rfl rfl ?_
      refine V.icmp_ge (tgt := 71) (q := 58) dX4_run_55 (by decide) rfl (fun c55 => ?_) (fun c55 => ?_)
      · have hie : i = x.toNatClampNeg := Nat.le_antisymm hile (nle (by rw [← hx]; exact c55) (by omega) (by omega))
        refine V.aload_n (q := 72) dX4_run_71 rfl rfl ?_
        refine V.gL (q := 75) dX4_run_72 (j := 0) rfl bw_168 rfl rfl rfl rfl ?_
        refine V.gSu (q := 78) 4 dX4_run_75 hR rfl bw_51 rfl rfl ?_
        exact V.iret dX4_run_78 rfl ⟨_, rfl, rfl, CHG.yes (okT gB gC) hrm hH2 hfr (by rw [← hie]; exact hR), ans2_t gB gC (by rw [hie])⟩
      · have hlt : i < x.toNatClampNeg := nnle (a := x.toNatClampNeg) (b := i) (by rw [← hx]; exact c55) (by omega) (by omega)
        refine V.aload_n (q := 59) dX4_run_58 rfl rfl ?_
        refine V.gL (q := 62) dX4_run_59 (j := 0) rfl bw_168 rfl rfl rfl rfl ?_
        refine V.cVSP (q := 65) (As := []) dX4_run_62 rfl (cS_tick (p := 1) rfl hR (tks_Iu hI i (by omega)).1) MX3_tick bw_962 rfl rfl rfl rfl (by decide) rfl (fun v3 τ3 h3 => ?_)
        obtain ⟨rfl, hfr3, hR⟩ := h3
        have hfr := hfr.trans hfr3
        refine V.iinc (q := 68) dX4_run_65 rfl (by first | exact nI_inc _ | rfl) rfl rfl rfl ?_
        refine V.goto (tgt := 53) dX4_run_68 (by decide) ?_
        exact ih _ (by omega) (i + 1) _ _ rfl (by omega) gB gC hrm hH2 hfr hR
  refine V.iload_n (q := 1) dX4_run_0 rfl rfl ?_
  refine V.iconst (q := 2) dX4_run_1 (v := 1) rfl rfl ?_
  refine V.icmp_lt (tgt := 12) (q := 5) dX4_run_2 (by decide) rfl (fun c2 => ?_) (fun c2 => ?_)
  · exact V.throw (j := 11) thr_IA dX4_run_12 dX4_run_15 dX4_run_16 dX4_run_18 dX4_run_21 (by decide) (by decide +kernel) rfl rfl (by decide) (by decide) (by decide) rfl ⟨_, rfl, rfl, CHG.no (okN1 (okN1 (nge c2))), ans2_f (okN1 (nge c2))⟩
  · refine V.iload_n (q := 6) dX4_run_5 rfl rfl ?_
    refine V.sipush (q := 9) dX4_run_6 (v := 999) rfl rfl ?_
    refine V.icmp_le (tgt := 22) (q := 12) dX4_run_9 (by decide) rfl (fun c9 => ?_) (fun c9 => ?_)
    · refine V.aload_n (q := 23) dX4_run_22 rfl rfl ?_
      refine V.gL (q := 26) dX4_run_23 (j := 0) rfl bw_168 rfl rfl rfl rfl ?_
      refine V.gSu (q := 29) 3 dX4_run_26 hR rfl bw_48 rfl rfl ?_
      refine V.iload_n (q := 30) dX4_run_29 rfl rfl ?_
      refine V.iadd (q := 31) dX4_run_30 rfl ?_
      refine V.sipush (q := 34) dX4_run_31 (v := 999) rfl rfl ?_
      refine V.icmp_le (tgt := 47) (q := 37) dX4_run_34 (by decide) rfl (fun c34 => ?_) (fun c34 => ?_)
      · refine V.aload_n (q := 48) dX4_run_47 rfl rfl ?_
        refine V.cVLP (q := 51) (As := []) dX4_run_48 rfl (kL_remember hR hI hH) MX4_rememberState bw_416 rfl rfl rfl rfl (by decide) rfl (fun v2 τ2 h2 => ?_)
        obtain ⟨rfl, hrm, hH2⟩ := h2
        have hR := hrm.RC (Or.inl rfl) hR
        have hfr : FrS 1 τ2 τ2 := FrS.rf
        refine V.iconst (q := 52) dX4_run_51 (v := 0) rfl rfl ?_
        refine V.istore_n (q := 53) dX4_run_52 rfl rfl rfl rfl ?_
        exact loop _ 0 _ _ rfl (Nat.zero_le _) (okT (geT c2) (leT c9)) (leT c34) hrm hH2 hfr hR
      · exact V.throw (j := 12) thr_IS dX4_run_37 dX4_run_40 dX4_run_41 dX4_run_43 dX4_run_46 (by decide) (by decide +kernel) rfl rfl (by decide) (by decide) (by decide) rfl ⟨_, rfl, rfl, CHG.no (okN2 (nleT c34)), ans2_n (okT (geT c2) (leT c9)) (nleT c34)⟩
    · exact V.throw (j := 11) thr_IA dX4_run_12 dX4_run_15 dX4_run_16 dX4_run_18 dX4_run_21 (by decide) (by decide +kernel) rfl rfl (by decide) (by decide) (by decide) rfl ⟨_, rfl, rfl, CHG.no (okN1 (okN2 (nleT c9))), ans2_f (okN2 (nleT c9))⟩
set_option maxHeartbeats 4000000 in
theorem kL_undo {l : Launch} {G : GG} {σ : St} {u : Vw} {qq : Nat → Nat} (hR : RC σ 1 u qq) {r : Nat} {hv : Nat → Vw} (hH : CH σ r hv) (hall : ∀ i, i < r → Ok (hv i)) : CtX l G TX4_undo 7 1 6 [.ref (gB G + 0)] σ (fun a τ => FrCh σ τ ∧ (0 < r → CH τ (r - 1) hv ∧ ∃ qq, RC τ 1 (hv (r - 1)) qq) ∧ (r = 0 → τ = σ) ∧ a = ansA (decide (0 < r)) "java/lang/IllegalStateException" (.int (nI (r - 1)))) := by
  have hn : un u ≤ 40 := hR.1
  obtain ⟨np, hnp, h3, h4, h5, h6⟩ := hH
  refine CtX.ofV (by decide +kernel) rfl rfl (Nat.le_of_ble_eq_true rfl) ?_
  refine V.aload_n (q := 1) dX4_undo_0 rfl rfl ?_
  refine V.gL (q := 4) dX4_undo_1 (j := 4) rfl bw_172 rfl rfl rfl rfl ?_
  rw [h4]
  refine V.if_ne (tgt := 17) (q := 7) dX4_undo_4 (by decide) rfl (fun c4 => ?_) (fun c4 => ?_)
  · have hr : 0 < r := by
      rcases Nat.eq_zero_or_pos r with z | z
      · subst z; exact absurd rfl c4
      · exact z
    refine V.aload_n (q := 18) dX4_undo_17 rfl rfl ?_
    refine V.aload_n (q := 19) dX4_undo_18 rfl rfl ?_
    refine V.gL (q := 22) dX4_undo_19 (j := 3) rfl bw_171 rfl rfl rfl rfl ?_
    rw [h3]
    refine V.bipush (q := 24) dX4_undo_22 (v := 8) rfl rfl ?_
    refine V.iadd (q := 25) dX4_undo_24 rfl ?_
    rw [show nI np + 8 = nI (np + 8) from nI_add np 8]
    refine V.iconst (q := 26) dX4_undo_25 (v := 1) rfl rfl ?_
    refine V.isub (q := 27) dX4_undo_26 rfl ?_
    rw [show nI (np + 8) - 1 = nI (np + 7) from pk_sub (b := 1) (by omega)]
    refine V.bipush (q := 29) dX4_undo_27 (v := 8) rfl rfl ?_
    refine V.irem (q := 30) dX4_undo_29 (by decide) rfl ?_
    rw [rem8 (show np + 7 < 16 by omega)]
    refine V.pL (q := 33) dX4_undo_30 (j := 3) rfl bw_171 rfl rfl rfl rfl rfl rfl ?_
    refine V.aload_n (q := 34) dX4_undo_33 rfl rfl ?_
    refine V.dup (q := 35) dX4_undo_34 rfl rfl ?_
    refine V.gL (q := 38) dX4_undo_35 (j := 4) rfl bw_172 rfl rfl rfl rfl ?_
    rw [show sF (stF σ 0 3 (nI ((np + 7) % 8))) 0 4 = nI r from (up2_in (by decide) : up2 (sF σ) 0 3 (nI ((np + 7) % 8)) 0 4 = sF σ 0 4).trans h4]
    refine V.iconst (q := 39) dX4_undo_38 (v := 1) rfl rfl ?_
    refine V.isub (q := 40) dX4_undo_39 rfl ?_
    rw [show nI r - 1 = nI (r - 1) from pk_sub (b := 1) (by omega)]
    refine V.pL (q := 43) dX4_undo_40 (j := 4) rfl bw_172 rfl rfl rfl rfl rfl rfl ?_
    refine V.aload_n (q := 44) dX4_undo_43 rfl rfl ?_
    refine V.gL (q := 47) dX4_undo_44 (j := 0) rfl bw_168 rfl rfl rfl rfl ?_
    refine V.aload_n (q := 48) dX4_undo_47 rfl rfl ?_
    refine V.gL (q := 51) dX4_undo_48 (j := 2) rfl bw_170 rfl rfl rfl rfl ?_
    refine V.aload_n (q := 52) dX4_undo_51 rfl rfl ?_
    refine V.gL (q := 55) dX4_undo_52 (j := 3) rfl bw_171 rfl rfl rfl rfl ?_
    rw [show sF (stF (stF σ 0 3 (nI ((np + 7) % 8))) 0 4 (nI (r - 1))) 0 3 = nI ((np + 7) % 8) from (up2_in (by decide) : up2 (up2 (sF σ) 0 3 (nI ((np + 7) % 8))) 0 4 (nI (r - 1)) 0 3 = up2 (sF σ) 0 3 (nI ((np + 7) % 8)) 0 3).trans up2_at]
    obtain ⟨q9, hR9⟩ := h6 (r - 1) (by omega)
    have hRp : RC (stF (stF σ 0 3 (nI ((np + 7) % 8))) 0 4 (nI (r - 1))) (24 + 7 * ((np + 7) % 8)) (hv (r - 1)) q9 := ((hR9.place (r := 24 + 7 * ((np + 7) % 8)) (by omega)).fld (by omega)).fld (by omega)
    refine V.ld3 (q := 56) dX4_undo_55 (i := (np + 7) % 8)  rfl (by omega) rfl ?_
    refine V.cVSP (q := 59) (As := [_]) dX4_undo_56 rfl (cS_copyFrom (p := 1) (r := 24 + 7 * ((np + 7) % 8)) rfl (kd_past (by omega)) (by omega) hRp (hall (r - 1) (by omega)).1) MX3_copyFrom bw_361 rfl rfl rfl rfl (by decide) rfl (fun v1 τ1 h1 => ?_)
    obtain ⟨rfl, hfr, hR⟩ := h1
    refine V.aload_n (q := 60) dX4_undo_59 rfl rfl ?_
    refine V.gL (q := 63) dX4_undo_60 (j := 4) rfl bw_172 rfl rfl rfl rfl ?_
    rw [show sF τ1 0 4 = nI (r - 1) by rw [hfr.1 0 (by decide)]; exact (up2_at : up2 (sF (stF σ 0 3 (nI ((np + 7) % 8)))) 0 4 (nI (r - 1)) 0 4 = nI (r - 1))]
    refine V.iret dX4_undo_63 rfl ⟨_, rfl, rfl, ?_, fun _ => ⟨?_, _, hR⟩, fun z => by omega, ansA_t (decide_eq_true hr) rfl⟩
    · refine FrCh.trans (τ := (stF (stF σ 0 3 (nI ((np + 7) % 8))) 0 4 (nI (r - 1)))) ⟨fun k j h1 h2 h3 => ?_, fun _ _ _ => rfl, rfl⟩ (hfr.ch (Or.inl rfl))
      show up2 (up2 (sF σ) 0 3 (nI ((np + 7) % 8))) 0 4 (nI (r - 1)) k j = sF σ k j
      rw [up2_if, up2_if, if_neg (fun z => h1 ⟨z.1, Or.inr z.2⟩), if_neg (fun z => h1 ⟨z.1, Or.inl z.2⟩)]
    · refine CH.pop hr hnp h5 h6 ?_ ?_ (fun k hk => ?_) (fun k hk => hfr.2.1 k (by omega))
      · rw [hfr.1 0 (by decide)]
        exact (up2_in (by decide) : up2 (up2 (sF σ) 0 3 (nI ((np + 7) % 8))) 0 4 (nI (r - 1)) 0 3 = up2 (sF σ) 0 3 (nI ((np + 7) % 8)) 0 3).trans up2_at
      · rw [hfr.1 0 (by decide)]
        exact (up2_at : up2 (sF (stF σ 0 3 (nI ((np + 7) % 8)))) 0 4 (nI (r - 1)) 0 4 = nI (r - 1))
      · rw [hfr.1 k (by omega)]
        exact (up2_ne (by omega) : up2 (up2 (sF σ) 0 3 (nI ((np + 7) % 8))) 0 4 (nI (r - 1)) k = up2 (sF σ) 0 3 (nI ((np + 7) % 8)) k).trans (up2_ne (by omega))
  · have hr : r = 0 := neq (b := 0) c4 (by omega) (by decide)
    subst hr
    exact V.throw (j := 13) thr_IS dX4_undo_7 dX4_undo_10 dX4_undo_11 dX4_undo_13 dX4_undo_16 (by decide) (by decide +kernel) rfl rfl (by decide) (by decide) (by decide) rfl ⟨_, rfl, rfl, FrCh.rf, fun z => absurd z (Nat.lt_irrefl _), fun _ => rfl, rfl⟩
set_option maxHeartbeats 2000000 in
theorem kL_undoDepth {l : Launch} {G : GG} {σ : St} {u : Vw} {qq : Nat → Nat} (hR : RC σ 1 u qq) {r : Nat} {hv : Nat → Vw} (hH : CH σ r hv) : CtS l G TX4_undoDepth 0 [.ref (gB G + 0)] σ (some (.int (nI r))) σ := by
  have hn : un u ≤ 40 := hR.1
  refine CtS.ofV (by decide +kernel) rfl rfl (Nat.le_of_ble_eq_true rfl) ?_
  refine V.aload_n (q := 1) dX4_undoDepth_0 rfl rfl ?_
  refine V.gL (q := 4) dX4_undoDepth_1 (j := 4) rfl bw_172 rfl rfl rfl rfl ?_
  rw [hH.choose_spec.2.2.1]
  exact V.iret dX4_undoDepth_4 rfl ⟨rfl, rfl, rfl⟩
set_option maxHeartbeats 4000000 in
theorem kL_save {l : Launch} {G : GG} {σ : St} {u : Vw} {qq : Nat → Nat} (hR : RC σ 1 u qq) (hI : Iu u) {b : Nat → Bool} {v : Nat → Vw} (hS : CSl σ b v) {x : Int32} : CtX l G TX4_save 7 1 6 [.ref (gB G + 0), .int x] σ (fun a τ => FrSv σ τ ∧ (okS x = true → CSl τ (slB b x.toNatClampNeg) (slV v x.toNatClampNeg u)) ∧ (okS x = false → τ = σ) ∧ a = ansA (okS x) "java/lang/IndexOutOfBoundsException" (.int (bI (!(b x.toNatClampNeg))))) := by
  have hn : un u ≤ 40 := hR.1
  refine CtX.ofV (by decide +kernel) rfl rfl (Nat.le_of_ble_eq_true rfl) ?_
  refine V.aload_n (q := 1) dX4_save_0 rfl rfl ?_
  refine V.iload_n (q := 2) dX4_save_1 rfl rfl ?_
  refine V.cVLX (q := 5) (As := [_]) dX4_save_2 rfl (kL_reqS hR) MX4_requireSlot bw_992 rfl rfl rfl rfl (by decide) rfl (by decide) (by decide) (fun v9 τ9 h9 => ?_) (fun E9 τ9 h9 => ?_)
  · obtain ⟨rfl, h9⟩ := h9
    obtain ⟨g, rfl⟩ := reqA_inl h9
    obtain ⟨hx, hi⟩ := okS_i g
    have hb := (hS _ hi).1
    refine V.aload_n (q := 6) dX4_save_5 rfl rfl ?_
    refine V.gL (q := 9) dX4_save_6 (j := 6) rfl bw_174 rfl rfl rfl rfl ?_
    refine V.iload_n (q := 10) dX4_save_9 rfl rfl ?_
    refine V.ld5 (q := 11) dX4_save_10 (i := x.toNatClampNeg) (by first | rfl | assumption) hx hi rfl ?_
    rw [hb]
    refine V.if_ne (tgt := 18) (q := 14) dX4_save_11 (by decide) rfl (fun c11 => ?_) (fun c11 => ?_)
    · refine V.iconst (q := 19) dX4_save_18 (v := 0) rfl rfl ?_
      refine V.istore_n (q := 20) dX4_save_19 rfl rfl rfl rfl ?_
      refine V.aload_n (q := 21) dX4_save_20 rfl rfl ?_
      refine V.gL (q := 24) dX4_save_21 (j := 5) rfl bw_173 rfl rfl rfl rfl ?_
      refine V.iload_n (q := 25) dX4_save_24 rfl rfl ?_
      refine V.ld4 (q := 26) dX4_save_25 (i := x.toNatClampNeg)  hx hi rfl ?_
      refine V.aload_n (q := 27) dX4_save_26 rfl rfl ?_
      refine V.gL (q := 30) dX4_save_27 (j := 0) rfl bw_168 rfl rfl rfl rfl ?_
      refine V.cVSP (q := 33) (As := [_]) dX4_save_30 rfl (cS_copyFrom (p := 80 + 7 * x.toNatClampNeg) (r := 1) (kd_slot hi) rfl (by omega) hR hI) MX3_copyFrom bw_361 (kd_slot hi) rfl rfl rfl (by decide) rfl (fun v1 τ1 h1 => ?_)
      obtain ⟨rfl, hfr, hR1⟩ := h1
      refine V.aload_n (q := 34) dX4_save_33 rfl rfl ?_
      refine V.gL (q := 37) dX4_save_34 (j := 6) rfl bw_174 rfl rfl rfl rfl ?_
      refine V.iload_n (q := 38) dX4_save_37 rfl rfl ?_
      refine V.iconst (q := 39) dX4_save_38 (v := 1) rfl rfl ?_
      refine V.st5 (q := 40) dX4_save_39 (i := x.toNatClampNeg) (by first | rfl | assumption) hx hi rfl ?_
      refine V.iload_n (q := 41) dX4_save_40 rfl rfl ?_
      exact V.zret (ty := .boolean) rfl dX4_save_41 rfl ⟨_, rfl, rfl, ⟨fun k hk => (hfr.1 k (by omega)), fun k h1 h2 => (up2_ne h1).trans (hfr.2.1 k (by omega)), hfr.2.2⟩, fun _ => hS.save hi hfr hR1 rfl, fun z => by (rw [show okS x = true from g] at z; cases z), ansA_t g (by rw [bI1.mp c11]; rfl)⟩
    · refine V.iconst (q := 15) dX4_save_14 (v := 1) rfl rfl ?_
      refine V.goto (tgt := 19) dX4_save_15 (by decide) ?_
      refine V.istore_n (q := 20) dX4_save_19 rfl rfl rfl rfl ?_
      refine V.aload_n (q := 21) dX4_save_20 rfl rfl ?_
      refine V.gL (q := 24) dX4_save_21 (j := 5) rfl bw_173 rfl rfl rfl rfl ?_
      refine V.iload_n (q := 25) dX4_save_24 rfl rfl ?_
      refine V.ld4 (q := 26) dX4_save_25 (i := x.toNatClampNeg)  hx hi rfl ?_
      refine V.aload_n (q := 27) dX4_save_26 rfl rfl ?_
      refine V.gL (q := 30) dX4_save_27 (j := 0) rfl bw_168 rfl rfl rfl rfl ?_
      refine V.cVSP (q := 33) (As := [_]) dX4_save_30 rfl (cS_copyFrom (p := 80 + 7 * x.toNatClampNeg) (r := 1) (kd_slot hi) rfl (by omega) hR hI) MX3_copyFrom bw_361 (kd_slot hi) rfl rfl rfl (by decide) rfl (fun v1 τ1 h1 => ?_)
      obtain ⟨rfl, hfr, hR1⟩ := h1
      refine V.aload_n (q := 34) dX4_save_33 rfl rfl ?_
      refine V.gL (q := 37) dX4_save_34 (j := 6) rfl bw_174 rfl rfl rfl rfl ?_
      refine V.iload_n (q := 38) dX4_save_37 rfl rfl ?_
      refine V.iconst (q := 39) dX4_save_38 (v := 1) rfl rfl ?_
      refine V.st5 (q := 40) dX4_save_39 (i := x.toNatClampNeg) (by first | rfl | assumption) hx hi rfl ?_
      refine V.iload_n (q := 41) dX4_save_40 rfl rfl ?_
      exact V.zret (ty := .boolean) rfl dX4_save_41 rfl ⟨_, rfl, rfl, ⟨fun k hk => (hfr.1 k (by omega)), fun k h1 h2 => (up2_ne h1).trans (hfr.2.1 k (by omega)), hfr.2.2⟩, fun _ => hS.save hi hfr hR1 rfl, fun z => by (rw [show okS x = true from g] at z; cases z), ansA_t g (by rw [bI0.mp c11]; rfl)⟩
  · obtain ⟨rfl, h9⟩ := h9
    obtain ⟨g, rfl⟩ := reqA_inr h9
    exact VX.out rfl (by decide) (by decide) ⟨_, rfl, rfl, ⟨FrSv.rf, fun z => by (rw [show okS x = false from g] at z; cases z), fun _ => rfl, ansA_f g⟩⟩
set_option maxHeartbeats 4000000 in
theorem kL_restore {l : Launch} {G : GG} {σ : St} {u : Vw} {qq : Nat → Nat} (hR : RC σ 1 u qq) {r : Nat} {hv : Nat → Vw} (hH : CH σ r hv) {b : Nat → Bool} {v : Nat → Vw} (hS : CSl σ b v) (hall : ∀ i, i < 2 → b i = true → Ok (v i)) {x : Int32} : CtX l G TX4_restore 7 2 12 [.ref (gB G + 0), .int x] σ (fun a τ => FrCh σ τ ∧ ((okS x && b x.toNatClampNeg) = true → CH τ 0 hv ∧ ∃ qq, RC τ 1 (v x.toNatClampNeg) qq) ∧ ((okS x && b x.toNatClampNeg) = false → τ = σ) ∧ a = ans2 (okS x) (b x.toNatClampNeg) "java/lang/IndexOutOfBoundsException" "java/lang/IllegalStateException" (.int (us (v x.toNatClampNeg) 3))) := by
  have hn : un u ≤ 40 := hR.1
  obtain ⟨np, hnp, h3, h4, h5, h6⟩ := hH
  refine CtX.ofV (by decide +kernel) rfl rfl (Nat.le_of_ble_eq_true rfl) ?_
  refine V.aload_n (q := 1) dX4_restore_0 rfl rfl ?_
  refine V.iload_n (q := 2) dX4_restore_1 rfl rfl ?_
  refine V.cVLX (q := 5) (As := [_]) dX4_restore_2 rfl (kL_reqS hR) MX4_requireSlot bw_992 rfl rfl rfl rfl (by decide) rfl (by decide) (by decide) (fun v9 τ9 h9 => ?_) (fun E9 τ9 h9 => ?_)
  · obtain ⟨rfl, h9⟩ := h9
    obtain ⟨g, rfl⟩ := reqA_inl h9
    obtain ⟨hx, hi⟩ := okS_i g
    have hb := (hS _ hi).1
    refine V.aload_n (q := 6) dX4_restore_5 rfl rfl ?_
    refine V.gL (q := 9) dX4_restore_6 (j := 6) rfl bw_174 rfl rfl rfl rfl ?_
    refine V.iload_n (q := 10) dX4_restore_9 rfl rfl ?_
    refine V.ld5 (q := 11) dX4_restore_10 (i := x.toNatClampNeg) (by first | rfl | assumption) hx hi rfl ?_
    rw [hb]
    refine V.if_ne (tgt := 24) (q := 14) dX4_restore_11 (by decide) rfl (fun c11 => ?_) (fun c11 => ?_)
    · have g2 : b x.toNatClampNeg = true := bI1.mp c11
      obtain ⟨q9, hR9⟩ := (hS _ hi).2 g2
      refine V.aload_n (q := 25) dX4_restore_24 rfl rfl ?_
      refine V.gL (q := 28) dX4_restore_25 (j := 0) rfl bw_168 rfl rfl rfl rfl ?_
      refine V.aload_n (q := 29) dX4_restore_28 rfl rfl ?_
      refine V.gL (q := 32) dX4_restore_29 (j := 5) rfl bw_173 rfl rfl rfl rfl ?_
      refine V.iload_n (q := 33) dX4_restore_32 rfl rfl ?_
      refine V.ld4 (q := 34) dX4_restore_33 (i := x.toNatClampNeg)  hx hi rfl ?_
      refine V.cVSP (q := 37) (As := [_]) dX4_restore_34 rfl (cS_copyFrom (p := 1) (r := 80 + 7 * x.toNatClampNeg) rfl (kd_slot hi) (by omega) hR9 (hall _ hi g2).1) MX3_copyFrom bw_361 rfl rfl rfl rfl (by decide) rfl (fun v1 τ1 h1 => ?_)
      obtain ⟨rfl, hfr, hR⟩ := h1
      have hR2 : RC (stF τ1 0 4 0) 1 (v x.toNatClampNeg) q9 := hR.fld (by decide)
      refine V.aload_n (q := 38) dX4_restore_37 rfl rfl ?_
      refine V.iconst (q := 39) dX4_restore_38 (v := 0) rfl rfl ?_
      refine V.pL (q := 42) dX4_restore_39 (j := 4) rfl bw_172 rfl rfl rfl rfl rfl rfl ?_
      refine V.aload_n (q := 43) dX4_restore_42 rfl rfl ?_
      refine V.gL (q := 46) dX4_restore_43 (j := 0) rfl bw_168 rfl rfl rfl rfl ?_
      refine V.gSu (q := 49) 3 dX4_restore_46 hR2 rfl bw_48 rfl rfl ?_
      exact V.iret dX4_restore_49 rfl ⟨_, rfl, rfl, FrCh.trans (hfr.ch (Or.inl rfl)) ⟨fun k j h1 h2 h3 => by (show up2 (sF τ1) 0 4 0 k j = _; rw [up2_if, if_neg (fun z => h1 ⟨z.1, Or.inr z.2⟩)]), fun _ _ _ => rfl, rfl⟩, fun _ => ⟨⟨np, hnp, (up2_in (by decide) : up2 (sF τ1) 0 4 0 0 3 = sF τ1 0 3).trans (by rw [hfr.1 0 (by decide)]; exact h3), (up2_at : up2 (sF τ1) 0 4 0 0 4 = 0), by omega, fun i hi => absurd hi (Nat.not_lt_zero i)⟩, _, hR2⟩, fun z => by (rw [show okS x = true from g, g2] at z; cases z), ans2_t g g2 rfl⟩
    · have g2 : b x.toNatClampNeg = false := bI0.mp c11
      exact V.throw (j := 15) thr_IS dX4_restore_14 dX4_restore_17 dX4_restore_18 dX4_restore_20 dX4_restore_23 (by decide) (by decide +kernel) rfl rfl (by decide) (by decide) (by decide) rfl ⟨_, rfl, rfl, FrCh.rf, fun z => by (rw [g2] at z; cases (okN2 (p := okS x) (rfl : false = false)).symm.trans z), fun _ => rfl, ans2_n g g2⟩
  · obtain ⟨rfl, h9⟩ := h9
    obtain ⟨g, rfl⟩ := reqA_inr h9
    exact VX.out rfl (by decide) (by decide) ⟨_, rfl, rfl, ⟨FrCh.rf, fun z => by (rw [okN1 (show okS x = false from g)] at z; cases z), fun _ => rfl, ans2_f g⟩⟩
