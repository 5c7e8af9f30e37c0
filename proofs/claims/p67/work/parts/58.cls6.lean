/-! LiftScheduler: adds, runs, takes back, keeps -/
set_option maxHeartbeats 4000000 in
theorem kL_run {l : Launch} {G : GG} {σ : St} {u : Vw} {qq : Nat → Nat} (hR : RC σ 1 u qq) (hI : Iu u) (ht : uT u ≤ 999) {r : Nat} {hv : Nat → Vw} (hH : CH σ r hv) {x : Int32} : CtX l G TX4_run 7 1 6 [.ref (gB G + 0), .int x] σ (fun a τ => CHG ((okI 1 999 x) && (decide (us u 3 + x ≤ 999))) σ τ r hv u (tks x.toNatClampNeg u) ∧ a = ans2 (okI 1 999 x) (decide (us u 3 + x ≤ 999)) "java/lang/IllegalArgumentException" "java/lang/IllegalStateException" (.int (us (tks x.toNatClampNeg u) 4))) := by
  have hn : un u ≤ 40 := hR.1
  refine CtX.ofV (by decide +kernel) rfl rfl (Nat.le_of_ble_eq_true rfl) ?_
  have loop : ∀ (m : Nat) (i : Nat) (τ2 τ : St), m = x.toNatClampNeg - i → i ≤ x.toNatClampNeg → (okI 1 999 x) = true → (decide (us u 3 + x ≤ 999)) = true → FrRm σ τ2 → CH τ2 (pushN r) (pushV r hv u) → FrS 1 τ2 τ → RC τ 1 (tks i u) qq → V l G TX4_run 7 1 6 (RetX G (fun a τ => CHG ((okI 1 999 x) && (decide (us u 3 + x ≤ 999))) σ τ r hv u (tks x.toNatClampNeg u) ∧ a = ans2 (okI 1 999 x) (decide (us u 3 + x ≤ 999)) "java/lang/IllegalArgumentException" "java/lang/IllegalStateException" (.int (us (tks x.toNatClampNeg u) 4)))) 0 0 53 [some (.ref (gB G + 0)), some (.int x), some (.int (nI i))] [] (hof G τ) NC := by
    intro m
    induction m using Nat.strongRecOn with
    | _ m ih =>
      intro i τ2 τ hm hile gB gC hrm hH2 hfr hR
      obtain ⟨hx, hx1, hx2⟩ := okI_n (b := 999) (by decide) gB
      refine V.iload_n (q := 54) dX4_run_53 rfl rfl ?_
      refine V.iload_n (q := 55) dX4_run_54 rfl rfl ?_
      refine V.icmp_ge (tgt := 71) (q := 58) dX4_run_55 (by decide) rfl (fun c55 => ?_) (fun c55 => ?_)
      · have hie : i = x.toNatClampNeg := Nat.le_antisymm hile (nle (by rw [← hx]; exact c55) (by omega) (by omega))
        refine V.aload_n (q := 72) dX4_run_71 rfl rfl ?_
        refine V.gL (q := 75) dX4_run_72 (j := 0) rfl bw_168 rfl rfl rfl rfl ?_
        refine V.gSu (q := 78) 4 dX4_run_75 hR rfl bw_56 rfl rfl ?_
        exact V.iret dX4_run_78 rfl ⟨_, rfl, rfl, CHG.yes (okT gB gC) hrm hH2 hfr (by rw [← hie]; exact hR), ans2_t gB gC (by rw [hie])⟩
      · have hlt : i < x.toNatClampNeg := nnle (a := x.toNatClampNeg) (b := i) (by rw [← hx]; exact c55) (by omega) (by omega)
        refine V.aload_n (q := 59) dX4_run_58 rfl rfl ?_
        refine V.gL (q := 62) dX4_run_59 (j := 0) rfl bw_168 rfl rfl rfl rfl ?_
        refine V.cVSP (q := 65) (As := []) dX4_run_62 rfl (cS_tick (p := 1) rfl hR (tks_Iu hI i (by omega)).1) MX3_tick bw_499 rfl rfl rfl rfl (by decide) rfl (fun v3 τ3 h3 => ?_)
        obtain ⟨rfl, hfr3, hR⟩ := h3
        have hfr := hfr.trans hfr3
        refine V.iinc (q := 68) dX4_run_65 rfl (by first | exact nI_inc _ | rfl) rfl rfl rfl ?_
        refine V.goto (tgt := 53) dX4_run_68 (by decide) ?_
        exact ih _ (by omega) (i + 1) _ _ rfl (by omega) gB gC hrm hH2 hfr hR
  refine V.iload_n (q := 1) dX4_run_0 rfl rfl ?_
  refine V.iconst (q := 2) dX4_run_1 (v := 1) rfl rfl ?_
  refine V.icmp_lt (tgt := 12) (q := 5) dX4_run_2 (by decide) rfl (fun c2 => ?_) (fun c2 => ?_)
  · exact V.throw (j := 4) thr_IA dX4_run_12 dX4_run_15 dX4_run_16 dX4_run_18 dX4_run_21 (by decide) (by decide +kernel) rfl rfl (by decide) (by decide) (by decide) rfl ⟨_, rfl, rfl, CHG.no (okN1 (okN1 (nge c2))), ans2_f (okN1 (nge c2))⟩
  · refine V.iload_n (q := 6) dX4_run_5 rfl rfl ?_
    refine V.sipush (q := 9) dX4_run_6 (v := 999) rfl rfl ?_
    refine V.icmp_le (tgt := 22) (q := 12) dX4_run_9 (by decide) rfl (fun c9 => ?_) (fun c9 => ?_)
    · refine V.aload_n (q := 23) dX4_run_22 rfl rfl ?_
      refine V.gL (q := 26) dX4_run_23 (j := 0) rfl bw_168 rfl rfl rfl rfl ?_
      refine V.gSu (q := 29) 3 dX4_run_26 hR rfl bw_53 rfl rfl ?_
      refine V.iload_n (q := 30) dX4_run_29 rfl rfl ?_
      refine V.iadd (q := 31) dX4_run_30 rfl ?_
      refine V.sipush (q := 34) dX4_run_31 (v := 999) rfl rfl ?_
      refine V.icmp_le (tgt := 47) (q := 37) dX4_run_34 (by decide) rfl (fun c34 => ?_) (fun c34 => ?_)
      · refine V.aload_n (q := 48) dX4_run_47 rfl rfl ?_
        refine V.cVLP (q := 51) (As := []) dX4_run_48 rfl (kL_remember hR hI hH) MX4_rememberState bw_485 rfl rfl rfl rfl (by decide) rfl (fun v2 τ2 h2 => ?_)
        obtain ⟨rfl, hrm, hH2⟩ := h2
        have hR := hrm.RC (Or.inl rfl) hR
        have hfr : FrS 1 τ2 τ2 := FrS.rf
        refine V.iconst (q := 52) dX4_run_51 (v := 0) rfl rfl ?_
        refine V.istore_n (q := 53) dX4_run_52 rfl rfl rfl rfl ?_
        exact loop _ 0 _ _ rfl (Nat.zero_le _) (okT (geT c2) (leT c9)) (leT c34) hrm hH2 hfr hR
      · exact V.throw (j := 5) thr_IS dX4_run_37 dX4_run_40 dX4_run_41 dX4_run_43 dX4_run_46 (by decide) (by decide +kernel) rfl rfl (by decide) (by decide) (by decide) rfl ⟨_, rfl, rfl, CHG.no (okN2 (nleT c34)), ans2_n (okT (geT c2) (leT c9)) (nleT c34)⟩
    · exact V.throw (j := 4) thr_IA dX4_run_12 dX4_run_15 dX4_run_16 dX4_run_18 dX4_run_21 (by decide) (by decide +kernel) rfl rfl (by decide) (by decide) (by decide) rfl ⟨_, rfl, rfl, CHG.no (okN1 (okN2 (nleT c9))), ans2_f (okN2 (nleT c9))⟩
