/-! LiftScheduler: remembers, forecasts -/
set_option maxHeartbeats 4000000 in
theorem kL_remember {l : Launch} {G : GG} {σ : St} {u : Vw} {qq : Nat → Nat} (hR : RC σ 1 u qq) (hI : Iu u) {r : Nat} {hv : Nat → Vw} (hH : CH σ r hv) : CtP l G TX4_rememberState 3 [.ref (gB G + 0)] σ (fun v τ => v = none ∧ FrRm σ τ ∧ CH τ (pushN r) (pushV r hv u)) := by
  have hn : un u ≤ 40 := hR.1
  obtain ⟨np, hnp, h3, h4, h5, h6⟩ := hH
  refine CtP.ofV (by decide +kernel) rfl rfl (Nat.le_of_ble_eq_true rfl) ?_
  refine V.aload_n (q := 1) dX4_rememberState_0 rfl rfl ?_
  refine V.gL (q := 4) dX4_rememberState_1 (j := 2) rfl bw_170 rfl rfl rfl rfl ?_
  refine V.aload_n (q := 5) dX4_rememberState_4 rfl rfl ?_
  refine V.gL (q := 8) dX4_rememberState_5 (j := 3) rfl bw_171 rfl rfl rfl rfl ?_
  rw [h3]
  refine V.ld3 (q := 9) dX4_rememberState_8 (i := np)  rfl hnp rfl ?_
  refine V.aload_n (q := 10) dX4_rememberState_9 rfl rfl ?_
  refine V.gL (q := 13) dX4_rememberState_10 (j := 0) rfl bw_168 rfl rfl rfl rfl ?_
  refine V.cVSP (q := 16) (As := [_]) dX4_rememberState_13 rfl (cS_copyFrom (p := 24 + 7 * np) (kd_past hnp) rfl (by omega) hR hI) MX3_copyFrom bw_489 (kd_past hnp) rfl rfl rfl (by decide) rfl (fun v1 τ1 h1 => ?_)
  obtain ⟨rfl, hfr, hRp⟩ := h1
  have e0 : ∀ j, sF τ1 0 j = sF σ 0 j := fun j => by rw [hfr.1 0 (by omega)]
  refine V.aload_n (q := 17) dX4_rememberState_16 rfl rfl ?_
  refine V.aload_n (q := 18) dX4_rememberState_17 rfl rfl ?_
  refine V.gL (q := 21) dX4_rememberState_18 (j := 3) rfl bw_171 rfl rfl rfl rfl ?_
  rw [e0, h3]
  refine V.iconst (q := 22) dX4_rememberState_21 (v := 1) rfl rfl ?_
  refine V.iadd (q := 23) dX4_rememberState_22 rfl ?_
  rw [show nI np + 1 = nI (np + 1) from nI_1 np]
  refine V.bipush (q := 25) dX4_rememberState_23 (v := 8) rfl rfl ?_
  refine V.irem (q := 26) dX4_rememberState_25 (by decide) rfl ?_
  rw [rem8 (show np + 1 < 16 by omega)]
  refine V.pL (q := 29) dX4_rememberState_26 (j := 3) rfl bw_171 rfl rfl rfl rfl rfl rfl ?_
  refine V.aload_n (q := 30) dX4_rememberState_29 rfl rfl ?_
  refine V.aload_n (q := 31) dX4_rememberState_30 rfl rfl ?_
  refine V.gL (q := 34) dX4_rememberState_31 (j := 4) rfl bw_172 rfl rfl rfl rfl ?_
  rw [show sF (stF τ1 0 3 (nI ((np + 1) % 8))) 0 4 = nI r from (up2_in (by decide) : up2 (sF τ1) 0 3 (nI ((np + 1) % 8)) 0 4 = sF τ1 0 4).trans ((e0 4).trans h4)]
  refine V.iconst (q := 35) dX4_rememberState_34 (v := 1) rfl rfl ?_
  refine V.iadd (q := 36) dX4_rememberState_35 rfl ?_
  rw [show nI r + 1 = nI (r + 1) from nI_1 r]
  refine V.bipush (q := 38) dX4_rememberState_36 (v := 8) rfl rfl ?_
  refine V.mmin (q := 41) dX4_rememberState_38 bw_496 bw_497 bw_10 bw_498 rfl (by decide) (by decide) (by decide) rfl ?_
  rw [min8 h5]
  refine V.pL (q := 44) dX4_rememberState_41 (j := 4) rfl bw_172 rfl rfl rfl rfl rfl rfl ?_
  refine V.vret dX4_rememberState_44 rfl ⟨none, _, rfl, rfl, rfl, rfl, ?_, ?_⟩
  · refine ⟨fun k j hk hk2 => ?_, fun k hk => hfr.2.1 k (by omega), hfr.2.2⟩
    refine (show up2 (up2 (sF τ1) 0 3 _) 0 4 _ k j = sF τ1 k j from ?_).trans (by rw [hfr.1 k (by omega)])
    rw [up2_if, up2_if, if_neg (fun z => hk ⟨z.1, Or.inr z.2⟩), if_neg (fun z => hk ⟨z.1, Or.inl z.2⟩)]
  · refine CH.push hnp h5 h6 hfr hRp ?_ ?_ (fun k hk => ?_) rfl
    · exact (up2_in (by decide) : up2 (up2 (sF τ1) 0 3 (nI ((np + 1) % 8))) 0 4 (nI (pushN r)) 0 3 = up2 (sF τ1) 0 3 (nI ((np + 1) % 8)) 0 3).trans up2_at
    · exact (up2_at : up2 (up2 (sF τ1) 0 3 (nI ((np + 1) % 8))) 0 4 (nI (pushN r)) 0 4 = nI (pushN r))
    · exact (up2_ne hk : up2 (up2 (sF τ1) 0 3 (nI ((np + 1) % 8))) 0 4 (nI (pushN r)) k = up2 (sF τ1) 0 3 (nI ((np + 1) % 8)) k).trans (up2_ne hk)
