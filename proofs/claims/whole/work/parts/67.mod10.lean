/-! the model adds, takes back -/
set_option maxHeartbeats 2000000 in
theorem kM_addPassenger {l : Launch} {G : GG} {σ : St} {u : Vw} (hM : RM σ u) (hI : Iu u) (ht : uT u ≤ 999) {r : Nat} {hv : Nat → Vw} (hH : Hist σ r hv) {x y t : Int32} : CtP l G TX5_addPassenger 3 [.ref (gB G + 94), .int x, .int y, .int t] σ (fun v τ => v = some (.int (if ((okF u x && okF u y) && ((apC u x y t) && (decide (nI (un u) < 40)))) = true then nI (un u) else 0)) ∧ MHG ((okF u x && okF u y) && ((apC u x y t) && (decide (nI (un u) < 40)))) σ τ r hv u (addu u x y t) ∧ thr τ = (if (okF u x && okF u y) = true then (if (apC u x y t) = true then (if (decide (nI (un u) < 40)) = true then 0 else 3) else 2) else 1)) := by
  have hn : un u ≤ 40 := hM.1
  refine CtP.ofV (by decide +kernel) rfl rfl (Nat.le_of_ble_eq_true rfl) ?_
  refine V.aload_n (q := 1) dX5_addPassenger_0 rfl rfl ?_
  refine V.iconst (q := 2) dX5_addPassenger_1 (v := 0) rfl rfl ?_
  refine V.pM (q := 5) dX5_addPassenger_2 (j := 0) rfl bw_1011 rfl rfl rfl rfl rfl rfl ?_
  have hM : RM (stF σ 94 0 0) u := hM.scF
  have hH : Hist (stF σ 94 0 0) r hv := hH.z
  refine V.aload_n (q := 6) dX5_addPassenger_5 rfl rfl ?_
  refine V.iload_n (q := 7) dX5_addPassenger_6 rfl rfl ?_
  refine V.cVMP (q := 10) (As := [_]) dX5_addPassenger_7 rfl (kM_noF (x := x) hM hI) MX5_noFloor bw_1431 rfl rfl rfl rfl (by decide) rfl (fun v1 τ1 h1 => ?_)
  obtain ⟨rfl, h1⟩ := h1
  refine V.if_ne (tgt := 80) (q := 13) dX5_addPassenger_10 (by decide) rfl (fun c10 => ?_) (fun c10 => ?_)
  · have gx : okF u x = false := by
      cases z : okF u x with
      | true => rw [z] at c10; exact absurd rfl c10
      | false => rfl
    rw [if_neg (by rw [gx]; decide)] at h1
    subst h1
    refine V.iconst (q := 81) dX5_addPassenger_80 (v := 0) rfl rfl ?_
    exact V.iret dX5_addPassenger_81 rfl ⟨_, _, rfl, rfl, rfl, by rw [okN1 (okN1 gx)]; rfl, MHG.no (okN1 (okN1 gx)) (FrX.z.trans FrX.z).mc hH.z hM.scF, by rw [if_neg (by rw [okN1 gx]; decide)]; exact thr_z⟩
  · have gx : okF u x = true := by
      cases z : okF u x with
      | true => rfl
      | false => rw [z] at c10; exact absurd c10 (by decide)
    rw [if_pos gx] at h1
    subst h1
    refine V.aload_n (q := 14) dX5_addPassenger_13 rfl rfl ?_
    refine V.iload_n (q := 15) dX5_addPassenger_14 rfl rfl ?_
    refine V.cVMP (q := 18) (As := [_]) dX5_addPassenger_15 rfl (kM_noF (x := y) hM hI) MX5_noFloor bw_1431 rfl rfl rfl rfl (by decide) rfl (fun v1 τ1 h2 => ?_)
    obtain ⟨rfl, h2⟩ := h2
    refine V.if_ne (tgt := 80) (q := 21) dX5_addPassenger_18 (by decide) rfl (fun c18 => ?_) (fun c18 => ?_)
    · have gy : okF u y = false := by
        cases z : okF u y with
        | true => rw [z] at c18; exact absurd rfl c18
        | false => rfl
      rw [if_neg (by rw [gy]; decide)] at h2
      subst h2
      refine V.iconst (q := 81) dX5_addPassenger_80 (v := 0) rfl rfl ?_
      exact V.iret dX5_addPassenger_81 rfl ⟨_, _, rfl, rfl, rfl, by rw [okN1 (okN2 gy)]; rfl, MHG.no (okN1 (okN2 gy)) (FrX.z.trans FrX.z).mc hH.z hM.scF, by rw [if_neg (by rw [okN2 gy]; decide)]; exact thr_z⟩
    · have gy : okF u y = true := by
        cases z : okF u y with
        | true => rfl
        | false => rw [z] at c18; exact absurd c18 (by decide)
      rw [if_pos gy] at h2
      subst h2
      have gB : (okF u x && okF u y) = true := okT gx gy
      refine V.aload_n (q := 22) dX5_addPassenger_21 rfl rfl ?_
      refine V.iload_n (q := 23) dX5_addPassenger_22 rfl rfl ?_
      refine V.iload_n (q := 24) dX5_addPassenger_23 rfl rfl ?_
      refine V.icmp_eq (tgt := 43) (q := 27) dX5_addPassenger_24 (by decide) rfl (fun c24 => ?_) (fun c24 => ?_)
      · have gC : (apC u x y t) = false := okN1 (decide_eq_false (fun z => z c24.symm))
        refine V.iconst (q := 44) dX5_addPassenger_43 (v := 1) rfl rfl ?_
        refine V.goto (tgt := 48) dX5_addPassenger_44 (by decide) ?_
        refine V.iconst (q := 49) dX5_addPassenger_48 (v := 2) rfl rfl ?_
        refine V.cVMP (q := 52) (As := [_, _]) dX5_addPassenger_49 rfl (kM_fails_true) MX5_fails bw_1351 rfl rfl rfl rfl (by decide) rfl (fun v1 τ1 h1 => ?_)
        obtain ⟨rfl, rfl⟩ := h1
        refine V.if_ne (tgt := 80) (q := 55) dX5_addPassenger_52 (by decide) rfl (fun c52 => ?_) (fun c52 => ?_)
        · refine V.iconst (q := 81) dX5_addPassenger_80 (v := 0) rfl rfl ?_
          exact V.iret dX5_addPassenger_81 rfl ⟨_, _, rfl, rfl, rfl, by rw [okN2 (okN1 gC)]; rfl, MHG.no (okN2 (okN1 gC)) (FrX.z.trans FrX.z).mc hH.z hM.scF, by rw [if_pos gB, if_neg (by rw [gC]; decide)]; exact thr_z⟩
        · exact absurd c52 (by decide)
      · have gy2 : decide (¬ y = x) = true := decide_eq_true (fun z => c24 z.symm)
        refine V.iload_n (q := 28) dX5_addPassenger_27 rfl rfl ?_
        refine V.aload_n (q := 29) dX5_addPassenger_28 rfl rfl ?_
        refine V.gM (q := 32) dX5_addPassenger_29 (j := 1) rfl bw_1012 rfl rfl rfl rfl ?_
        refine V.iconst (q := 33) dX5_addPassenger_32 (v := 3) rfl rfl ?_
        refine V.ldMu (q := 34) 3 dX5_addPassenger_33 hM rfl rfl rfl ?_
        refine V.sipush (q := 37) dX5_addPassenger_34 (v := 999) rfl rfl ?_
        refine V.cSt (q := 40) dX5_addPassenger_37 (As := [_, _, _]) rfl cM_inRange MX5_inRange bw_1097 rfl rfl (by decide) rfl ?_
        refine V.if_ne (tgt := 47) (q := 43) dX5_addPassenger_40 (by decide) rfl (fun c40 => ?_) (fun c40 => ?_)
        · have gC : (apC u x y t) = true := okT gy2 (bI1.mp c40)
          refine V.iconst (q := 48) dX5_addPassenger_47 (v := 0) rfl rfl ?_
          refine V.iconst (q := 49) dX5_addPassenger_48 (v := 2) rfl rfl ?_
          refine V.cVMP (q := 52) (As := [_, _]) dX5_addPassenger_49 rfl (kM_fails_false) MX5_fails bw_1351 rfl rfl rfl rfl (by decide) rfl (fun v1 τ1 h1 => ?_)
          obtain ⟨rfl, rfl⟩ := h1
          refine V.if_ne (tgt := 80) (q := 55) dX5_addPassenger_52 (by decide) rfl (fun c52 => ?_) (fun c52 => ?_)
          · exact absurd rfl c52
          · refine V.aload_n (q := 56) dX5_addPassenger_55 rfl rfl ?_
            refine V.aload_n (q := 57) dX5_addPassenger_56 rfl rfl ?_
            refine V.gM (q := 60) dX5_addPassenger_57 (j := 1) rfl bw_1012 rfl rfl rfl rfl ?_
            refine V.bipush (q := 62) dX5_addPassenger_60 (v := 10) rfl rfl ?_
            refine V.ldMn (q := 63) dX5_addPassenger_62 hM rfl rfl ?_
            refine V.bipush (q := 65) dX5_addPassenger_63 (v := 40) rfl rfl ?_
            refine V.icmp_ne (tgt := 72) (q := 68) dX5_addPassenger_65 (by decide) rfl (fun c65 => ?_) (fun c65 => ?_)
            · have hn4 : un u < 40 := by
                have : un u ≠ 40 := fun z => c65 (by rw [z]; rfl)
                omega
              have gD : (decide (nI (un u) < 40)) = true := decide_eq_true (nI_lt (b := 40) hn4 (by decide))
              refine V.iconst (q := 73) dX5_addPassenger_72 (v := 0) rfl rfl ?_
              refine V.iconst (q := 74) dX5_addPassenger_73 (v := 3) rfl rfl ?_
              refine V.cVMP (q := 77) (As := [_, _]) dX5_addPassenger_74 rfl (kM_fails_false) MX5_fails bw_1351 rfl rfl rfl rfl (by decide) rfl (fun v1 τ1 h1 => ?_)
              obtain ⟨rfl, rfl⟩ := h1
              refine V.if_eq (tgt := 82) (q := 80) dX5_addPassenger_77 (by decide) rfl (fun c77 => ?_) (fun c77 => ?_)
              · refine V.aload_n (q := 83) dX5_addPassenger_82 rfl rfl ?_
                refine V.cVMP (q := 86) (As := []) dX5_addPassenger_83 rfl (cM_records hH hM) MX5_records bw_1299 rfl rfl rfl rfl (by decide) rfl (fun v3 τ3 h3 => ?_)
                obtain ⟨rfl, hF3, hH⟩ := h3
                have hM := hF3.RM hM
                have hfr := FrX.z.mc.trans hF3.mc
                have hT := hF3.thr.trans thr_z
                refine V.aload_n (q := 87) dX5_addPassenger_86 rfl rfl ?_
                refine V.iload_n (q := 88) dX5_addPassenger_87 rfl rfl ?_
                refine V.iload_n (q := 89) dX5_addPassenger_88 rfl rfl ?_
                refine V.iload_n (q := 90) dX5_addPassenger_89 rfl rfl ?_
                refine V.cVMP (q := 93) (As := [_, _, _]) dX5_addPassenger_90 rfl (cM_adds (a1 := x) (b1 := y) (t1 := t) hM hn4) MX5_adds bw_1156 rfl rfl rfl rfl (by decide) rfl (fun v4 τ4 h4 => ?_)
                obtain ⟨rfl, hF4, hM⟩ := h4
                refine V.aload_n (q := 94) dX5_addPassenger_93 rfl rfl ?_
                refine V.gM (q := 97) dX5_addPassenger_94 (j := 1) rfl bw_1012 rfl rfl rfl rfl ?_
                refine V.bipush (q := 99) dX5_addPassenger_97 (v := 10) rfl rfl ?_
                refine V.ldMn (q := 100) dX5_addPassenger_99 hM rfl rfl ?_
                refine V.iconst (q := 101) dX5_addPassenger_100 (v := 1) rfl rfl ?_
                refine V.isub (q := 102) dX5_addPassenger_101 rfl ?_
                exact V.iret dX5_addPassenger_102 rfl ⟨_, _, rfl, rfl, rfl, by rw [if_pos (okT gB (okT gC gD)), show un (addu u x y t) = un u + 1 from rfl, nI_pred], MHG.yes (okT gB (okT gC gD)) (hfr.trans hF4.mc) (hF4.Hist hH) hM, by rw [if_pos gB, if_pos gC, if_pos gD]; exact hF4.thr.trans hT⟩
              · exact absurd rfl c77
            · have gD : (decide (nI (un u) < 40)) = false := decide_eq_false (by rw [c65]; decide)
              refine V.iconst (q := 69) dX5_addPassenger_68 (v := 1) rfl rfl ?_
              refine V.goto (tgt := 73) dX5_addPassenger_69 (by decide) ?_
              refine V.iconst (q := 74) dX5_addPassenger_73 (v := 3) rfl rfl ?_
              refine V.cVMP (q := 77) (As := [_, _]) dX5_addPassenger_74 rfl (kM_fails_true) MX5_fails bw_1351 rfl rfl rfl rfl (by decide) rfl (fun v1 τ1 h1 => ?_)
              obtain ⟨rfl, rfl⟩ := h1
              refine V.if_eq (tgt := 82) (q := 80) dX5_addPassenger_77 (by decide) rfl (fun c77 => ?_) (fun c77 => ?_)
              · exact absurd c77 (by decide)
              · refine V.iconst (q := 81) dX5_addPassenger_80 (v := 0) rfl rfl ?_
                exact V.iret dX5_addPassenger_81 rfl ⟨_, _, rfl, rfl, rfl, by rw [okN2 (okN2 gD)]; rfl, MHG.no (okN2 (okN2 gD)) (FrX.z.trans FrX.z).mc hH.z hM.scF, by rw [if_pos gB, if_pos gC, if_neg (by rw [gD]; decide)]; exact thr_z⟩
        · have gC : (apC u x y t) = false := okN2 (bI0.mp c40)
          refine V.iconst (q := 44) dX5_addPassenger_43 (v := 1) rfl rfl ?_
          refine V.goto (tgt := 48) dX5_addPassenger_44 (by decide) ?_
          refine V.iconst (q := 49) dX5_addPassenger_48 (v := 2) rfl rfl ?_
          refine V.cVMP (q := 52) (As := [_, _]) dX5_addPassenger_49 rfl (kM_fails_true) MX5_fails bw_1351 rfl rfl rfl rfl (by decide) rfl (fun v1 τ1 h1 => ?_)
          obtain ⟨rfl, rfl⟩ := h1
          refine V.if_ne (tgt := 80) (q := 55) dX5_addPassenger_52 (by decide) rfl (fun c52 => ?_) (fun c52 => ?_)
          · refine V.iconst (q := 81) dX5_addPassenger_80 (v := 0) rfl rfl ?_
            exact V.iret dX5_addPassenger_81 rfl ⟨_, _, rfl, rfl, rfl, by rw [okN2 (okN1 gC)]; rfl, MHG.no (okN2 (okN1 gC)) (FrX.z.trans FrX.z).mc hH.z hM.scF, by rw [if_pos gB, if_neg (by rw [gC]; decide)]; exact thr_z⟩
          · exact absurd c52 (by decide)
set_option maxHeartbeats 2000000 in
theorem kM_undo {l : Launch} {G : GG} {σ : St} {u : Vw} (hM : RM σ u) {r : Nat} {hv : Nat → Vw} (hH : Hist σ r hv) : CtP l G TX5_undo 1 [.ref (gB G + 94)] σ (fun v τ => v = some (.int (if 0 < r then nI (r - 1) else 0)) ∧ FrMC σ τ ∧ (0 < r → Hist τ (r - 1) hv ∧ RM τ (hv (r - 1))) ∧ (r = 0 → Hist τ r hv ∧ RM τ u) ∧ thr τ = if 0 < r then 0 else 1) := by
  have hn : un u ≤ 40 := hM.1
  refine CtP.ofV (by decide +kernel) rfl rfl (Nat.le_of_ble_eq_true rfl) ?_
  refine V.aload_n (q := 1) dX5_undo_0 rfl rfl ?_
  refine V.iconst (q := 2) dX5_undo_1 (v := 0) rfl rfl ?_
  refine V.pM (q := 5) dX5_undo_2 (j := 0) rfl bw_1011 rfl rfl rfl rfl rfl rfl ?_
  have hM : RM (stF σ 94 0 0) u := hM.scF
  have hH : Hist (stF σ 94 0 0) r hv := hH.z
  obtain ⟨hr, hr8, hall⟩ := hH
  refine V.aload_n (q := 6) dX5_undo_5 rfl rfl ?_
  refine V.aload_n (q := 7) dX5_undo_6 rfl rfl ?_
  refine V.gM (q := 10) dX5_undo_7 (j := 3) rfl bw_1014 rfl rfl rfl rfl ?_
  rw [hr]
  refine V.if_ne (tgt := 17) (q := 13) dX5_undo_10 (by decide) rfl (fun c10 => ?_) (fun c10 => ?_)
  · have h0 : 0 < r := by
      rcases Nat.eq_zero_or_pos r with z | z
      · subst z; exact absurd rfl c10
      · exact z
    refine V.iconst (q := 18) dX5_undo_17 (v := 0) rfl rfl ?_
    refine V.iconst (q := 19) dX5_undo_18 (v := 1) rfl rfl ?_
    refine V.cVMP (q := 22) (As := [_, _]) dX5_undo_19 rfl (kM_fails_false) MX5_fails bw_1351 rfl rfl rfl rfl (by decide) rfl (fun v1 τ1 h1 => ?_)
    obtain ⟨rfl, rfl⟩ := h1
    refine V.if_eq (tgt := 27) (q := 25) dX5_undo_22 (by decide) rfl (fun c22 => ?_) (fun c22 => ?_)
    · refine V.aload_n (q := 28) dX5_undo_27 rfl rfl ?_
      refine V.dup (q := 29) dX5_undo_28 rfl rfl ?_
      refine V.gM (q := 32) dX5_undo_29 (j := 3) rfl bw_1014 rfl rfl rfl rfl ?_
      rw [hr]
      refine V.iconst (q := 33) dX5_undo_32 (v := 1) rfl rfl ?_
      refine V.isub (q := 34) dX5_undo_33 rfl ?_
      rw [show nI r - 1 = nI (r - 1) from pk_sub (b := 1) (by omega)]
      refine V.pM (q := 37) dX5_undo_34 (j := 3) rfl bw_1014 rfl rfl rfl rfl rfl rfl ?_
      refine V.aload_n (q := 38) dX5_undo_37 rfl rfl ?_
      refine V.aload_n (q := 39) dX5_undo_38 rfl rfl ?_
      refine V.gM (q := 42) dX5_undo_39 (j := 3) rfl bw_1014 rfl rfl rfl rfl ?_
      rw [show sF (stF (stF σ 94 0 0) 94 3 (nI (r - 1))) 94 3 = nI (r - 1) from (up2_at : up2 (sF (stF σ 94 0 0)) 94 3 (nI (r - 1)) 94 3 = nI (r - 1))]
      refine V.cVMP (q := 45) (As := [_]) dX5_undo_42 rfl (cM_bringsBack (pl := r - 1) (by omega)) MX5_bringsBack bw_1291 rfl rfl rfl rfl (by decide) rfl (fun v5 τ5 h5 => ?_)
      obtain ⟨rfl, hB⟩ := h5
      refine V.aload_n (q := 46) dX5_undo_45 rfl rfl ?_
      refine V.gM (q := 49) dX5_undo_46 (j := 3) rfl bw_1014 rfl rfl rfl rfl ?_
      rw [show sF τ5 94 3 = nI (r - 1) by rw [hB.1.1]; exact (up2_at : up2 (sF (stF σ 94 0 0)) 94 3 (nI (r - 1)) 94 3 = nI (r - 1))]
      exact V.iret dX5_undo_49 rfl ⟨_, _, rfl, rfl, rfl, by rw [if_pos h0], (FrX.z.mc.trans FrMC.len).trans hB.x.mc, fun _ => ⟨⟨by rw [hB.1.1]; exact (up2_at : up2 (sF (stF σ 94 0 0)) 94 3 (nI (r - 1)) 94 3 = nI (r - 1)), by omega, fun i hi => hB.1.KM (hall i (by omega))⟩, hB.at (hall (r - 1) (by omega))⟩, fun z => by omega, by rw [if_pos h0]; exact hB.1.thr.trans ((up2_in (by decide) : up2 (sF (stF σ 94 0 0)) 94 3 (nI (r - 1)) 94 0 = sF (stF σ 94 0 0) 94 0).trans thr_z)⟩
    · exact absurd rfl c22
  · have h0 : r = 0 := neq (b := 0) c10 (by omega) (by decide)
    refine V.iconst (q := 14) dX5_undo_13 (v := 1) rfl rfl ?_
    refine V.goto (tgt := 18) dX5_undo_14 (by decide) ?_
    refine V.iconst (q := 19) dX5_undo_18 (v := 1) rfl rfl ?_
    refine V.cVMP (q := 22) (As := [_, _]) dX5_undo_19 rfl (kM_fails_true) MX5_fails bw_1351 rfl rfl rfl rfl (by decide) rfl (fun v1 τ1 h1 => ?_)
    obtain ⟨rfl, rfl⟩ := h1
    refine V.if_eq (tgt := 27) (q := 25) dX5_undo_22 (by decide) rfl (fun c22 => ?_) (fun c22 => ?_)
    · exact absurd c22 (by decide)
    · refine V.iconst (q := 26) dX5_undo_25 (v := 0) rfl rfl ?_
      exact V.iret dX5_undo_26 rfl ⟨_, _, rfl, rfl, rfl, by rw [if_neg (by omega)], (FrX.z.trans FrX.z).mc, fun z => by omega, fun _ => ⟨Hist.z ⟨hr, hr8, hall⟩, hM.scF⟩, by rw [if_neg (by omega)]; exact thr_z⟩
