/-! LiftScheduler: what only reads, with loops -/
set_option maxHeartbeats 2000000 in
theorem kL_totalRide {l : Launch} {G : GG} {σ : St} {u : Vw} {qq : Nat → Nat} (hR : RC σ 1 u qq) (hw : ∀ i, i < un u → (if rdI u i < 0 then 0 else rdI u i) = nz (rdI u i)) : CtS l G TX4_totalRide 1 [.ref (gB G + 0)] σ (some (.int (rsum u))) σ := by
  have hn : un u ≤ 40 := hR.1
  refine CtS.ofV (by decide +kernel) rfl rfl (Nat.le_of_ble_eq_true rfl) ?_
  have loop : ∀ (m : Nat) (i : Nat), m = un u - i → i ≤ un u → V l G TX4_totalRide 1 0 0 (RetS G (some (.int (rsum u))) σ) 0 0 4 [some (.ref (gB G + 0)), some (.int (sumI (fun j => nz (rdI u j)) i)), some (.int (nI i))] [] (hof G σ) NC := by
    intro m
    induction m using Nat.strongRecOn with
    | _ m ih =>
      intro i hm hile
      refine V.iload_n (q := 5) dX4_totalRide_4 rfl rfl ?_
      refine V.aload_n (q := 6) dX4_totalRide_5 rfl rfl ?_
      refine V.gL (q := 9) dX4_totalRide_6 (j := 0) rfl bw_168 rfl rfl rfl rfl ?_
      refine V.gSn (q := 12) dX4_totalRide_9 hR rfl bw_66 rfl ?_
      refine V.icmp_ge (tgt := 36) (q := 15) dX4_totalRide_12 (by decide) rfl (fun c12 => ?_) (fun c12 => ?_)
      · have hie : i = un u := Nat.le_antisymm hile (nle c12 (by omega) (by omega))
        refine V.iload_n (q := 37) dX4_totalRide_36 rfl rfl ?_
        exact V.iret dX4_totalRide_37 rfl ⟨by rw [hie]; rfl, rfl, rfl⟩
      · have hlt : i < un u := nnle c12 (by omega) (by omega)
        refine V.iload_n (q := 16) dX4_totalRide_15 rfl rfl ?_
        refine V.aload_n (q := 17) dX4_totalRide_16 rfl rfl ?_
        refine V.gL (q := 20) dX4_totalRide_17 (j := 0) rfl bw_168 rfl rfl rfl rfl ?_
        refine V.iload_n (q := 21) dX4_totalRide_20 rfl rfl ?_
        refine V.cVS (q := 24) dX4_totalRide_21 (As := [_]) rfl (cS_findRide rfl hR (by omega)) MX3_findRide bw_301 rfl rfl rfl rfl (by decide) rfl ?_
        refine V.iconst (q := 25) dX4_totalRide_24 (v := 0) rfl rfl ?_
        refine V.mmax (q := 28) dX4_totalRide_25 bw_305 bw_306 bw_17 bw_307 rfl (by decide) (by decide) (by decide) rfl ?_
        refine V.iadd (q := 29) dX4_totalRide_28 rfl ?_
        refine V.istore_n (q := 30) dX4_totalRide_29 rfl rfl rfl rfl ?_
        refine V.iinc (q := 33) dX4_totalRide_30 rfl (by first | exact nI_inc _ | rfl) rfl rfl rfl ?_
        refine V.goto (tgt := 4) dX4_totalRide_33 (by decide) ?_
        refine V.to (L2 := [some (.ref (gB G + 0)), some (.int (sumI (fun j => nz (rdI u j)) (i + 1))), some (.int (nI (i + 1)))]) ?_ rfl rfl rfl (ih _ (by omega) (i + 1) rfl (by omega))
        rw [hw i hlt]
        rfl
  refine V.iconst (q := 1) dX4_totalRide_0 (v := 0) rfl rfl ?_
  refine V.istore_n (q := 2) dX4_totalRide_1 rfl rfl rfl rfl ?_
  refine V.iconst (q := 3) dX4_totalRide_2 (v := 0) rfl rfl ?_
  refine V.istore_n (q := 4) dX4_totalRide_3 rfl rfl rfl rfl ?_
  exact loop _ 0 rfl (Nat.zero_le _)
set_option maxHeartbeats 2000000 in
theorem kL_longestRide {l : Launch} {G : GG} {σ : St} {u : Vw} {qq : Nat → Nat} (hR : RC σ 1 u qq)  : CtS l G TX4_longestRide 1 [.ref (gB G + 0)] σ (some (.int (rmax u))) σ := by
  have hn : un u ≤ 40 := hR.1
  refine CtS.ofV (by decide +kernel) rfl rfl (Nat.le_of_ble_eq_true rfl) ?_
  have loop : ∀ (m : Nat) (i : Nat), m = un u - i → i ≤ un u → V l G TX4_longestRide 1 0 0 (RetS G (some (.int (rmax u))) σ) 0 0 4 [some (.ref (gB G + 0)), some (.int (maxI (rdI u) i)), some (.int (nI i))] [] (hof G σ) NC := by
    intro m
    induction m using Nat.strongRecOn with
    | _ m ih =>
      intro i hm hile
      refine V.iload_n (q := 5) dX4_longestRide_4 rfl rfl ?_
      refine V.aload_n (q := 6) dX4_longestRide_5 rfl rfl ?_
      refine V.gL (q := 9) dX4_longestRide_6 (j := 0) rfl bw_168 rfl rfl rfl rfl ?_
      refine V.gSn (q := 12) dX4_longestRide_9 hR rfl bw_66 rfl ?_
      refine V.icmp_ge (tgt := 34) (q := 15) dX4_longestRide_12 (by decide) rfl (fun c12 => ?_) (fun c12 => ?_)
      · have hie : i = un u := Nat.le_antisymm hile (nle c12 (by omega) (by omega))
        refine V.iload_n (q := 35) dX4_longestRide_34 rfl rfl ?_
        exact V.iret dX4_longestRide_35 rfl ⟨by rw [hie]; rfl, rfl, rfl⟩
      · have hlt : i < un u := nnle c12 (by omega) (by omega)
        refine V.iload_n (q := 16) dX4_longestRide_15 rfl rfl ?_
        refine V.aload_n (q := 17) dX4_longestRide_16 rfl rfl ?_
        refine V.gL (q := 20) dX4_longestRide_17 (j := 0) rfl bw_168 rfl rfl rfl rfl ?_
        refine V.iload_n (q := 21) dX4_longestRide_20 rfl rfl ?_
        refine V.cVS (q := 24) dX4_longestRide_21 (As := [_]) rfl (cS_findRide rfl hR (by omega)) MX3_findRide bw_301 rfl rfl rfl rfl (by decide) rfl ?_
        refine V.mmax (q := 27) dX4_longestRide_24 bw_305 bw_306 bw_17 bw_307 rfl (by decide) (by decide) (by decide) rfl ?_
        refine V.istore_n (q := 28) dX4_longestRide_27 rfl rfl rfl rfl ?_
        refine V.iinc (q := 31) dX4_longestRide_28 rfl (by first | exact nI_inc _ | rfl) rfl rfl rfl ?_
        refine V.goto (tgt := 4) dX4_longestRide_31 (by decide) ?_
        refine V.to (L2 := [some (.ref (gB G + 0)), some (.int (maxI (rdI u) (i + 1))), some (.int (nI (i + 1)))]) ?_ rfl rfl rfl (ih _ (by omega) (i + 1) rfl (by omega))
        skip
        rfl
  refine V.iconst (q := 1) dX4_longestRide_0 (v := 0) rfl rfl ?_
  refine V.istore_n (q := 2) dX4_longestRide_1 rfl rfl rfl rfl ?_
  refine V.iconst (q := 3) dX4_longestRide_2 (v := 0) rfl rfl ?_
  refine V.istore_n (q := 4) dX4_longestRide_3 rfl rfl rfl rfl ?_
  exact loop _ 0 rfl (Nat.zero_le _)
set_option maxHeartbeats 2000000 in
theorem kL_nextArrival {l : Launch} {G : GG} {σ : St} {u : Vw} {qq : Nat → Nat} (hR : RC σ 1 u qq)  : CtS l G TX4_nextArrival 0 [.ref (gB G + 0)] σ (some (.int (nxI u (un u)))) σ := by
  have hn : un u ≤ 40 := hR.1
  refine CtS.ofV (by decide +kernel) rfl rfl (Nat.le_of_ble_eq_true rfl) ?_
  have loop : ∀ (m : Nat) (i : Nat) (L3 : Option Value), m = un u - i → i ≤ un u → V l G TX4_nextArrival 0 0 0 (RetS G (some (.int (nxI u (un u)))) σ) 0 0 4 [some (.ref (gB G + 0)), some (.int (nxI u i)), some (.int (nI i)), L3] [] (hof G σ) NC := by
    intro m
    induction m using Nat.strongRecOn with
    | _ m ih =>
      intro i L3 hm hile
      refine V.iload_n (q := 5) dX4_nextArrival_4 rfl rfl ?_
      refine V.aload_n (q := 6) dX4_nextArrival_5 rfl rfl ?_
      refine V.gL (q := 9) dX4_nextArrival_6 (j := 0) rfl bw_168 rfl rfl rfl rfl ?_
      refine V.gSn (q := 12) dX4_nextArrival_9 hR rfl bw_66 rfl ?_
      refine V.icmp_ge (tgt := 54) (q := 15) dX4_nextArrival_12 (by decide) rfl (fun c12 => ?_) (fun c12 => ?_)
      · have hie : i = un u := Nat.le_antisymm hile (nle c12 (by omega) (by omega))
        refine V.iload_n (q := 55) dX4_nextArrival_54 rfl rfl ?_
        exact V.iret dX4_nextArrival_55 rfl ⟨by rw [hie], rfl, rfl⟩
      · have hlt : i < un u := nnle c12 (by omega) (by omega)
        refine V.aload_n (q := 16) dX4_nextArrival_15 rfl rfl ?_
        refine V.gL (q := 19) dX4_nextArrival_16 (j := 0) rfl bw_168 rfl rfl rfl rfl ?_
        refine V.gS (q := 22) dX4_nextArrival_19 (j := 15) rfl bw_79 rfl rfl rfl rfl ?_
        refine V.iload_n (q := 23) dX4_nextArrival_22 rfl rfl ?_
        refine V.ldSu (q := 24) 2 dX4_nextArrival_23 hR rfl rfl rfl (by omega) rfl ?_
        refine V.istore_n (q := 25) dX4_nextArrival_24 rfl rfl rfl rfl ?_
        refine V.iload_n (q := 26) dX4_nextArrival_25 rfl rfl ?_
        refine V.aload_n (q := 27) dX4_nextArrival_26 rfl rfl ?_
        refine V.gL (q := 30) dX4_nextArrival_27 (j := 0) rfl bw_168 rfl rfl rfl rfl ?_
        refine V.gSu (q := 33) 3 dX4_nextArrival_30 hR rfl bw_48 rfl rfl ?_
        refine V.icmp_le (tgt := 48) (q := 36) dX4_nextArrival_33 (by decide) rfl (fun c33 => ?_) (fun c33 => ?_)
        · refine V.iinc (q := 51) dX4_nextArrival_48 rfl (by first | exact nI_inc _ | rfl) rfl rfl rfl ?_
          refine V.goto (tgt := 4) dX4_nextArrival_51 (by decide) ?_
          refine V.to (L2 := [some (.ref (gB G + 0)), some (.int (nxI u (i + 1))), some (.int (nI (i + 1))), some (.int (ur u 2 i))]) ?_ rfl rfl rfl (ih _ (by omega) (i + 1) _ rfl (by omega))
          simp only [nxI]
          rw [if_neg (fun z => absurd z.1 (Int32.not_lt.mpr c33))]
          rfl
        · refine V.iload_n (q := 37) dX4_nextArrival_36 rfl rfl ?_
          refine V.iconst (q := 38) dX4_nextArrival_37 (v := -1) rfl rfl ?_
          refine V.icmp_eq (tgt := 46) (q := 41) dX4_nextArrival_38 (by decide) rfl (fun c38 => ?_) (fun c38 => ?_)
          · refine V.iload_n (q := 47) dX4_nextArrival_46 rfl rfl ?_
            refine V.istore_n (q := 48) dX4_nextArrival_47 rfl rfl rfl rfl ?_
            refine V.iinc (q := 51) dX4_nextArrival_48 rfl (by first | exact nI_inc _ | rfl) rfl rfl rfl ?_
            refine V.goto (tgt := 4) dX4_nextArrival_51 (by decide) ?_
            refine V.to (L2 := [some (.ref (gB G + 0)), some (.int (nxI u (i + 1))), some (.int (nI (i + 1))), some (.int (ur u 2 i))]) ?_ rfl rfl rfl (ih _ (by omega) (i + 1) _ rfl (by omega))
            simp only [nxI]
            rw [if_pos ⟨Int32.not_le.mp c33, Or.inl c38⟩]
            rfl
          · refine V.iload_n (q := 42) dX4_nextArrival_41 rfl rfl ?_
            refine V.iload_n (q := 43) dX4_nextArrival_42 rfl rfl ?_
            refine V.icmp_ge (tgt := 48) (q := 46) dX4_nextArrival_43 (by decide) rfl (fun c43 => ?_) (fun c43 => ?_)
            · refine V.iinc (q := 51) dX4_nextArrival_48 rfl (by first | exact nI_inc _ | rfl) rfl rfl rfl ?_
              refine V.goto (tgt := 4) dX4_nextArrival_51 (by decide) ?_
              refine V.to (L2 := [some (.ref (gB G + 0)), some (.int (nxI u (i + 1))), some (.int (nI (i + 1))), some (.int (ur u 2 i))]) ?_ rfl rfl rfl (ih _ (by omega) (i + 1) _ rfl (by omega))
              simp only [nxI]
              rw [if_neg (fun z => z.2.elim c38 (fun y => absurd y (Int32.not_lt.mpr c43)))]
              rfl
            · refine V.iload_n (q := 47) dX4_nextArrival_46 rfl rfl ?_
              refine V.istore_n (q := 48) dX4_nextArrival_47 rfl rfl rfl rfl ?_
              refine V.iinc (q := 51) dX4_nextArrival_48 rfl (by first | exact nI_inc _ | rfl) rfl rfl rfl ?_
              refine V.goto (tgt := 4) dX4_nextArrival_51 (by decide) ?_
              refine V.to (L2 := [some (.ref (gB G + 0)), some (.int (nxI u (i + 1))), some (.int (nI (i + 1))), some (.int (ur u 2 i))]) ?_ rfl rfl rfl (ih _ (by omega) (i + 1) _ rfl (by omega))
              simp only [nxI]
              rw [if_pos ⟨Int32.not_le.mp c33, Or.inr (Int32.not_le.mp c43)⟩]
              rfl
  refine V.iconst (q := 1) dX4_nextArrival_0 (v := -1) rfl rfl ?_
  refine V.istore_n (q := 2) dX4_nextArrival_1 rfl rfl rfl rfl ?_
  refine V.iconst (q := 3) dX4_nextArrival_2 (v := 0) rfl rfl ?_
  refine V.istore_n (q := 4) dX4_nextArrival_3 rfl rfl rfl rfl ?_
  exact loop _ 0 _ rfl (Nat.zero_le _)
set_option maxHeartbeats 2000000 in
theorem kL_lastDone {l : Launch} {G : GG} {σ : St} {u : Vw} {qq : Nat → Nat} (hR : RC σ 1 u qq) (h4 : ∀ i, i < un u → ur u 4 i = -1 ∨ 0 ≤ ur u 4 i) : CtS l G TX4_lastDone 0 [.ref (gB G + 0)] σ (some (.int (oI (ldN u (un u))))) σ := by
  have hn : un u ≤ 40 := hR.1
  refine CtS.ofV (by decide +kernel) rfl rfl (Nat.le_of_ble_eq_true rfl) ?_
  have loop : ∀ (m : Nat) (i : Nat), m = un u - i → i ≤ un u → V l G TX4_lastDone 0 0 0 (RetS G (some (.int (oI (ldN u (un u))))) σ) 0 0 6 [some (.ref (gB G + 0)), some (.int (oI (ldN u i))), some (.int (ldL u (ldN u i))), some (.int (nI i))] [] (hof G σ) NC := by
    intro m
    induction m using Nat.strongRecOn with
    | _ m ih =>
      intro i hm hile
      refine V.iload_n (q := 7) dX4_lastDone_6 rfl rfl ?_
      refine V.aload_n (q := 8) dX4_lastDone_7 rfl rfl ?_
      refine V.gL (q := 11) dX4_lastDone_8 (j := 0) rfl bw_168 rfl rfl rfl rfl ?_
      refine V.gSn (q := 14) dX4_lastDone_11 hR rfl bw_66 rfl ?_
      refine V.icmp_ge (tgt := 48) (q := 17) dX4_lastDone_14 (by decide) rfl (fun c14 => ?_) (fun c14 => ?_)
      · have hie : i = un u := Nat.le_antisymm hile (nle c14 (by omega) (by omega))
        refine V.iload_n (q := 49) dX4_lastDone_48 rfl rfl ?_
        exact V.iret dX4_lastDone_49 rfl ⟨by rw [hie], rfl, rfl⟩
      · have hlt : i < un u := nnle c14 (by omega) (by omega)
        refine V.aload_n (q := 18) dX4_lastDone_17 rfl rfl ?_
        refine V.gL (q := 21) dX4_lastDone_18 (j := 0) rfl bw_168 rfl rfl rfl rfl ?_
        refine V.gS (q := 24) dX4_lastDone_21 (j := 17) rfl bw_83 rfl rfl rfl rfl ?_
        refine V.iload_n (q := 25) dX4_lastDone_24 rfl rfl ?_
        refine V.ldSu (q := 26) 4 dX4_lastDone_25 hR rfl rfl rfl (by omega) rfl ?_
        refine V.iload_n (q := 27) dX4_lastDone_26 rfl rfl ?_
        refine V.icmp_le (tgt := 42) (q := 30) dX4_lastDone_27 (by decide) rfl (fun c27 => ?_) (fun c27 => ?_)
        · refine V.iinc (q := 45) dX4_lastDone_42 rfl (by first | exact nI_inc _ | rfl) rfl rfl rfl ?_
          refine V.goto (tgt := 6) dX4_lastDone_45 (by decide) ?_
          refine V.to (L2 := [some (.ref (gB G + 0)), some (.int (oI (ldN u (i + 1)))), some (.int (ldL u (ldN u (i + 1)))), some (.int (nI (i + 1)))]) ?_ rfl rfl rfl (ih _ (by omega) (i + 1) rfl (by omega))
          rw [ldN_step (fun j hj => h4 j (by omega)), if_neg (Int32.not_lt.mpr c27)]
          rfl
        · refine V.aload_n (q := 31) dX4_lastDone_30 rfl rfl ?_
          refine V.gL (q := 34) dX4_lastDone_31 (j := 0) rfl bw_168 rfl rfl rfl rfl ?_
          refine V.gS (q := 37) dX4_lastDone_34 (j := 17) rfl bw_83 rfl rfl rfl rfl ?_
          refine V.iload_n (q := 38) dX4_lastDone_37 rfl rfl ?_
          refine V.ldSu (q := 39) 4 dX4_lastDone_38 hR rfl rfl rfl (by omega) rfl ?_
          refine V.istore_n (q := 40) dX4_lastDone_39 rfl rfl rfl rfl ?_
          refine V.iload_n (q := 41) dX4_lastDone_40 rfl rfl ?_
          refine V.istore_n (q := 42) dX4_lastDone_41 rfl rfl rfl rfl ?_
          refine V.iinc (q := 45) dX4_lastDone_42 rfl (by first | exact nI_inc _ | rfl) rfl rfl rfl ?_
          refine V.goto (tgt := 6) dX4_lastDone_45 (by decide) ?_
          refine V.to (L2 := [some (.ref (gB G + 0)), some (.int (oI (ldN u (i + 1)))), some (.int (ldL u (ldN u (i + 1)))), some (.int (nI (i + 1)))]) ?_ rfl rfl rfl (ih _ (by omega) (i + 1) rfl (by omega))
          rw [ldN_step (fun j hj => h4 j (by omega)), if_pos (Int32.not_le.mp c27)]
          rfl
  refine V.iconst (q := 1) dX4_lastDone_0 (v := -1) rfl rfl ?_
  refine V.istore_n (q := 2) dX4_lastDone_1 rfl rfl rfl rfl ?_
  refine V.iconst (q := 3) dX4_lastDone_2 (v := -1) rfl rfl ?_
  refine V.istore_n (q := 4) dX4_lastDone_3 rfl rfl rfl rfl ?_
  refine V.iconst (q := 5) dX4_lastDone_4 (v := 0) rfl rfl ?_
  refine V.istore_n (q := 6) dX4_lastDone_5 rfl rfl rfl rfl ?_
  exact loop _ 0 rfl (Nat.zero_le _)
theorem boC_le (u : Vw) : ∀ k, (boC u k).2 ≤ un u
  | 0 => Nat.zero_le _
  | k + 1 => by
    have h1 := boC_le u k
    have h2 : stN u (nI k) ≤ un u := cnt_le _ _
    simp only [boC]
    split
    · exact h2
    · exact h1
set_option maxHeartbeats 2000000 in
theorem kL_busiestOrigin {l : Launch} {G : GG} {σ : St} {u : Vw} {qq : Nat → Nat} (hR : RC σ 1 u qq) (hI : Iu u) : CtS l G TX4_busiestOrigin 0 [.ref (gB G + 0)] σ (some (.int (oI (boC u (uN u)).1))) σ := by
  have hn : un u ≤ 40 := hR.1
  obtain ⟨hF, hN, hFN, h20, -⟩ := hI.F
  refine CtS.ofV (by decide +kernel) rfl rfl (Nat.le_of_ble_eq_true rfl) ?_
  have loop : ∀ (m : Nat) (k : Nat) (L4 L5 : Option Value), m = uN u - k → k ≤ uN u → V l G TX4_busiestOrigin 0 0 0 (RetS G (some (.int (oI (boC u (uN u)).1))) σ) 0 0 6 ([some (.ref (gB G + 0)), some (.int (oI (boC u k).1)), some (.int (nI (boC u k).2)), some (.int (nI k)), L4, L5]) [] (hof G σ) NC := by
    intro m
    induction m using Nat.strongRecOn with
    | _ m ih =>
      intro k L4 L5 hm hk
      have hbk := boC_le u k
      have hst := cnt_le (fun j => ur u 0 j == nI k) (un u)
      have hst2 : stN u (nI k) ≤ un u := hst
      refine V.iload_n (q := 7) dX4_busiestOrigin_6 rfl rfl ?_
      refine V.aload_n (q := 8) dX4_busiestOrigin_7 rfl rfl ?_
      refine V.gL (q := 11) dX4_busiestOrigin_8 (j := 0) rfl bw_168 rfl rfl rfl rfl ?_
      refine V.gSu (q := 14) 0 dX4_busiestOrigin_11 hR rfl bw_39 rfl rfl ?_
      refine V.icmp_ge (tgt := 75) (q := 17) dX4_busiestOrigin_14 (by decide) rfl (fun c14 => ?_) (fun c14 => ?_)
      · have hke : k = uN u := Nat.le_antisymm hk (nle (by rw [hN] at c14; exact c14) (by omega) (by omega))
        refine V.iload_n (q := 76) dX4_busiestOrigin_75 rfl rfl ?_
        exact V.iret dX4_busiestOrigin_76 rfl ⟨by rw [hke], rfl, rfl⟩
      · have hkl : k < uN u := nnle (a := uN u) (b := k) (by rw [hN] at c14; exact c14) (by omega) (by omega)
        refine V.iconst (q := 18) dX4_busiestOrigin_17 (v := 0) rfl rfl ?_
        refine V.istore (q := 20) dX4_busiestOrigin_18 rfl rfl rfl ?_
        refine V.iconst (q := 21) dX4_busiestOrigin_20 (v := 0) rfl rfl ?_
        refine V.istore (q := 23) dX4_busiestOrigin_21 rfl rfl rfl ?_
        have loop2 : ∀ (m2 : Nat) (i : Nat), m2 = un u - i → i ≤ un u → V l G TX4_busiestOrigin 0 0 0 (RetS G (some (.int (oI (boC u (uN u)).1))) σ) 0 0 23 ([some (.ref (gB G + 0)), some (.int (oI (boC u k).1)), some (.int (nI (boC u k).2)), some (.int (nI k)), some (.int (nI (cnt (fun j => ur u 0 j == nI k) i))), some (.int (nI i))]) [] (hof G σ) NC := by
          intro m2
          induction m2 using Nat.strongRecOn with
          | _ m2 ih2 =>
            intro i hm2 hile
            have hcl := cnt_le (fun j => ur u 0 j == nI k) i
            refine V.iload (q := 25) dX4_busiestOrigin_23 rfl rfl ?_
            refine V.aload_n (q := 26) dX4_busiestOrigin_25 rfl rfl ?_
            refine V.gL (q := 29) dX4_busiestOrigin_26 (j := 0) rfl bw_168 rfl rfl rfl rfl ?_
            refine V.gSn (q := 32) dX4_busiestOrigin_29 hR rfl bw_66 rfl ?_
            refine V.icmp_ge (tgt := 58) (q := 35) dX4_busiestOrigin_32 (by decide) rfl (fun c32 => ?_) (fun c32 => ?_)
            · have hie : i = un u := Nat.le_antisymm hile (nle c32 (by omega) (by omega))
              refine V.iload (q := 60) dX4_busiestOrigin_58 rfl rfl ?_
              refine V.iload_n (q := 61) dX4_busiestOrigin_60 rfl rfl ?_
              refine V.icmp_le (tgt := 69) (q := 64) dX4_busiestOrigin_61 (by decide) rfl (fun c61 => ?_) (fun c61 => ?_)
              · refine V.iinc (q := 72) dX4_busiestOrigin_69 rfl (by first | exact nI_inc _ | rfl) rfl rfl rfl ?_
                refine V.goto (tgt := 6) dX4_busiestOrigin_72 (by decide) ?_
                refine V.to (L2 := [some (.ref (gB G + 0)), some (.int (oI (boC u (k + 1)).1)), some (.int (nI (boC u (k + 1)).2)), some (.int (nI (k + 1))), some (.int (nI (cnt (fun j => ur u 0 j == nI k) i))), some (.int (nI i))]) ?_ rfl rfl rfl (ih _ (by omega) (k + 1) _ _ rfl (by omega))
                rw [show boC u (k + 1) = boC u k from if_neg (fun z => absurd (nle (by rw [hie] at c61; exact c61) (by omega) (by omega)) (Nat.not_le.mpr z))]
                rfl
              · refine V.iload (q := 66) dX4_busiestOrigin_64 rfl rfl ?_
                refine V.istore_n (q := 67) dX4_busiestOrigin_66 rfl rfl rfl rfl ?_
                refine V.iload_n (q := 68) dX4_busiestOrigin_67 rfl rfl ?_
                refine V.istore_n (q := 69) dX4_busiestOrigin_68 rfl rfl rfl rfl ?_
                refine V.iinc (q := 72) dX4_busiestOrigin_69 rfl (by first | exact nI_inc _ | rfl) rfl rfl rfl ?_
                refine V.goto (tgt := 6) dX4_busiestOrigin_72 (by decide) ?_
                refine V.to (L2 := [some (.ref (gB G + 0)), some (.int (oI (boC u (k + 1)).1)), some (.int (nI (boC u (k + 1)).2)), some (.int (nI (k + 1))), some (.int (nI (cnt (fun j => ur u 0 j == nI k) i))), some (.int (nI i))]) ?_ rfl rfl rfl (ih _ (by omega) (k + 1) _ _ rfl (by omega))
                rw [show boC u (k + 1) = (some k, stN u (nI k)) from if_pos (nnle (a := stN u (nI k)) (b := (boC u k).2) (by rw [hie] at c61; exact c61) (by omega) (by omega)), hie]
                rfl
            · have hlt : i < un u := nnle c32 (by omega) (by omega)
              refine V.aload_n (q := 36) dX4_busiestOrigin_35 rfl rfl ?_
              refine V.gL (q := 39) dX4_busiestOrigin_36 (j := 0) rfl bw_168 rfl rfl rfl rfl ?_
              refine V.gS (q := 42) dX4_busiestOrigin_39 (j := 13) rfl bw_75 rfl rfl rfl rfl ?_
              refine V.iload (q := 44) dX4_busiestOrigin_42 rfl rfl ?_
              refine V.ldSu (q := 45) 0 dX4_busiestOrigin_44 hR rfl rfl rfl (by omega) rfl ?_
              refine V.iload_n (q := 46) dX4_busiestOrigin_45 rfl rfl ?_
              refine V.icmp_ne (tgt := 52) (q := 49) dX4_busiestOrigin_46 (by decide) rfl (fun c46 => ?_) (fun c46 => ?_)
              · refine V.iinc (q := 55) dX4_busiestOrigin_52 rfl (by first | exact nI_inc _ | rfl) rfl rfl rfl ?_
                refine V.goto (tgt := 23) dX4_busiestOrigin_55 (by decide) ?_
                refine V.to (L2 := [some (.ref (gB G + 0)), some (.int (oI (boC u k).1)), some (.int (nI (boC u k).2)), some (.int (nI k)), some (.int (nI (cnt (fun j => ur u 0 j == nI k) (i + 1)))), some (.int (nI (i + 1)))]) ?_ rfl rfl rfl (ih2 _ (by omega) (i + 1) rfl (by omega))
                rw [show cnt (fun j => ur u 0 j == nI k) (i + 1) = cnt (fun j => ur u 0 j == nI k) i by simp [cnt, c46]]
                rfl
              · refine V.iinc (q := 52) dX4_busiestOrigin_49 rfl (by first | exact nI_inc _ | rfl) rfl rfl rfl ?_
                refine V.iinc (q := 55) dX4_busiestOrigin_52 rfl (by first | exact nI_inc _ | rfl) rfl rfl rfl ?_
                refine V.goto (tgt := 23) dX4_busiestOrigin_55 (by decide) ?_
                refine V.to (L2 := [some (.ref (gB G + 0)), some (.int (oI (boC u k).1)), some (.int (nI (boC u k).2)), some (.int (nI k)), some (.int (nI (cnt (fun j => ur u 0 j == nI k) (i + 1)))), some (.int (nI (i + 1)))]) ?_ rfl rfl rfl (ih2 _ (by omega) (i + 1) rfl (by omega))
                rw [show cnt (fun j => ur u 0 j == nI k) (i + 1) = cnt (fun j => ur u 0 j == nI k) i + 1 by simp [cnt, c46]]
                rfl
        exact loop2 _ 0 rfl (Nat.zero_le _)
  refine V.iconst (q := 1) dX4_busiestOrigin_0 (v := -1) rfl rfl ?_
  refine V.istore_n (q := 2) dX4_busiestOrigin_1 rfl rfl rfl rfl ?_
  refine V.iconst (q := 3) dX4_busiestOrigin_2 (v := 0) rfl rfl ?_
  refine V.istore_n (q := 4) dX4_busiestOrigin_3 rfl rfl rfl rfl ?_
  refine V.iconst (q := 5) dX4_busiestOrigin_4 (v := 0) rfl rfl ?_
  refine V.istore_n (q := 6) dX4_busiestOrigin_5 rfl rfl rfl rfl ?_
  exact loop _ 0 _ _ rfl (Nat.zero_le _)
set_option maxHeartbeats 2000000 in
theorem kL_ridingTo {l : Launch} {G : GG} {σ : St} {u : Vw} {qq : Nat → Nat} (hR : RC σ 1 u qq) {x : Int32} : CtX l G TX4_ridingTo 7 1 6 [.ref (gB G + 0), .int x] σ (fun a τ => τ = σ ∧ a = ansA (okF u x) "java/lang/IndexOutOfBoundsException" (.int (nI (cnt (fun j => (ur u 1 j == x) && (stat u j == 2)) (un u))))) := by
  have hn : un u ≤ 40 := hR.1
  refine CtX.ofV (by decide +kernel) rfl rfl (Nat.le_of_ble_eq_true rfl) ?_
  have loop : ∀ (m : Nat) (i : Nat), m = un u - i → i ≤ un u → okF u x = true → V l G TX4_ridingTo 7 1 6 (RetX G (fun a τ => τ = σ ∧ a = ansA (okF u x) "java/lang/IndexOutOfBoundsException" (.int (nI (cnt (fun j => (ur u 1 j == x) && (stat u j == 2)) (un u)))))) 1 6 9 [some (.ref (gB G + 0)), some (.int x), some (.int (nI (cnt (fun j => (ur u 1 j == x) && (stat u j == 2)) i))), some (.int (nI i))] [] (hof G σ) NC := by
    intro m
    induction m using Nat.strongRecOn with
    | _ m ih =>
      intro i hm hile g
      refine V.iload_n (q := 10) dX4_ridingTo_9 rfl rfl ?_
      refine V.aload_n (q := 11) dX4_ridingTo_10 rfl rfl ?_
      refine V.gL (q := 14) dX4_ridingTo_11 (j := 0) rfl bw_168 rfl rfl rfl rfl ?_
      refine V.gSn (q := 17) dX4_ridingTo_14 hR rfl bw_66 rfl ?_
      refine V.icmp_ge (tgt := 54) (q := 20) dX4_ridingTo_17 (by decide) rfl (fun c17 => ?_) (fun c17 => ?_)
      · have hie : i = un u := Nat.le_antisymm hile (nle c17 (by omega) (by omega))
        refine V.iload_n (q := 55) dX4_ridingTo_54 rfl rfl ?_
        exact V.iret dX4_ridingTo_55 rfl ⟨_, rfl, rfl, rfl, ansA_t g (by rw [hie])⟩
      · have hlt : i < un u := nnle c17 (by omega) (by omega)
        refine V.aload_n (q := 21) dX4_ridingTo_20 rfl rfl ?_
        refine V.gL (q := 24) dX4_ridingTo_21 (j := 0) rfl bw_168 rfl rfl rfl rfl ?_
        refine V.gS (q := 27) dX4_ridingTo_24 (j := 14) rfl bw_77 rfl rfl rfl rfl ?_
        refine V.iload_n (q := 28) dX4_ridingTo_27 rfl rfl ?_
        refine V.ldSu (q := 29) 1 dX4_ridingTo_28 hR rfl rfl rfl (by omega) rfl ?_
        refine V.iload_n (q := 30) dX4_ridingTo_29 rfl rfl ?_
        refine V.icmp_ne (tgt := 48) (q := 33) dX4_ridingTo_30 (by decide) rfl (fun c30 => ?_) (fun c30 => ?_)
        · refine V.iinc (q := 51) dX4_ridingTo_48 rfl (by first | exact nI_inc _ | rfl) rfl rfl rfl ?_
          refine V.goto (tgt := 9) dX4_ridingTo_51 (by decide) ?_
          refine V.to (L2 := [some (.ref (gB G + 0)), some (.int x), some (.int (nI (cnt (fun j => (ur u 1 j == x) && (stat u j == 2)) (i + 1)))), some (.int (nI (i + 1)))]) ?_ rfl rfl rfl (ih _ (by omega) (i + 1) rfl (by omega) g)
          rw [show cnt (fun j => (ur u 1 j == x) && (stat u j == 2)) (i + 1) = cnt (fun j => (ur u 1 j == x) && (stat u j == 2)) i by simp [cnt, c30]]
          rfl
        · refine V.aload_n (q := 34) dX4_ridingTo_33 rfl rfl ?_
          refine V.gL (q := 37) dX4_ridingTo_34 (j := 0) rfl bw_168 rfl rfl rfl rfl ?_
          refine V.iload_n (q := 38) dX4_ridingTo_37 rfl rfl ?_
          refine V.cVS (q := 41) dX4_ridingTo_38 (As := [_]) rfl (cS_findStatus rfl hR (by omega)) MX3_findStatus bw_431 rfl rfl rfl rfl (by decide) rfl ?_
          refine V.iconst (q := 42) dX4_ridingTo_41 (v := 2) rfl rfl ?_
          refine V.icmp_ne (tgt := 48) (q := 45) dX4_ridingTo_42 (by decide) rfl (fun c42 => ?_) (fun c42 => ?_)
          · refine V.iinc (q := 51) dX4_ridingTo_48 rfl (by first | exact nI_inc _ | rfl) rfl rfl rfl ?_
            refine V.goto (tgt := 9) dX4_ridingTo_51 (by decide) ?_
            refine V.to (L2 := [some (.ref (gB G + 0)), some (.int x), some (.int (nI (cnt (fun j => (ur u 1 j == x) && (stat u j == 2)) (i + 1)))), some (.int (nI (i + 1)))]) ?_ rfl rfl rfl (ih _ (by omega) (i + 1) rfl (by omega) g)
            rw [show cnt (fun j => (ur u 1 j == x) && (stat u j == 2)) (i + 1) = cnt (fun j => (ur u 1 j == x) && (stat u j == 2)) i by simp [cnt, c42]]
            rfl
          · refine V.iinc (q := 48) dX4_ridingTo_45 rfl (by first | exact nI_inc _ | rfl) rfl rfl rfl ?_
            refine V.iinc (q := 51) dX4_ridingTo_48 rfl (by first | exact nI_inc _ | rfl) rfl rfl rfl ?_
            refine V.goto (tgt := 9) dX4_ridingTo_51 (by decide) ?_
            refine V.to (L2 := [some (.ref (gB G + 0)), some (.int x), some (.int (nI (cnt (fun j => (ur u 1 j == x) && (stat u j == 2)) (i + 1)))), some (.int (nI (i + 1)))]) ?_ rfl rfl rfl (ih _ (by omega) (i + 1) rfl (by omega) g)
            rw [show cnt (fun j => (ur u 1 j == x) && (stat u j == 2)) (i + 1) = cnt (fun j => (ur u 1 j == x) && (stat u j == 2)) i + 1 by simp [cnt, c30, c42]]
            rfl
  refine V.aload_n (q := 1) dX4_ridingTo_0 rfl rfl ?_
  refine V.iload_n (q := 2) dX4_ridingTo_1 rfl rfl ?_
  refine V.cVLX (q := 5) (As := [_]) dX4_ridingTo_2 rfl (kL_reqF hR) MX4_requireFloor bw_859 rfl rfl rfl rfl (by decide) rfl (by decide) (by decide) (fun v9 τ9 h9 => ?_) (fun E9 τ9 h9 => ?_)
  · obtain ⟨rfl, h9⟩ := h9
    obtain ⟨g, rfl⟩ := reqA_inl h9
    refine V.iconst (q := 6) dX4_ridingTo_5 (v := 0) rfl rfl ?_
    refine V.istore_n (q := 7) dX4_ridingTo_6 rfl rfl rfl rfl ?_
    refine V.iconst (q := 8) dX4_ridingTo_7 (v := 0) rfl rfl ?_
    refine V.istore_n (q := 9) dX4_ridingTo_8 rfl rfl rfl rfl ?_
    exact loop _ 0 rfl (Nat.zero_le _) g
  · obtain ⟨rfl, h9⟩ := h9
    obtain ⟨g, rfl⟩ := reqA_inr h9
    exact VX.out rfl (by decide) (by decide) ⟨_, rfl, rfl, ⟨rfl, ansA_f g⟩⟩
set_option maxHeartbeats 2000000 in
theorem kL_passengersBetween {l : Launch} {G : GG} {σ : St} {u : Vw} {qq : Nat → Nat} (hR : RC σ 1 u qq) {x y : Int32} : CtX l G TX4_passengersBetween 7 2 12 [.ref (gB G + 0), .int x, .int y] σ (fun a τ => τ = σ ∧ a = ansA (okF u x && okF u y) "java/lang/IndexOutOfBoundsException" (.int (nI (cnt (fun j => (ur u 0 j == x) && (ur u 1 j == y)) (un u))))) := by
  have hn : un u ≤ 40 := hR.1
  refine CtX.ofV (by decide +kernel) rfl rfl (Nat.le_of_ble_eq_true rfl) ?_
  have loop : ∀ (m : Nat) (i : Nat), m = un u - i → i ≤ un u → (okF u x && okF u y) = true → V l G TX4_passengersBetween 7 2 12 (RetX G (fun a τ => τ = σ ∧ a = ansA (okF u x && okF u y) "java/lang/IndexOutOfBoundsException" (.int (nI (cnt (fun j => (ur u 0 j == x) && (ur u 1 j == y)) (un u)))))) 2 12 15 [some (.ref (gB G + 0)), some (.int x), some (.int y), some (.int (nI (cnt (fun j => (ur u 0 j == x) && (ur u 1 j == y)) i))), some (.int (nI i))] [] (hof G σ) NC := by
    intro m
    induction m using Nat.strongRecOn with
    | _ m ih =>
      intro i hm hile g
      refine V.iload (q := 17) dX4_passengersBetween_15 rfl rfl ?_
      refine V.aload_n (q := 18) dX4_passengersBetween_17 rfl rfl ?_
      refine V.gL (q := 21) dX4_passengersBetween_18 (j := 0) rfl bw_168 rfl rfl rfl rfl ?_
      refine V.gSn (q := 24) dX4_passengersBetween_21 hR rfl bw_66 rfl ?_
      refine V.icmp_ge (tgt := 64) (q := 27) dX4_passengersBetween_24 (by decide) rfl (fun c24 => ?_) (fun c24 => ?_)
      · have hie : i = un u := Nat.le_antisymm hile (nle c24 (by omega) (by omega))
        refine V.iload_n (q := 65) dX4_passengersBetween_64 rfl rfl ?_
        exact V.iret dX4_passengersBetween_65 rfl ⟨_, rfl, rfl, rfl, ansA_t g (by rw [hie])⟩
      · have hlt : i < un u := nnle c24 (by omega) (by omega)
        refine V.aload_n (q := 28) dX4_passengersBetween_27 rfl rfl ?_
        refine V.gL (q := 31) dX4_passengersBetween_28 (j := 0) rfl bw_168 rfl rfl rfl rfl ?_
        refine V.gS (q := 34) dX4_passengersBetween_31 (j := 13) rfl bw_75 rfl rfl rfl rfl ?_
        refine V.iload (q := 36) dX4_passengersBetween_34 rfl rfl ?_
        refine V.ldSu (q := 37) 0 dX4_passengersBetween_36 hR rfl rfl rfl (by omega) rfl ?_
        refine V.iload_n (q := 38) dX4_passengersBetween_37 rfl rfl ?_
        refine V.icmp_ne (tgt := 58) (q := 41) dX4_passengersBetween_38 (by decide) rfl (fun c38 => ?_) (fun c38 => ?_)
        · refine V.iinc (q := 61) dX4_passengersBetween_58 rfl (by first | exact nI_inc _ | rfl) rfl rfl rfl ?_
          refine V.goto (tgt := 15) dX4_passengersBetween_61 (by decide) ?_
          refine V.to (L2 := [some (.ref (gB G + 0)), some (.int x), some (.int y), some (.int (nI (cnt (fun j => (ur u 0 j == x) && (ur u 1 j == y)) (i + 1)))), some (.int (nI (i + 1)))]) ?_ rfl rfl rfl (ih _ (by omega) (i + 1) rfl (by omega) g)
          rw [show cnt (fun j => (ur u 0 j == x) && (ur u 1 j == y)) (i + 1) = cnt (fun j => (ur u 0 j == x) && (ur u 1 j == y)) i by simp [cnt, c38]]
          rfl
        · refine V.aload_n (q := 42) dX4_passengersBetween_41 rfl rfl ?_
          refine V.gL (q := 45) dX4_passengersBetween_42 (j := 0) rfl bw_168 rfl rfl rfl rfl ?_
          refine V.gS (q := 48) dX4_passengersBetween_45 (j := 14) rfl bw_77 rfl rfl rfl rfl ?_
          refine V.iload (q := 50) dX4_passengersBetween_48 rfl rfl ?_
          refine V.ldSu (q := 51) 1 dX4_passengersBetween_50 hR rfl rfl rfl (by omega) rfl ?_
          refine V.iload_n (q := 52) dX4_passengersBetween_51 rfl rfl ?_
          refine V.icmp_ne (tgt := 58) (q := 55) dX4_passengersBetween_52 (by decide) rfl (fun c52 => ?_) (fun c52 => ?_)
          · refine V.iinc (q := 61) dX4_passengersBetween_58 rfl (by first | exact nI_inc _ | rfl) rfl rfl rfl ?_
            refine V.goto (tgt := 15) dX4_passengersBetween_61 (by decide) ?_
            refine V.to (L2 := [some (.ref (gB G + 0)), some (.int x), some (.int y), some (.int (nI (cnt (fun j => (ur u 0 j == x) && (ur u 1 j == y)) (i + 1)))), some (.int (nI (i + 1)))]) ?_ rfl rfl rfl (ih _ (by omega) (i + 1) rfl (by omega) g)
            rw [show cnt (fun j => (ur u 0 j == x) && (ur u 1 j == y)) (i + 1) = cnt (fun j => (ur u 0 j == x) && (ur u 1 j == y)) i by simp [cnt, c52]]
            rfl
          · refine V.iinc (q := 58) dX4_passengersBetween_55 rfl (by first | exact nI_inc _ | rfl) rfl rfl rfl ?_
            refine V.iinc (q := 61) dX4_passengersBetween_58 rfl (by first | exact nI_inc _ | rfl) rfl rfl rfl ?_
            refine V.goto (tgt := 15) dX4_passengersBetween_61 (by decide) ?_
            refine V.to (L2 := [some (.ref (gB G + 0)), some (.int x), some (.int y), some (.int (nI (cnt (fun j => (ur u 0 j == x) && (ur u 1 j == y)) (i + 1)))), some (.int (nI (i + 1)))]) ?_ rfl rfl rfl (ih _ (by omega) (i + 1) rfl (by omega) g)
            rw [show cnt (fun j => (ur u 0 j == x) && (ur u 1 j == y)) (i + 1) = cnt (fun j => (ur u 0 j == x) && (ur u 1 j == y)) i + 1 by simp [cnt, c38, c52]]
            rfl
  refine V.aload_n (q := 1) dX4_passengersBetween_0 rfl rfl ?_
  refine V.iload_n (q := 2) dX4_passengersBetween_1 rfl rfl ?_
  refine V.cVLX (q := 5) (As := [_]) dX4_passengersBetween_2 rfl (kL_reqF hR) MX4_requireFloor bw_859 rfl rfl rfl rfl (by decide) rfl (by decide) (by decide) (fun v9 τ9 h9 => ?_) (fun E9 τ9 h9 => ?_)
  · obtain ⟨rfl, h9⟩ := h9
    obtain ⟨g, rfl⟩ := reqA_inl h9
    have g1 := g
    refine V.aload_n (q := 6) dX4_passengersBetween_5 rfl rfl ?_
    refine V.iload_n (q := 7) dX4_passengersBetween_6 rfl rfl ?_
    refine V.cVLX (q := 10) (As := [_]) dX4_passengersBetween_7 rfl (kL_reqF hR) MX4_requireFloor bw_859 rfl rfl rfl rfl (by decide) rfl (by decide) (by decide) (fun v9 τ9 h9 => ?_) (fun E9 τ9 h9 => ?_)
    · obtain ⟨rfl, h9⟩ := h9
      obtain ⟨g, rfl⟩ := reqA_inl h9
      refine V.iconst (q := 11) dX4_passengersBetween_10 (v := 0) rfl rfl ?_
      refine V.istore_n (q := 12) dX4_passengersBetween_11 rfl rfl rfl rfl ?_
      refine V.iconst (q := 13) dX4_passengersBetween_12 (v := 0) rfl rfl ?_
      refine V.istore (q := 15) dX4_passengersBetween_13 rfl rfl rfl ?_
      exact loop _ 0 rfl (Nat.zero_le _) (okT g1 g)
    · obtain ⟨rfl, h9⟩ := h9
      obtain ⟨g, rfl⟩ := reqA_inr h9
      exact VX.out rfl (by decide) (by decide) ⟨_, rfl, rfl, ⟨rfl, ansA_f (okN2 g)⟩⟩
  · obtain ⟨rfl, h9⟩ := h9
    obtain ⟨g, rfl⟩ := reqA_inr h9
    exact VX.out rfl (by decide) (by decide) ⟨_, rfl, rfl, ⟨rfl, ansA_f (okN1 g)⟩⟩
