/-! the class takes tokens -/
set_option maxHeartbeats 1000000 in
theorem kP_nextKind {l : Launch} {G : GG} {σ : St} {o : Txt} {n : Nat} (hT : TK G σ o n) {i : Nat} (hi : i ≤ n) (hat : sF σ 19 4 = nI i) : CtS l G TX2_nextKind 0 [.ref (gB G + 19)] σ (some (.ref (gA G (kn o (st o i))))) σ := by
  have hn5 := hT.1
  refine CtS.ofV (by decide +kernel) rfl rfl (Nat.le_of_ble_eq_true rfl) ?_
  refine V.aload_n (q := 1) dX2_nextKind_0 rfl rfl ?_
  refine V.gP (q := 4) dX2_nextKind_1 (j := 4) (by first | rfl | assumption) bw_141 rfl rfl rfl rfl ?_
  rw [hat]
  refine V.aload_n (q := 5) dX2_nextKind_4 rfl rfl ?_
  refine V.gP (q := 8) dX2_nextKind_5 (j := 3) (by first | rfl | assumption) bw_140 rfl rfl rfl rfl ?_
  rw [hT.2.2.2]
  refine V.icmp_ge (tgt := 23) (q := 11) dX2_nextKind_8 (by decide) rfl (fun c8 => ?_) (fun c8 => ?_)
  · exact absurd (nle (a := n + 1) (b := i) c8 (by omega) (by omega)) (by omega)
  · refine V.aload_n (q := 12) dX2_nextKind_11 rfl rfl ?_
    refine V.gP (q := 15) dX2_nextKind_12 (j := 0) (by first | rfl | assumption) bw_137 rfl rfl rfl rfl ?_
    refine V.aload_n (q := 16) dX2_nextKind_15 rfl rfl ?_
    refine V.gP (q := 19) dX2_nextKind_16 (j := 4) (by first | rfl | assumption) bw_141 rfl rfl rfl rfl ?_
    rw [hat]
    refine V.ld8 (q := 20) dX2_nextKind_19 (i := i)  rfl (by omega) (hT.2.2.1 i hi).2.2 rfl ?_
    refine V.goto (tgt := 26) dX2_nextKind_20 (by decide) ?_
    exact V.aret dX2_nextKind_26 rfl ⟨rfl, rfl, rfl⟩
set_option maxHeartbeats 1000000 in
theorem kP_fail {l : Launch} {G : GG} {σ : St} {o : Txt} {n : Nat} (hT : TK G σ o n) {i : Nat} (hi : i ≤ n) {c : Int32} : CtS l G TX2_fail 0 [.ref (gB G + 19), .int c, .int (nI i)] σ (some (.int 0)) (stF (stF σ 19 7 c) 19 8 (nI (st o i))) := by
  have hn5 := hT.1
  refine CtS.ofV (by decide +kernel) rfl rfl (Nat.le_of_ble_eq_true rfl) ?_
  refine V.aload_n (q := 1) dX2_fail_0 rfl rfl ?_
  refine V.iload_n (q := 2) dX2_fail_1 rfl rfl ?_
  refine V.pP (q := 5) dX2_fail_2 (j := 7) (by first | rfl | assumption) bw_144 rfl rfl rfl rfl rfl rfl ?_
  refine V.iload_n (q := 6) dX2_fail_5 rfl rfl ?_
  refine V.if_lt (tgt := 27) (q := 9) dX2_fail_6 (by decide) rfl (fun c6 => ?_) (fun c6 => ?_)
  · exact absurd (nlt (a := i) (b := 0) c6 (by omega) (by decide)) (by omega)
  · refine V.iload_n (q := 10) dX2_fail_9 rfl rfl ?_
    refine V.aload_n (q := 11) dX2_fail_10 rfl rfl ?_
    refine V.gP (q := 14) dX2_fail_11 (j := 3) (by first | rfl | assumption) bw_140 rfl rfl rfl rfl ?_
    rw [show sF (stF σ 19 7 c) 19 3 = nI (n + 1) from (up2_in (by decide) : up2 (sF σ) 19 7 c 19 3 = sF σ 19 3).trans hT.2.2.2]
    refine V.icmp_ge (tgt := 27) (q := 17) dX2_fail_14 (by decide) rfl (fun c14 => ?_) (fun c14 => ?_)
    · exact absurd (nle (a := n + 1) (b := i) c14 (by omega) (by omega)) (by omega)
    · refine V.aload_n (q := 18) dX2_fail_17 rfl rfl ?_
      refine V.aload_n (q := 19) dX2_fail_18 rfl rfl ?_
      refine V.gP (q := 22) dX2_fail_19 (j := 1) (by first | rfl | assumption) bw_138 rfl rfl rfl rfl ?_
      refine V.iload_n (q := 23) dX2_fail_22 rfl rfl ?_
      refine V.ld9 (q := 24) dX2_fail_23 (i := i) (by first | rfl | assumption) rfl (by omega) rfl ?_
      rw [show sA (stF σ 19 7 c) 21 i = nI (st o i) from (hT.2.2.1 i hi).1]
      refine V.pP (q := 27) dX2_fail_24 (j := 8) (by first | rfl | assumption) bw_146 rfl rfl rfl rfl rfl rfl ?_
      refine V.iconst (q := 28) dX2_fail_27 (v := 0) rfl rfl ?_
      exact V.zret (ty := .boolean) rfl dX2_fail_28 rfl ⟨rfl, rfl, rfl⟩
set_option maxHeartbeats 1000000 in
theorem kP_take {l : Launch} {G : GG} {σ : St} {o : Txt} {n P : Nat} (hT : TK G σ o n) (hC : CA σ o n P) {K : Nat} (hK : K < 25) : CtP l G TX2_take 1 [.ref (gB G + 19), .ref (gA G K)] σ (fun v τ => v = some (.int (bI (cB (tkR o K P)))) ∧ FrT σ τ ∧ CT (fun p => p) τ o n (tkR o K P)) := by
  obtain ⟨⟨i, hi, hat, rfl⟩, h7, h8⟩ := hC
  have hn5 := hT.1
  refine CtP.ofV (by decide +kernel) rfl rfl (Nat.le_of_ble_eq_true rfl) ?_
  refine V.inj (fun hinj => ?_)
  refine V.aload_n (q := 1) dX2_take_0 rfl rfl ?_
  refine V.cVP (q := 4) dX2_take_1 (As := []) rfl (kP_nextKind hT hi hat) MX2_nextKind bw_861 (by first | rfl | assumption) rfl rfl rfl (by decide) rfl ?_
  refine V.aload_n (q := 5) dX2_take_4 rfl rfl ?_
  refine V.acmp_eq (tgt := 18) (q := 8) dX2_take_5 (by decide) rfl (fun c10 => ?_) (fun c10 => ?_)
  · have hk := hinj _ _ kn_b (by omega) c10
    refine V.aload_n (q := 19) dX2_take_18 rfl rfl ?_
    refine V.dup (q := 20) dX2_take_19 rfl rfl ?_
    refine V.gP (q := 23) dX2_take_20 (j := 4) (by first | rfl | assumption) bw_141 rfl rfl rfl rfl ?_
    rw [hat]
    refine V.iconst (q := 24) dX2_take_23 (v := 1) rfl rfl ?_
    refine V.iadd (q := 25) dX2_take_24 rfl ?_
    refine V.pP (q := 28) dX2_take_25 (j := 4) (by first | rfl | assumption) bw_141 rfl rfl rfl rfl rfl rfl ?_
    refine V.iconst (q := 29) dX2_take_28 (v := 1) rfl rfl ?_
    exact V.zret (ty := .boolean) rfl dX2_take_29 rfl ⟨_, _, rfl, rfl, rfl, by unfold tkR; rw [if_pos hk]; rfl, FrT.f (by decide), by unfold tkR; rw [if_pos hk]; exact CA.next hT hi (by rw [hk]; omega) h7 h8 rfl⟩
  · have hk : ¬ kn o (st o i) = K := fun z => c10 (by rw [z])
    refine V.aload_n (q := 9) dX2_take_8 rfl rfl ?_
    refine V.iconst (q := 10) dX2_take_9 (v := 1) rfl rfl ?_
    refine V.aload_n (q := 11) dX2_take_10 rfl rfl ?_
    refine V.gP (q := 14) dX2_take_11 (j := 4) (by first | rfl | assumption) bw_141 rfl rfl rfl rfl ?_
    rw [hat]
    refine V.cVP (q := 17) dX2_take_14 (As := [_, _]) rfl (kP_fail hT hi) MX2_fail bw_865 (by first | rfl | assumption) rfl rfl rfl (by decide) rfl ?_
    exact V.zret (ty := .boolean) rfl dX2_take_17 rfl ⟨_, _, rfl, rfl, rfl, by unfold tkR; rw [if_neg hk]; rfl, ((FrT.f (by decide)).trans (FrT.f (by decide))), by unfold tkR; rw [if_neg hk]; exact CE.of rfl rfl⟩
set_option maxHeartbeats 1000000 in
theorem kP_takeNumber {l : Launch} {G : GG} {σ : St} {o : Txt} {n P : Nat} (hT : TK G σ o n) (hC : CA σ o n P) {lo hi9 : Nat} (hlo : lo < 100000) (hhi : hi9 < 100000) : CtP l G TX2_takeNumber 1 [.ref (gB G + 19), .int (nI lo), .int (nI hi9)] σ (fun v τ => v = some (.int (cV Prod.fst (numR o P lo hi9))) ∧ FrT σ τ ∧ CT Prod.snd τ o n (numR o P lo hi9)) := by
  obtain ⟨⟨i, hi, hat, rfl⟩, h7, h8⟩ := hC
  have hn5 := hT.1
  refine CtP.ofV (by decide +kernel) rfl rfl (Nat.le_of_ble_eq_true rfl) ?_
  refine V.inj (fun hinj => ?_)
  refine V.aload_n (q := 1) dX2_takeNumber_0 rfl rfl ?_
  refine V.cVP (q := 4) dX2_takeNumber_1 (As := []) rfl (kP_nextKind hT hi hat) MX2_nextKind bw_861 (by first | rfl | assumption) rfl rfl rfl (by decide) rfl ?_
  refine V.gets (q := 7) dX2_takeNumber_4 (st_kind (i := 23) (by decide) rfl) bw_813 rfl ?_
  refine V.acmp_eq (tgt := 22) (q := 10) dX2_takeNumber_7 (by decide) rfl (fun c12 => ?_) (fun c12 => ?_)
  · have hk := hinj _ _ kn_b (by omega) c12
    have hv := vl_lt (o := o) (s := st o i)
    refine V.aload_n (q := 23) dX2_takeNumber_22 rfl rfl ?_
    refine V.gP (q := 26) dX2_takeNumber_23 (j := 2) (by first | rfl | assumption) bw_139 rfl rfl rfl rfl ?_
    refine V.aload_n (q := 27) dX2_takeNumber_26 rfl rfl ?_
    refine V.gP (q := 30) dX2_takeNumber_27 (j := 4) (by first | rfl | assumption) bw_141 rfl rfl rfl rfl ?_
    rw [hat]
    refine V.ld9 (q := 31) dX2_takeNumber_30 (i := i) (by first | rfl | assumption) rfl (by omega) rfl ?_
    rw [(hT.2.2.1 i hi).2.1]
    refine V.istore_n (q := 32) dX2_takeNumber_31 rfl rfl rfl rfl ?_
    refine V.iload_n (q := 33) dX2_takeNumber_32 rfl rfl ?_
    refine V.iload_n (q := 34) dX2_takeNumber_33 rfl rfl ?_
    refine V.icmp_lt (tgt := 42) (q := 37) dX2_takeNumber_34 (by decide) rfl (fun c39 => ?_) (fun c39 => ?_)
    · have hx : ¬ (lo ≤ vl o (st o i) ∧ vl o (st o i) ≤ hi9) := fun z => by have := nlt c39 (by omega) (by omega); omega
      refine V.aload_n (q := 43) dX2_takeNumber_42 rfl rfl ?_
      refine V.iconst (q := 44) dX2_takeNumber_43 (v := 2) rfl rfl ?_
      refine V.aload_n (q := 45) dX2_takeNumber_44 rfl rfl ?_
      refine V.gP (q := 48) dX2_takeNumber_45 (j := 4) (by first | rfl | assumption) bw_141 rfl rfl rfl rfl ?_
      rw [hat]
      refine V.cVP (q := 51) dX2_takeNumber_48 (As := [_, _]) rfl (kP_fail hT hi) MX2_fail bw_865 (by first | rfl | assumption) rfl rfl rfl (by decide) rfl ?_
      refine V.pop (q := 52) dX2_takeNumber_51 rfl rfl ?_
      refine V.iconst (q := 53) dX2_takeNumber_52 (v := -1) rfl rfl ?_
      exact V.iret dX2_takeNumber_53 rfl ⟨_, _, rfl, rfl, rfl, by unfold numR; rw [if_pos hk, if_neg hx]; rfl, ((FrT.f (by decide)).trans (FrT.f (by decide))), by unfold numR; rw [if_pos hk, if_neg hx]; exact CE.of rfl rfl⟩
    · have h1 : lo ≤ vl o (st o i) := nnlt c39 (by omega) (by omega)
      refine V.iload_n (q := 38) dX2_takeNumber_37 rfl rfl ?_
      refine V.iload_n (q := 39) dX2_takeNumber_38 rfl rfl ?_
      refine V.icmp_le (tgt := 54) (q := 42) dX2_takeNumber_39 (by decide) rfl (fun c44 => ?_) (fun c44 => ?_)
      · have h2 : vl o (st o i) ≤ hi9 := nle c44 (by omega) (by omega)
        refine V.aload_n (q := 55) dX2_takeNumber_54 rfl rfl ?_
        refine V.dup (q := 56) dX2_takeNumber_55 rfl rfl ?_
        refine V.gP (q := 59) dX2_takeNumber_56 (j := 4) (by first | rfl | assumption) bw_141 rfl rfl rfl rfl ?_
        rw [hat]
        refine V.iconst (q := 60) dX2_takeNumber_59 (v := 1) rfl rfl ?_
        refine V.iadd (q := 61) dX2_takeNumber_60 rfl ?_
        refine V.pP (q := 64) dX2_takeNumber_61 (j := 4) (by first | rfl | assumption) bw_141 rfl rfl rfl rfl rfl rfl ?_
        refine V.iload_n (q := 65) dX2_takeNumber_64 rfl rfl ?_
        exact V.iret dX2_takeNumber_65 rfl ⟨_, _, rfl, rfl, rfl, by unfold numR; rw [if_pos hk, if_pos ⟨h1, h2⟩]; rfl, FrT.f (by decide), by unfold numR; rw [if_pos hk, if_pos ⟨h1, h2⟩]; exact CA.next hT hi (by rw [hk]; decide) h7 h8 rfl⟩
      · have hx : ¬ (lo ≤ vl o (st o i) ∧ vl o (st o i) ≤ hi9) := fun z => by have := nnle c44 (by omega) (by omega); omega
        refine V.aload_n (q := 43) dX2_takeNumber_42 rfl rfl ?_
        refine V.iconst (q := 44) dX2_takeNumber_43 (v := 2) rfl rfl ?_
        refine V.aload_n (q := 45) dX2_takeNumber_44 rfl rfl ?_
        refine V.gP (q := 48) dX2_takeNumber_45 (j := 4) (by first | rfl | assumption) bw_141 rfl rfl rfl rfl ?_
        rw [hat]
        refine V.cVP (q := 51) dX2_takeNumber_48 (As := [_, _]) rfl (kP_fail hT hi) MX2_fail bw_865 (by first | rfl | assumption) rfl rfl rfl (by decide) rfl ?_
        refine V.pop (q := 52) dX2_takeNumber_51 rfl rfl ?_
        refine V.iconst (q := 53) dX2_takeNumber_52 (v := -1) rfl rfl ?_
        exact V.iret dX2_takeNumber_53 rfl ⟨_, _, rfl, rfl, rfl, by unfold numR; rw [if_pos hk, if_neg hx]; rfl, ((FrT.f (by decide)).trans (FrT.f (by decide))), by unfold numR; rw [if_pos hk, if_neg hx]; exact CE.of rfl rfl⟩
  · have hk : ¬ kn o (st o i) = 23 := fun z => c12 (by rw [z])
    refine V.aload_n (q := 11) dX2_takeNumber_10 rfl rfl ?_
    refine V.iconst (q := 12) dX2_takeNumber_11 (v := 1) rfl rfl ?_
    refine V.aload_n (q := 13) dX2_takeNumber_12 rfl rfl ?_
    refine V.gP (q := 16) dX2_takeNumber_13 (j := 4) (by first | rfl | assumption) bw_141 rfl rfl rfl rfl ?_
    rw [hat]
    refine V.cVP (q := 19) dX2_takeNumber_16 (As := [_, _]) rfl (kP_fail hT hi) MX2_fail bw_865 (by first | rfl | assumption) rfl rfl rfl (by decide) rfl ?_
    refine V.pop (q := 20) dX2_takeNumber_19 rfl rfl ?_
    refine V.iconst (q := 21) dX2_takeNumber_20 (v := -1) rfl rfl ?_
    exact V.iret dX2_takeNumber_21 rfl ⟨_, _, rfl, rfl, rfl, by unfold numR; rw [if_neg hk]; rfl, ((FrT.f (by decide)).trans (FrT.f (by decide))), by unfold numR; rw [if_neg hk]; exact CE.of rfl rfl⟩
theorem pol_cases : ∀ k, k < 26 → k = 1 ∨ k = 2 ∨ k = 3 ∨ (((ev_sw.getD k 0).toInt < 14 ∨ 16 < (ev_sw.getD k 0).toInt) ∧ (k ≠ 1 ∧ k ≠ 2 ∧ k ≠ 3)) := by decide +kernel
set_option maxHeartbeats 1000000 in
theorem kP_takePolicy {l : Launch} {G : GG} {σ : St} {o : Txt} {n P : Nat} (hT : TK G σ o n) (hC : CA σ o n P)  : CtP l G TX2_takePolicy 1 [.ref (gB G + 19)] σ (fun v τ => v = some (.int (cV Prod.fst (polR o P))) ∧ FrT σ τ ∧ CT Prod.snd τ o n (polR o P)) := by
  obtain ⟨⟨i, hi, hat, rfl⟩, h7, h8⟩ := hC
  have hn5 := hT.1
  refine CtP.ofV (by decide +kernel) rfl rfl (Nat.le_of_ble_eq_true rfl) ?_
  refine V.iconst (q := 1) dX2_takePolicy_0 (v := -1) rfl rfl ?_
  refine V.istore_n (q := 2) dX2_takePolicy_1 rfl rfl rfl rfl ?_
  refine V.gets (q := 5) dX2_takePolicy_2 st_sw bw_877 rfl ?_
  refine V.aload_n (q := 6) dX2_takePolicy_5 rfl rfl ?_
  refine V.cVP (q := 9) dX2_takePolicy_6 (As := []) rfl (kP_nextKind hT hi hat) MX2_nextKind bw_861 (by first | rfl | assumption) rfl rfl rfl (by decide) rfl ?_
  refine V.ord (q := 12) dX2_takePolicy_9 kn_b bw_879 rfl (by decide) rfl ?_
  refine V.tald (q := 13) dX2_takePolicy_12 (i := kn o (st o i)) ta_sw kn_b (by decide) rfl rfl rfl ?_
  rcases pol_cases _ (kn_b (o := o) (s := st o i)) with hk1 | hk2 | hk3 | ⟨hk4, hk5⟩
  · rw [hk1]
    refine V.tableIn (off := 27) (tgt := 40) dX2_takePolicy_13 (by decide) (by decide) rfl (by decide) ?_
    refine V.iconst (q := 41) dX2_takePolicy_40 (v := 0) rfl rfl ?_
    refine V.istore_n (q := 42) dX2_takePolicy_41 rfl rfl rfl rfl ?_
    refine V.goto (tgt := 67) dX2_takePolicy_42 (by decide) ?_
    refine V.aload_n (q := 68) dX2_takePolicy_67 rfl rfl ?_
    refine V.dup (q := 69) dX2_takePolicy_68 rfl rfl ?_
    refine V.gP (q := 72) dX2_takePolicy_69 (j := 4) (by first | rfl | assumption) bw_141 rfl rfl rfl rfl ?_
    rw [hat]
    refine V.iconst (q := 73) dX2_takePolicy_72 (v := 1) rfl rfl ?_
    refine V.iadd (q := 74) dX2_takePolicy_73 rfl ?_
    refine V.pP (q := 77) dX2_takePolicy_74 (j := 4) (by first | rfl | assumption) bw_141 rfl rfl rfl rfl rfl rfl ?_
    refine V.iload_n (q := 78) dX2_takePolicy_77 rfl rfl ?_
    exact V.iret dX2_takePolicy_78 rfl ⟨_, _, rfl, rfl, rfl, by unfold polR; rw [if_pos hk1]; rfl, FrT.f (by decide), by unfold polR; rw [if_pos hk1]; exact CA.next hT hi (by rw [hk1]; decide) h7 h8 rfl⟩
  · rw [hk2]
    refine V.tableIn (off := 32) (tgt := 45) dX2_takePolicy_13 (by decide) (by decide) rfl (by decide) ?_
    refine V.iconst (q := 46) dX2_takePolicy_45 (v := 1) rfl rfl ?_
    refine V.istore_n (q := 47) dX2_takePolicy_46 rfl rfl rfl rfl ?_
    refine V.goto (tgt := 67) dX2_takePolicy_47 (by decide) ?_
    refine V.aload_n (q := 68) dX2_takePolicy_67 rfl rfl ?_
    refine V.dup (q := 69) dX2_takePolicy_68 rfl rfl ?_
    refine V.gP (q := 72) dX2_takePolicy_69 (j := 4) (by first | rfl | assumption) bw_141 rfl rfl rfl rfl ?_
    rw [hat]
    refine V.iconst (q := 73) dX2_takePolicy_72 (v := 1) rfl rfl ?_
    refine V.iadd (q := 74) dX2_takePolicy_73 rfl ?_
    refine V.pP (q := 77) dX2_takePolicy_74 (j := 4) (by first | rfl | assumption) bw_141 rfl rfl rfl rfl rfl rfl ?_
    refine V.iload_n (q := 78) dX2_takePolicy_77 rfl rfl ?_
    exact V.iret dX2_takePolicy_78 rfl ⟨_, _, rfl, rfl, rfl, by unfold polR; rw [if_neg (by rw [hk2]; decide), if_pos hk2]; rfl, FrT.f (by decide), by unfold polR; rw [if_neg (by rw [hk2]; decide), if_pos hk2]; exact CA.next hT hi (by rw [hk2]; decide) h7 h8 rfl⟩
  · rw [hk3]
    refine V.tableIn (off := 37) (tgt := 50) dX2_takePolicy_13 (by decide) (by decide) rfl (by decide) ?_
    refine V.iconst (q := 51) dX2_takePolicy_50 (v := 2) rfl rfl ?_
    refine V.istore_n (q := 52) dX2_takePolicy_51 rfl rfl rfl rfl ?_
    refine V.goto (tgt := 67) dX2_takePolicy_52 (by decide) ?_
    refine V.aload_n (q := 68) dX2_takePolicy_67 rfl rfl ?_
    refine V.dup (q := 69) dX2_takePolicy_68 rfl rfl ?_
    refine V.gP (q := 72) dX2_takePolicy_69 (j := 4) (by first | rfl | assumption) bw_141 rfl rfl rfl rfl ?_
    rw [hat]
    refine V.iconst (q := 73) dX2_takePolicy_72 (v := 1) rfl rfl ?_
    refine V.iadd (q := 74) dX2_takePolicy_73 rfl ?_
    refine V.pP (q := 77) dX2_takePolicy_74 (j := 4) (by first | rfl | assumption) bw_141 rfl rfl rfl rfl rfl rfl ?_
    refine V.iload_n (q := 78) dX2_takePolicy_77 rfl rfl ?_
    exact V.iret dX2_takePolicy_78 rfl ⟨_, _, rfl, rfl, rfl, by unfold polR; rw [if_neg (by rw [hk3]; decide), if_neg (by rw [hk3]; decide), if_pos hk3]; rfl, FrT.f (by decide), by unfold polR; rw [if_neg (by rw [hk3]; decide), if_neg (by rw [hk3]; decide), if_pos hk3]; exact CA.next hT hi (by rw [hk3]; decide) h7 h8 rfl⟩
  · skip
    refine V.tableOut (tgt := 55) dX2_takePolicy_13 hk4 (by decide) ?_
    refine V.aload_n (q := 56) dX2_takePolicy_55 rfl rfl ?_
    refine V.iconst (q := 57) dX2_takePolicy_56 (v := 1) rfl rfl ?_
    refine V.aload_n (q := 58) dX2_takePolicy_57 rfl rfl ?_
    refine V.gP (q := 61) dX2_takePolicy_58 (j := 4) (by first | rfl | assumption) bw_141 rfl rfl rfl rfl ?_
    rw [hat]
    refine V.cVP (q := 64) dX2_takePolicy_61 (As := [_, _]) rfl (kP_fail hT hi) MX2_fail bw_865 (by first | rfl | assumption) rfl rfl rfl (by decide) rfl ?_
    refine V.pop (q := 65) dX2_takePolicy_64 rfl rfl ?_
    refine V.iconst (q := 66) dX2_takePolicy_65 (v := -1) rfl rfl ?_
    exact V.iret dX2_takePolicy_66 rfl ⟨_, _, rfl, rfl, rfl, by unfold polR; rw [if_neg hk5.1, if_neg hk5.2.1, if_neg hk5.2.2]; rfl, ((FrT.f (by decide)).trans (FrT.f (by decide))), by unfold polR; rw [if_neg hk5.1, if_neg hk5.2.1, if_neg hk5.2.2]; exact CE.of rfl rfl⟩
theorem isc_no {k : Nat} (n0 : ¬ k = 14) (n1 : ¬ k = 15) (n2 : ¬ k = 16) (n3 : ¬ k = 17) (n4 : ¬ k = 18) (n5 : ¬ k = 19) : decide (14 ≤ k ∧ k ≤ 19) = false := decide_eq_false (by omega)
set_option maxHeartbeats 1000000 in
theorem kP_isCounter {l : Launch} {G : GG} {σ : St}  {k : Nat} (hk : k < 26) : CtS l G TX1_isCounter 0 [.ref (gA G k)] σ (some (.int (bI (decide (14 ≤ k ∧ k ≤ 19))))) σ := by
  refine CtS.ofV (by decide +kernel) rfl rfl (Nat.le_of_ble_eq_true rfl) ?_
  refine V.inj (fun hinj => ?_)
  refine V.aload_n (q := 1) dX1_isCounter_0 rfl rfl ?_
  refine V.gets (q := 4) dX1_isCounter_1 (st_kind (i := 14) (by decide) rfl) bw_939 rfl ?_
  refine V.acmp_eq (tgt := 42) (q := 7) dX1_isCounter_4 (by decide) rfl (fun c4 => ?_) (fun c4 => ?_)
  · refine V.iconst (q := 43) dX1_isCounter_42 (v := 1) rfl rfl ?_
    refine V.goto (tgt := 47) dX1_isCounter_43 (by decide) ?_
    exact V.zret (ty := .boolean) rfl dX1_isCounter_47 rfl ⟨by rw [hinj _ _ hk (by decide) c4]; rfl, rfl, rfl⟩
  · refine V.aload_n (q := 8) dX1_isCounter_7 rfl rfl ?_
    refine V.gets (q := 11) dX1_isCounter_8 (st_kind (i := 15) (by decide) rfl) bw_941 rfl ?_
    refine V.acmp_eq (tgt := 42) (q := 14) dX1_isCounter_11 (by decide) rfl (fun c11 => ?_) (fun c11 => ?_)
    · refine V.iconst (q := 43) dX1_isCounter_42 (v := 1) rfl rfl ?_
      refine V.goto (tgt := 47) dX1_isCounter_43 (by decide) ?_
      exact V.zret (ty := .boolean) rfl dX1_isCounter_47 rfl ⟨by rw [hinj _ _ hk (by decide) c11]; rfl, rfl, rfl⟩
    · refine V.aload_n (q := 15) dX1_isCounter_14 rfl rfl ?_
      refine V.gets (q := 18) dX1_isCounter_15 (st_kind (i := 16) (by decide) rfl) bw_943 rfl ?_
      refine V.acmp_eq (tgt := 42) (q := 21) dX1_isCounter_18 (by decide) rfl (fun c18 => ?_) (fun c18 => ?_)
      · refine V.iconst (q := 43) dX1_isCounter_42 (v := 1) rfl rfl ?_
        refine V.goto (tgt := 47) dX1_isCounter_43 (by decide) ?_
        exact V.zret (ty := .boolean) rfl dX1_isCounter_47 rfl ⟨by rw [hinj _ _ hk (by decide) c18]; rfl, rfl, rfl⟩
      · refine V.aload_n (q := 22) dX1_isCounter_21 rfl rfl ?_
        refine V.gets (q := 25) dX1_isCounter_22 (st_kind (i := 17) (by decide) rfl) bw_945 rfl ?_
        refine V.acmp_eq (tgt := 42) (q := 28) dX1_isCounter_25 (by decide) rfl (fun c25 => ?_) (fun c25 => ?_)
        · refine V.iconst (q := 43) dX1_isCounter_42 (v := 1) rfl rfl ?_
          refine V.goto (tgt := 47) dX1_isCounter_43 (by decide) ?_
          exact V.zret (ty := .boolean) rfl dX1_isCounter_47 rfl ⟨by rw [hinj _ _ hk (by decide) c25]; rfl, rfl, rfl⟩
        · refine V.aload_n (q := 29) dX1_isCounter_28 rfl rfl ?_
          refine V.gets (q := 32) dX1_isCounter_29 (st_kind (i := 18) (by decide) rfl) bw_947 rfl ?_
          refine V.acmp_eq (tgt := 42) (q := 35) dX1_isCounter_32 (by decide) rfl (fun c32 => ?_) (fun c32 => ?_)
          · refine V.iconst (q := 43) dX1_isCounter_42 (v := 1) rfl rfl ?_
            refine V.goto (tgt := 47) dX1_isCounter_43 (by decide) ?_
            exact V.zret (ty := .boolean) rfl dX1_isCounter_47 rfl ⟨by rw [hinj _ _ hk (by decide) c32]; rfl, rfl, rfl⟩
          · refine V.aload_n (q := 36) dX1_isCounter_35 rfl rfl ?_
            refine V.gets (q := 39) dX1_isCounter_36 (st_kind (i := 19) (by decide) rfl) bw_949 rfl ?_
            refine V.acmp_ne (tgt := 46) (q := 42) dX1_isCounter_39 (by decide) rfl (fun c39 => ?_) (fun c39 => ?_)
            · refine V.iconst (q := 47) dX1_isCounter_46 (v := 0) rfl rfl ?_
              exact V.zret (ty := .boolean) rfl dX1_isCounter_47 rfl ⟨by rw [isc_no (fun z => c4 (by rw [z])) (fun z => c11 (by rw [z])) (fun z => c18 (by rw [z])) (fun z => c25 (by rw [z])) (fun z => c32 (by rw [z])) (fun z => c39 (by rw [z]))]; rfl, rfl, rfl⟩
            · refine V.iconst (q := 43) dX1_isCounter_42 (v := 1) rfl rfl ?_
              refine V.goto (tgt := 47) dX1_isCounter_43 (by decide) ?_
              exact V.zret (ty := .boolean) rfl dX1_isCounter_47 rfl ⟨by rw [hinj _ _ hk (by decide) c39]; rfl, rfl, rfl⟩
theorem cv_no {o : Txt} {P : Nat} (h : ¬ (14 ≤ kn o P ∧ kn o P ≤ 19)) : cvR o P = .inl (1, P) := by
  unfold cvR ctrR
  rw [if_neg h]; rfl
theorem cv_yes {o : Txt} {P : Nat} (h : 14 ≤ kn o P ∧ kn o P ≤ 19) : cvR o P = bnd (numR o (nx o P) 0 999) fun y => .inr (kn o P, y.1, nx o P, y.2) := by
  unfold cvR ctrR
  rw [if_pos h]; rfl
theorem cv_V {r : Er ⊕ (Nat × Nat)} {a b : Nat} : cV (fun y : Nat × Nat × Nat × Nat => y.2.1) (bnd r fun y => .inr (a, y.1, b, y.2)) = cV Prod.fst r := by cases r <;> rfl
theorem cv_T {τ : St} {o : Txt} {n : Nat} {r : Er ⊕ (Nat × Nat)} {a b : Nat} (h : CT Prod.snd τ o n r) : CT (fun y : Nat × Nat × Nat × Nat => y.2.2.2) τ o n (bnd r fun y => .inr (a, y.1, b, y.2)) := by
  cases r with
  | inl e => exact h
  | inr y => exact h
set_option maxHeartbeats 1000000 in
theorem kP_takeCV {l : Launch} {G : GG} {σ : St} {o : Txt} {n P : Nat} (hT : TK G σ o n) (hC : CA σ o n P)  : CtP l G TX2_takeCounterAndValue 2 [.ref (gB G + 19)] σ (fun v τ => v = some (.int (cV (fun y : Nat × Nat × Nat × Nat => y.2.1) (cvR o P))) ∧ FrT σ τ ∧ CT (fun y : Nat × Nat × Nat × Nat => y.2.2.2) τ o n (cvR o P)) := by
  obtain ⟨⟨i, hi, hat, rfl⟩, h7, h8⟩ := hC
  have hn5 := hT.1
  refine CtP.ofV (by decide +kernel) rfl rfl (Nat.le_of_ble_eq_true rfl) ?_
  refine V.aload_n (q := 1) dX2_takeCounterAndValue_0 rfl rfl ?_
  refine V.cVP (q := 4) dX2_takeCounterAndValue_1 (As := []) rfl (kP_nextKind hT hi hat) MX2_nextKind bw_861 (by first | rfl | assumption) rfl rfl rfl (by decide) rfl ?_
  refine V.cO (q := 7) dX2_takeCounterAndValue_4 (As := []) rfl (kP_isCounter kn_b) MX1_isCounter bw_935 (ob_kind kn_b) rfl rfl (by decide) rfl ?_
  refine V.if_ne (tgt := 22) (q := 10) dX2_takeCounterAndValue_7 (by decide) rfl (fun c12 => ?_) (fun c12 => ?_)
  · have hk := of_decide_eq_true (bI1.mp c12)
    refine V.aload_n (q := 23) dX2_takeCounterAndValue_22 rfl rfl ?_
    refine V.dup (q := 24) dX2_takeCounterAndValue_23 rfl rfl ?_
    refine V.gP (q := 27) dX2_takeCounterAndValue_24 (j := 4) (by first | rfl | assumption) bw_141 rfl rfl rfl rfl ?_
    rw [hat]
    refine V.iconst (q := 28) dX2_takeCounterAndValue_27 (v := 1) rfl rfl ?_
    refine V.iadd (q := 29) dX2_takeCounterAndValue_28 rfl ?_
    refine V.pP (q := 32) dX2_takeCounterAndValue_29 (j := 4) (by first | rfl | assumption) bw_141 rfl rfl rfl rfl rfl rfl ?_
    have hC2 := CA.next hT hi (by omega) h7 h8 (x := nI i + 1) rfl
    have hf2 := FrT.f (σ := σ) (j := 4) (x := nI i + 1) (by decide)
    have hT2 := hT.frT hf2
    refine V.aload_n (q := 33) dX2_takeCounterAndValue_32 rfl rfl ?_
    refine V.iconst (q := 34) dX2_takeCounterAndValue_33 (v := 0) rfl rfl ?_
    refine V.sipush (q := 37) dX2_takeCounterAndValue_34 (v := 999) rfl rfl ?_
    refine V.cVPP (q := 40) (As := [_, _]) dX2_takeCounterAndValue_37 rfl (kP_takeNumber (lo := 0) (hi9 := 999) hT2 hC2 (by decide) (by decide)) MX2_takeNumber bw_869 (by first | rfl | assumption) rfl rfl rfl (by decide) rfl (fun v1 τ1 h1 => ?_)
    obtain ⟨rfl, hf1, hC3⟩ := h1
    exact V.iret dX2_takeCounterAndValue_40 rfl ⟨_, _, rfl, rfl, rfl, by rw [cv_yes hk, cv_V], hf2.trans hf1, by rw [cv_yes hk]; exact cv_T hC3⟩
  · have hk := of_decide_eq_false (bI0.mp c12)
    refine V.aload_n (q := 11) dX2_takeCounterAndValue_10 rfl rfl ?_
    refine V.iconst (q := 12) dX2_takeCounterAndValue_11 (v := 1) rfl rfl ?_
    refine V.aload_n (q := 13) dX2_takeCounterAndValue_12 rfl rfl ?_
    refine V.gP (q := 16) dX2_takeCounterAndValue_13 (j := 4) (by first | rfl | assumption) bw_141 rfl rfl rfl rfl ?_
    rw [hat]
    refine V.cVP (q := 19) dX2_takeCounterAndValue_16 (As := [_, _]) rfl (kP_fail hT hi) MX2_fail bw_865 (by first | rfl | assumption) rfl rfl rfl (by decide) rfl ?_
    refine V.pop (q := 20) dX2_takeCounterAndValue_19 rfl rfl ?_
    refine V.iconst (q := 21) dX2_takeCounterAndValue_20 (v := -1) rfl rfl ?_
    exact V.iret dX2_takeCounterAndValue_21 rfl ⟨_, _, rfl, rfl, rfl, by rw [cv_no hk]; rfl, ((FrT.f (by decide)).trans (FrT.f (by decide))), by rw [cv_no hk]; exact CE.of rfl rfl⟩
