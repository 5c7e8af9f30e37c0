/-! the JDK: numbers and letters in a builder; length, charAt; the law's Random -/
theorem sz_1 {v : Nat} (h : v < 10) : sb_dg v = 1 := if_pos h
theorem sz_2 {v : Nat} (h : 10 ≤ v) (h2 : v < 100) : sb_dg v = 2 := by unfold sb_dg; rw [if_neg (by omega), if_pos h2]
theorem dg_1 {v : Nat} (h : v < 10) : sb_dec v 0 = 48 + v := by
  unfold sb_dec
  rw [sz_1 h]
  simp
  omega
theorem dg_20 {v : Nat} (h : 10 ≤ v) (h2 : v < 100) : sb_dec v 0 = 48 + v / 10 := by
  unfold sb_dec
  rw [sz_2 h h2]
  simp
  omega
theorem dg_21 {v : Nat} (h : 10 ≤ v) (h2 : v < 100) : sb_dec v 1 = 48 + v % 10 := by
  unfold sb_dec
  rw [sz_2 h h2]
  simp
theorem lat_1 {t : Nat → Nat} {c v : Nat} {f : Nat → Int32} (hL : sb_Lat t c f) (hv : v < 128) : sb_Lat (sb_cat t c (fun _ => v)) (c + 1) (upd f c (vp_nar .byte (nI v).toInt8.toInt32)) :=
  sb_latPut hL (fun j hj => pk_un (by omega)) (fun i hi => by
    obtain rfl : i = 0 := by omega
    refine ⟨by omega, ?_⟩
    rw [Nat.add_zero, pk_us]
    exact pk_vb _)
theorem dig_tab : ∀ k, k < 100 → vp_nar .byte (ev_do.getD k 0) = sb_b (48 + k % 10) ∧ vp_nar .byte (ev_dt.getD k 0) = sb_b (48 + k / 10) := by decide +kernel
set_option maxHeartbeats 1000000 in
theorem kX_ssize {l : Launch} {G : GG} {h : HM} {n : Nat} {E : va_W} {v : Nat} (hv : v < 100) : CX l G TJ6_stringSize_0f7a4 0 0 0 [.int (nI v)] h n E (RtX (some (.int (nI (sb_dg v)))) h n E) := by
  refine CX.ofX (by decide +kernel) rfl rfl (Nat.le_of_ble_eq_true rfl) ?_
  refine X.iconst (q := 1) dJ6_stringSize_0f7a4_0 (v := 1) rfl rfl ?_
  refine X.istore_n (q := 2) dJ6_stringSize_0f7a4_1 rfl rfl rfl rfl ?_
  refine X.iload_n (q := 3) dJ6_stringSize_0f7a4_2 rfl rfl ?_
  refine X.if_lt (tgt := 11) (q := 6) dJ6_stringSize_0f7a4_3 (by decide) rfl (fun c3 => ?_) (fun c3 => ?_)
  · exact absurd c3 (nI_pos (by omega))
  · refine X.iconst (q := 7) dJ6_stringSize_0f7a4_6 (v := 0) rfl rfl ?_
    refine X.istore_n (q := 8) dJ6_stringSize_0f7a4_7 rfl rfl rfl rfl ?_
    refine X.iload_n (q := 9) dJ6_stringSize_0f7a4_8 rfl rfl ?_
    refine X.ineg (q := 10) dJ6_stringSize_0f7a4_9 rfl ?_
    show X _ _ _ _ _ _ _ _ _ _ _ (.int (-nI v) :: _) _ _ _
    refine X.istore_n (q := 11) dJ6_stringSize_0f7a4_10 rfl rfl rfl rfl ?_
    refine X.bipush (q := 13) dJ6_stringSize_0f7a4_11 (v := (-10)) rfl rfl ?_
    refine X.istore_n (q := 14) dJ6_stringSize_0f7a4_13 rfl rfl rfl rfl ?_
    refine X.iconst (q := 15) dJ6_stringSize_0f7a4_14 (v := 1) rfl rfl ?_
    refine X.istore_n (q := 16) dJ6_stringSize_0f7a4_15 rfl rfl rfl rfl ?_
    refine X.iload_n (q := 17) dJ6_stringSize_0f7a4_16 rfl rfl ?_
    refine X.bipush (q := 19) dJ6_stringSize_0f7a4_17 (v := 10) rfl rfl ?_
    refine X.icmp_ge (tgt := 42) (q := 22) dJ6_stringSize_0f7a4_19 (by decide) rfl (fun c19 => ?_) (fun c19 => ?_)
    · exact absurd c19 (by decide)
    · refine X.iload_n (q := 23) dJ6_stringSize_0f7a4_22 rfl rfl ?_
      refine X.iload_n (q := 24) dJ6_stringSize_0f7a4_23 rfl rfl ?_
      refine X.icmp_le (tgt := 31) (q := 27) dJ6_stringSize_0f7a4_24 (by decide) rfl (fun c24 => ?_) (fun c24 => ?_)
      · have h10 : 10 ≤ v := (sb_nle (a := v) (b := 10) (by omega) (by decide)).mp c24
        refine X.bipush (q := 33) dJ6_stringSize_0f7a4_31 (v := 10) rfl rfl ?_
        refine X.iload_n (q := 34) dJ6_stringSize_0f7a4_33 rfl rfl ?_
        refine X.imul (q := 35) dJ6_stringSize_0f7a4_34 rfl ?_
        rw [show (10 : Int32) * -10 = -100 from by decide]
        refine X.istore_n (q := 36) dJ6_stringSize_0f7a4_35 rfl rfl rfl rfl ?_
        refine X.iinc (q := 39) dJ6_stringSize_0f7a4_36 rfl (by first | exact nI_inc _ | rfl) rfl rfl rfl ?_
        refine X.goto (tgt := 16) dJ6_stringSize_0f7a4_39 (by decide) ?_
        refine X.iload_n (q := 17) dJ6_stringSize_0f7a4_16 rfl rfl ?_
        refine X.bipush (q := 19) dJ6_stringSize_0f7a4_17 (v := 10) rfl rfl ?_
        refine X.icmp_ge (tgt := 42) (q := 22) dJ6_stringSize_0f7a4_19 (by decide) rfl (fun c19 => ?_) (fun c19 => ?_)
        · exact absurd c19 (by decide)
        · refine X.iload_n (q := 23) dJ6_stringSize_0f7a4_22 rfl rfl ?_
          refine X.iload_n (q := 24) dJ6_stringSize_0f7a4_23 rfl rfl ?_
          refine X.icmp_le (tgt := 31) (q := 27) dJ6_stringSize_0f7a4_24 (by decide) rfl (fun c24 => ?_) (fun c24 => ?_)
          · exact absurd ((sb_nle (a := v) (b := 100) (by omega) (by decide)).mp c24) (by omega)
          · refine X.iload_n (q := 28) dJ6_stringSize_0f7a4_27 rfl rfl ?_
            refine X.iload_n (q := 29) dJ6_stringSize_0f7a4_28 rfl rfl ?_
            refine X.iadd (q := 30) dJ6_stringSize_0f7a4_29 rfl ?_
            exact X.iret dJ6_stringSize_0f7a4_30 rfl ⟨by rw [sz_2 h10 hv]; rfl, rfl, rfl, rfl⟩
      · have h1 : v < 10 := by
          rcases Nat.lt_or_ge v 10 with z | z
          · exact z
          · exact absurd ((sb_nle (a := v) (b := 10) (by omega) (by decide)).mpr z) c24
        refine X.iload_n (q := 28) dJ6_stringSize_0f7a4_27 rfl rfl ?_
        refine X.iload_n (q := 29) dJ6_stringSize_0f7a4_28 rfl rfl ?_
        refine X.iadd (q := 30) dJ6_stringSize_0f7a4_29 rfl ?_
        exact X.iret dJ6_stringSize_0f7a4_30 rfl ⟨by rw [sz_1 h1]; rfl, rfl, rfl, rfl⟩
set_option maxHeartbeats 1000000 in
theorem kX_chars {l : Launch} {G : GG} {h : HM} {n v p : Nat} {b va N c : Nat} {ml : Int32} {f : Nat → Int32} {R : va_W} (hv : v < 100) (hp : sb_dg v ≤ p) (hpN : p ≤ N) (hN : N ≤ 1000) (hf : sb_Fit f) : CX l G TJ6_getChars_ba4f3 0 0 0 [.int (nI v), .int (nI p), .ref va] h n ((b, sbO va ml c) :: (va, byA G N f) :: R) (fun v2 h2 n2 E2 => v2 = some (.int (nI (p - sb_dg v))) ∧ h2 = h ∧ n2 = n ∧ ∃ f2, E2 = (b, sbO va ml c) :: (va, byA G N f2) :: R ∧ (∀ j, j < p - sb_dg v → f2 j = f j) ∧ (∀ i, i < sb_dg v → f2 (p - sb_dg v + i) = sb_b (sb_dec v i)) ∧ sb_Fit f2) := by
  have hdg := (sb_dg_in v).1
  have hdg2 : 10 ≤ v → sb_dg v = 2 := fun z => sz_2 z hv
  refine CX.ofX (by decide +kernel) rfl rfl (Nat.le_of_ble_eq_true rfl) ?_
  refine X.iload_n (q := 1) dJ6_getChars_ba4f3_0 rfl rfl ?_
  refine X.istore (q := 3) dJ6_getChars_ba4f3_1 rfl rfl rfl ?_
  refine X.iload_n (q := 4) dJ6_getChars_ba4f3_3 rfl rfl ?_
  refine X.if_ge (tgt := 11) (q := 7) dJ6_getChars_ba4f3_4 (by decide) rfl (fun c4 => ?_) (fun c4 => ?_)
  · refine X.iconst (q := 12) dJ6_getChars_ba4f3_11 (v := 0) rfl rfl ?_
    refine X.istore (q := 14) dJ6_getChars_ba4f3_12 rfl rfl rfl ?_
    refine X.iload (q := 16) dJ6_getChars_ba4f3_14 rfl rfl ?_
    refine X.if_ne (tgt := 22) (q := 19) dJ6_getChars_ba4f3_16 (by decide) rfl (fun c16 => ?_) (fun c16 => ?_)
    · exact absurd rfl c16
    · refine X.iload_n (q := 20) dJ6_getChars_ba4f3_19 rfl rfl ?_
      refine X.ineg (q := 21) dJ6_getChars_ba4f3_20 rfl ?_
      show X _ _ _ _ _ _ _ _ _ _ _ (.int (-nI v) :: _) _ _ _
      refine X.istore_n (q := 22) dJ6_getChars_ba4f3_21 rfl rfl rfl rfl ?_
      refine X.iload_n (q := 23) dJ6_getChars_ba4f3_22 rfl rfl ?_
      refine X.bipush (q := 25) dJ6_getChars_ba4f3_23 (v := (-100)) rfl rfl ?_
      refine X.icmp_gt (tgt := 72) (q := 28) dJ6_getChars_ba4f3_25 (by decide) rfl (fun c25 => ?_) (fun c25 => ?_)
      · refine X.aload_n (q := 73) dJ6_getChars_ba4f3_72 rfl rfl ?_
        refine X.iinc (q := 76) dJ6_getChars_ba4f3_73 rfl (show nI p + Int32.ofInt (-1) = nI (p - 1) from sb_m1 (by omega)) rfl rfl rfl ?_
        refine X.iload (q := 78) dJ6_getChars_ba4f3_76 rfl rfl ?_
        refine X.gets (q := 81) dJ6_getChars_ba4f3_78 xs_do bw_708 rfl ?_
        refine X.iload_n (q := 82) dJ6_getChars_ba4f3_81 rfl rfl ?_
        refine X.ineg (q := 83) dJ6_getChars_ba4f3_82 rfl ?_
        rw [show - -nI v = nI v from Int32.neg_neg]
        refine X.tbald (q := 84) (i := v) dJ6_getChars_ba4f3_83 xt_do (by omega) (by decide) rfl rfl rfl ?_
        refine X.bast (q := 85) (j := 1) (i := p - 1) (N := N) dJ6_getChars_ba4f3_84 rfl (by omega) (by omega) rfl rfl ?_
        refine X.iload_n (q := 86) dJ6_getChars_ba4f3_85 rfl rfl ?_
        refine X.bipush (q := 88) dJ6_getChars_ba4f3_86 (v := (-9)) rfl rfl ?_
        refine X.icmp_ge (tgt := 104) (q := 91) dJ6_getChars_ba4f3_88 (by decide) rfl (fun c88 => ?_) (fun c88 => ?_)
        · have h9 : v < 10 := by
            have := (sb_nle (a := 9) (b := v) (by decide) (by omega)).mp c88
            omega
          refine X.iload (q := 106) dJ6_getChars_ba4f3_104 rfl rfl ?_
          refine X.if_eq (tgt := 118) (q := 109) dJ6_getChars_ba4f3_106 (by decide) rfl (fun c106 => ?_) (fun c106 => ?_)
          · refine X.iload (q := 120) dJ6_getChars_ba4f3_118 rfl rfl ?_
            exact X.iret dJ6_getChars_ba4f3_120 rfl ⟨by rw [sz_1 h9], rfl, rfl, _, rfl, fun j hj => pk_un (by rw [sz_1 h9] at hj; omega), fun i hi => by
      rw [sz_1 h9] at hi
      obtain rfl : i = 0 := by omega
      rw [sz_1 h9, dg_1 h9, Nat.add_zero, pk_us, (dig_tab v hv).1, show v % 10 = v by omega], sb_fitU hf (by rw [(dig_tab v hv).1]; exact sb_fitB _)⟩
          · exact absurd rfl c106
        · have h9 : 10 ≤ v := by
            rcases Nat.lt_or_ge v 10 with z | z
            · exact absurd ((sb_nle (a := 9) (b := v) (by decide) (by omega)).mpr (by omega)) c88
            · exact z
          refine X.aload_n (q := 92) dJ6_getChars_ba4f3_91 rfl rfl ?_
          refine X.iinc (q := 95) dJ6_getChars_ba4f3_92 rfl (show nI (p - 1) + Int32.ofInt (-1) = nI (p - 1 - 1) from sb_m1 (by omega)) rfl rfl rfl ?_
          refine X.iload (q := 97) dJ6_getChars_ba4f3_95 rfl rfl ?_
          refine X.gets (q := 100) dJ6_getChars_ba4f3_97 xs_dt bw_710 rfl ?_
          refine X.iload_n (q := 101) dJ6_getChars_ba4f3_100 rfl rfl ?_
          refine X.ineg (q := 102) dJ6_getChars_ba4f3_101 rfl ?_
          rw [show - -nI v = nI v from Int32.neg_neg]
          refine X.tbald (q := 103) (i := v) dJ6_getChars_ba4f3_102 xt_dt (by omega) (by decide) rfl rfl rfl ?_
          refine X.bast (q := 104) (j := 1) (i := p - 1 - 1) (N := N) dJ6_getChars_ba4f3_103 rfl (by omega) (by omega) rfl rfl ?_
          refine X.iload (q := 106) dJ6_getChars_ba4f3_104 rfl rfl ?_
          refine X.if_eq (tgt := 118) (q := 109) dJ6_getChars_ba4f3_106 (by decide) rfl (fun c106 => ?_) (fun c106 => ?_)
          · refine X.iload (q := 120) dJ6_getChars_ba4f3_118 rfl rfl ?_
            exact X.iret dJ6_getChars_ba4f3_120 rfl ⟨by rw [sz_2 h9 hv]; rfl, rfl, rfl, _, rfl, fun j hj => by rw [sz_2 h9 hv] at hj; rw [pk_un (by omega), pk_un (by omega)], fun i hi => by
      rw [sz_2 h9 hv] at hi
      rcases (show i = 0 ∨ i = 1 by omega) with rfl | rfl
      · rw [sz_2 h9 hv, dg_20 h9 hv, Nat.add_zero, show p - 2 = p - 1 - 1 by omega, pk_us, (dig_tab v hv).2]
      · rw [sz_2 h9 hv, dg_21 h9 hv, show p - 2 + 1 = p - 1 by omega, pk_un (by omega), pk_us, (dig_tab v hv).1], sb_fitU (sb_fitU hf (by rw [(dig_tab v hv).1]; exact sb_fitB _)) (by rw [(dig_tab v hv).2]; exact sb_fitB _)⟩
          · exact absurd rfl c106
      · exact absurd ((sb_nlt (a := 100) (b := v) (by decide) (by omega)).mpr (by omega)) c25
  · exact absurd (nI_pos' (by omega)) c4
set_option maxHeartbeats 1000000 in
theorem kX_appI {l : Launch} {G : GG} {h : HM} {E : va_W} {b c q0 : Nat} {ml : Int32} {t : Nat → Nat} {R : va_W} (hS : SB G b ml t c q0 R E) (hc : c ≤ q0) {v : Nat} (hv : v < 100) (hcw : c + sb_dg v ≤ 400) : CX l G TJ5_append_c97b9 4 1 1000 [.ref b, .int (nI v)] h NC E (RtB G (some (.ref b)) h b ml (sb_cat t c (sb_dec v)) (c + sb_dg v) (c + sb_dg v) R) := by
  obtain ⟨va, N, f, rfl, hcN, hN, hL, hf⟩ := hS
  have hdg := sb_dg_in v
  refine CX.ofX (by decide +kernel) rfl rfl (Nat.le_of_ble_eq_true rfl) ?_
  refine X.aload_n (q := 1) dJ5_append_c97b9_0 rfl rfl ?_
  refine X.get (q := 4) (j := 0) (ci := 4) (i := 3) dJ5_append_c97b9_1 rfl rfl inJ4 (by decide) rfl bw_686 rfl rfl ?_
  refine X.istore_n (q := 5) dJ5_append_c97b9_4 rfl rfl rfl rfl ?_
  refine X.iload_n (q := 6) dJ5_append_c97b9_5 rfl rfl ?_
  refine X.iload_n (q := 7) dJ5_append_c97b9_6 rfl rfl ?_
  refine X.cSt (q := 10) (As := [_]) dJ5_append_c97b9_7 rfl (kX_ssize hv) MJ6_stringSize_0f7a4 bw_702 rfl rfl (by decide) rfl ?_
  refine X.iadd (q := 11) dJ5_append_c97b9_10 rfl ?_
  rw [nI_add]
  refine X.istore_n (q := 12) dJ5_append_c97b9_11 rfl rfl rfl rfl ?_
  refine X.aload_n (q := 13) dJ5_append_c97b9_12 rfl rfl ?_
  refine X.iload_n (q := 14) dJ5_append_c97b9_13 rfl rfl ?_
  refine X.callU (q := 17) (j := 0) (ci := 4) (C := "java/lang/StringBuilder") (owner := "java/lang/AbstractStringBuilder") (x := yJ5_ensureCapacityInternal_d00df) (kX_ensure ⟨va, N, f, rfl, hcN, hN, hL, hf⟩ hc (q := c + sb_dg v) (by omega)) MUJ5_ensureCapacityInternal_d00df (Or.inl rfl) (by decide +kernel) bw_980 (fun s args hts => va_Decl.of (hts _ bw_593) (hts _ bw_594)) (bw_x 0 rfl rfl) bw_591 dJ5_append_c97b9_14 rfl rfl rfl rfl rfl rfl (by decide) (by decide) (by decide) rfl (fun v2 h2 n2 E2 hQ => ?_)
  obtain ⟨rfl, rfl, rfl, va2, N2, f2, rfl, hq2, hN2, hL2, hf2⟩ := hQ
  refine X.aload_n (q := 18) dJ5_append_c97b9_17 rfl rfl ?_
  refine X.callU (q := 21) (j := 0) (ci := 4) (C := "java/lang/StringBuilder") (owner := "java/lang/AbstractStringBuilder") (x := yJ5_isLatin1_aae02) kX_lat1 MUJ5_isLatin1_aae02 (Or.inl rfl) (by decide +kernel) bw_621 (fun s args hts => va_Decl.of (hts _ bw_620) (hts _ bw_623)) bw_622 bw_619 dJ5_append_c97b9_18 rfl rfl rfl rfl rfl rfl (by decide) (by decide) (by decide) rfl (fun v2 h2 n2 E2 hQ => ?_)
  obtain ⟨rfl, rfl, rfl, rfl⟩ := hQ
  refine X.if_eq (tgt := 37) (q := 24) dJ5_append_c97b9_21 (by decide) rfl (fun c21 => ?_) (fun c21 => ?_)
  · exact absurd c21 (by decide)
  · refine X.iload_n (q := 25) dJ5_append_c97b9_24 rfl rfl ?_
    refine X.iload_n (q := 26) dJ5_append_c97b9_25 rfl rfl ?_
    refine X.aload_n (q := 27) dJ5_append_c97b9_26 rfl rfl ?_
    refine X.get (q := 30) (j := 0) (ci := 4) (i := 0) dJ5_append_c97b9_27 rfl rfl inJ4 (by decide) rfl bw_684 rfl rfl ?_
    refine X.callS (q := 33) (kX_chars (p := c + sb_dg v) hv (by omega) hq2 hN2 hf2) MJ6_getChars_ba4f3 bw_705 dJ5_append_c97b9_30 rfl rfl rfl (by decide) (by decide) (by decide) rfl (fun v2 h2 n2 E2 hQ => ?_)
    obtain ⟨rfl, rfl, rfl, f3, rfl, k1, k2, hf3⟩ := hQ
    rw [Nat.add_sub_cancel] at k1 k2
    refine X.pop (q := 34) dJ5_append_c97b9_33 rfl rfl ?_
    refine X.goto (tgt := 48) dJ5_append_c97b9_34 (by decide) ?_
    refine X.aload_n (q := 49) dJ5_append_c97b9_48 rfl rfl ?_
    refine X.iload_n (q := 50) dJ5_append_c97b9_49 rfl rfl ?_
    refine X.put (q := 53) (j9 := 0) (ci := 4) (j := 3) dJ5_append_c97b9_50 rfl rfl inJ4 tyJ4_ok nmJ4 (by decide) rfl bw_686 rfl rfl rfl (Nat.le_of_ble_eq_true rfl) rfl ?_
    refine X.aload_n (q := 54) dJ5_append_c97b9_53 rfl rfl ?_
    exact X.aret dJ5_append_c97b9_54 rfl ⟨rfl, rfl, rfl, _, _, _, rfl, hq2, hN2, sb_latPut hL2 k1 (fun i hi => ⟨by unfold sb_dec; omega, k2 i hi⟩), hf3⟩
set_option maxHeartbeats 1000000 in
theorem kX_sbI {l : Launch} {G : GG} {h : HM} {E : va_W} {b c q0 : Nat} {ml : Int32} {t : Nat → Nat} {R : va_W} (hS : SB G b ml t c q0 R E) (hc : c ≤ q0) {v : Nat} (hv : v < 100) (hcw : c + sb_dg v ≤ 400) : CX l G TJ4_append_bf812 5 1 1000 [.ref b, .int (nI v)] h NC E (RtB G (some (.ref b)) h b ml (sb_cat t c (sb_dec v)) (c + sb_dg v) (c + sb_dg v) R) := by
  obtain ⟨va, N, f, rfl, hcN, hN, hL, hf⟩ := hS
  have hdg := sb_dg_in v
  refine CX.ofX (by decide +kernel) rfl rfl (Nat.le_of_ble_eq_true rfl) ?_
  refine X.aload_n (q := 1) dJ4_append_bf812_0 rfl rfl ?_
  refine X.iload_n (q := 2) dJ4_append_bf812_1 rfl rfl ?_
  refine X.callSU (q := 5) (j := 0) (ci := 4) (kX_appI ⟨va, N, f, rfl, hcN, hN, hL, hf⟩ hc hv hcw) MUJ5_append_c97b9 (by decide) bw_985 bw_585 bw_699 dJ4_append_bf812_2 rfl rfl rfl rfl rfl (by decide) (by decide) (by decide) rfl (fun v2 h2 n2 E2 hQ => ?_)
  obtain ⟨rfl, rfl, rfl, hS2⟩ := hQ
  refine X.pop (q := 6) dJ4_append_bf812_5 rfl rfl ?_
  refine X.aload_n (q := 7) dJ4_append_bf812_6 rfl rfl ?_
  exact X.aret dJ4_append_bf812_7 rfl ⟨rfl, rfl, rfl, hS2⟩
set_option maxHeartbeats 1000000 in
theorem kX_enc {l : Launch} {G : GG} {h : HM} {n : Nat} {E : va_W} {v : Nat} (hv : v < 128) : CX l G TJ1_canEncode_fc78d 0 0 0 [.int (nI v)] h n E (RtX (some (.int 1)) h n E) := by
  refine CX.ofX (by decide +kernel) rfl rfl (Nat.le_of_ble_eq_true rfl) ?_
  refine X.iload_n (q := 1) dJ1_canEncode_fc78d_0 rfl rfl ?_
  refine X.sipush (q := 4) dJ1_canEncode_fc78d_1 (v := 255) rfl rfl ?_
  refine X.icmp_gt (tgt := 11) (q := 7) dJ1_canEncode_fc78d_4 (by decide) rfl (fun c4 => ?_) (fun c4 => ?_)
  · exact absurd (show nI 255 < nI v from c4) (nI_nlt (by omega) (by decide))
  · refine X.iconst (q := 8) dJ1_canEncode_fc78d_7 (v := 1) rfl rfl ?_
    refine X.goto (tgt := 12) dJ1_canEncode_fc78d_8 (by decide) ?_
    exact X.zret (ty := .boolean) rfl dJ1_canEncode_fc78d_12 rfl ⟨rfl, rfl, rfl, rfl⟩
set_option maxHeartbeats 1000000 in
theorem kX_appC {l : Launch} {G : GG} {h : HM} {E : va_W} {b c q0 : Nat} {ml : Int32} {t : Nat → Nat} {R : va_W} (hS : SB G b ml t c q0 R E) (hc : c ≤ q0) {v : Nat} (hv : v < 128) (hcw : c + 1 ≤ 400) : CX l G TJ5_append_3fe6f 4 1 1000 [.ref b, .int (nI v)] h NC E (RtB G (some (.ref b)) h b ml (sb_cat t c (fun _ => v)) (c + 1) (c + 1) R) := by
  obtain ⟨va, N, f, rfl, hcN, hN, hL, hf⟩ := hS
  refine CX.ofX (by decide +kernel) rfl rfl (Nat.le_of_ble_eq_true rfl) ?_
  refine X.aload_n (q := 1) dJ5_append_3fe6f_0 rfl rfl ?_
  refine X.aload_n (q := 2) dJ5_append_3fe6f_1 rfl rfl ?_
  refine X.get (q := 5) (j := 0) (ci := 4) (i := 3) dJ5_append_3fe6f_2 rfl rfl inJ4 (by decide) rfl bw_686 rfl rfl ?_
  refine X.iconst (q := 6) dJ5_append_3fe6f_5 (v := 1) rfl rfl ?_
  refine X.iadd (q := 7) dJ5_append_3fe6f_6 rfl ?_
  rw [nI_1]
  refine X.callU (q := 10) (j := 0) (ci := 4) (C := "java/lang/StringBuilder") (owner := "java/lang/AbstractStringBuilder") (x := yJ5_ensureCapacityInternal_d00df) (kX_ensure ⟨va, N, f, rfl, hcN, hN, hL, hf⟩ hc (q := c + 1) (by omega)) MUJ5_ensureCapacityInternal_d00df (Or.inl rfl) (by decide +kernel) bw_980 (fun s args hts => va_Decl.of (hts _ bw_593) (hts _ bw_594)) (bw_x 0 rfl rfl) bw_591 dJ5_append_3fe6f_7 rfl rfl rfl rfl rfl rfl (by decide) (by decide) (by decide) rfl (fun v2 h2 n2 E2 hQ => ?_)
  obtain ⟨rfl, rfl, rfl, va2, N2, f2, rfl, hq2, hN2, hL2, hf2⟩ := hQ
  refine X.aload_n (q := 11) dJ5_append_3fe6f_10 rfl rfl ?_
  refine X.callU (q := 14) (j := 0) (ci := 4) (C := "java/lang/StringBuilder") (owner := "java/lang/AbstractStringBuilder") (x := yJ5_isLatin1_aae02) kX_lat1 MUJ5_isLatin1_aae02 (Or.inl rfl) (by decide +kernel) bw_621 (fun s args hts => va_Decl.of (hts _ bw_620) (hts _ bw_623)) bw_622 bw_619 dJ5_append_3fe6f_11 rfl rfl rfl rfl rfl rfl (by decide) (by decide) (by decide) rfl (fun v2 h2 n2 E2 hQ => ?_)
  obtain ⟨rfl, rfl, rfl, rfl⟩ := hQ
  refine X.if_eq (tgt := 45) (q := 17) dJ5_append_3fe6f_14 (by decide) rfl (fun c14 => ?_) (fun c14 => ?_)
  · exact absurd c14 (by decide)
  · refine X.iload_n (q := 18) dJ5_append_3fe6f_17 rfl rfl ?_
    refine X.cSt (q := 21) (As := [_]) dJ5_append_3fe6f_18 rfl (kX_enc hv) MJ1_canEncode_fc78d bw_727 rfl rfl (by decide) rfl ?_
    refine X.if_eq (tgt := 45) (q := 24) dJ5_append_3fe6f_21 (by decide) rfl (fun c21 => ?_) (fun c21 => ?_)
    · exact absurd c21 (by decide)
    · refine X.aload_n (q := 25) dJ5_append_3fe6f_24 rfl rfl ?_
      refine X.get (q := 28) (j := 0) (ci := 4) (i := 0) dJ5_append_3fe6f_25 rfl rfl inJ4 (by decide) rfl bw_684 rfl rfl ?_
      refine X.aload_n (q := 29) dJ5_append_3fe6f_28 rfl rfl ?_
      refine X.dup (q := 30) dJ5_append_3fe6f_29 rfl rfl ?_
      refine X.get (q := 33) (j := 0) (ci := 4) (i := 3) dJ5_append_3fe6f_30 rfl rfl inJ4 (by decide) rfl bw_686 rfl rfl ?_
      refine X.dup_x1 (q := 34) dJ5_append_3fe6f_33 rfl rfl rfl ?_
      refine X.iconst (q := 35) dJ5_append_3fe6f_34 (v := 1) rfl rfl ?_
      refine X.iadd (q := 36) dJ5_append_3fe6f_35 rfl ?_
      rw [nI_1]
      refine X.put (q := 39) (j9 := 0) (ci := 4) (j := 3) dJ5_append_3fe6f_36 rfl rfl inJ4 tyJ4_ok nmJ4 (by decide) rfl bw_686 rfl rfl rfl (Nat.le_of_ble_eq_true rfl) rfl ?_
      refine X.iload_n (q := 40) dJ5_append_3fe6f_39 rfl rfl ?_
      refine X.i2b (q := 41) dJ5_append_3fe6f_40 rfl ?_
      refine X.bast (q := 42) (j := 1) (i := c) (N := N2) dJ5_append_3fe6f_41 rfl (by omega) (by omega) rfl rfl ?_
      refine X.goto (tgt := 75) dJ5_append_3fe6f_42 (by decide) ?_
      refine X.aload_n (q := 76) dJ5_append_3fe6f_75 rfl rfl ?_
      exact X.aret dJ5_append_3fe6f_76 rfl ⟨rfl, rfl, rfl, _, _, _, rfl, hq2, hN2, lat_1 hL2 hv, sb_fitU hf2 (by rw [pk_vb]; exact sb_fitB v)⟩
set_option maxHeartbeats 1000000 in
theorem kX_sbC {l : Launch} {G : GG} {h : HM} {E : va_W} {b c q0 : Nat} {ml : Int32} {t : Nat → Nat} {R : va_W} (hS : SB G b ml t c q0 R E) (hc : c ≤ q0) {v : Nat} (hv : v < 128) (hcw : c + 1 ≤ 400) : CX l G TJ4_append_cf468 5 1 1000 [.ref b, .int (nI v)] h NC E (RtB G (some (.ref b)) h b ml (sb_cat t c (fun _ => v)) (c + 1) (c + 1) R) := by
  obtain ⟨va, N, f, rfl, hcN, hN, hL, hf⟩ := hS
  refine CX.ofX (by decide +kernel) rfl rfl (Nat.le_of_ble_eq_true rfl) ?_
  refine X.aload_n (q := 1) dJ4_append_cf468_0 rfl rfl ?_
  refine X.iload_n (q := 2) dJ4_append_cf468_1 rfl rfl ?_
  refine X.callSU (q := 5) (j := 0) (ci := 4) (kX_appC ⟨va, N, f, rfl, hcN, hN, hL, hf⟩ hc hv hcw) MUJ5_append_3fe6f (by decide) bw_986 bw_585 bw_724 dJ4_append_cf468_2 rfl rfl rfl rfl rfl (by decide) (by decide) (by decide) rfl (fun v2 h2 n2 E2 hQ => ?_)
  obtain ⟨rfl, rfl, rfl, hS2⟩ := hQ
  refine X.pop (q := 6) dJ4_append_cf468_5 rfl rfl ?_
  refine X.aload_n (q := 7) dJ4_append_cf468_6 rfl rfl ?_
  exact X.aret dJ4_append_cf468_7 rfl ⟨rfl, rfl, rfl, hS2⟩
set_option maxHeartbeats 1000000 in
theorem kX_alen {l : Launch} {G : GG} {h : HM} {n : Nat} {b va N c : Nat} {ml : Int32} {f : Nat → Int32} {R : va_W} : CX l G TJ5_length_8abf5 0 0 0 [.ref b] h n ((b, sbO va ml c) :: (va, byA G N f) :: R) (RtX (some (.int (nI c))) h n ((b, sbO va ml c) :: (va, byA G N f) :: R)) := by
  refine CX.ofX (by decide +kernel) rfl rfl (Nat.le_of_ble_eq_true rfl) ?_
  refine X.aload_n (q := 1) dJ5_length_8abf5_0 rfl rfl ?_
  refine X.get (q := 4) (j := 0) (ci := 4) (i := 3) dJ5_length_8abf5_1 rfl rfl inJ4 (by decide) rfl bw_686 rfl rfl ?_
  exact X.iret dJ5_length_8abf5_4 rfl ⟨rfl, rfl, rfl, rfl⟩
set_option maxHeartbeats 1000000 in
theorem kX_blen {l : Launch} {G : GG} {h : HM} {n : Nat} {b va N c : Nat} {ml : Int32} {f : Nat → Int32} {R : va_W} : CX l G TJ4_length_8abf5 1 0 0 [.ref b] h n ((b, sbO va ml c) :: (va, byA G N f) :: R) (RtX (some (.int (nI c))) h n ((b, sbO va ml c) :: (va, byA G N f) :: R)) := by
  refine CX.ofX (by decide +kernel) rfl rfl (Nat.le_of_ble_eq_true rfl) ?_
  refine X.aload_n (q := 1) dJ4_length_8abf5_0 rfl rfl ?_
  refine X.callSU (q := 4) (j := 0) (ci := 4) kX_alen MUJ5_length_8abf5 (by decide) bw_987 bw_585 bw_765 dJ4_length_8abf5_1 rfl rfl rfl rfl rfl (by decide) (by decide) (by decide) rfl (fun v2 h2 n2 E2 hQ => ?_)
  obtain ⟨rfl, rfl, rfl, rfl⟩ := hQ
  exact X.iret dJ4_length_8abf5_4 rfl ⟨rfl, rfl, rfl, rfl⟩
set_option maxHeartbeats 1000000 in
theorem kX_achar {l : Launch} {G : GG} {h : HM} {n : Nat} {b va N c : Nat} {ml : Int32} {f : Nat → Int32} {R : va_W} {i : Nat} {t : Nat → Nat} (hcN : c ≤ N) (hN : N ≤ 1000) (hL : sb_Lat t c f) (hi : i < c) : CX l G TJ5_charAt_5068e 2 0 0 [.ref b, .int (nI i)] h n ((b, sbO va ml c) :: (va, byA G N f) :: R) (RtX (some (.int (nI (t i)))) h n ((b, sbO va ml c) :: (va, byA G N f) :: R)) := by
  refine CX.ofX (by decide +kernel) rfl rfl (Nat.le_of_ble_eq_true rfl) ?_
  refine X.aload_n (q := 1) dJ5_charAt_5068e_0 rfl rfl ?_
  refine X.get (q := 4) (j := 0) (ci := 4) (i := 1) dJ5_charAt_5068e_1 rfl rfl inJ4 (by decide) rfl bw_685 rfl rfl ?_
  refine X.istore_n (q := 5) dJ5_charAt_5068e_4 rfl rfl rfl rfl ?_
  refine X.aload_n (q := 6) dJ5_charAt_5068e_5 rfl rfl ?_
  refine X.get (q := 9) (j := 0) (ci := 4) (i := 0) dJ5_charAt_5068e_6 rfl rfl inJ4 (by decide) rfl bw_684 rfl rfl ?_
  refine X.astore_n (q := 10) dJ5_charAt_5068e_9 rfl rfl rfl rfl ?_
  refine X.aload_n (q := 11) dJ5_charAt_5068e_10 rfl rfl ?_
  refine X.get (q := 14) (j := 0) (ci := 4) (i := 3) dJ5_charAt_5068e_11 rfl rfl inJ4 (by decide) rfl bw_686 rfl rfl ?_
  refine X.aload_n (q := 15) dJ5_charAt_5068e_14 rfl rfl ?_
  refine X.alen (q := 16) (j := 1) (t0 := 1) (A := (N, .inl f)) (v := nI N) dJ5_charAt_5068e_15 rfl rfl rfl rfl ?_
  refine X.iload_n (q := 17) dJ5_charAt_5068e_16 rfl rfl ?_
  refine X.ishr (q := 18) dJ5_charAt_5068e_17 rfl ?_
  rw [sb_shr0]
  refine X.mmin (q := 21) dJ5_charAt_5068e_18 bw_780 bw_497 bw_10 bw_498 rfl (by decide) (by decide) (by decide) rfl ?_
  rw [if_neg (nI_nlt hcN (by omega))]
  refine X.istore (q := 23) dJ5_charAt_5068e_21 rfl rfl rfl ?_
  refine X.iload_n (q := 24) dJ5_charAt_5068e_23 rfl rfl ?_
  refine X.iload (q := 26) dJ5_charAt_5068e_24 rfl rfl ?_
  refine X.cSt (q := 29) (As := [_, _]) dJ5_charAt_5068e_26 rfl (kX_chk hi (by omega)) MJ0_checkIndex_df160 bw_781 rfl rfl (by decide) rfl ?_
  refine X.iload_n (q := 30) dJ5_charAt_5068e_29 rfl rfl ?_
  refine X.if_ne (tgt := 42) (q := 33) dJ5_charAt_5068e_30 (by decide) rfl (fun c30 => ?_) (fun c30 => ?_)
  · exact absurd rfl c30
  · refine X.aload_n (q := 34) dJ5_charAt_5068e_33 rfl rfl ?_
    refine X.iload_n (q := 35) dJ5_charAt_5068e_34 rfl rfl ?_
    refine X.bald (q := 36) (j := 1) (i := i) (N := N) dJ5_charAt_5068e_35 rfl (by omega) (by omega) rfl rfl ?_
    rw [(hL i hi).2]
    refine X.sipush (q := 39) dJ5_charAt_5068e_36 (v := 255) rfl rfl ?_
    refine X.iand (q := 40) dJ5_charAt_5068e_39 rfl ?_
    rw [(sb_byte _ (hL i hi).1).1]
    refine X.i2c (q := 41) dJ5_charAt_5068e_40 rfl ?_
    rw [(sb_byte _ (hL i hi).1).2.1]
    exact X.zret (ty := .char) (pk_charN (q := t i) (by have := (hL i hi).1; omega)).1 dJ5_charAt_5068e_41 rfl ⟨rfl, rfl, rfl, rfl⟩
set_option maxHeartbeats 1000000 in
theorem kX_bchar {l : Launch} {G : GG} {h : HM} {n : Nat} {b va N c : Nat} {ml : Int32} {f : Nat → Int32} {R : va_W} {i : Nat} {t : Nat → Nat} (hcN : c ≤ N) (hN : N ≤ 1000) (hL : sb_Lat t c f) (hi : i < c) : CX l G TJ4_charAt_5068e 3 0 0 [.ref b, .int (nI i)] h n ((b, sbO va ml c) :: (va, byA G N f) :: R) (RtX (some (.int (nI (t i)))) h n ((b, sbO va ml c) :: (va, byA G N f) :: R)) := by
  refine CX.ofX (by decide +kernel) rfl rfl (Nat.le_of_ble_eq_true rfl) ?_
  refine X.aload_n (q := 1) dJ4_charAt_5068e_0 rfl rfl ?_
  refine X.iload_n (q := 2) dJ4_charAt_5068e_1 rfl rfl ?_
  refine X.callSU (q := 5) (j := 0) (ci := 4) (kX_achar hcN hN hL hi) MUJ5_charAt_5068e (by decide) bw_988 bw_585 bw_777 dJ4_charAt_5068e_2 rfl rfl rfl rfl rfl (by decide) (by decide) (by decide) rfl (fun v2 h2 n2 E2 hQ => ?_)
  obtain ⟨rfl, rfl, rfl, rfl⟩ := hQ
  exact X.zret (ty := .char) (pk_charN (q := t i) (by have := (hL i hi).1; omega)).1 dJ4_charAt_5068e_5 rfl ⟨rfl, rfl, rfl, rfl⟩
/-- the generator's next state, and what it draws of it -/
def rnS (v : Int32) : Int32 := 1103515245 * v + 12345
def rnD (v : Int32) (k : Nat) : Nat := (v.toUInt32 >>> 16).toNat % 32768 % k
theorem rnD_lt {v : Int32} {k : Nat} (h : 0 < k) : rnD v k < k := Nat.mod_lt _ h
theorem rn_and {v : Int32} : ((v.toUInt32 >>> ((16 : Int32).toUInt32 &&& Int32.toUInt32 31)).toInt32) &&& (32767 : Int32) = nI ((v.toUInt32 >>> 16).toNat % 32768) := by
  apply Int32.toBitVec_inj.mp
  apply BitVec.eq_of_toNat_eq
  have h16 : ((16 : Int32).toUInt32 &&& Int32.toUInt32 31) = 16 := by decide
  rw [h16]
  have e1 : (nI ((v.toUInt32 >>> 16).toNat % 32768)).toBitVec.toNat = (v.toUInt32 >>> 16).toNat % 32768 := by
    show (BitVec.ofNat 32 _).toNat = _
    rw [BitVec.toNat_ofNat]
    exact Nat.mod_eq_of_lt (by have := Nat.mod_lt (v.toUInt32 >>> 16).toNat (show 0 < 32768 by decide); omega)
  rw [e1]
  show ((v.toUInt32 >>> 16).toBitVec &&& 32767#32).toNat = _
  rw [BitVec.toNat_and]
  show (v.toUInt32 >>> 16).toNat &&& 32767 = _
  exact Nat.and_two_pow_sub_one_eq_mod _ 15
theorem nI_rem {a k : Nat} (ha : a < 2 ^ 31) (h0 : 0 < k) (hk : k < 2 ^ 31) : nI a - nI a / nI k * nI k = nI (a % k) := by
  have e : nI a / nI k = nI (a / k) := by
    apply Int32.toInt_inj.mp
    rw [Int32.toInt_div, nI_toInt ha, nI_toInt hk]
    have hq : a / k ≤ a := Nat.div_le_self _ _
    rw [nI_toInt (by omega)]
    rw [show ((a : Int).tdiv (k : Int)) = ((a / k : Nat) : Int) from rfl]
    generalize a / k = z at hq ⊢
    exact Int.bmod_eq_of_le (by omega) (by omega)
  rw [e, pk_mul, pk_sub (Nat.div_mul_le_self _ _)]
  congr 1
  have := Nat.div_add_mod a k
  rw [Nat.mul_comm] at this
  omega
set_option maxHeartbeats 1000000 in
theorem kX_rnInit {l : Launch} {G : GG} {h : HM} {n a : Nat} {v w : Int32} {R : va_W} : CX l G TX5_init 1 0 0 [.ref a, .int v] h n ((a, .inr (3, [.int w])) :: R) (RtX none h n ((a, .inr (3, [.int v])) :: R)) := by
  refine CX.ofX (by decide +kernel) rfl rfl (Nat.le_of_ble_eq_true rfl) ?_
  refine X.aload_n (q := 1) dX5_init_0 rfl rfl ?_
  refine X.objInit (q := 4) dX5_init_1 bw_527 bw_31 bw_32 rfl (by decide) rfl ?_
  refine X.aload_n (q := 5) dX5_init_4 rfl rfl ?_
  refine X.iload_n (q := 6) dX5_init_5 rfl rfl ?_
  refine X.put (q := 9) (j9 := 0) (ci := 3) (j := 0) dX5_init_6 rfl rfl inX5 tyX5_ok nmX5 (by decide) rfl bw_528 rfl rfl rfl (Nat.le_of_ble_eq_true rfl) rfl ?_
  exact X.vret dX5_init_9 rfl ⟨rfl, rfl, rfl, rfl⟩
set_option maxHeartbeats 1000000 in
theorem kX_rnNext {l : Launch} {G : GG} {h : HM} {n a k : Nat} {v : Int32} {R : va_W} (hk : 0 < k) (hk2 : k < 2 ^ 31) : CX l G TX5_next 0 0 0 [.ref a, .int (nI k)] h n ((a, .inr (3, [.int v])) :: R) (RtX (some (.int (nI (rnD (rnS v) k)))) h n ((a, .inr (3, [.int (rnS v)])) :: R)) := by
  have hm : ((1103515245 * v + 12345).toUInt32 >>> 16).toNat % 32768 < 32768 := Nat.mod_lt _ (by decide)
  refine CX.ofX (by decide +kernel) rfl rfl (Nat.le_of_ble_eq_true rfl) ?_
  refine X.aload_n (q := 1) dX5_next_0 rfl rfl ?_
  refine X.ldc (q := 3) dX5_next_1 (v := 1103515245) bw_543 rfl ?_
  refine X.aload_n (q := 4) dX5_next_3 rfl rfl ?_
  refine X.get (q := 7) (j := 0) (ci := 3) (i := 0) dX5_next_4 rfl rfl inX5 (by decide) rfl bw_528 rfl rfl ?_
  refine X.imul (q := 8) dX5_next_7 rfl ?_
  refine X.sipush (q := 11) dX5_next_8 (v := 12345) rfl rfl ?_
  refine X.iadd (q := 12) dX5_next_11 rfl ?_
  refine X.put (q := 15) (j9 := 0) (ci := 3) (j := 0) dX5_next_12 rfl rfl inX5 tyX5_ok nmX5 (by decide) rfl bw_528 rfl rfl rfl (Nat.le_of_ble_eq_true rfl) rfl ?_
  refine X.aload_n (q := 16) dX5_next_15 rfl rfl ?_
  refine X.get (q := 19) (j := 0) (ci := 3) (i := 0) dX5_next_16 rfl rfl inX5 (by decide) rfl bw_528 rfl rfl ?_
  refine X.bipush (q := 21) dX5_next_19 (v := 16) rfl rfl ?_
  refine X.iushr (q := 22) dX5_next_21 rfl ?_
  refine X.sipush (q := 25) dX5_next_22 (v := 32767) rfl rfl ?_
  refine X.iand (q := 26) dX5_next_25 rfl ?_
  rw [rn_and]
  refine X.iload_n (q := 27) dX5_next_26 rfl rfl ?_
  refine X.irem (q := 28) dX5_next_27 (nI_ne0 hk hk2) rfl ?_
  rw [nI_rem (by omega) hk hk2]
  exact X.iret dX5_next_28 rfl ⟨rfl, rfl, rfl, rfl⟩
