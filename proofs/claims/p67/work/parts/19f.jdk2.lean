/-! the JDK: AbstractStringBuilder: capacity, texts -/
/-- the builder at b, with the n letters t, room for q of them, the rest R -/
def SB (G : GG) (b : Nat) (ml : Int32) (t : Nat → Nat) (c q : Nat) (R E : va_W) : Prop := ∃ (va N : Nat) (f : Nat → Int32), E = (b, sbO va ml c) :: (va, byA G N f) :: R ∧ q ≤ N ∧ N ≤ 1000 ∧ sb_Lat t c f ∧ sb_Fit f
def RtB (G : GG) (v : Option Value) (h : HM) (b : Nat) (ml : Int32) (t : Nat → Nat) (c q : Nat) (R : va_W) : PE := fun v2 h2 n2 E2 => v2 = v ∧ h2 = h ∧ n2 = NC ∧ SB G b ml t c q R E2
theorem XE.ens {G : GG} {R : va_W} {H : Heap} {x y z : Nat × va_E} (hE : XE G (x :: y :: z :: R) H) : XE G (y :: x :: R) H := hE.sw.cons (fun h => h.cons (fun h => h.tl) (fun p hp => List.mem_cons_of_mem _ hp)) (fun p hp => by
  rcases List.mem_cons.mp hp with e | e
  · rw [e]; exact List.mem_cons_self
  · exact List.mem_cons_of_mem _ (List.mem_cons_of_mem _ e))
set_option maxHeartbeats 1000000 in
theorem kX_newCap {l : Launch} {G : GG} {h : HM} {n : Nat} {b va N c : Nat} {ml : Int32} {f : Nat → Int32} {R : va_W} {q : Nat} (hqN : N < q) (hq : q ≤ 400) : CX l G TJ5_newCapacity_0f7a4 2 0 0 [.ref b, .int (nI q)] h n ((b, sbO va ml c) :: (va, byA G N f) :: R) (RtX (some (.int (nI (sb_cap q N)))) h n ((b, sbO va ml c) :: (va, byA G N f) :: R)) := by
  have hcap : sb_cap q N = N + if q - N < N + 2 then N + 2 else q - N := by
    unfold sb_cap
    rw [if_neg (by omega)]
    split <;> split <;> omega
  have hcb : q ≤ sb_cap q N ∧ sb_cap q N ≤ 1000 := by
    rw [hcap]
    split <;> omega
  refine CX.ofX (by decide +kernel) rfl rfl (Nat.le_of_ble_eq_true rfl) ?_
  refine X.aload_n (q := 1) dJ5_newCapacity_0f7a4_0 rfl rfl ?_
  refine X.get (q := 4) (j := 0) (ci := 4) (i := 0) dJ5_newCapacity_0f7a4_1 rfl rfl inJ4 (by decide) rfl bw_684 rfl rfl ?_
  refine X.alen (q := 5) (j := 1) (t0 := 1) (A := (N, .inl f)) (v := nI N) dJ5_newCapacity_0f7a4_4 rfl rfl rfl rfl ?_
  refine X.istore_n (q := 6) dJ5_newCapacity_0f7a4_5 rfl rfl rfl rfl ?_
  refine X.iload_n (q := 7) dJ5_newCapacity_0f7a4_6 rfl rfl ?_
  refine X.aload_n (q := 8) dJ5_newCapacity_0f7a4_7 rfl rfl ?_
  refine X.get (q := 11) (j := 0) (ci := 4) (i := 1) dJ5_newCapacity_0f7a4_8 rfl rfl inJ4 (by decide) rfl bw_685 rfl rfl ?_
  refine X.ishl (q := 12) dJ5_newCapacity_0f7a4_11 rfl ?_
  rw [sb_shl0]
  refine X.istore_n (q := 13) dJ5_newCapacity_0f7a4_12 rfl rfl rfl rfl ?_
  refine X.iload_n (q := 14) dJ5_newCapacity_0f7a4_13 rfl rfl ?_
  refine X.iload_n (q := 15) dJ5_newCapacity_0f7a4_14 rfl rfl ?_
  refine X.isub (q := 16) dJ5_newCapacity_0f7a4_15 rfl ?_
  rw [show nI q - nI N = nI (q - N) from pk_sub (by omega)]
  refine X.istore (q := 18) dJ5_newCapacity_0f7a4_16 rfl rfl rfl ?_
  refine X.iload_n (q := 19) dJ5_newCapacity_0f7a4_18 rfl rfl ?_
  refine X.iload (q := 21) dJ5_newCapacity_0f7a4_19 rfl rfl ?_
  refine X.iload_n (q := 22) dJ5_newCapacity_0f7a4_21 rfl rfl ?_
  refine X.iconst (q := 23) dJ5_newCapacity_0f7a4_22 (v := 2) rfl rfl ?_
  refine X.aload_n (q := 24) dJ5_newCapacity_0f7a4_23 rfl rfl ?_
  refine X.get (q := 27) (j := 0) (ci := 4) (i := 1) dJ5_newCapacity_0f7a4_24 rfl rfl inJ4 (by decide) rfl bw_685 rfl rfl ?_
  refine X.ishl (q := 28) dJ5_newCapacity_0f7a4_27 rfl ?_
  rw [sb_shl0]
  refine X.iadd (q := 29) dJ5_newCapacity_0f7a4_28 rfl ?_
  rw [show nI N + 2 = nI (N + 2) from nI_add N 2]
  refine X.cSt (q := 32) (As := [_, _, _]) dJ5_newCapacity_0f7a4_29 rfl (kX_newLength (a := N) (b := q - N) (c := N + 2) (r := sb_cap q N) hcap (by omega) (by omega)) MJ8_newLength_cabcc bw_599 rfl rfl (by decide) rfl ?_
  refine X.istore (q := 34) dJ5_newCapacity_0f7a4_32 rfl rfl rfl ?_
  refine X.iload (q := 36) dJ5_newCapacity_0f7a4_34 rfl rfl ?_
  refine X.ldc (q := 38) dJ5_newCapacity_0f7a4_36 (v := 2147483647) bw_565 rfl ?_
  refine X.icmp_ne (tgt := 51) (q := 41) dJ5_newCapacity_0f7a4_38 (by decide) rfl (fun c38 => ?_) (fun c38 => ?_)
  · refine X.iload (q := 53) dJ5_newCapacity_0f7a4_51 rfl rfl ?_
    refine X.aload_n (q := 54) dJ5_newCapacity_0f7a4_53 rfl rfl ?_
    refine X.get (q := 57) (j := 0) (ci := 4) (i := 1) dJ5_newCapacity_0f7a4_54 rfl rfl inJ4 (by decide) rfl bw_685 rfl rfl ?_
    refine X.ishr (q := 58) dJ5_newCapacity_0f7a4_57 rfl ?_
    rw [sb_shr0]
    exact X.iret dJ5_newCapacity_0f7a4_58 rfl ⟨rfl, rfl, rfl, rfl⟩
  · exact absurd ((nI_eq (by omega) (by decide)).mp (show nI (sb_cap q N) = nI 2147483647 from c38)) (by omega)
set_option maxHeartbeats 1000000 in
theorem kX_ensure {l : Launch} {G : GG} {h : HM} {E : va_W} {b c q q0 : Nat} {ml : Int32} {t : Nat → Nat} {R : va_W} (hS : SB G b ml t c q0 R E) (hc : c ≤ q0) (hq : q ≤ 400) : CX l G TJ5_ensureCapacityInternal_d00df 3 1 1000 [.ref b, .int (nI q)] h NC E (RtB G none h b ml t c q R) := by
  obtain ⟨va, N, f, rfl, hcN, hN, hL, hf⟩ := hS
  have e1 : (nI q - nI N).toInt = (q : Int) - N := pk_sub_toInt (by omega) (by omega)
  refine CX.ofX (by decide +kernel) rfl rfl (Nat.le_of_ble_eq_true rfl) ?_
  refine X.aload_n (q := 1) dJ5_ensureCapacityInternal_d00df_0 rfl rfl ?_
  refine X.get (q := 4) (j := 0) (ci := 4) (i := 0) dJ5_ensureCapacityInternal_d00df_1 rfl rfl inJ4 (by decide) rfl bw_684 rfl rfl ?_
  refine X.alen (q := 5) (j := 1) (t0 := 1) (A := (N, .inl f)) (v := nI N) dJ5_ensureCapacityInternal_d00df_4 rfl rfl rfl rfl ?_
  refine X.aload_n (q := 6) dJ5_ensureCapacityInternal_d00df_5 rfl rfl ?_
  refine X.get (q := 9) (j := 0) (ci := 4) (i := 1) dJ5_ensureCapacityInternal_d00df_6 rfl rfl inJ4 (by decide) rfl bw_685 rfl rfl ?_
  refine X.ishr (q := 10) dJ5_ensureCapacityInternal_d00df_9 rfl ?_
  rw [sb_shr0]
  refine X.istore_n (q := 11) dJ5_ensureCapacityInternal_d00df_10 rfl rfl rfl rfl ?_
  refine X.iload_n (q := 12) dJ5_ensureCapacityInternal_d00df_11 rfl rfl ?_
  refine X.iload_n (q := 13) dJ5_ensureCapacityInternal_d00df_12 rfl rfl ?_
  refine X.isub (q := 14) dJ5_ensureCapacityInternal_d00df_13 rfl ?_
  refine X.if_le (tgt := 38) (q := 17) dJ5_ensureCapacityInternal_d00df_14 (by decide) rfl (fun c14 => ?_) (fun c14 => ?_)
  · have hle : q ≤ N := by
      have h1 := Int32.le_iff_toInt_le.mp c14
      rw [e1, Int32.toInt_zero] at h1
      omega
    exact X.vret dJ5_ensureCapacityInternal_d00df_38 rfl ⟨rfl, rfl, rfl, _, _, _, rfl, hle, hN, hL, hf⟩
  · have hlt : N < q := by
      rcases Nat.lt_or_ge N q with z | z
      · exact z
      · exact absurd (Int32.le_iff_toInt_le.mpr (by rw [e1, Int32.toInt_zero]; omega)) c14
    have hcb : N < sb_cap q N ∧ sb_cap q N ≤ 1000 := by
      unfold sb_cap
      rw [if_neg (by omega)]
      split <;> omega
    have hqc := sb_cap_ge q N
    refine X.aload_n (q := 18) dJ5_ensureCapacityInternal_d00df_17 rfl rfl ?_
    refine X.aload_n (q := 19) dJ5_ensureCapacityInternal_d00df_18 rfl rfl ?_
    refine X.get (q := 22) (j := 0) (ci := 4) (i := 0) dJ5_ensureCapacityInternal_d00df_19 rfl rfl inJ4 (by decide) rfl bw_684 rfl rfl ?_
    refine X.aload_n (q := 23) dJ5_ensureCapacityInternal_d00df_22 rfl rfl ?_
    refine X.iload_n (q := 24) dJ5_ensureCapacityInternal_d00df_23 rfl rfl ?_
    refine X.callU (q := 27) (j := 0) (ci := 4) (C := "java/lang/StringBuilder") (owner := "java/lang/AbstractStringBuilder") (x := yJ5_newCapacity_0f7a4) (kX_newCap hlt hq) MUJ5_newCapacity_0f7a4 (Or.inl rfl) (by decide +kernel) bw_981 (fun s args hts => va_Decl.of (hts _ bw_597) (hts _ bw_598)) (bw_x 1 rfl rfl) bw_595 dJ5_ensureCapacityInternal_d00df_24 rfl rfl rfl rfl rfl rfl (by decide) (by decide) (by decide) rfl (fun v2 h2 n2 E2 hQ => ?_)
    obtain ⟨rfl, rfl, rfl, rfl⟩ := hQ
    refine X.aload_n (q := 28) dJ5_ensureCapacityInternal_d00df_27 rfl rfl ?_
    refine X.get (q := 31) (j := 0) (ci := 4) (i := 1) dJ5_ensureCapacityInternal_d00df_28 rfl rfl inJ4 (by decide) rfl bw_685 rfl rfl ?_
    refine X.ishl (q := 32) dJ5_ensureCapacityInternal_d00df_31 rfl ?_
    rw [sb_shl0]
    refine X.callS (q := 35) (kX_copyOf (j9 := 1) (va := va) (N := N) (M9 := sb_cap q N) (f := f) rfl hcb.1 hcb.2 hf) MJ7_copyOf_9075b bw_607 dJ5_ensureCapacityInternal_d00df_32 rfl rfl rfl (by decide) (by decide) (by decide) rfl (fun v2 h2 n2 E2 hQ => ?_)
    obtain ⟨a2, f2, rfl, rfl, rfl, rfl, hk2, hf2⟩ := hQ
    refine X.put (q := 38) (j9 := 1) (ci := 4) (j := 0) dJ5_ensureCapacityInternal_d00df_35 rfl rfl inJ4 tyJ4_ok nmJ4 (by decide) rfl bw_684 rfl rfl rfl (Nat.le_of_ble_eq_true rfl) rfl ?_
    refine X.ex (E2 := (b, sbO a2 ml c) :: (a2, byA G (sb_cap q N) f2) :: R) (fun H hE => XE.ens hE) ?_
    exact X.vret dJ5_ensureCapacityInternal_d00df_38 rfl ⟨rfl, rfl, rfl, _, _, _, rfl, hqc, hcb.2, sb_latKeep hL (fun j hj => hk2 j (by omega)), hf2⟩
set_option maxHeartbeats 1000000 in
theorem kX_infl {l : Launch} {G : GG} {h : HM} {n j : Nat} {b va N c : Nat} {ml : Int32} {f : Nat → Int32} {R : va_W} (hj : j < ev_ks.length) : CX l G TJ5_inflateIfNeededFor_a7421 1 0 0 [.ref b, .ref (gA G (100 + j))] h n ((b, sbO va ml c) :: (va, byA G N f) :: R) (RtX none h n ((b, sbO va ml c) :: (va, byA G N f) :: R)) := by
  refine CX.ofX (by decide +kernel) rfl rfl (Nat.le_of_ble_eq_true rfl) ?_
  refine X.gets (q := 3) dJ5_inflateIfNeededFor_a7421_0 xs_cs bw_624 rfl ?_
  refine X.if_eq (tgt := 21) (q := 6) dJ5_inflateIfNeededFor_a7421_3 (by decide) rfl (fun c3 => ?_) (fun c3 => ?_)
  · exact absurd c3 (by decide)
  · refine X.aload_n (q := 7) dJ5_inflateIfNeededFor_a7421_6 rfl rfl ?_
    refine X.get (q := 10) (j := 0) (ci := 4) (i := 1) dJ5_inflateIfNeededFor_a7421_7 rfl rfl inJ4 (by decide) rfl bw_685 rfl rfl ?_
    refine X.aload_n (q := 11) dJ5_inflateIfNeededFor_a7421_10 rfl rfl ?_
    refine X.cO (q := 14) (As := []) dJ5_inflateIfNeededFor_a7421_11 rfl (kX_coder hj) MJ0_coder_7d493 bw_566 (xo_str hj) rfl rfl (by decide) rfl ?_
    refine X.icmp_eq (tgt := 21) (q := 17) dJ5_inflateIfNeededFor_a7421_14 (by decide) rfl (fun c14 => ?_) (fun c14 => ?_)
    · exact X.vret dJ5_inflateIfNeededFor_a7421_21 rfl ⟨rfl, rfl, rfl, rfl⟩
    · exact absurd rfl c14
set_option maxHeartbeats 1000000 in
theorem kX_lat1 {l : Launch} {G : GG} {h : HM} {n : Nat} {b va N c : Nat} {ml : Int32} {f : Nat → Int32} {R : va_W} : CX l G TJ5_isLatin1_aae02 0 0 0 [.ref b] h n ((b, sbO va ml c) :: (va, byA G N f) :: R) (RtX (some (.int 1)) h n ((b, sbO va ml c) :: (va, byA G N f) :: R)) := by
  refine CX.ofX (by decide +kernel) rfl rfl (Nat.le_of_ble_eq_true rfl) ?_
  refine X.gets (q := 3) dJ5_isLatin1_aae02_0 xs_cs bw_624 rfl ?_
  refine X.if_eq (tgt := 17) (q := 6) dJ5_isLatin1_aae02_3 (by decide) rfl (fun c3 => ?_) (fun c3 => ?_)
  · exact absurd c3 (by decide)
  · refine X.aload_n (q := 7) dJ5_isLatin1_aae02_6 rfl rfl ?_
    refine X.get (q := 10) (j := 0) (ci := 4) (i := 1) dJ5_isLatin1_aae02_7 rfl rfl inJ4 (by decide) rfl bw_685 rfl rfl ?_
    refine X.if_ne (tgt := 17) (q := 13) dJ5_isLatin1_aae02_10 (by decide) rfl (fun c10 => ?_) (fun c10 => ?_)
    · exact absurd rfl c10
    · refine X.iconst (q := 14) dJ5_isLatin1_aae02_13 (v := 1) rfl rfl ?_
      refine X.goto (tgt := 18) dJ5_isLatin1_aae02_14 (by decide) ?_
      exact X.zret (ty := .boolean) rfl dJ5_isLatin1_aae02_18 rfl ⟨rfl, rfl, rfl, rfl⟩
set_option maxHeartbeats 1000000 in
theorem kX_put {l : Launch} {G : GG} {h : HM} {j : Nat} {b va N c : Nat} {ml : Int32} {f : Nat → Int32} {R : va_W} (hj : j < ev_ks.length) (hcw : c + jLen j ≤ N) (hN : N ≤ 1000) : CX l G TJ5_putStringAt_47b60 3 0 0 [.ref b, .int (nI c), .ref (gA G (100 + j))] h NC ((b, sbO va ml c) :: (va, byA G N f) :: R) (RtX none h NC ((b, sbO va ml c) :: (va, byA G N (va_cpy (fun k => (xb j).getD k 0) f 0 c (jLen j))) :: R)) := by
  refine CX.ofX (by decide +kernel) rfl rfl (Nat.le_of_ble_eq_true rfl) ?_
  refine X.aload_n (q := 1) dJ5_putStringAt_47b60_0 rfl rfl ?_
  refine X.aload_n (q := 2) dJ5_putStringAt_47b60_1 rfl rfl ?_
  refine X.callU (q := 5) (j := 0) (ci := 4) (C := "java/lang/StringBuilder") (owner := "java/lang/AbstractStringBuilder") (x := yJ5_inflateIfNeededFor_a7421) (kX_infl hj) MUJ5_inflateIfNeededFor_a7421 (Or.inl rfl) (by decide +kernel) bw_983 (fun s args hts => va_Decl.of (hts _ bw_657) (hts _ bw_658)) (bw_x 3 rfl rfl) bw_655 dJ5_putStringAt_47b60_2 rfl rfl rfl rfl rfl rfl (by decide) (by decide) (by decide) rfl (fun v2 h2 n2 E2 hQ => ?_)
  obtain ⟨rfl, rfl, rfl, rfl⟩ := hQ
  refine X.aload_n (q := 6) dJ5_putStringAt_47b60_5 rfl rfl ?_
  refine X.aload_n (q := 7) dJ5_putStringAt_47b60_6 rfl rfl ?_
  refine X.get (q := 10) (j := 0) (ci := 4) (i := 0) dJ5_putStringAt_47b60_7 rfl rfl inJ4 (by decide) rfl bw_684 rfl rfl ?_
  refine X.iload_n (q := 11) dJ5_putStringAt_47b60_10 rfl rfl ?_
  refine X.aload_n (q := 12) dJ5_putStringAt_47b60_11 rfl rfl ?_
  refine X.get (q := 15) (j := 0) (ci := 4) (i := 1) dJ5_putStringAt_47b60_12 rfl rfl inJ4 (by decide) rfl bw_685 rfl rfl ?_
  refine X.cO (q := 18) (As := [_, _, _]) dJ5_putStringAt_47b60_15 rfl (kX_getBytes (j9 := 1) hj rfl hcw hN) MJ0_getBytes_840e7 bw_678 (xo_str hj) rfl rfl (by decide) rfl ?_
  exact X.vret dJ5_putStringAt_47b60_18 rfl ⟨rfl, rfl, rfl, rfl⟩
/-- a constant's letters -/
def jT (j : Nat) : Nat → Nat := fun i => ((xb j).getD i 0).toNatClampNeg
theorem jT_ok : ∀ j, j < ev_ks.length → ∀ i, i < jLen j → jT j i < 128 ∧ (xb j).getD i 0 = sb_b (jT j i) := by decide +kernel
theorem lat_put {t : Nat → Nat} {c j : Nat} {f : Nat → Int32} (hj : j < ev_ks.length) (hL : sb_Lat t c f) : sb_Lat (sb_cat t c (jT j)) (c + jLen j) (va_cpy (fun k => (xb j).getD k 0) f 0 c (jLen j)) :=
  sb_latPut hL (fun i hi => pk_cpy_out (Or.inl hi)) (fun i hi => by
    obtain ⟨h1, h2⟩ := jT_ok j hj i hi
    refine ⟨by omega, ?_⟩
    rw [pk_cpy_in (by omega) (by omega), show 0 + (c + i - c) = i by omega]
    exact h2)
theorem fit_put {j c : Nat} {f : Nat → Int32} (hj : j < ev_ks.length) (hf : sb_Fit f) : sb_Fit (va_cpy (fun k => (xb j).getD k 0) f 0 c (jLen j)) := fun i => by
  by_cases h : c ≤ i ∧ i < c + jLen j
  · rw [pk_cpy_in h.1 h.2]
    exact ((xb_ok j hj).2 _ (by show 0 + (i - c) < jLen j; omega)).1
  · rw [pk_cpy_out (by omega)]
    exact hf i
set_option maxHeartbeats 1000000 in
theorem kX_appS {l : Launch} {G : GG} {h : HM} {E : va_W} {b c q0 : Nat} {ml : Int32} {t : Nat → Nat} {R : va_W} (hS : SB G b ml t c q0 R E) (hc : c ≤ q0) {j : Nat} (hj : j < ev_ks.length) (hcw : c + jLen j ≤ 400) : CX l G TJ5_append_cf1ce 4 1 1000 [.ref b, .ref (gA G (100 + j))] h NC E (RtB G (some (.ref b)) h b ml (sb_cat t c (jT j)) (c + jLen j) (c + jLen j) R) := by
  obtain ⟨va, N, f, rfl, hcN, hN, hL, hf⟩ := hS
  refine CX.ofX (by decide +kernel) rfl rfl (Nat.le_of_ble_eq_true rfl) ?_
  refine X.aload_n (q := 1) dJ5_append_cf1ce_0 rfl rfl ?_
  refine X.ifnonnull (tgt := 9) dJ5_append_cf1ce_1 (by decide) ?_
  refine X.aload_n (q := 10) dJ5_append_cf1ce_9 rfl rfl ?_
  refine X.cO (q := 13) (As := []) dJ5_append_cf1ce_10 rfl (kX_slen hj) MJ0_length_8abf5 bw_554 (xo_str hj) rfl rfl (by decide) rfl ?_
  refine X.istore_n (q := 14) dJ5_append_cf1ce_13 rfl rfl rfl rfl ?_
  refine X.aload_n (q := 15) dJ5_append_cf1ce_14 rfl rfl ?_
  refine X.aload_n (q := 16) dJ5_append_cf1ce_15 rfl rfl ?_
  refine X.get (q := 19) (j := 0) (ci := 4) (i := 3) dJ5_append_cf1ce_16 rfl rfl inJ4 (by decide) rfl bw_686 rfl rfl ?_
  refine X.iload_n (q := 20) dJ5_append_cf1ce_19 rfl rfl ?_
  refine X.iadd (q := 21) dJ5_append_cf1ce_20 rfl ?_
  rw [nI_add]
  refine X.callU (q := 24) (j := 0) (ci := 4) (C := "java/lang/StringBuilder") (owner := "java/lang/AbstractStringBuilder") (x := yJ5_ensureCapacityInternal_d00df) (kX_ensure ⟨va, N, f, rfl, hcN, hN, hL, hf⟩ hc (q := c + jLen j) (by omega)) MUJ5_ensureCapacityInternal_d00df (Or.inl rfl) (by decide +kernel) bw_980 (fun s args hts => va_Decl.of (hts _ bw_593) (hts _ bw_594)) (bw_x 0 rfl rfl) bw_591 dJ5_append_cf1ce_21 rfl rfl rfl rfl rfl rfl (by decide) (by decide) (by decide) rfl (fun v2 h2 n2 E2 hQ => ?_)
  obtain ⟨rfl, rfl, rfl, va2, N2, f2, rfl, hq2, hN2, hL2, hf2⟩ := hQ
  refine X.aload_n (q := 25) dJ5_append_cf1ce_24 rfl rfl ?_
  refine X.aload_n (q := 26) dJ5_append_cf1ce_25 rfl rfl ?_
  refine X.get (q := 29) (j := 0) (ci := 4) (i := 3) dJ5_append_cf1ce_26 rfl rfl inJ4 (by decide) rfl bw_686 rfl rfl ?_
  refine X.aload_n (q := 30) dJ5_append_cf1ce_29 rfl rfl ?_
  refine X.callU (q := 33) (j := 0) (ci := 4) (C := "java/lang/StringBuilder") (owner := "java/lang/AbstractStringBuilder") (x := yJ5_putStringAt_47b60) (kX_put hj hq2 hN2) MUJ5_putStringAt_47b60 (Or.inl rfl) (by decide +kernel) bw_982 (fun s args hts => va_Decl.of (hts _ bw_653) (hts _ bw_654)) (bw_x 2 rfl rfl) bw_651 dJ5_append_cf1ce_30 rfl rfl rfl rfl rfl rfl (by decide) (by decide) (by decide) rfl (fun v2 h2 n2 E2 hQ => ?_)
  obtain ⟨rfl, rfl, rfl, rfl⟩ := hQ
  refine X.aload_n (q := 34) dJ5_append_cf1ce_33 rfl rfl ?_
  refine X.dup (q := 35) dJ5_append_cf1ce_34 rfl rfl ?_
  refine X.get (q := 38) (j := 0) (ci := 4) (i := 3) dJ5_append_cf1ce_35 rfl rfl inJ4 (by decide) rfl bw_686 rfl rfl ?_
  refine X.iload_n (q := 39) dJ5_append_cf1ce_38 rfl rfl ?_
  refine X.iadd (q := 40) dJ5_append_cf1ce_39 rfl ?_
  rw [nI_add]
  refine X.put (q := 43) (j9 := 0) (ci := 4) (j := 3) dJ5_append_cf1ce_40 rfl rfl inJ4 tyJ4_ok nmJ4 (by decide) rfl bw_686 rfl rfl rfl (Nat.le_of_ble_eq_true rfl) rfl ?_
  refine X.aload_n (q := 44) dJ5_append_cf1ce_43 rfl rfl ?_
  exact X.aret dJ5_append_cf1ce_44 rfl ⟨rfl, rfl, rfl, _, _, _, rfl, hq2, hN2, lat_put hj hL2, fit_put hj hf2⟩
set_option maxHeartbeats 1000000 in
theorem kX_sbS {l : Launch} {G : GG} {h : HM} {E : va_W} {b c q0 : Nat} {ml : Int32} {t : Nat → Nat} {R : va_W} (hS : SB G b ml t c q0 R E) (hc : c ≤ q0) {j : Nat} (hj : j < ev_ks.length) (hcw : c + jLen j ≤ 400) : CX l G TJ4_append_15ec4 5 1 1000 [.ref b, .ref (gA G (100 + j))] h NC E (RtB G (some (.ref b)) h b ml (sb_cat t c (jT j)) (c + jLen j) (c + jLen j) R) := by
  obtain ⟨va, N, f, rfl, hcN, hN, hL, hf⟩ := hS
  refine CX.ofX (by decide +kernel) rfl rfl (Nat.le_of_ble_eq_true rfl) ?_
  refine X.aload_n (q := 1) dJ4_append_15ec4_0 rfl rfl ?_
  refine X.aload_n (q := 2) dJ4_append_15ec4_1 rfl rfl ?_
  refine X.callSU (q := 5) (j := 0) (ci := 4) (kX_appS ⟨va, N, f, rfl, hcN, hN, hL, hf⟩ hc hj hcw) MUJ5_append_cf1ce (by decide) bw_576 bw_585 bw_584 dJ4_append_15ec4_2 rfl rfl rfl rfl rfl (by decide) (by decide) (by decide) rfl (fun v2 h2 n2 E2 hQ => ?_)
  obtain ⟨rfl, rfl, rfl, hS2⟩ := hQ
  refine X.pop (q := 6) dJ4_append_15ec4_5 rfl rfl ?_
  refine X.aload_n (q := 7) dJ4_append_15ec4_6 rfl rfl ?_
  exact X.aret dJ4_append_15ec4_7 rfl ⟨rfl, rfl, rfl, hS2⟩
set_option maxHeartbeats 1000000 in
theorem kX_brS {l : Launch} {G : GG} {h : HM} {E : va_W} {b c q0 : Nat} {ml : Int32} {t : Nat → Nat} {R : va_W} (hS : SB G b ml t c q0 R E) (hc : c ≤ q0) {j : Nat} (hj : j < ev_ks.length) (hcw : c + jLen j ≤ 400) : CX l G TJ4_append_cf1ce 6 1 1000 [.ref b, .ref (gA G (100 + j))] h NC E (RtB G (some (.ref b)) h b ml (sb_cat t c (jT j)) (c + jLen j) (c + jLen j) R) := by
  obtain ⟨va, N, f, rfl, hcN, hN, hL, hf⟩ := hS
  refine CX.ofX (by decide +kernel) rfl rfl (Nat.le_of_ble_eq_true rfl) ?_
  refine X.aload_n (q := 1) dJ4_append_cf1ce_0 rfl rfl ?_
  refine X.aload_n (q := 2) dJ4_append_cf1ce_1 rfl rfl ?_
  refine X.callV (q := 5) (j := 0) (ci := 4) (kX_sbS ⟨va, N, f, rfl, hcN, hN, hL, hf⟩ hc hj hcw) MJ4_append_15ec4 bw_580 dJ4_append_cf1ce_2 rfl rfl rfl rfl rfl rfl (by decide) (by decide) (by decide) rfl (fun v2 h2 n2 E2 hQ => ?_)
  obtain ⟨rfl, rfl, rfl, hS2⟩ := hQ
  exact X.aret dJ4_append_cf1ce_5 rfl ⟨rfl, rfl, rfl, hS2⟩
set_option maxHeartbeats 1000000 in
theorem kX_asbInit {l : Launch} {G : GG} {h : HM} {b j : Nat} {t : Nat → Nat} {R : va_W} (hj : j < ev_ks.length) : CX l G TJ5_init_a7421 7 2 1100 [.ref b, .ref (gA G (100 + j))] h NC ((b, (.inr (4, [.null, .int 0, .int 0, .int 0]))) :: R) (RtB G none h b 0 (sb_cat t 0 (jT j)) (jLen j) (jLen j) R) := by
  have hw : jLen j ≤ 60 := (xb_ok j hj).1
  refine CX.ofX (by decide +kernel) rfl rfl (Nat.le_of_ble_eq_true rfl) ?_
  refine X.aload_n (q := 1) dJ5_init_a7421_0 rfl rfl ?_
  refine X.objInit (q := 4) dJ5_init_a7421_1 bw_553 bw_31 bw_32 rfl (by decide) rfl ?_
  refine X.aload_n (q := 5) dJ5_init_a7421_4 rfl rfl ?_
  refine X.cO (q := 8) (As := []) dJ5_init_a7421_5 rfl (kX_slen hj) MJ0_length_8abf5 bw_554 (xo_str hj) rfl rfl (by decide) rfl ?_
  refine X.istore_n (q := 9) dJ5_init_a7421_8 rfl rfl rfl rfl ?_
  refine X.iload_n (q := 10) dJ5_init_a7421_9 rfl rfl ?_
  refine X.ldc (q := 12) dJ5_init_a7421_10 (v := 2147483631) bw_564 rfl ?_
  refine X.icmp_ge (tgt := 22) (q := 15) dJ5_init_a7421_12 (by decide) rfl (fun c12 => ?_) (fun c12 => ?_)
  · exact absurd (show nI 2147483631 ≤ nI (jLen j) from c12) (nI_ge (by omega) (by decide))
  · refine X.iload_n (q := 16) dJ5_init_a7421_15 rfl rfl ?_
    refine X.bipush (q := 18) dJ5_init_a7421_16 (v := 16) rfl rfl ?_
    refine X.iadd (q := 19) dJ5_init_a7421_18 rfl ?_
    rw [show nI (jLen j) + 16 = nI (jLen j + 16) from nI_add (jLen j) 16]
    refine X.goto (tgt := 24) dJ5_init_a7421_19 (by decide) ?_
    refine X.istore_n (q := 25) dJ5_init_a7421_24 rfl rfl rfl rfl ?_
    refine X.aload_n (q := 26) dJ5_init_a7421_25 rfl rfl ?_
    refine X.cO (q := 29) (As := []) dJ5_init_a7421_26 rfl (kX_coder hj) MJ0_coder_7d493 bw_566 (xo_str hj) rfl rfl (by decide) rfl ?_
    refine X.istore (q := 31) dJ5_init_a7421_29 rfl rfl rfl ?_
    refine X.aload_n (q := 32) dJ5_init_a7421_31 rfl rfl ?_
    refine X.iload (q := 34) dJ5_init_a7421_32 rfl rfl ?_
    refine X.put (q := 37) (j9 := 0) (ci := 4) (j := 1) dJ5_init_a7421_34 rfl rfl inJ4 tyJ4_ok nmJ4 (by decide) rfl bw_685 rfl rfl rfl (Nat.le_of_ble_eq_true rfl) rfl ?_
    refine X.aload_n (q := 38) dJ5_init_a7421_37 rfl rfl ?_
    refine X.iload (q := 40) dJ5_init_a7421_38 rfl rfl ?_
    refine X.if_ne (tgt := 49) (q := 43) dJ5_init_a7421_40 (by decide) rfl (fun c40 => ?_) (fun c40 => ?_)
    · exact absurd rfl c40
    · refine X.iload_n (q := 44) dJ5_init_a7421_43 rfl rfl ?_
      refine X.newarr (q := 46) (t0 := 1) (N := jLen j + 16) (ty := .byte) (a0 := (jLen j + 16, .inl (fun _ => 0))) dJ5_init_a7421_44 bw_167 rfl trivial rfl (fun _ => rfl) rfl (by omega) (by show (jLen j + 16) * 1 ≤ _; omega) rfl (by decide) (by omega) rfl (fun a => ?_)
      refine X.goto (tgt := 53) dJ5_init_a7421_46 (by decide) ?_
      refine X.put (q := 56) (j9 := 1) (ci := 4) (j := 0) dJ5_init_a7421_53 rfl rfl inJ4 tyJ4_ok nmJ4 (by decide) rfl bw_684 rfl rfl rfl (Nat.le_of_ble_eq_true rfl) rfl ?_
      refine X.ex (E2 := (b, sbO a 0 0) :: (a, byA G (jLen j + 16) (fun _ => 0)) :: R) (fun H hE => hE.sw) ?_
      refine X.aload_n (q := 57) dJ5_init_a7421_56 rfl rfl ?_
      refine X.aload_n (q := 58) dJ5_init_a7421_57 rfl rfl ?_
      refine X.callU (q := 61) (j := 0) (ci := 4) (C := "java/lang/StringBuilder") (owner := "java/lang/AbstractStringBuilder") (x := yJ5_append_cf1ce) (kX_brS (t := t) (c := 0) (q0 := jLen j + 16) ⟨a, jLen j + 16, _, rfl, Nat.le_refl _, by omega, (fun i hi => absurd hi (Nat.not_lt_zero i)), sb_fit0⟩ (Nat.zero_le _) hj (by omega)) MUJ4_append_cf1ce (Or.inl rfl) (by decide +kernel) bw_576 (fun s args hts => va_Decl.of (hts _ bw_575) (hts _ bw_586)) bw_577 bw_574 dJ5_init_a7421_58 rfl rfl rfl rfl rfl rfl (by decide) (by decide) (by omega) rfl (fun v2 h2 n2 E2 hQ => ?_)
      obtain ⟨rfl, rfl, rfl, hS2⟩ := hQ
      refine X.pop (q := 62) dJ5_init_a7421_61 rfl rfl ?_
      exact X.vret dJ5_init_a7421_62 rfl ⟨rfl, rfl, rfl, by rw [Nat.zero_add] at hS2; exact hS2⟩
set_option maxHeartbeats 1000000 in
theorem kX_sbInit {l : Launch} {G : GG} {h : HM} {b j : Nat} {t : Nat → Nat} {R : va_W} (hj : j < ev_ks.length) : CX l G TJ4_init_a7421 8 2 1100 [.ref b, .ref (gA G (100 + j))] h NC ((b, (.inr (4, [.null, .int 0, .int 0, .int 0]))) :: R) (RtB G none h b 0 (sb_cat t 0 (jT j)) (jLen j) (jLen j) R) := by
  refine CX.ofX (by decide +kernel) rfl rfl (Nat.le_of_ble_eq_true rfl) ?_
  refine X.aload_n (q := 1) dJ4_init_a7421_0 rfl rfl ?_
  refine X.aload_n (q := 2) dJ4_init_a7421_1 rfl rfl ?_
  refine X.callI (q := 5) (kX_asbInit (t := t) hj) MJ5_init_a7421 rfl bw_550 dJ4_init_a7421_2 rfl rfl rfl (by decide) (by decide) (by decide) rfl (fun v2 h2 n2 E2 hQ => ?_)
  obtain ⟨rfl, rfl, rfl, hS2⟩ := hQ
  exact X.vret dJ4_init_a7421_5 rfl ⟨rfl, rfl, rfl, hS2⟩
