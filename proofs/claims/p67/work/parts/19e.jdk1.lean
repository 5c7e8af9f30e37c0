/-! the JDK: Preconditions, String, ArraysSupport, Arrays.copyOf -/
/-- the bytes of a constant text -/
def xb (j : Nat) : List Int32 := ev_by.getD j []
theorem xb_ok : ∀ j, j < ev_ks.length → (xb j).length ≤ 60 ∧ ∀ i, i < (xb j).length → fits .byte (.int ((xb j).getD i 0)) = true ∧ 0 ≤ (xb j).getD i 0 ∧ (xb j).getD i 0 < 128 := by decide +kernel
theorem xf_val {ad : Nat → Nat} {j : Nat} (hj : j < ev_ks.length) : ("java/lang/String", "value", "[B", Value.ref (ad (200 + j)), ad (100 + j)) ∈ ev_of ad := List.mem_append_right _ (List.mem_flatMap.mpr ⟨j, List.mem_range.mpr hj, by simp⟩)
theorem xf_cod {ad : Nat → Nat} {j : Nat} (hj : j < ev_ks.length) : ("java/lang/String", "coder", "B", Value.int 0, ad (100 + j)) ∈ ev_of ad := List.mem_append_right _ (List.mem_flatMap.mpr ⟨j, List.mem_range.mpr hj, by simp⟩)
theorem xo_str {ad : Nat → Nat} {j : Nat} (hj : j < ev_ks.length) : ("java/lang/String", ad (100 + j)) ∈ ev_ob ad := List.mem_append_right _ (List.mem_map.mpr ⟨j, List.mem_range.mpr hj, rfl⟩)
theorem xa_byt {ad : Nat → Nat} {j : Nat} (hj : j < ev_ks.length) : (FieldType.byte, ad (200 + j), (xb j).length, fun k => Value.int ((xb j).getD k 0)) ∈ ev_ta ad := List.mem_append_right _ (List.mem_map.mpr ⟨j, List.mem_range.mpr hj, rfl⟩)
theorem xs_cs {ad : Nat → Nat} : ("java/lang/String", "COMPACT_STRINGS", "Z", Value.int 1) ∈ ev_st ad := List.mem_append_right _ (List.mem_cons_of_mem _ (List.mem_cons_of_mem _ List.mem_cons_self))
theorem xs_dt {ad : Nat → Nat} : ("java/lang/Integer", "DigitTens", "[B", Value.ref (ad 28)) ∈ ev_st ad := List.mem_append_right _ (List.mem_cons_of_mem _ (List.mem_cons_of_mem _ (List.mem_cons_of_mem _ List.mem_cons_self)))
theorem xs_do {ad : Nat → Nat} : ("java/lang/Integer", "DigitOnes", "[B", Value.ref (ad 29)) ∈ ev_st ad := List.mem_append_right _ (List.mem_cons_of_mem _ (List.mem_cons_of_mem _ (List.mem_cons_of_mem _ (List.mem_cons_of_mem _ List.mem_cons_self))))
theorem xt_dt {ad : Nat → Nat} : (FieldType.byte, ad 28, 100, fun k => Value.int (ev_dt.getD k 0)) ∈ ev_ta ad := List.mem_append_left _ (List.mem_cons_of_mem _ (List.mem_cons_of_mem _ List.mem_cons_self))
theorem xt_do {ad : Nat → Nat} : (FieldType.byte, ad 29, 100, fun k => Value.int (ev_do.getD k 0)) ∈ ev_ta ad := List.mem_append_left _ (List.mem_cons_of_mem _ (List.mem_cons_of_mem _ (List.mem_cons_of_mem _ List.mem_cons_self)))
section XRA
variable {l : Launch} {G : GG} {T : MT} {d mc ms ce sl : Nat} {Q : PE} {pc : Nat} {L : List (Option Value)} {h : HM} {n : Nat} {E : va_W}
theorem X.arrret {x : Nat} {t : FieldType} (hd : decode T.2.1 pc = .ok (.areturn, 1)) (hr : T.2.2.2.1 = some (.array t)) (hQ : Q (some (.ref x)) h n E) (hc : ce ≤ mc := by omega) (hs : sl ≤ ms := by omega) : X l G T d mc ms Q ce sl pc L [.ref x] h n E := by
  intro p e s m args below meth c H locs ls F hl hP hE hS
  refine W.widen hc hs (vx_ret ?_)
  refine W.aret F.1 F.2.1 (F.2.2.2.2.2.1.trans hr) (Or.inr ⟨t, rfl⟩) (Or.inr ⟨x, rfl⟩) ?_ hS.2.2 hd F.2.2.2.2.2.2.1
  intro t ht hW
  exact ⟨⟨_, h, n, E, rfl, by rw [ht]; exact hP, by rw [ht]; exact hE, hQ⟩, hS.F ht⟩
end XRA
theorem nI_le9 {a b : Nat} (hb : b < a) (ha : a < 2 ^ 31) : ¬ nI a ≤ nI b := nI_ge hb ha
def jLen (j : Nat) : Nat := (xb j).length
set_option maxHeartbeats 1000000 in
theorem kX_pre {l : Launch} {G : GG} {h : HM} {n : Nat} {E : va_W} {i N : Nat} {r : Option Nat} (hi : i < N) (hN : N < 2 ^ 31) : CX l G TJ3_checkIndex_8e157 0 0 0 [.int (nI i), .int (nI N), va_rf r] h n E (RtX (some (.int (nI i))) h n E) := by
  refine CX.ofX (by decide +kernel) rfl (by cases r <;> rfl) (Nat.le_of_ble_eq_true rfl) ?_
  refine X.iload_n (q := 1) dJ3_checkIndex_8e157_0 rfl rfl ?_
  refine X.if_lt (tgt := 9) (q := 4) dJ3_checkIndex_8e157_1 (by decide) rfl (fun c1 => ?_) (fun c1 => ?_)
  · exact absurd c1 (nI_pos (by omega))
  · refine X.iload_n (q := 5) dJ3_checkIndex_8e157_4 rfl rfl ?_
    refine X.iload_n (q := 6) dJ3_checkIndex_8e157_5 rfl rfl ?_
    refine X.icmp_lt (tgt := 16) (q := 9) dJ3_checkIndex_8e157_6 (by decide) rfl (fun c6 => ?_) (fun c6 => ?_)
    · refine X.iload_n (q := 17) dJ3_checkIndex_8e157_16 rfl rfl ?_
      exact X.iret dJ3_checkIndex_8e157_17 rfl ⟨rfl, rfl, rfl, rfl⟩
    · exact absurd (nI_lt hi (by omega)) c6
set_option maxHeartbeats 1000000 in
theorem kX_chk {l : Launch} {G : GG} {h : HM} {n : Nat} {E : va_W} {i N : Nat} (hi : i < N) (hN : N < 2 ^ 31) : CX l G TJ0_checkIndex_df160 1 0 0 [.int (nI i), .int (nI N)] h n E (RtX none h n E) := by
  refine CX.ofX (by decide +kernel) rfl rfl (Nat.le_of_ble_eq_true rfl) ?_
  refine X.iload_n (q := 1) dJ0_checkIndex_df160_0 rfl rfl ?_
  refine X.iload_n (q := 2) dJ0_checkIndex_df160_1 rfl rfl ?_
  refine X.getsQ (q := 5) dJ0_checkIndex_df160_2 bw_637 rfl (fun r => ?_)
  refine X.cSt (q := 8) (As := [.int (nI i), .int (nI N), va_rf r]) dJ0_checkIndex_df160_5 rfl (kX_pre hi hN) MJ3_checkIndex_8e157 bw_739 rfl rfl (by decide) rfl ?_
  refine X.pop (q := 9) dJ0_checkIndex_df160_8 rfl rfl ?_
  exact X.vret dJ0_checkIndex_df160_9 rfl ⟨rfl, rfl, rfl, rfl⟩
set_option maxHeartbeats 1000000 in
theorem kX_coder {l : Launch} {G : GG} {h : HM} {n : Nat} {E : va_W} {j : Nat} (hj : j < ev_ks.length) : CX l G TJ0_coder_7d493 0 0 0 [.ref (gA G (100 + j))] h n E (RtX (some (.int 0)) h n E) := by
  refine CX.ofX (by decide +kernel) rfl rfl (Nat.le_of_ble_eq_true rfl) ?_
  refine X.gets (q := 3) dJ0_coder_7d493_0 xs_cs bw_562 rfl ?_
  refine X.if_eq (tgt := 13) (q := 6) dJ0_coder_7d493_3 (by decide) rfl (fun c3 => ?_) (fun c3 => ?_)
  · exact absurd c3 (by decide)
  · refine X.aload_n (q := 7) dJ0_coder_7d493_6 rfl rfl ?_
    refine X.getO (q := 10) dJ0_coder_7d493_7 (xf_cod hj) rfl bw_990 rfl ?_
    refine X.goto (tgt := 14) dJ0_coder_7d493_10 (by decide) ?_
    exact X.zret (ty := .byte) rfl dJ0_coder_7d493_14 rfl ⟨rfl, rfl, rfl, rfl⟩
set_option maxHeartbeats 1000000 in
theorem kX_slen {l : Launch} {G : GG} {h : HM} {n : Nat} {E : va_W} {j : Nat} (hj : j < ev_ks.length) : CX l G TJ0_length_8abf5 1 0 0 [.ref (gA G (100 + j))] h n E (RtX (some (.int (nI (jLen j)))) h n E) := by
  refine CX.ofX (by decide +kernel) rfl rfl (Nat.le_of_ble_eq_true rfl) ?_
  refine X.aload_n (q := 1) dJ0_length_8abf5_0 rfl rfl ?_
  refine X.getO (q := 4) dJ0_length_8abf5_1 (xf_val hj) rfl bw_989 rfl ?_
  refine X.tlen (q := 5) (v := nI (jLen j)) dJ0_length_8abf5_4 (xa_byt hj) rfl rfl ?_
  refine X.aload_n (q := 6) dJ0_length_8abf5_5 rfl rfl ?_
  refine X.cO (q := 9) (As := []) dJ0_length_8abf5_6 rfl (kX_coder hj) MJ0_coder_7d493 bw_558 (xo_str hj) rfl rfl (by decide) rfl ?_
  refine X.ishr (q := 10) dJ0_length_8abf5_9 rfl ?_
  rw [sb_shr0]
  exact X.iret dJ0_length_8abf5_10 rfl ⟨rfl, rfl, rfl, rfl⟩
set_option maxHeartbeats 1000000 in
theorem kX_getBytes {l : Launch} {G : GG} {h : HM} {E : va_W} {j j9 va c N : Nat} {f : Nat → Int32} (hj : j < ev_ks.length) (hj9 : E[j9]? = some (va, byA G N f)) (hcw : c + jLen j ≤ N) (hN : N ≤ 1000) : CX l G TJ0_getBytes_840e7 2 0 0 [.ref (gA G (100 + j)), .ref va, .int (nI c), .int 0] h NC E (RtX none h NC (E.set j9 (va, byA G N (va_cpy (fun k => (xb j).getD k 0) f 0 c (jLen j))))) := by
  refine CX.ofX (by decide +kernel) rfl rfl (Nat.le_of_ble_eq_true rfl) ?_
  refine X.aload_n (q := 1) dJ0_getBytes_840e7_0 rfl rfl ?_
  refine X.cO (q := 4) (As := []) dJ0_getBytes_840e7_1 rfl (kX_coder hj) MJ0_coder_7d493 bw_558 (xo_str hj) rfl rfl (by decide) rfl ?_
  refine X.iload_n (q := 5) dJ0_getBytes_840e7_4 rfl rfl ?_
  refine X.icmp_ne (tgt := 28) (q := 8) dJ0_getBytes_840e7_5 (by decide) rfl (fun c5 => ?_) (fun c5 => ?_)
  · exact absurd rfl c5
  · refine X.aload_n (q := 9) dJ0_getBytes_840e7_8 rfl rfl ?_
    refine X.getO (q := 12) dJ0_getBytes_840e7_9 (xf_val hj) rfl bw_989 rfl ?_
    refine X.iconst (q := 13) dJ0_getBytes_840e7_12 (v := 0) rfl rfl ?_
    refine X.aload_n (q := 14) dJ0_getBytes_840e7_13 rfl rfl ?_
    refine X.iload_n (q := 15) dJ0_getBytes_840e7_14 rfl rfl ?_
    refine X.iload_n (q := 16) dJ0_getBytes_840e7_15 rfl rfl ?_
    refine X.ishl (q := 17) dJ0_getBytes_840e7_16 rfl ?_
    rw [sb_shl0]
    refine X.aload_n (q := 18) dJ0_getBytes_840e7_17 rfl rfl ?_
    refine X.getO (q := 21) dJ0_getBytes_840e7_18 (xf_val hj) rfl bw_989 rfl ?_
    refine X.tlen (q := 22) (v := nI (jLen j)) dJ0_getBytes_840e7_21 (xa_byt hj) rfl rfl ?_
    refine X.copyT (q := 25) (x := 0) (y := c) (z := jLen j) (N1 := N) dJ0_getBytes_840e7_22 bw_682 bw_495 bw_494 bw_12 (xa_byt hj) hj9 rfl rfl rfl rfl (by rw [Nat.zero_add]; exact Nat.le_refl _) hcw (by have := (xb_ok j hj).1; omega) (by omega) (fun i hi => by rw [Nat.zero_add]; exact ((xb_ok j hj).2 i hi).1) rfl (by decide) rfl ?_
    refine X.goto (tgt := 43) dJ0_getBytes_840e7_25 (by decide) ?_
    exact X.vret dJ0_getBytes_840e7_43 rfl ⟨rfl, rfl, rfl, rfl⟩
set_option maxHeartbeats 1000000 in
theorem kX_newLength {l : Launch} {G : GG} {h : HM} {n : Nat} {E : va_W} {a b c r : Nat} (hr9 : r = a + if b < c then c else b) (h0 : 0 < r) (h9 : r < 100000) : CX l G TJ8_newLength_cabcc 1 0 0 [.int (nI a), .int (nI b), .int (nI c)] h n E (RtX (some (.int (nI r))) h n E) := by
  have hr : nI a + (if nI b < nI c then nI c else nI b) = nI r := by
    have hb : b < 2 ^ 31 := by rw [hr9] at h9; split at h9 <;> omega
    have hc : c < 2 ^ 31 := by rw [hr9] at h9; split at h9 <;> omega
    by_cases z : b < c
    · rw [if_pos (nI_lt z hc), nI_add, hr9, if_pos z]
    · rw [if_neg (nI_nlt (by omega) hb), nI_add, hr9, if_neg z]
  refine CX.ofX (by decide +kernel) rfl rfl (Nat.le_of_ble_eq_true rfl) ?_
  refine X.iload_n (q := 1) dJ8_newLength_cabcc_0 rfl rfl ?_
  refine X.iload_n (q := 2) dJ8_newLength_cabcc_1 rfl rfl ?_
  refine X.iload_n (q := 3) dJ8_newLength_cabcc_2 rfl rfl ?_
  refine X.mmax (q := 6) dJ8_newLength_cabcc_3 bw_602 bw_454 bw_10 bw_455 rfl (by decide) (by decide) (by decide) rfl ?_
  refine X.iadd (q := 7) dJ8_newLength_cabcc_6 rfl ?_
  rw [hr]
  refine X.istore_n (q := 8) dJ8_newLength_cabcc_7 rfl rfl rfl rfl ?_
  refine X.iconst (q := 9) dJ8_newLength_cabcc_8 (v := 0) rfl rfl ?_
  refine X.iload_n (q := 10) dJ8_newLength_cabcc_9 rfl rfl ?_
  refine X.icmp_ge (tgt := 21) (q := 13) dJ8_newLength_cabcc_10 (by decide) rfl (fun c10 => ?_) (fun c10 => ?_)
  · exact absurd c10 (nI_nle (by omega) (by omega))
  · refine X.iload_n (q := 14) dJ8_newLength_cabcc_13 rfl rfl ?_
    refine X.ldc (q := 16) dJ8_newLength_cabcc_14 (v := 2147483639) bw_603 rfl ?_
    refine X.icmp_gt (tgt := 21) (q := 19) dJ8_newLength_cabcc_16 (by decide) rfl (fun c16 => ?_) (fun c16 => ?_)
    · exact absurd (show nI 2147483639 < nI r from c16) (nI_nlt (by omega) (by decide))
    · refine X.iload_n (q := 20) dJ8_newLength_cabcc_19 rfl rfl ?_
      exact X.iret dJ8_newLength_cabcc_20 rfl ⟨rfl, rfl, rfl, rfl⟩
set_option maxHeartbeats 1000000 in
theorem kX_copyOf {l : Launch} {G : GG} {h : HM} {E : va_W} {j9 va N M9 : Nat} {f : Nat → Int32} (hj9 : E[j9]? = some (va, byA G N f)) (hNM : N < M9) (hM : M9 ≤ 1000) (hfit : sb_Fit f) : CX l G TJ7_copyOf_9075b 2 1 1000 [.ref va, .int (nI M9)] h NC E (fun v h2 n2 E2 => ∃ (a : Nat) (f2 : Nat → Int32), v = some (.ref a) ∧ h2 = h ∧ n2 = NC ∧ E2 = (a, byA G M9 f2) :: E ∧ (∀ i, i < N → f2 i = f i) ∧ sb_Fit f2) := by
  refine CX.ofX (by decide +kernel) rfl rfl (Nat.le_of_ble_eq_true rfl) ?_
  refine X.iload_n (q := 1) dJ7_copyOf_9075b_0 rfl rfl ?_
  refine X.aload_n (q := 2) dJ7_copyOf_9075b_1 rfl rfl ?_
  refine X.alen (q := 3) (j := j9) (t0 := 1) (A := (N, .inl f)) (v := nI N) dJ7_copyOf_9075b_2 hj9 rfl rfl rfl ?_
  refine X.icmp_ne (tgt := 14) (q := 6) dJ7_copyOf_9075b_3 (by decide) rfl (fun c3 => ?_) (fun c3 => ?_)
  · refine X.iload_n (q := 15) dJ7_copyOf_9075b_14 rfl rfl ?_
    refine X.newarr (q := 17) (t0 := 1) (N := M9) (ty := .byte) (a0 := (M9, .inl (fun _ => 0))) dJ7_copyOf_9075b_15 bw_167 rfl trivial rfl (fun _ => rfl) rfl (by omega) (by show M9 * 1 ≤ _; omega) rfl (by decide) (by omega) rfl (fun a => ?_)
    refine X.astore_n (q := 18) dJ7_copyOf_9075b_17 rfl rfl rfl rfl ?_
    refine X.aload_n (q := 19) dJ7_copyOf_9075b_18 rfl rfl ?_
    refine X.iconst (q := 20) dJ7_copyOf_9075b_19 (v := 0) rfl rfl ?_
    refine X.aload_n (q := 21) dJ7_copyOf_9075b_20 rfl rfl ?_
    refine X.iconst (q := 22) dJ7_copyOf_9075b_21 (v := 0) rfl rfl ?_
    refine X.aload_n (q := 23) dJ7_copyOf_9075b_22 rfl rfl ?_
    refine X.alen (q := 24) (j := j9 + 1) (t0 := 1) (A := (N, .inl f)) (v := nI N) dJ7_copyOf_9075b_23 hj9 rfl rfl rfl ?_
    refine X.iload_n (q := 25) dJ7_copyOf_9075b_24 rfl rfl ?_
    refine X.mmin (q := 28) dJ7_copyOf_9075b_25 bw_617 bw_497 bw_10 bw_498 rfl (by decide) (by decide) (by omega) rfl ?_
    rw [if_neg (nI_nlt (by omega) (by omega))]
    refine X.copyE (q := 31) (j0 := j9 + 1) (j1 := 0) (x := 0) (y := 0) (z := N) dJ7_copyOf_9075b_28 bw_618 bw_495 bw_494 bw_12 hj9 rfl rfl rfl rfl rfl (by omega) (by omega) (by omega) (by omega) hfit rfl (by decide) rfl ?_
    refine X.aload_n (q := 32) dJ7_copyOf_9075b_31 rfl rfl ?_
    exact X.arrret dJ7_copyOf_9075b_32 rfl ⟨_, _, rfl, rfl, rfl, rfl, fun i hi => sb_cpy0 hi, sb_fitC hfit sb_fit0⟩
  · exact absurd ((nI_eq (by omega) (by omega)).mp c3) (by omega)
