/-! the law from its entry to its end -/
def kOff (k : Nat) : Nat := 40 + [272, 345, 370, 414, 458, 471, 484, 497, 510, 523, 536, 549, 562, 575, 588, 644, 657, 670, 683, 696, 709, 765, 821, 877, 933, 989, 1045, 1101, 1157, 1213, 1269, 1325, 1393, 1406, 1462, 1475, 1543, 1556, 1569, 1582, 1595, 1638, 1651, 1664, 1705, 1718, 1731, 1787, 1843, 1899, 1912, 1968, 2024, 2104, 2160, 2173, 2229, 2285, 2329, 2342, 2405, 2461, 2474, 2487].getD k 0
theorem kC_all {l : Launch} {G : GG} {σ : St} {a : Ab} {Q : PQ} (hK : AK a) (hC : CL σ a) (hM : ML σ a) {i : Nat} (hi : i + 6 ≤ gL G) (hL : gL G ≤ 3072) {mc ms ce sl : Nat} (hce : ce + 3 ≤ mc) (hsl : sl + 18 ≤ ms) (next : ∀ τ a2, AK a2 → CL τ a2 → ML τ a2 → V l G TL_law 17 mc ms Q (ce + 3) (sl + 18) 2552 (LI G i) [] (hof G τ) NC) : ∀ k, k < 64 → V l G TL_law 17 mc ms Q ce sl (kOff k) (LI G i) [] (hof G σ) NC
  | 0, _ => kC_0 hK hC hM hi hL hce hsl next
  | 1, _ => kC_1 hK hC hM hi hL hce hsl next
  | 2, _ => kC_2 hK hC hM hi hL hce hsl next
  | 3, _ => kC_3 hK hC hM hi hL hce hsl next
  | 4, _ => kC_4 hK hC hM hi hL hce hsl next
  | 5, _ => kC_5 hK hC hM hi hL hce hsl next
  | 6, _ => kC_6 hK hC hM hi hL hce hsl next
  | 7, _ => kC_7 hK hC hM hi hL hce hsl next
  | 8, _ => kC_8 hK hC hM hi hL hce hsl next
  | 9, _ => kC_9 hK hC hM hi hL hce hsl next
  | 10, _ => kC_10 hK hC hM hi hL hce hsl next
  | 11, _ => kC_11 hK hC hM hi hL hce hsl next
  | 12, _ => kC_12 hK hC hM hi hL hce hsl next
  | 13, _ => kC_13 hK hC hM hi hL hce hsl next
  | 14, _ => kC_14 hK hC hM hi hL hce hsl next
  | 15, _ => kC_15 hK hC hM hi hL hce hsl next
  | 16, _ => kC_16 hK hC hM hi hL hce hsl next
  | 17, _ => kC_17 hK hC hM hi hL hce hsl next
  | 18, _ => kC_18 hK hC hM hi hL hce hsl next
  | 19, _ => kC_19 hK hC hM hi hL hce hsl next
  | 20, _ => kC_20 hK hC hM hi hL hce hsl next
  | 21, _ => kC_21 hK hC hM hi hL hce hsl next
  | 22, _ => kC_22 hK hC hM hi hL hce hsl next
  | 23, _ => kC_23 hK hC hM hi hL hce hsl next
  | 24, _ => kC_24 hK hC hM hi hL hce hsl next
  | 25, _ => kC_25 hK hC hM hi hL hce hsl next
  | 26, _ => kC_26 hK hC hM hi hL hce hsl next
  | 27, _ => kC_27 hK hC hM hi hL hce hsl next
  | 28, _ => kC_28 hK hC hM hi hL hce hsl next
  | 29, _ => kC_29 hK hC hM hi hL hce hsl next
  | 30, _ => kC_30 hK hC hM hi hL hce hsl next
  | 31, _ => kC_31 hK hC hM hi hL hce hsl next
  | 32, _ => kC_32 hK hC hM hi hL hce hsl next
  | 33, _ => kC_33 hK hC hM hi hL hce hsl next
  | 34, _ => kC_34 hK hC hM hi hL hce hsl next
  | 35, _ => kC_35 hK hC hM hi hL hce hsl next
  | 36, _ => kC_36 hK hC hM hi hL hce hsl next
  | 37, _ => kC_37 hK hC hM hi hL hce hsl next
  | 38, _ => kC_38 hK hC hM hi hL hce hsl next
  | 39, _ => kC_39 hK hC hM hi hL hce hsl next
  | 40, _ => kC_40 hK hC hM hi hL hce hsl next
  | 41, _ => kC_41 hK hC hM hi hL hce hsl next
  | 42, _ => kC_42 hK hC hM hi hL hce hsl next
  | 43, _ => kC_43 hK hC hM hi hL hce hsl next
  | 44, _ => kC_44 hK hC hM hi hL hce hsl next
  | 45, _ => kC_45 hK hC hM hi hL hce hsl next
  | 46, _ => kC_46 hK hC hM hi hL hce hsl next
  | 47, _ => kC_47 hK hC hM hi hL hce hsl next
  | 48, _ => kC_48 hK hC hM hi hL hce hsl next
  | 49, _ => kC_49 hK hC hM hi hL hce hsl next
  | 50, _ => kC_50 hK hC hM hi hL hce hsl next
  | 51, _ => kC_51 hK hC hM hi hL hce hsl next
  | 52, _ => kC_52 hK hC hM hi hL hce hsl next
  | 53, _ => kC_53 hK hC hM hi hL hce hsl next
  | 54, _ => kC_54 hK hC hM hi hL hce hsl next
  | 55, _ => kC_55 hK hC hM hi hL hce hsl next
  | 56, _ => kC_56 hK hC hM hi hL hce hsl next
  | 57, _ => kC_57 hK hC hM hi hL hce hsl next
  | 58, _ => kC_58 hK hC hM hi hL hce hsl next
  | 59, _ => kC_59 hK hC hM hi hL hce hsl next
  | 60, _ => kC_60 hK hC hM hi hL hce hsl next
  | 61, _ => kC_61 hK hC hM hi hL hce hsl next
  | 62, _ => kC_62 hK hC hM hi hL hce hsl next
  | 63, _ => kC_63 hK hC hM hi hL hce hsl next
  | k + 64, h => absurd h (by omega)
theorem i63 (x : Int32) : ∃ k, k < 64 ∧ x &&& 63 = nI k := by
  have h2 : (x &&& 63).toBitVec.toNat < 64 := by
    have h1 : (x &&& 63).toBitVec = x.toBitVec &&& 63#32 := rfl
    rw [h1, BitVec.toNat_and]
    have h4 : x.toBitVec.toNat &&& (63#32).toNat ≤ (63#32).toNat := Nat.and_le_right
    have h3 : (63#32).toNat = 63 := rfl
    omega
  refine ⟨(x &&& 63).toBitVec.toNat, h2, ?_⟩
  apply Int32.toBitVec_inj.mp
  simp [nI]
theorem kOff_tgt (k : Nat) (hk : k < 64) : ∃ off : Int, (#[272, 345, 370, 414, 458, 471, 484, 497, 510, 523, 536, 549, 562, 575, 588, 644, 657, 670, 683, 696, 709, 765, 821, 877, 933, 989, 1045, 1101, 1157, 1213, 1269, 1325, 1393, 1406, 1462, 1475, 1543, 1556, 1569, 1582, 1595, 1638, 1651, 1664, 1705, 1718, 1731, 1787, 1843, 1899, 1912, 1968, 2024, 2104, 2160, 2173, 2229, 2285, 2329, 2342, 2405, 2461, 2474, 2487] : Array Int)[k]? = some off ∧ (40 : Int) + off = (kOff k : Int) := by
  have h := (show ∀ k, k < 64 → (#[272, 345, 370, 414, 458, 471, 484, 497, 510, 523, 536, 549, 562, 575, 588, 644, 657, 670, 683, 696, 709, 765, 821, 877, 933, 989, 1045, 1101, 1157, 1213, 1269, 1325, 1393, 1406, 1462, 1475, 1543, 1556, 1569, 1582, 1595, 1638, 1651, 1664, 1705, 1718, 1731, 1787, 1843, 1899, 1912, 1968, 2024, 2104, 2160, 2173, 2229, 2285, 2329, 2342, 2405, 2461, 2474, 2487] : Array Int)[k]? = some ((kOff k : Int) - 40) by decide +kernel) k hk
  exact ⟨_, h, by omega⟩
theorem i6_gt {N i : Nat} (hN : N ≤ 3072) (hi : i ≤ 3080) : nI N - 6 < nI i ↔ N < i + 6 := by
  have e : nI N - 6 = nI N + -nI 6 := Int32.sub_eq_add_neg ..
  rw [e]
  rcases Nat.lt_or_ge N 6 with h | h
  · have h1 := nI_subneg h (by decide)
    have h2 := nI_pos' (n := i) (by omega)
    exact ⟨fun _ => by omega, fun _ => Int32.lt_of_lt_of_le h1 h2⟩
  · rw [nI_subn h, nI_ltI (by omega) (by omega)]
    omega
theorem kL_loop {l : Launch} {G : GG} {Q : PQ} (hL : gL G ≤ 3072) (hQ : ∀ h n, Q (.inl (some (.int 1))) h n) {mc ms : Nat} : ∀ (k i ce sl : Nat) (σ : St) (a : Ab), gL G < i + 6 + 6 * k → i ≤ gL G → ce + 3 * k ≤ mc → sl + 18 * k ≤ ms → AK a → CL σ a → ML σ a → V l G TL_law 17 mc ms Q ce sl 23 (LI G i) [] (hof G σ) NC := by
  intro k
  induction k with
  | zero =>
    intro i ce sl σ a h1 h2 h3 h4 hK hC hM
    refine V.iload (q := 25) dL_law_23 rfl rfl ?_
    refine V.aload_n (q := 26) dL_law_25 rfl rfl ?_
    refine V.slen (q := 27) dL_law_26 rfl ?_
    refine V.bipush (q := 29) (v := 6) dL_law_27 rfl rfl ?_
    refine V.isub (q := 30) dL_law_29 rfl ?_
    refine V.icmp_gt (tgt := 2558) (q := 33) dL_law_30 (by decide) rfl (fun c30 => ?_) (fun c30 => ?_)
    · refine V.iconst (q := 2559) (v := 1) dL_law_2558 rfl rfl ?_
      exact V.zret (ty := .boolean) rfl dL_law_2559 rfl (hQ _ _)
    · exact absurd ((i6_gt hL (by omega)).mpr (by omega)) c30
  | succ k ih =>
    intro i ce sl σ a h1 h2 h3 h4 hK hC hM
    refine V.iload (q := 25) dL_law_23 rfl rfl ?_
    refine V.aload_n (q := 26) dL_law_25 rfl rfl ?_
    refine V.slen (q := 27) dL_law_26 rfl ?_
    refine V.bipush (q := 29) (v := 6) dL_law_27 rfl rfl ?_
    refine V.isub (q := 30) dL_law_29 rfl ?_
    refine V.icmp_gt (tgt := 2558) (q := 33) dL_law_30 (by decide) rfl (fun c30 => ?_) (fun c30 => ?_)
    · refine V.iconst (q := 2559) (v := 1) dL_law_2558 rfl rfl ?_
      exact V.zret (ty := .boolean) rfl dL_law_2559 rfl (hQ _ _)
    · have hi : i + 6 ≤ gL G := by
        rcases Nat.lt_or_ge (gL G) (i + 6) with z | z
        · exact absurd ((i6_gt hL (by omega)).mpr z) c30
        · exact z
      refine V.aload_n (q := 34) dL_law_33 rfl rfl ?_
      refine V.iload (q := 36) dL_law_34 rfl rfl ?_
      refine V.sld (q := 37) (i := i) dL_law_36 (by omega) (by omega) rfl rfl ?_
      refine V.bipush (q := 39) (v := 63) dL_law_37 rfl rfl ?_
      refine V.iand (q := 40) dL_law_39 rfl ?_
      obtain ⟨c, hc, e⟩ := i63 (gX G i)
      rw [e]
      obtain ⟨off, ho, ht⟩ := kOff_tgt c hc
      refine V.tableIn (off := off) (tgt := kOff c) dL_law_40 (by rw [nI_toInt (by omega)]; omega) (by rw [nI_toInt (by omega)]; omega) (by rw [nI_toInt (by omega), show ((c : Int) - 0).toNat = c by omega]; exact ho) ht ?_
      refine kC_all hK hC hM hi hL (by omega) (by omega) (fun τ a2 hK2 hC2 hM2 => ?_) c hc
      refine V.iinc (q := 2555) (v := nI (i + 6)) dL_law_2552 rfl (nI_add i 6) rfl rfl rfl ?_
      refine V.goto (tgt := 23) dL_law_2555 (by decide) ?_
      exact ih (i + 6) (ce + 3) (sl + 18) τ a2 (by omega) hi (by omega) (by omega) hK2 hC2 hM2
def a0 : Ab := (begu 10 4 2, (0, fun _ => begu 10 4 2), ((fun _ => false), fun _ => begu 10 4 2), (0, fun _ => 0), (0, -1), (0, fun _ => 0))
theorem AK_0 : AK a0 := ⟨⟨⟨begu_Iu (by decide) (by decide) (by decide), by decide⟩, fun i hi => absurd hi (Nat.not_lt_zero i), fun s hs h => (by cases h), Nat.zero_le _, Nat.zero_le _, fun i hi => absurd hi (Nat.not_lt_zero i)⟩, fun i hi => absurd hi (Nat.not_lt_zero i), Nat.zero_le _⟩
theorem s0A_in {k i : Nat} (h : k ≠ 95) : sA s0 k i = 0 := if_neg h
theorem CL_0 : CL s0 a0 := by
  refine ⟨⟨id, RC.beg (fun j hj => ?_)⟩, ⟨0, by decide, rfl, rfl, Nat.zero_le _, fun i hi => absurd hi (Nat.not_lt_zero i)⟩, fun s hs => ⟨s0A_in (by decide), fun h => (by cases h)⟩, ⟨rfl, fun i hi => absurd hi (Nat.not_lt_zero i)⟩, ⟨rfl, rfl⟩, ⟨rfl, fun i hi => absurd hi (Nat.not_lt_zero i)⟩⟩
  rcases (show j = 0 ∨ j = 1 ∨ j = 2 ∨ j = 3 ∨ j = 4 ∨ j = 5 ∨ j = 6 ∨ j = 7 ∨ j = 8 ∨ j = 9 ∨ j = 10 ∨ j = 11 ∨ j = 12 by omega) with rfl | rfl | rfl | rfl | rfl | rfl | rfl | rfl | rfl | rfl | rfl | rfl | rfl <;> rfl
theorem ML_0 : ML s0 a0 := by
  refine ⟨RM.of ⟨Nat.zero_le _, fun j hj => ?_, rfl, fun i hi => absurd hi (Nat.not_lt_zero i)⟩, ⟨rfl, Nat.zero_le _, fun i hi => absurd hi (Nat.not_lt_zero i)⟩, ⟨rfl, rfl, fun s hs h => (by cases h)⟩, ⟨rfl, fun i hi => absurd hi (Nat.not_lt_zero i)⟩, ⟨rfl, rfl⟩, ⟨rfl, fun i hi => absurd hi (Nat.not_lt_zero i)⟩⟩
  rcases (show j = 0 ∨ j = 1 ∨ j = 2 ∨ j = 3 ∨ j = 4 ∨ j = 5 ∨ j = 6 ∨ j = 7 ∨ j = 8 ∨ j = 9 by omega) with rfl | rfl | rfl | rfl | rfl | rfl | rfl | rfl | rfl | rfl <;> rfl
theorem ld_eq {G : GG} : ∀ a, a < 100 → hset (nwW (lfW G (fsL G (fun _ => 0)) 8 2) 94 3 (fsM G moF) (z4 G)) 99 (.inl (gC G 3, 1, .inr (.inl (fun _ => 0)))) a = hof G s0 a := by
  intro a ha
  rcases (show a = 99 ∨ a = 98 ∨ a = 97 ∨ a = 96 ∨ a = 95 ∨ a = 94 ∨ a = 0 ∨ a = 15 ∨ a = 16 ∨ (a < 94 ∧ a ≠ 0 ∧ a ≠ 15 ∧ a ≠ 16) by omega) with rfl | rfl | rfl | rfl | rfl | rfl | rfl | rfl | rfl | ⟨h, h2⟩
  · rfl
  · rfl
  · rfl
  · rfl
  · rfl
  · rfl
  · rfl
  · rfl
  · rfl
  · rw [hset_ne (by omega)]
    have e : nwW (lfW G (fsL G (fun _ => 0)) 8 2) 94 3 (fsM G moF) (z4 G) a = lfW G (fsL G (fun _ => 0)) 8 2 a := by
      unfold nwW
      rw [if_neg (by omega), if_neg (by omega)]
    rw [e]
    exact lf_in h2
set_option maxHeartbeats 2000000 in
theorem kL_law {l : Launch} {G : GG} {Q : PQ} (hL : gL G ≤ 3072) (hQ : ∀ h n, Q (.inl (some (.int 1))) h n) : V l G TL_law 17 601024 7293033 Q 0 0 0 (L0 [.ref (gb G)] 9) [] (lfW G zL 0 0) 0 := by
  refine V.new (q := 3) (ci := 2) (N := 12) dL_law_0 rfl inX4 tyX4_ok bw_20 bw_21 bw_1 zL_ok (by decide) (by decide) (by decide) rfl ?_
  refine V.to (n2 := 1) rfl rfl lf_put rfl ?_
  refine V.dup (q := 4) dL_law_3 rfl rfl ?_
  refine V.callI (q := 7) (As := []) kR_lift MX4_init rfl bw_22 dL_law_4 rfl rfl rfl (by decide) (by decide) (by decide) rfl (fun v h2 n2 hQ2 => ?_) (fun E h2 n2 hQ2 => nomatch hQ2.1)
  obtain ⟨e1, rfl, rfl⟩ := hQ2
  cases e1
  refine V.astore_n (q := 8) dL_law_7 rfl rfl rfl rfl ?_
  refine V.new (q := 11) (ci := 3) (N := 16) dL_law_8 rfl inX5 tyX5_ok bw_1005 bw_1006 bw_4 zM_ok (by decide) (by decide) (by decide) rfl ?_
  refine V.to (n2 := 95) rfl rfl nw_new rfl ?_
  refine V.dup (q := 12) dL_law_11 rfl rfl ?_
  refine V.callI (q := 15) (As := []) (kR_mod (k := 94) rfl) MX5_init rfl bw_1007 dL_law_12 rfl rfl rfl (by decide) (by decide) (by decide) rfl (fun v h2 n2 hQ2 => ?_) (fun E h2 n2 hQ2 => nomatch hQ2.1)
  obtain ⟨e1, rfl, rfl⟩ := hQ2
  cases e1
  refine V.astore_n (q := 16) dL_law_15 rfl rfl rfl rfl ?_
  refine V.iconst (q := 17) (v := 1) dL_law_16 rfl rfl ?_
  refine V.newarr (q := 19) (t0 := 3) (N := 1) (a0 := (1, .inr (.inl (fun _ => 0)))) dL_law_17 bw_1612 rfl trivial rfl (fun _ => rfl) rfl (by decide) (by decide) (by decide) (by decide) (by decide) rfl ?_
  refine V.astore_n (q := 20) dL_law_19 rfl rfl rfl rfl ?_
  refine V.iconst (q := 21) (v := 0) dL_law_20 rfl rfl ?_
  refine V.istore (q := 23) dL_law_21 rfl rfl rfl ?_
  refine V.to (n2 := NC) (L2 := LI G 0) rfl rfl rfl rfl ?_
  refine V.hm (h2 := hof G s0) ld_eq ?_
  exact kL_loop hL hQ 512 0 _ _ s0 a0 (by omega) (Nat.zero_le _) (by decide) (by decide) AK_0 CL_0 ML_0
