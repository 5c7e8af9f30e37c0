/-! lays: a text into the input buffer -/
theorem XE.in3 {G : GG} {R : va_W} {H : Heap} {a x y : Nat × va_E} (hE : XE G (a :: x :: y :: R) H) : XE G (x :: y :: a :: R) H := hE.sw.cons (fun h => h.sw) (fun p hp => by
  simp only [List.mem_cons] at hp ⊢
  rcases hp with h | h | h
  · exact Or.inr (Or.inl h)
  · exact Or.inl h
  · exact Or.inr (Or.inr h))
theorem XE.dr3 {G : GG} {R : va_W} {H : Heap} {a x y : Nat × va_E} (hE : XE G (x :: y :: a :: R) H) : XE G (x :: y :: R) H := hE.cons (fun h => h.cons (fun h => h.tl) (fun p hp => List.mem_cons_of_mem _ hp)) (fun p hp => by
  simp only [List.mem_cons] at hp ⊢
  rcases hp with h | h
  · exact Or.inl h
  · exact Or.inr (Or.inr h))
theorem lt_fin {t : Nat → Nat} {k c i j : Nat} (h : i = 20 ∨ c ≤ k + i) (hi : i ≤ 20) (hj : j < 20) : lt t k c i j = lt t k c 20 j := by
  unfold lt
  by_cases z : j < i ∧ k + j < c
  · rw [if_pos z, if_pos ⟨hj, z.2⟩]
  · rw [if_neg z, if_neg (fun y => z ⟨by omega, y.2⟩)]
theorem pk_end {t : Nat → Nat} {k c i m : Nat} (h : i = 20 ∨ c ≤ k + i) (hi : i ≤ 20) (hm : m < 5) : pkN t k c i m = pkN t k c 20 m := by
  unfold pkN
  rw [lt_fin h hi (by omega), lt_fin h hi (by omega), lt_fin h hi (by omega), lt_fin h hi (by omega)]
theorem pk_0 {t : Nat → Nat} {k c m : Nat} : pkN t k c 0 m = 0 := by
  unfold pkN
  rw [lt_old (Nat.zero_le _), lt_old (Nat.zero_le _), lt_old (Nat.zero_le _), lt_old (Nat.zero_le _)]
/-- what lays leaves -/
def QLays (G : GG) (σ : St) (t : Nat → Nat) (c : Nat) (E : va_W) : PE := fun v h2 n2 E2 => ∃ (τ : St) (g : Nat → Int32), v = some (.int 1) ∧ h2 = hof G τ ∧ n2 = NC ∧ E2 = E ∧ FrI σ τ ∧ CI τ (c, g) ∧ ∀ j, j < c → g j = nI (t j)
theorem trB_n {o : Txt} {n : Nat} (ho : o.1 ≤ 500) (hn : n ≤ o.1) : trB o (nI n) = true := by
  unfold trB
  rw [decide_eq_true (Int32.not_lt.mp (nlt0 (by omega))), decide_eq_true ((nI_leI (by omega) (by omega)).mpr hn)]
  rfl
set_option maxHeartbeats 1000000 in
theorem lays_in {l : Launch} {G : GG} {τ : St} {b va N c : Nat} {ml : Int32} {f : Nat → Int32} {R : va_W} {t : Nat → Nat} (hcN : c ≤ N) (hN : N ≤ 1000) (hL : sb_Lat t c f) (ht : ∀ i, i < c → t i < 128) (hc : c ≤ 400) {Q : PE} {ce sl a k : Nat} (hk : k < 1000) (hce : ce ≤ 25) (hsl : sl ≤ 125) (next : ∀ (g : Nat → Int32) (v5 : Option Value), (∀ j, j < 5 → g j = nI (pkN t k c 20 j)) → X l G TL_lays 4 25 125 Q ce sl 89 [some (.ref (gB G + 0)), some (.ref b), some (.int (nI k)), some (.int (nI k)), some (.ref a), v5] [] (hof G τ) NC ((b, sbO va ml c) :: (va, byA G N f) :: (a, .inl (gC G 0, 5, .inl g)) :: R)) : ∀ (m i : Nat) (g : Nat → Int32), m = 20 - i → i ≤ 20 → (∀ j, j < 5 → g j = nI (pkN t k c i j)) → X l G TL_lays 4 25 125 Q ce sl 32 [some (.ref (gB G + 0)), some (.ref b), some (.int (nI k)), some (.int (nI k)), some (.ref a), some (.int (nI i))] [] (hof G τ) NC ((b, sbO va ml c) :: (va, byA G N f) :: (a, .inl (gC G 0, 5, .inl g)) :: R) := by
  intro m
  induction m using Nat.strongRecOn with
  | _ m ih =>
      intro i g hm hi hg
      subst hm
      refine X.iload (q := 34) dL_lays_32 rfl rfl ?_
      refine X.bipush (q := 36) dL_lays_34 (v := 20) rfl rfl ?_
      refine X.icmp_ge (tgt := 89) (q := 39) dL_lays_36 (by decide) rfl (fun c36 => ?_) (fun c36 => ?_)
      · have hi9 : 20 ≤ i := nle (show nI 20 ≤ nI i from c36) (by omega) (by omega)
        exact next g _ (fun j hj => by rw [hg j hj, pk_end (Or.inl (by omega)) hi hj])
      · have hi9 : i < 20 := by
          rcases Nat.lt_or_ge i 20 with z | z
          · exact z
          · exact absurd (show nI 20 ≤ nI i from (nI_leI (by omega) (by omega)).mpr z) c36
        refine X.iload_n (q := 40) dL_lays_39 rfl rfl ?_
        refine X.iload (q := 42) dL_lays_40 rfl rfl ?_
        refine X.iadd (q := 43) dL_lays_42 rfl ?_
        rw [show nI k + nI i = nI (k + i) from nI_plus]
        refine X.aload_n (q := 44) dL_lays_43 rfl rfl ?_
        refine X.callF (As := []) (x := ⟨"java/lang/CharSequence", "length", "()I"⟩) (r := ("java/lang/StringBuilder", TJ4, 4)) (j := 0) (ci := 4) (q := 49) (kX_blen (h := hof G τ)) MUJ4_length_8abf5 (by decide +kernel) ⟨by decide, by decide⟩ (fun U hU => hU.2.2.2.2.2.2.2.2 _ List.mem_cons_self) bw_760 bw_756 dL_lays_44 rfl rfl rfl rfl rfl (by decide) (by omega) (by omega) rfl (fun v2 h2 n2 E2 hQ2 => ?_)
        obtain ⟨rfl, rfl, rfl, rfl⟩ := hQ2
        refine X.icmp_ge (tgt := 89) (q := 52) dL_lays_49 (by decide) rfl (fun c49 => ?_) (fun c49 => ?_)
        · have hlt : c ≤ k + i := nle c49 (by omega) (by omega)
          exact next g _ (fun j hj => by rw [hg j hj, pk_end (Or.inr hlt) hi hj])
        · have hlt : k + i < c := nnle c49 (by omega) (by omega)
          refine X.aload (q := 54) dL_lays_52 rfl rfl ?_
          refine X.iload (q := 56) dL_lays_54 rfl rfl ?_
          refine X.iconst (q := 57) dL_lays_56 (v := 4) rfl rfl ?_
          refine X.idiv (q := 58) dL_lays_57 (by decide) rfl ?_
          rw [show nI i / 4 = nI (i / 4) from nI_div (k := 4) (by omega) (by decide)]
          refine X.dup2 (q := 59) dL_lays_58 rfl rfl rfl ?_
          refine X.iald (j := 2) (i := i / 4) (N := 5) (f := g) (q := 60) dL_lays_59 rfl (by omega) (by decide) rfl rfl ?_
          rw [hg _ (by omega)]
          refine X.aload_n (q := 61) dL_lays_60 rfl rfl ?_
          refine X.iload_n (q := 62) dL_lays_61 rfl rfl ?_
          refine X.iload (q := 64) dL_lays_62 rfl rfl ?_
          refine X.iadd (q := 65) dL_lays_64 rfl ?_
          rw [show nI k + nI i = nI (k + i) from nI_plus]
          refine X.callF (As := [_]) (x := ⟨"java/lang/CharSequence", "charAt", "(I)C"⟩) (r := ("java/lang/StringBuilder", TJ4, 4)) (j := 0) (ci := 4) (q := 70) (kX_bchar (h := hof G τ) (i := k + i) hcN hN hL hlt) MUJ4_charAt_5068e (by decide +kernel) ⟨by decide, by decide⟩ (fun U hU => hU.2.2.2.2.2.2.2.2 _ (List.mem_cons_of_mem _ List.mem_cons_self)) bw_772 bw_769 dL_lays_65 rfl rfl rfl rfl rfl (by decide) (by omega) (by omega) rfl (fun v2 h2 n2 E2 hQ2 => ?_)
          obtain ⟨rfl, rfl, rfl, rfl⟩ := hQ2
          refine X.bipush (q := 72) dL_lays_70 (v := 24) rfl rfl ?_
          refine X.bipush (q := 74) dL_lays_72 (v := 8) rfl rfl ?_
          refine X.iload (q := 76) dL_lays_74 rfl rfl ?_
          refine X.iconst (q := 77) dL_lays_76 (v := 4) rfl rfl ?_
          refine X.irem (q := 78) dL_lays_77 (by decide) rfl ?_
          rw [show nI i - nI i / 4 * 4 = nI (i % 4) from nI_rem (k := 4) (by omega) (by decide) (by decide)]
          refine X.imul (q := 79) dL_lays_78 rfl ?_
          refine X.isub (q := 80) dL_lays_79 rfl ?_
          refine X.ishl (q := 81) dL_lays_80 rfl ?_
          refine X.ior (q := 82) dL_lays_81 rfl ?_
          rw [pk_step ht hlt]
          refine X.iast (j := 2) (i := i / 4) (N := 5) (f := g) (q := 83) dL_lays_82 rfl (by omega) (by decide) rfl rfl ?_
          refine X.iinc (q := 86) dL_lays_83 rfl (by first | exact nI_inc _ | rfl) rfl rfl rfl ?_
          refine X.goto (tgt := 32) dL_lays_86 (by decide) ?_
          refine ih (20 - (i + 1)) (by omega) (i + 1) (upd g (i / 4) (nI (pkN t k c (i + 1) (i / 4)))) rfl (by omega) (fun j hj => ?_)
          by_cases e9 : j = i / 4
          · rw [e9]
            exact upd_at
          · rw [upd_in e9, hg j hj, pk_other e9]
set_option maxHeartbeats 1000000 in
theorem kL_lays {l : Launch} {G : GG} {σ : St} {o : Txt} {b va N c : Nat} {ml : Int32} {f : Nat → Int32} {R : va_W} {t : Nat → Nat} (hC : CI σ o) (ho : o.1 ≤ 500) (hcN : c ≤ N) (hN : N ≤ 1000) (hL : sb_Lat t c f) (ht : ∀ i, i < c → t i < 128) (hc : c ≤ 400) : CX l G TL_lays 4 25 125 [.ref (gB G + 0), .ref b] (hof G σ) NC ((b, sbO va ml c) :: (va, byA G N f) :: R) (QLays G σ t c ((b, sbO va ml c) :: (va, byA G N f) :: R)) := by
  refine CX.ofX (by decide +kernel) rfl rfl (Nat.le_of_ble_eq_true rfl) ?_
  have outer : ∀ (m k ce sl : Nat) (τ : St) (o2 : Txt) (w4 w5 : Option Value), m = 420 - k → k < 420 → 20 * ce ≤ k → 4 * sl ≤ k → CI τ o2 → Laid o2 t c k → FrI σ τ → X l G TL_lays 4 25 125 (QLays G σ t c ((b, sbO va ml c) :: (va, byA G N f) :: R)) ce sl 14 [some (.ref (gB G + 0)), some (.ref b), some (.int (nI k)), some (.int (nI k)), w4, w5] [] (hof G τ) NC ((b, sbO va ml c) :: (va, byA G N f) :: R) := by
    intro m
    induction m using Nat.strongRecOn with
    | _ m ih =>
      intro k ce sl τ o2 w4 w5 hm hk hce hsl hC hLd hF
      subst hm
      refine X.iload_n (q := 15) dL_lays_14 rfl rfl ?_
      refine X.aload_n (q := 16) dL_lays_15 rfl rfl ?_
      refine X.callF (As := []) (x := ⟨"java/lang/CharSequence", "length", "()I"⟩) (r := ("java/lang/StringBuilder", TJ4, 4)) (j := 0) (ci := 4) (q := 21) (kX_blen (h := hof G τ)) MUJ4_length_8abf5 (by decide +kernel) ⟨by decide, by decide⟩ (fun U hU => hU.2.2.2.2.2.2.2.2 _ List.mem_cons_self) bw_760 bw_756 dL_lays_16 rfl rfl rfl rfl rfl (by decide) (by omega) (by omega) rfl (fun v2 h2 n2 E2 hQ2 => ?_)
      obtain ⟨rfl, rfl, rfl, rfl⟩ := hQ2
      refine X.icmp_ge (tgt := 128) (q := 24) dL_lays_21 (by decide) rfl (fun c21 => ?_) (fun c21 => ?_)
      · have hlt : c ≤ k := nle c21 (by omega) (by omega)
        have htr : trB o2 (nI c) = true := trB_n (by rw [hLd.1]; omega) (by rw [hLd.1]; exact hlt)
        refine X.aload_n (q := 129) dL_lays_128 rfl rfl ?_
        refine X.aload_n (q := 130) dL_lays_129 rfl rfl ?_
        refine X.callF (As := []) (x := ⟨"java/lang/CharSequence", "length", "()I"⟩) (r := ("java/lang/StringBuilder", TJ4, 4)) (j := 0) (ci := 4) (q := 135) (kX_blen (h := hof G τ)) MUJ4_length_8abf5 (by decide +kernel) ⟨by decide, by decide⟩ (fun U hU => hU.2.2.2.2.2.2.2.2 _ List.mem_cons_self) bw_760 bw_756 dL_lays_130 rfl rfl rfl rfl rfl (by decide) (by omega) (by omega) rfl (fun v2 h2 n2 E2 hQ2 => ?_)
        obtain ⟨rfl, rfl, rfl, rfl⟩ := hQ2
        refine X.cP (As := [_]) (w := .int 1) (q := 138) dL_lays_135 rfl (kL_truncate hC (by rw [hLd.1]; omega) (x := nI c)) MX4_truncate bw_751 rfl rfl (by decide) rfl (fun v τ9 h9 => by rw [h9.1, htr]; rfl) rfl (fun τ2 hp2 => ?_)
        exact X.zret (ty := .boolean) rfl dL_lays_138 rfl (by
          obtain ⟨-, hf2, hc2⟩ := hp2
          rw [if_pos htr, nI_clamp (by omega)] at hc2
          exact ⟨τ2, o2.2, rfl, rfl, rfl, rfl, hF.trans hf2, hc2, fun j hj => hLd.2 j (by omega) hj⟩)
      · have hlt : k < c := nnle c21 (by omega) (by omega)
        refine X.iconst (q := 25) dL_lays_24 (v := 5) rfl rfl ?_
        refine X.newarr (q := 27) (t0 := 0) (N := 5) (a0 := (5, .inl (fun _ => 0))) dL_lays_25 bw_127 rfl trivial rfl (fun _ => rfl) rfl (by decide) (by decide) rfl (by omega) (by omega) rfl (fun a => ?_)
        refine X.ex (fun H h => h.in3) ?_
        refine X.astore (q := 29) dL_lays_27 rfl rfl rfl ?_
        refine X.iconst (q := 30) dL_lays_29 (v := 0) rfl rfl ?_
        refine X.istore (q := 32) dL_lays_30 rfl rfl rfl ?_
        refine lays_in hcN hN hL ht hc (by omega) (by omega) (by omega) (fun g2 v5 hg2 => ?_) 20 0 (fun _ => 0) rfl (Nat.zero_le _) (fun j hj => by rw [pk_0]; rfl)
        refine X.iinc (q := 92) dL_lays_89 rfl (nI_add k 20) rfl rfl rfl ?_
        refine X.aload_n (q := 93) dL_lays_92 rfl rfl ?_
        refine X.aload (q := 95) dL_lays_93 rfl rfl ?_
        refine X.iconst (q := 96) dL_lays_95 (v := 0) rfl rfl ?_
        refine X.iald (j := 2) (i := 0) (N := 5) (f := g2) (q := 97) dL_lays_96 rfl (by decide) (by decide) rfl rfl ?_
        rw [hg2 0 (by decide)]
        refine X.aload (q := 99) dL_lays_97 rfl rfl ?_
        refine X.iconst (q := 100) dL_lays_99 (v := 1) rfl rfl ?_
        refine X.iald (j := 2) (i := 1) (N := 5) (f := g2) (q := 101) dL_lays_100 rfl (by decide) (by decide) rfl rfl ?_
        rw [hg2 1 (by decide)]
        refine X.aload (q := 103) dL_lays_101 rfl rfl ?_
        refine X.iconst (q := 104) dL_lays_103 (v := 2) rfl rfl ?_
        refine X.iald (j := 2) (i := 2) (N := 5) (f := g2) (q := 105) dL_lays_104 rfl (by decide) (by decide) rfl rfl ?_
        rw [hg2 2 (by decide)]
        refine X.aload (q := 107) dL_lays_105 rfl rfl ?_
        refine X.iconst (q := 108) dL_lays_107 (v := 3) rfl rfl ?_
        refine X.iald (j := 2) (i := 3) (N := 5) (f := g2) (q := 109) dL_lays_108 rfl (by decide) (by decide) rfl rfl ?_
        rw [hg2 3 (by decide)]
        refine X.aload (q := 111) dL_lays_109 rfl rfl ?_
        refine X.iconst (q := 112) dL_lays_111 (v := 4) rfl rfl ?_
        refine X.iald (j := 2) (i := 4) (N := 5) (f := g2) (q := 113) dL_lays_112 rfl (by decide) (by decide) rfl rfl ?_
        rw [hg2 4 (by decide)]
        refine X.cP (As := [_, _, _, _, _]) (w := .int (nI (k + 20))) (q := 116) dL_lays_113 rfl (kL_append hC (by rw [hLd.1]; omega)) MX4_append bw_785 rfl rfl (by decide) rfl (fun v τ9 h9 => by rw [h9.1, hLd.1, if_pos (by omega)]) rfl (fun τ2 hp2 => ?_)
        obtain ⟨-, hf2, hc2⟩ := hp2
        rw [if_pos (by rw [hLd.1]; omega)] at hc2
        refine X.iload_n (q := 117) dL_lays_116 rfl rfl ?_
        refine X.icmp_eq (tgt := 122) (q := 120) dL_lays_117 (by decide) rfl (fun c117 => ?_) (fun c117 => ?_)
        · refine X.iinc (q := 125) dL_lays_122 rfl (nI_add k 20) rfl rfl rfl ?_
          refine X.goto (tgt := 14) dL_lays_125 (by decide) ?_
          refine X.ex (fun H h => h.dr3) ?_
          exact ih (420 - (k + 20)) (by omega) (k + 20) (ce + 1) (sl + 5) τ2 _ _ _ rfl (by omega) (by omega) (by omega) hc2 (hLd.step ht) (hF.trans hf2)
        · exact absurd rfl c117
  refine X.aload_n (q := 1) dL_lays_0 rfl rfl ?_
  refine X.iconst (q := 2) dL_lays_1 (v := 0) rfl rfl ?_
  refine X.cP (As := [_]) (w := .int 1) (q := 5) dL_lays_2 rfl (kL_truncate hC (by omega) (x := nI 0)) MX4_truncate bw_751 rfl rfl (by decide) rfl (fun v τ9 h9 => by rw [h9.1, trB_n ho (Nat.zero_le _)]; rfl) rfl (fun τ2 hp2 => ?_)
  refine X.if_ne (tgt := 10) (q := 8) dL_lays_5 (by decide) rfl (fun c5 => ?_) (fun c5 => ?_)
  · refine X.iconst (q := 11) dL_lays_10 (v := 0) rfl rfl ?_
    refine X.istore_n (q := 12) dL_lays_11 rfl rfl rfl rfl ?_
    refine X.iconst (q := 13) dL_lays_12 (v := 0) rfl rfl ?_
    refine X.istore_n (q := 14) dL_lays_13 rfl rfl rfl rfl ?_
    obtain ⟨-, hf2, hc2⟩ := hp2
    rw [if_pos (trB_n ho (Nat.zero_le _)), nI_clamp (by decide)] at hc2
    exact outer 420 0 0 0 τ2 _ _ _ rfl (by decide) (by decide) (by decide) hc2 ⟨rfl, fun j hj => absurd hj (Nat.not_lt_zero j)⟩ hf2
  · exact absurd c5 (by decide)
