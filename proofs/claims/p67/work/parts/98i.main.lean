/-! the law from its entry to its end -/
set_option maxRecDepth 10000 in
set_option maxHeartbeats 2000000 in
theorem law_loop {l : Launch} {G : GG} {Q : PE} {mc ms Nf P : Nat} {E : va_W} (hL : gL G ≤ 260) (hP : P ≤ 10) (hQ : ∀ h n E, Q (some (.int 1)) h n E) : ∀ (m i ce sl : Nat) (σ : St) (u : Vw) (qq : Nat → Nat) (r : Nat) (hv : Nat → Vw) (w1 w6 w7 w8 w9 w10 w11 w12 w13 w14 w15 w16 : Option Value), m = 26 - i → 2 ≤ i → i ≤ 26 → RC σ 1 u qq → WJ u → CH σ r hv → un u = P → uN u = Nf → uT u + 2 ≤ i → ce + 2600 + 800 * (26 - i) ≤ mc → sl + 15600 + 4800 * (26 - i) ≤ ms → X l G TL_law 10 mc ms Q (ce) (sl) 61 [some (.ref (gb G)), w1, some (.ref (gB G + 0)), some (.int (nI Nf)), some (.int (nI P)), some (.int (nI i)), w6, w7, w8, w9, w10, w11, w12, w13, w14, w15, w16] [] (hof G σ) NC E := by
  intro m
  induction m using Nat.strongRecOn with
  | _ m ih =>
      intro i ce sl σ u qq r hv w1 w6 w7 w8 w9 w10 w11 w12 w13 w14 w15 w16 hm hi2 hi9 hR hW hH hn hN hT hce hsl
      subst hm
      refine s1a hR hW hL (by omega) hQ (by omega) (by omega) (fun hiL hi26 => ?_)
      refine s1b hR hW hn (by omega) (by omega) ?_
      refine s1c hR hW hN (by omega) (by omega) ?_
      refine X.iconst (q := 200) dL_law_199 (v := 0) rfl rfl ?_
      refine X.istore (q := 202) dL_law_200 rfl rfl rfl ?_
      refine X.iconst (q := 203) dL_law_202 (v := 0) rfl rfl ?_
      refine X.istore (q := 205) dL_law_203 rfl rfl rfl ?_
      refine X.iconst (q := 206) dL_law_205 (v := 0) rfl rfl ?_
      refine X.istore (q := 208) dL_law_206 rfl rfl rfl ?_
      refine spl hR hW hn hP (ce0 := ce + 5) (sl0 := sl + 30) (by omega) (by omega) (fun ce2 sl2 w9 w10 w11 w12 w13 w14 w15 hc2 hs2 => ?_) (P - 0) 0 _ _ _ _ _ _ _ _ rfl (Nat.zero_le _) (by omega) (by omega)
      refine s4 hR hW hn (by omega) (by omega) ?_
      refine X.iconst (q := 589) dL_law_588 (v := 0) rfl rfl ?_
      refine X.istore (q := 591) dL_law_589 rfl rfl rfl ?_
      refine X.iconst (q := 592) dL_law_591 (v := 0) rfl rfl ?_
      refine X.istore (q := 594) dL_law_592 rfl rfl rfl ?_
      refine s5 hR hW hN (ce0 := ce2) (sl0 := sl2) (by omega) (by omega) (fun ce3 sl3 w10 w11 hc3 hs3 => ?_) (Nf - 0) 0 _ _ _ rfl (Nat.zero_le _) (by omega) (by omega)
      refine s6 hR hW hN (by omega) (by omega) ?_
      refine s7a hR hW hL (by omega) (by omega) (by omega) ?_
      refine s7b hR hW (by omega) (by omega) ?_
      refine s7c hR hW hH (by omega) hL (by omega) (by omega) (by omega) ?_ (fun τ x q2 r2 hv2 w16 hW2 hR2 hH2 h2 => ?_)
      · refine s7d hR hW hH (by omega) (by omega) (by omega) (fun τ q2 r2 hv2 w11 w12 w15 w16 hR2 hH2 => ?_)
        refine X.iinc (q := 925) dL_law_922 rfl (by first | exact nI_inc _ | rfl) rfl rfl rfl ?_
        refine X.goto (tgt := 61) dL_law_925 (by decide) ?_
        exact ih (26 - (i + 1)) (by omega) (i + 1) _ _ τ (tk u) q2 r2 hv2 _ _ _ _ _ _ _ _ _ _ _ _ rfl (by omega) (by omega) hR2 (WJ_tk hW (by have := hW.1.T.2; omega)) hH2 ((tk_un u).trans hn) (by show (us (tk u) 0).toNatClampNeg = Nf; rw [tk_us0]; exact hN) (by have := (tk_T hW.1).1; omega) (by omega) (by omega)
      · refine X.iinc (q := 925) dL_law_922 rfl (by first | exact nI_inc _ | rfl) rfl rfl rfl ?_
        refine X.goto (tgt := 61) dL_law_925 (by decide) ?_
        exact ih (26 - (i + 1)) (by omega) (i + 1) _ _ τ (uS u 1 x) q2 r2 hv2 _ _ _ _ _ _ _ _ _ _ _ _ rfl (by omega) (by omega) hR2 hW2 hH2 hn (by show (us (uS u 1 x) 0).toNatClampNeg = Nf; rw [uS_in (by decide)]; exact hN) (by rw [uT_sc (by decide)]; omega) (by omega) (by omega)
def a0 : Ab := (begu 10 4 2, (0, fun _ => begu 10 4 2), ((fun _ => false), fun _ => begu 10 4 2), (0, fun _ => 0), (0, -1), (0, fun _ => 0))
theorem AOk_0 : AOk a0 := ⟨⟨begu_Iu (by decide) (by decide) (by decide), by decide⟩, fun i hi => absurd hi (Nat.not_lt_zero i), fun s hs h => (by cases h), Nat.zero_le _, Nat.zero_le _, fun i hi => absurd hi (Nat.not_lt_zero i)⟩
theorem CL_0 : CL s0 a0 := by
  refine ⟨⟨id, RC.beg (fun j hj => ?_)⟩, ⟨0, by decide, rfl, rfl, Nat.zero_le _, fun i hi => absurd hi (Nat.not_lt_zero i)⟩, fun s hs => ⟨rfl, fun h => (by cases h)⟩, ⟨rfl, fun i hi => absurd hi (Nat.not_lt_zero i)⟩, ⟨rfl, rfl⟩, ⟨rfl, fun i hi => absurd hi (Nat.not_lt_zero i)⟩⟩
  rcases (show j = 0 ∨ j = 1 ∨ j = 2 ∨ j = 3 ∨ j = 4 ∨ j = 5 ∨ j = 6 ∨ j = 7 ∨ j = 8 ∨ j = 9 ∨ j = 10 ∨ j = 11 ∨ j = 12 by omega) with rfl | rfl | rfl | rfl | rfl | rfl | rfl | rfl | rfl | rfl | rfl | rfl | rfl <;> rfl
theorem ld_eq {G : GG} : ∀ a, a < 94 → lfW G (fsL G (fun _ => 0)) 8 2 a = hof G s0 a := by
  intro a ha
  rcases (show a = 0 ∨ a = 15 ∨ a = 16 ∨ (a ≠ 0 ∧ a ≠ 15 ∧ a ≠ 16) by omega) with rfl | rfl | rfl | h2
  · rfl
  · rfl
  · rfl
  · exact lf_in h2
set_option maxRecDepth 10000 in
set_option maxHeartbeats 2000000 in
theorem kL_law {l : Launch} {G : GG} {Q : PE} {r0 : Nat} {w : Int32} (hL : gL G ≤ 260) (hQ : ∀ h n E, Q (some (.int 1)) h n E) : X l G TL_law 10 600086 7301442 Q 1 1 3 (L0 [.ref (gb G)] 17) [.ref r0] (lfW G zL 0 0) 0 [(r0, .inr (3, [.int w]))] := by
  have hd9 := drw_lt G 1
  have h11 : drw G 1 / 16 % 11 < 11 := Nat.mod_lt _ (by decide)
  have h99 : drw G 1 % 9 < 9 := Nat.mod_lt _ (by decide)
  refine X.dup (q := 4) dL_law_3 rfl rfl ?_
  refine X.aload_n (q := 5) dL_law_4 rfl rfl ?_
  refine X.iconst (q := 6) dL_law_5 (v := 0) rfl rfl ?_
  refine X.cSt (q := 9) (As := [_, _]) dL_law_6 rfl (kX_draw (k := 0) (by decide) (by omega)) ML_draw bw_532 rfl rfl (by decide) rfl ?_
  refine X.cI (q := 12) (As := [_]) dL_law_9 rfl kX_rnInit MX5_init rfl bw_524 rfl rfl (by decide) rfl ?_
  refine X.astore_n (q := 13) dL_law_12 rfl rfl rfl rfl ?_
  refine X.newP (q := 16) (ci := 2) (N := 12) dL_law_13 rfl inX4 tyX4_ok bw_25 bw_26 bw_2 zL_ok (by decide) (by omega) (by omega) rfl ?_
  refine X.to (n2 := 1) rfl rfl lf_put rfl rfl ?_
  refine X.dup (q := 17) dL_law_16 rfl rfl ?_
  refine X.callIc (q := 20) (As := []) kR_lift MX4_init rfl bw_27 dL_law_17 rfl rfl rfl (by decide) (by omega) (by omega) rfl (fun E9 h2 n2 hQ2 => nomatch hQ2.1) (fun v h2 n2 hQ2 => ?_)
  obtain ⟨e1, rfl, rfl⟩ := hQ2
  cases e1
  refine X.to (n2 := NC) rfl rfl rfl rfl rfl ?_
  refine X.hm (h2 := hof G s0) ld_eq ?_
  refine X.astore_n (q := 21) dL_law_20 rfl rfl rfl rfl ?_
  refine X.iconst (q := 22) dL_law_21 (v := 2) rfl rfl ?_
  refine X.aload_n (q := 23) dL_law_22 rfl rfl ?_
  refine X.iconst (q := 24) dL_law_23 (v := 1) rfl rfl ?_
  refine X.cSt (q := 27) (As := [_, _]) dL_law_24 rfl (kX_draw (k := 1) (by decide) (by omega)) ML_draw bw_532 rfl rfl (by decide) rfl ?_
  refine X.bipush (q := 29) dL_law_27 (v := 9) rfl rfl ?_
  refine X.irem (q := 30) dL_law_29 (by decide) rfl ?_
  rw [show nI (drw G 1) - nI (drw G 1) / 9 * 9 = nI (drw G 1 % 9) from nI_rem (k := 9) (by omega) (by decide) (by decide)]
  refine X.iadd (q := 31) dL_law_30 rfl ?_
  rw [show (2 : Int32) + nI (drw G 1 % 9) = nI (2 + drw G 1 % 9) from nI_plus (a := 2)]
  refine X.istore_n (q := 32) dL_law_31 rfl rfl rfl rfl ?_
  refine X.aload_n (q := 33) dL_law_32 rfl rfl ?_
  refine X.iconst (q := 34) dL_law_33 (v := 1) rfl rfl ?_
  refine X.cSt (q := 37) (As := [_, _]) dL_law_34 rfl (kX_draw (k := 1) (by decide) (by omega)) ML_draw bw_532 rfl rfl (by decide) rfl ?_
  refine X.bipush (q := 39) dL_law_37 (v := 16) rfl rfl ?_
  refine X.idiv (q := 40) dL_law_39 (by decide) rfl ?_
  rw [show nI (drw G 1) / 16 = nI (drw G 1 / 16) from nI_div (k := 16) (by omega) (by decide)]
  refine X.bipush (q := 42) dL_law_40 (v := 11) rfl rfl ?_
  refine X.irem (q := 43) dL_law_42 (by decide) rfl ?_
  rw [show nI (drw G 1 / 16) - nI (drw G 1 / 16) / 11 * 11 = nI (drw G 1 / 16 % 11) from nI_rem (k := 11) (by omega) (by decide) (by decide)]
  refine X.istore (q := 45) dL_law_43 rfl rfl rfl ?_
  refine X.aload_n (q := 46) dL_law_45 rfl rfl ?_
  refine X.aload_n (q := 47) dL_law_46 rfl rfl ?_
  refine X.iload_n (q := 48) dL_law_47 rfl rfl ?_
  refine X.iload (q := 50) dL_law_48 rfl rfl ?_
  refine X.callS (q := 53) (As := [_, _, _, _]) (kL_loads CL_0 AOk_0 (Nf := 2 + drw G 1 % 9) (P := drw G 1 / 16 % 11) (by omega) (by omega)) ML_loads bw_536 dL_law_50 rfl rfl rfl (by decide) (by omega) (by omega) rfl (fun v2 h2 n2 E2 hQ2 => ?_)
  obtain ⟨τ, u, qq, r, hv, rfl, rfl, rfl, hR, hW, hH, hun, hu0, hu3⟩ := hQ2
  refine X.if_ne (tgt := 58) (q := 56) dL_law_53 (by decide) rfl (fun c53 => ?_) (fun c53 => ?_)
  · refine X.iconst (q := 59) dL_law_58 (v := 2) rfl rfl ?_
    refine X.istore (q := 61) dL_law_59 rfl rfl rfl ?_
    have hN9 : uN u = 2 + drw G 1 % 9 := by
      show (us u 0).toNatClampNeg = _
      rw [hu0]
      exact nI_clamp (by omega)
    have hT9 : uT u = 0 := by
      show (us u 3).toNatClampNeg = 0
      rw [hu3]; rfl
    exact law_loop hL (by omega) hQ 24 2 _ _ τ u qq r hv _ _ _ _ _ _ _ _ _ _ _ _ rfl (by decide) (by decide) hR hW hH hun hN9 (by omega) (by omega) (by omega)
  · exact absurd c53 (by decide)
