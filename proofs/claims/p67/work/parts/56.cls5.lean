/-! LiftScheduler: forecasts, changes -/
set_option maxHeartbeats 2000000 in
theorem kL_reqC {l : Launch} {G : GG} {σ : St} {u : Vw} {qq : Nat → Nat} (hR : RC σ 1 u qq) {x : Int32} : CtX l G TX4_requireCapacity 6 1 6 [.ref (gB G + 0), .int x] σ (fun a τ => τ = σ ∧ a = req2 (okI 1 8 x) (decide (nI (many u 2) ≤ x)) "java/lang/IllegalArgumentException" "java/lang/IllegalStateException") := by
  have hn : un u ≤ 40 := hR.1
  refine CtX.ofV (by decide +kernel) rfl rfl (Nat.le_of_ble_eq_true rfl) ?_
  refine V.iload_n (q := 1) dX4_requireCapacity_0 rfl rfl ?_
  refine V.iconst (q := 2) dX4_requireCapacity_1 (v := 1) rfl rfl ?_
  refine V.icmp_lt (tgt := 11) (q := 5) dX4_requireCapacity_2 (by decide) rfl (fun c2 => ?_) (fun c2 => ?_)
  · exact V.throwW (j := 6) thr_IA dX4_requireCapacity_11 dX4_requireCapacity_14 dX4_requireCapacity_15 dX4_requireCapacity_18 dX4_requireCapacity_21 (by decide) (by decide +kernel) rfl rfl (by decide) (by decide) (by decide) rfl ⟨_, rfl, rfl, rfl, by rw [req2, if_neg (by rw [show okI 1 8 x = false from okN1 (nge c2)]; decide)]⟩
  · refine V.iload_n (q := 6) dX4_requireCapacity_5 rfl rfl ?_
    refine V.bipush (q := 8) dX4_requireCapacity_6 (v := 8) rfl rfl ?_
    refine V.icmp_le (tgt := 22) (q := 11) dX4_requireCapacity_8 (by decide) rfl (fun c8 => ?_) (fun c8 => ?_)
    · refine V.aload_n (q := 23) dX4_requireCapacity_22 rfl rfl ?_
      refine V.gL (q := 26) dX4_requireCapacity_23 (j := 0) rfl bw_168 rfl rfl rfl rfl ?_
      refine V.gSr (q := 29) dX4_requireCapacity_26 hR rfl bw_72 rfl ?_
      refine V.iload_n (q := 30) dX4_requireCapacity_29 rfl rfl ?_
      refine V.icmp_le (tgt := 44) (q := 33) dX4_requireCapacity_30 (by decide) rfl (fun c30 => ?_) (fun c30 => ?_)
      · exact V.vret dX4_requireCapacity_44 rfl ⟨_, rfl, rfl, rfl, by rw [req2, if_pos (show okI 1 8 x = true from okT (geT c2) (leT c8)), leT c30]; rfl⟩
      · exact V.throwW (j := 7) thr_IS dX4_requireCapacity_33 dX4_requireCapacity_36 dX4_requireCapacity_37 dX4_requireCapacity_40 dX4_requireCapacity_43 (by decide) (by decide +kernel) rfl rfl (by decide) (by decide) (by decide) rfl ⟨_, rfl, rfl, rfl, by rw [req2, if_pos (show okI 1 8 x = true from okT (geT c2) (leT c8)), nleT c30]; rfl⟩
    · exact V.throwW (j := 6) thr_IA dX4_requireCapacity_11 dX4_requireCapacity_14 dX4_requireCapacity_15 dX4_requireCapacity_18 dX4_requireCapacity_21 (by decide) (by decide +kernel) rfl rfl (by decide) (by decide) (by decide) rfl ⟨_, rfl, rfl, rfl, by rw [req2, if_neg (by rw [show okI 1 8 x = false from okN2 (nleT c8)]; decide)]⟩
theorem tk_un (u : Vw) : un (tk u) = un u := by
  unfold tk tk0
  split
  · rfl
  · split
    · show un (opn u) = un u
      unfold opn
      exact (brd_un _ _).trans rfl
    · exact mv_un
theorem fzu_un : ∀ (k : Nat) (u : Vw), un (fzu k u) = un u
  | 0, u => rfl
  | k + 1, u => by
    by_cases h : many u 3 = un u
    · rw [fzu_fin h]
    · rw [fzu_step h, fzu_un k (tk u), tk_un]
theorem fcu_un {u : Vw} {p c : Int32} : un (fcu u p c) = un u := fzu_un _ _
set_option maxHeartbeats 4000000 in
theorem kL_setCapacity {l : Launch} {G : GG} {σ : St} {u : Vw} {qq : Nat → Nat} (hR : RC σ 1 u qq) (hI : Iu u) (ht : uT u ≤ 999) {r : Nat} {hv : Nat → Vw} (hH : CH σ r hv) {x : Int32} : CtX l G TX4_setCapacity 7 1 6 [.ref (gB G + 0), .int x] σ (fun a τ => CHG (okI 1 8 x && decide (nI (many u 2) ≤ x)) σ τ r hv u (uS u 1 x) ∧ a = ans2 (okI 1 8 x) (decide (nI (many u 2) ≤ x)) "java/lang/IllegalArgumentException" "java/lang/IllegalStateException" (.int (us u 1))) := by
  have hn : un u ≤ 40 := hR.1
  refine CtX.ofV (by decide +kernel) rfl rfl (Nat.le_of_ble_eq_true rfl) ?_
  refine V.aload_n (q := 1) dX4_setCapacity_0 rfl rfl ?_
  refine V.iload_n (q := 2) dX4_setCapacity_1 rfl rfl ?_
  refine V.cVLX (q := 5) (As := [_]) dX4_setCapacity_2 rfl (kL_reqC hR) MX4_requireCapacity bw_516 rfl rfl rfl rfl (by decide) rfl (by decide) (by decide) (fun v9 τ9 h9 => ?_) (fun E9 τ9 h9 => ?_)
  · obtain ⟨rfl, h9⟩ := h9
    obtain ⟨g, g2, rfl⟩ := req2_inl h9
    refine V.aload_n (q := 6) dX4_setCapacity_5 rfl rfl ?_
    refine V.cVLP (q := 9) (As := []) dX4_setCapacity_6 rfl (kL_remember hR hI hH) MX4_rememberState bw_485 rfl rfl rfl rfl (by decide) rfl (fun v2 τ2 h2 => ?_)
    obtain ⟨rfl, hrm, hH2⟩ := h2
    have hR := hrm.RC (Or.inl rfl) hR
    have hfr : FrS 1 τ2 τ2 := FrS.rf
    refine V.aload_n (q := 10) dX4_setCapacity_9 rfl rfl ?_
    refine V.gL (q := 13) dX4_setCapacity_10 (j := 0) rfl bw_168 rfl rfl rfl rfl ?_
    refine V.gSu (q := 16) 1 dX4_setCapacity_13 hR rfl bw_47 rfl rfl ?_
    refine V.istore_n (q := 17) dX4_setCapacity_16 rfl rfl rfl rfl ?_
    refine V.aload_n (q := 18) dX4_setCapacity_17 rfl rfl ?_
    refine V.gL (q := 21) dX4_setCapacity_18 (j := 0) rfl bw_168 rfl rfl rfl rfl ?_
    refine V.iload_n (q := 22) dX4_setCapacity_21 rfl rfl ?_
    refine V.pS (q := 25) dX4_setCapacity_22 (j := 1) rfl bw_47 rfl rfl rfl rfl rfl rfl ?_
    refine V.iload_n (q := 26) dX4_setCapacity_25 rfl rfl ?_
    exact V.iret dX4_setCapacity_26 rfl ⟨_, rfl, rfl, CHG.yes (okT g g2) hrm hH2 hfr.sc (hR.sc 1 x (by decide)), ans2_t g g2 rfl⟩
  · obtain ⟨rfl, h9⟩ := h9
    obtain ⟨g, g2⟩ := req2_inr h9
    exact VX.out rfl (by decide) (by decide) ⟨_, rfl, rfl, ⟨CHG.no g, g2 _⟩⟩
