/-! the law's wrappers of changes -/
set_option maxHeartbeats 2000000 in
theorem kW_setPolicy {l : Launch} {G : GG} {σ : St} {u : Vw} {qq : Nat → Nat} (hR : RC σ 1 u qq) (hI : Iu u) (ht : uT u ≤ 999) {r : Nat} {hv : Nat → Vw} (hH : CH σ r hv) {x : Int32} : CtX l G TL_setPolicy 8 1 6 [.ref (gB G + 0), .int x, .ref (gB G + 99)] σ (fun a τ => ∃ υ, CHG (okI 0 2 x) σ υ r hv u (uS u 2 x) ∧ (okI 0 2 x = true → a = .inl (some (.int 0)) ∧ τ = stO υ 0 (us u 2).toInt64) ∧ (okI 0 2 x = false → a = .inl (some (.int 1)) ∧ τ = υ)) := by
  refine Ct.ofVH (by decide +kernel) rfl rfl (Nat.le_of_ble_eq_true rfl) ?_
  refine V.aload_n (q := 1) dL_setPolicy_0 rfl rfl ?_
  refine V.iconst (q := 2) dL_setPolicy_1 (v := 0) rfl rfl ?_
  refine V.aload_n (q := 3) dL_setPolicy_2 rfl rfl ?_
  refine V.iload_n (q := 4) dL_setPolicy_3 rfl rfl ?_
  refine V.cVLX (q := 7) (As := [_]) dL_setPolicy_4 rfl (kL_setPolicy hR hI ht hH) MX4_setPolicy bw_966 rfl rfl rfl rfl (by decide) rfl (by decide) (by decide) (fun v9 τ9 h9 => ?_) (fun E9 τ9 h9 => ?_)
  · obtain ⟨hr, h9⟩ := h9
    obtain ⟨g, rfl⟩ := ansA_inl h9
    refine V.i2l (q := 8) dL_setPolicy_7 rfl ?_
    refine V.st16 (q := 9) dL_setPolicy_8 (i := 0)  rfl (by decide) rfl ?_
    refine V.goto (tgt := 15) dL_setPolicy_9 (by decide) ?_
    refine V.iconst (q := 16) dL_setPolicy_15 (v := 0) rfl rfl ?_
    exact V.iret dL_setPolicy_16 rfl ⟨_, rfl, rfl, _, hr, fun _ => ⟨rfl, rfl⟩, fun z => by (rw [g] at z; cases z)⟩
  · obtain ⟨hr, h9⟩ := h9
    obtain ⟨g, rfl⟩ := ansA_inr h9
    refine VX.catch (q9 := 0) (pre := []) (suf := []) rfl (by decide) (by decide) (fun z hz => nomatch hz) bw_462 (by decide +kernel) (fun x9 => ?_)
    refine V.astore_n (q := 13) dL_setPolicy_12 rfl rfl rfl rfl ?_
    refine V.iconst (q := 14) dL_setPolicy_13 (v := 1) rfl rfl ?_
    exact V.iret dL_setPolicy_14 rfl ⟨_, rfl, rfl, _, hr, fun z => by (rw [g] at z; cases z), fun _ => ⟨rfl, rfl⟩⟩
theorem ans2_inl {b c : Bool} {E F : String} {v : Value} {w : Option Value} (h : (.inl w : Ans) = ans2 b c E F v) : b = true ∧ c = true ∧ w = some v := by
  cases b with
  | true => exact ⟨rfl, ansA_inl h⟩
  | false => cases h
theorem ans2_inr {b c : Bool} {E F E2 : String} {v : Value} (h : (.inr E2 : Ans) = ans2 b c E F v) : (b = false ∧ E2 = E) ∨ (b = true ∧ c = false ∧ E2 = F) := by
  cases b with
  | true =>
    obtain ⟨g, e⟩ := ansA_inr h
    exact Or.inr ⟨rfl, g, e⟩
  | false => exact Or.inl ⟨rfl, Sum.inr.inj h⟩
set_option maxHeartbeats 2000000 in
theorem kW_ticksWithCapacity {l : Launch} {G : GG} {σ : St} {u : Vw} {qq : Nat → Nat} (hR : RC σ 1 u qq) (hI : Iu u) (ht : uT u ≤ 999) {x : Int32} : CtX l G TL_ticksWithCapacity 8 1 6 [.ref (gB G + 0), .int x, .ref (gB G + 99)] σ (fun a τ => ∃ υ, FrS 8 σ υ ∧ (okI 1 8 x = true → decide (nI (many u 2) ≤ x) = true → a = .inl (some (.int 0)) ∧ τ = stO υ 0 (nI (fcn u (us u 2) x)).toInt64) ∧ (okI 1 8 x = false → a = .inl (some (.int 1)) ∧ τ = υ) ∧ (okI 1 8 x = true → decide (nI (many u 2) ≤ x) = false → a = .inl (some (.int 2)) ∧ τ = υ)) := by
  refine Ct.ofVH (by decide +kernel) rfl rfl (Nat.le_of_ble_eq_true rfl) ?_
  refine V.aload_n (q := 1) dL_ticksWithCapacity_0 rfl rfl ?_
  refine V.iconst (q := 2) dL_ticksWithCapacity_1 (v := 0) rfl rfl ?_
  refine V.aload_n (q := 3) dL_ticksWithCapacity_2 rfl rfl ?_
  refine V.iload_n (q := 4) dL_ticksWithCapacity_3 rfl rfl ?_
  refine V.cVLX (q := 7) (As := [_]) dL_ticksWithCapacity_4 rfl (kL_ticksWithCapacity hR hI ht) MX4_ticksWithCapacity bw_910 rfl rfl rfl rfl (by decide) rfl (by decide) (by decide) (fun v9 τ9 h9 => ?_) (fun E9 τ9 h9 => ?_)
  · obtain ⟨hr, h9⟩ := h9
    obtain ⟨g, g2, rfl⟩ := ans2_inl h9
    refine V.i2l (q := 8) dL_ticksWithCapacity_7 rfl ?_
    refine V.st16 (q := 9) dL_ticksWithCapacity_8 (i := 0)  rfl (by decide) rfl ?_
    refine V.goto (tgt := 18) dL_ticksWithCapacity_9 (by decide) ?_
    refine V.iconst (q := 19) dL_ticksWithCapacity_18 (v := 0) rfl rfl ?_
    exact V.iret dL_ticksWithCapacity_19 rfl ⟨_, rfl, rfl, _, hr, fun _ _ => ⟨rfl, rfl⟩, fun z => by (rw [g] at z; cases z), fun _ z => by (rw [g2] at z; cases z)⟩
  · obtain ⟨hr, h9⟩ := h9
    rcases ans2_inr h9 with ⟨g, rfl⟩ | ⟨g, g2, rfl⟩
    · refine VX.catch (q9 := 0) (pre := []) (suf := [(0, 9, 15, 79)]) rfl (by decide) (by decide) (fun z hz => nomatch hz) bw_462 (by decide +kernel) (fun x9 => ?_)
      refine V.astore_n (q := 13) dL_ticksWithCapacity_12 rfl rfl rfl rfl ?_
      refine V.iconst (q := 14) dL_ticksWithCapacity_13 (v := 1) rfl rfl ?_
      exact V.iret dL_ticksWithCapacity_14 rfl ⟨_, rfl, rfl, _, hr, fun z => by (rw [g] at z; cases z), fun _ => ⟨rfl, rfl⟩, fun z => by (rw [g] at z; cases z)⟩
    · refine VX.catch (q9 := 0) (pre := [(0, 9, 12, 13)]) (suf := []) rfl (by decide) (by decide) (fun z hz => by (rw [List.mem_singleton.mp hz]; exact ⟨by decide, "java/lang/IllegalArgumentException", bw_462, by decide +kernel⟩)) bw_909 (by decide +kernel) (fun x9 => ?_)
      refine V.astore_n (q := 16) dL_ticksWithCapacity_15 rfl rfl rfl rfl ?_
      refine V.iconst (q := 17) dL_ticksWithCapacity_16 (v := 2) rfl rfl ?_
      exact V.iret dL_ticksWithCapacity_17 rfl ⟨_, rfl, rfl, _, hr, fun _ z => by (rw [g2] at z; cases z), fun z => by (rw [g] at z; cases z), fun _ _ => ⟨rfl, rfl⟩⟩
set_option maxHeartbeats 2000000 in
theorem kW_setCapacity {l : Launch} {G : GG} {σ : St} {u : Vw} {qq : Nat → Nat} (hR : RC σ 1 u qq) (hI : Iu u) (ht : uT u ≤ 999) {r : Nat} {hv : Nat → Vw} (hH : CH σ r hv) {x : Int32} : CtX l G TL_setCapacity 8 1 6 [.ref (gB G + 0), .int x, .ref (gB G + 99)] σ (fun a τ => ∃ υ, CHG (okI 1 8 x && decide (nI (many u 2) ≤ x)) σ υ r hv u (uS u 1 x) ∧ (okI 1 8 x = true → decide (nI (many u 2) ≤ x) = true → a = .inl (some (.int 0)) ∧ τ = stO υ 0 (us u 1).toInt64) ∧ (okI 1 8 x = false → a = .inl (some (.int 1)) ∧ τ = υ) ∧ (okI 1 8 x = true → decide (nI (many u 2) ≤ x) = false → a = .inl (some (.int 2)) ∧ τ = υ)) := by
  refine Ct.ofVH (by decide +kernel) rfl rfl (Nat.le_of_ble_eq_true rfl) ?_
  refine V.aload_n (q := 1) dL_setCapacity_0 rfl rfl ?_
  refine V.iconst (q := 2) dL_setCapacity_1 (v := 0) rfl rfl ?_
  refine V.aload_n (q := 3) dL_setCapacity_2 rfl rfl ?_
  refine V.iload_n (q := 4) dL_setCapacity_3 rfl rfl ?_
  refine V.cVLX (q := 7) (As := [_]) dL_setCapacity_4 rfl (kL_setCapacity hR hI ht hH) MX4_setCapacity bw_973 rfl rfl rfl rfl (by decide) rfl (by decide) (by decide) (fun v9 τ9 h9 => ?_) (fun E9 τ9 h9 => ?_)
  · obtain ⟨hr, h9⟩ := h9
    obtain ⟨g, g2, rfl⟩ := ans2_inl h9
    refine V.i2l (q := 8) dL_setCapacity_7 rfl ?_
    refine V.st16 (q := 9) dL_setCapacity_8 (i := 0)  rfl (by decide) rfl ?_
    refine V.goto (tgt := 18) dL_setCapacity_9 (by decide) ?_
    refine V.iconst (q := 19) dL_setCapacity_18 (v := 0) rfl rfl ?_
    exact V.iret dL_setCapacity_19 rfl ⟨_, rfl, rfl, _, hr, fun _ _ => ⟨rfl, rfl⟩, fun z => by (rw [g] at z; cases z), fun _ z => by (rw [g2] at z; cases z)⟩
  · obtain ⟨hr, h9⟩ := h9
    rcases ans2_inr h9 with ⟨g, rfl⟩ | ⟨g, g2, rfl⟩
    · refine VX.catch (q9 := 0) (pre := []) (suf := [(0, 9, 15, 79)]) rfl (by decide) (by decide) (fun z hz => nomatch hz) bw_462 (by decide +kernel) (fun x9 => ?_)
      refine V.astore_n (q := 13) dL_setCapacity_12 rfl rfl rfl rfl ?_
      refine V.iconst (q := 14) dL_setCapacity_13 (v := 1) rfl rfl ?_
      exact V.iret dL_setCapacity_14 rfl ⟨_, rfl, rfl, _, hr, fun z => by (rw [g] at z; cases z), fun _ => ⟨rfl, rfl⟩, fun z => by (rw [g] at z; cases z)⟩
    · refine VX.catch (q9 := 0) (pre := [(0, 9, 12, 13)]) (suf := []) rfl (by decide) (by decide) (fun z hz => by (rw [List.mem_singleton.mp hz]; exact ⟨by decide, "java/lang/IllegalArgumentException", bw_462, by decide +kernel⟩)) bw_909 (by decide +kernel) (fun x9 => ?_)
      refine V.astore_n (q := 16) dL_setCapacity_15 rfl rfl rfl rfl ?_
      refine V.iconst (q := 17) dL_setCapacity_16 (v := 2) rfl rfl ?_
      exact V.iret dL_setCapacity_17 rfl ⟨_, rfl, rfl, _, hr, fun _ z => by (rw [g2] at z; cases z), fun z => by (rw [g] at z; cases z), fun _ _ => ⟨rfl, rfl⟩⟩
set_option maxHeartbeats 2000000 in
theorem kW_run {l : Launch} {G : GG} {σ : St} {u : Vw} {qq : Nat → Nat} (hR : RC σ 1 u qq) (hI : Iu u) (ht : uT u ≤ 999) {r : Nat} {hv : Nat → Vw} (hH : CH σ r hv) {x : Int32} : CtX l G TL_run 8 1 6 [.ref (gB G + 0), .int x, .ref (gB G + 99)] σ (fun a τ => ∃ υ, CHG (okI 1 999 x && decide (us u 3 + x ≤ 999)) σ υ r hv u (tks x.toNatClampNeg u) ∧ (okI 1 999 x = true → decide (us u 3 + x ≤ 999) = true → a = .inl (some (.int 0)) ∧ τ = stO υ 0 (us (tks x.toNatClampNeg u) 4).toInt64) ∧ (okI 1 999 x = false → a = .inl (some (.int 1)) ∧ τ = υ) ∧ (okI 1 999 x = true → decide (us u 3 + x ≤ 999) = false → a = .inl (some (.int 2)) ∧ τ = υ)) := by
  refine Ct.ofVH (by decide +kernel) rfl rfl (Nat.le_of_ble_eq_true rfl) ?_
  refine V.aload_n (q := 1) dL_run_0 rfl rfl ?_
  refine V.iconst (q := 2) dL_run_1 (v := 0) rfl rfl ?_
  refine V.aload_n (q := 3) dL_run_2 rfl rfl ?_
  refine V.iload_n (q := 4) dL_run_3 rfl rfl ?_
  refine V.cVLX (q := 7) (As := [_]) dL_run_4 rfl (kL_run hR hI ht hH) MX4_run bw_956 rfl rfl rfl rfl (by decide) rfl (by decide) (by decide) (fun v9 τ9 h9 => ?_) (fun E9 τ9 h9 => ?_)
  · obtain ⟨hr, h9⟩ := h9
    obtain ⟨g, g2, rfl⟩ := ans2_inl h9
    refine V.i2l (q := 8) dL_run_7 rfl ?_
    refine V.st16 (q := 9) dL_run_8 (i := 0)  rfl (by decide) rfl ?_
    refine V.goto (tgt := 18) dL_run_9 (by decide) ?_
    refine V.iconst (q := 19) dL_run_18 (v := 0) rfl rfl ?_
    exact V.iret dL_run_19 rfl ⟨_, rfl, rfl, _, hr, fun _ _ => ⟨rfl, rfl⟩, fun z => by (rw [g] at z; cases z), fun _ z => by (rw [g2] at z; cases z)⟩
  · obtain ⟨hr, h9⟩ := h9
    rcases ans2_inr h9 with ⟨g, rfl⟩ | ⟨g, g2, rfl⟩
    · refine VX.catch (q9 := 0) (pre := []) (suf := [(0, 9, 15, 79)]) rfl (by decide) (by decide) (fun z hz => nomatch hz) bw_462 (by decide +kernel) (fun x9 => ?_)
      refine V.astore_n (q := 13) dL_run_12 rfl rfl rfl rfl ?_
      refine V.iconst (q := 14) dL_run_13 (v := 1) rfl rfl ?_
      exact V.iret dL_run_14 rfl ⟨_, rfl, rfl, _, hr, fun z => by (rw [g] at z; cases z), fun _ => ⟨rfl, rfl⟩, fun z => by (rw [g] at z; cases z)⟩
    · refine VX.catch (q9 := 0) (pre := [(0, 9, 12, 13)]) (suf := []) rfl (by decide) (by decide) (fun z hz => by (rw [List.mem_singleton.mp hz]; exact ⟨by decide, "java/lang/IllegalArgumentException", bw_462, by decide +kernel⟩)) bw_909 (by decide +kernel) (fun x9 => ?_)
      refine V.astore_n (q := 16) dL_run_15 rfl rfl rfl rfl ?_
      refine V.iconst (q := 17) dL_run_16 (v := 2) rfl rfl ?_
      exact V.iret dL_run_17 rfl ⟨_, rfl, rfl, _, hr, fun _ z => by (rw [g2] at z; cases z), fun z => by (rw [g] at z; cases z), fun _ _ => ⟨rfl, rfl⟩⟩
set_option maxHeartbeats 2000000 in
theorem kW_undo {l : Launch} {G : GG} {σ : St} {u : Vw} {qq : Nat → Nat} (hR : RC σ 1 u qq) {r : Nat} {hv : Nat → Vw} (hH : CH σ r hv) (hall : ∀ i, i < r → Ok (hv i)) : CtX l G TL_undo 8 1 6 [.ref (gB G + 0), .ref (gB G + 99)] σ (fun a τ => ∃ υ, (FrCh σ υ ∧ (0 < r → CH υ (r - 1) hv ∧ ∃ qq, RC υ 1 (hv (r - 1)) qq) ∧ (r = 0 → υ = σ)) ∧ (decide (0 < r) = true → a = .inl (some (.int 0)) ∧ τ = stO υ 0 (nI (r - 1)).toInt64) ∧ (decide (0 < r) = false → a = .inl (some (.int 1)) ∧ τ = υ)) := by
  refine Ct.ofVH (by decide +kernel) rfl rfl (Nat.le_of_ble_eq_true rfl) ?_
  refine V.aload_n (q := 1) dL_undo_0 rfl rfl ?_
  refine V.iconst (q := 2) dL_undo_1 (v := 0) rfl rfl ?_
  refine V.aload_n (q := 3) dL_undo_2 rfl rfl ?_
  refine V.cVLX (q := 6) (As := []) dL_undo_3 rfl (kL_undo hR hH hall) MX4_undo bw_980 rfl rfl rfl rfl (by decide) rfl (by decide) (by decide) (fun v9 τ9 h9 => ?_) (fun E9 τ9 h9 => ?_)
  · obtain ⟨hr1, hr2, hr3, h9⟩ := h9
    have hr := And.intro hr1 (And.intro hr2 hr3)
    obtain ⟨g, rfl⟩ := ansA_inl h9
    refine V.i2l (q := 7) dL_undo_6 rfl ?_
    refine V.st16 (q := 8) dL_undo_7 (i := 0)  rfl (by decide) rfl ?_
    refine V.goto (tgt := 14) dL_undo_8 (by decide) ?_
    refine V.iconst (q := 15) dL_undo_14 (v := 0) rfl rfl ?_
    exact V.iret dL_undo_15 rfl ⟨_, rfl, rfl, _, hr, fun _ => ⟨rfl, rfl⟩, fun z => by (rw [g] at z; cases z)⟩
  · obtain ⟨hr1, hr2, hr3, h9⟩ := h9
    have hr := And.intro hr1 (And.intro hr2 hr3)
    obtain ⟨g, rfl⟩ := ansA_inr h9
    refine VX.catch (q9 := 0) (pre := []) (suf := []) rfl (by decide) (by decide) (fun z hz => nomatch hz) bw_909 (by decide +kernel) (fun x9 => ?_)
    refine V.astore_n (q := 12) dL_undo_11 rfl rfl rfl rfl ?_
    refine V.iconst (q := 13) dL_undo_12 (v := 1) rfl rfl ?_
    exact V.iret dL_undo_13 rfl ⟨_, rfl, rfl, _, hr, fun z => by (rw [g] at z; cases z), fun _ => ⟨rfl, rfl⟩⟩
set_option maxHeartbeats 2000000 in
theorem kW_restore {l : Launch} {G : GG} {σ : St} {u : Vw} {qq : Nat → Nat} (hR : RC σ 1 u qq) {r : Nat} {hv : Nat → Vw} (hH : CH σ r hv) {b : Nat → Bool} {v : Nat → Vw} (hS : CSl σ b v) (hall : ∀ i, i < 2 → b i = true → Ok (v i)) {x : Int32} : CtX l G TL_restore 8 2 12 [.ref (gB G + 0), .int x, .ref (gB G + 99)] σ (fun a τ => ∃ υ, (FrCh σ υ ∧ ((okS x && b x.toNatClampNeg) = true → CH υ 0 hv ∧ ∃ qq, RC υ 1 (v x.toNatClampNeg) qq) ∧ ((okS x && b x.toNatClampNeg) = false → υ = σ)) ∧ (okS x = true → b x.toNatClampNeg = true → a = .inl (some (.int 0)) ∧ τ = stO υ 0 (us (v x.toNatClampNeg) 3).toInt64) ∧ (okS x = false → a = .inl (some (.int 1)) ∧ τ = υ) ∧ (okS x = true → b x.toNatClampNeg = false → a = .inl (some (.int 2)) ∧ τ = υ)) := by
  refine Ct.ofVH (by decide +kernel) rfl rfl (Nat.le_of_ble_eq_true rfl) ?_
  refine V.aload_n (q := 1) dL_restore_0 rfl rfl ?_
  refine V.iconst (q := 2) dL_restore_1 (v := 0) rfl rfl ?_
  refine V.aload_n (q := 3) dL_restore_2 rfl rfl ?_
  refine V.iload_n (q := 4) dL_restore_3 rfl rfl ?_
  refine V.cVLX (q := 7) (As := [_]) dL_restore_4 rfl (kL_restore hR hH hS hall) MX4_restore bw_1000 rfl rfl rfl rfl (by decide) rfl (by decide) (by decide) (fun v9 τ9 h9 => ?_) (fun E9 τ9 h9 => ?_)
  · obtain ⟨hr1, hr2, hr3, h9⟩ := h9
    have hr := And.intro hr1 (And.intro hr2 hr3)
    obtain ⟨g, g2, rfl⟩ := ans2_inl h9
    refine V.i2l (q := 8) dL_restore_7 rfl ?_
    refine V.st16 (q := 9) dL_restore_8 (i := 0)  rfl (by decide) rfl ?_
    refine V.goto (tgt := 18) dL_restore_9 (by decide) ?_
    refine V.iconst (q := 19) dL_restore_18 (v := 0) rfl rfl ?_
    exact V.iret dL_restore_19 rfl ⟨_, rfl, rfl, _, hr, fun _ _ => ⟨rfl, rfl⟩, fun z => by (rw [g] at z; cases z), fun _ z => by (rw [g2] at z; cases z)⟩
  · obtain ⟨hr1, hr2, hr3, h9⟩ := h9
    have hr := And.intro hr1 (And.intro hr2 hr3)
    rcases ans2_inr h9 with ⟨g, rfl⟩ | ⟨g, g2, rfl⟩
    · refine VX.catch (q9 := 0) (pre := []) (suf := [(0, 9, 15, 79)]) rfl (by decide) (by decide) (fun z hz => nomatch hz) bw_758 (by decide +kernel) (fun x9 => ?_)
      refine V.astore_n (q := 13) dL_restore_12 rfl rfl rfl rfl ?_
      refine V.iconst (q := 14) dL_restore_13 (v := 1) rfl rfl ?_
      exact V.iret dL_restore_14 rfl ⟨_, rfl, rfl, _, hr, fun z => by (rw [g] at z; cases z), fun _ => ⟨rfl, rfl⟩, fun z => by (rw [g] at z; cases z)⟩
    · refine VX.catch (q9 := 0) (pre := [(0, 9, 12, 25)]) (suf := []) rfl (by decide) (by decide) (fun z hz => by (rw [List.mem_singleton.mp hz]; exact ⟨by decide, "java/lang/IndexOutOfBoundsException", bw_758, by decide +kernel⟩)) bw_909 (by decide +kernel) (fun x9 => ?_)
      refine V.astore_n (q := 16) dL_restore_15 rfl rfl rfl rfl ?_
      refine V.iconst (q := 17) dL_restore_16 (v := 2) rfl rfl ?_
      exact V.iret dL_restore_17 rfl ⟨_, rfl, rfl, _, hr, fun _ z => by (rw [g2] at z; cases z), fun z => by (rw [g] at z; cases z), fun _ _ => ⟨rfl, rfl⟩⟩
