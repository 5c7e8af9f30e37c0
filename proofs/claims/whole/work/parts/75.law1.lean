/-! the law's wrappers -/
theorem ansA_inl {b : Bool} {E : String} {v : Value} {w : Option Value} (h : (.inl w : Ans) = ansA b E v) : b = true ∧ w = some v := by
  cases b with
  | true => exact ⟨rfl, Sum.inl.inj h⟩
  | false => cases h
theorem ansA_inr {b : Bool} {E E2 : String} {v : Value} (h : (.inr E2 : Ans) = ansA b E v) : b = false ∧ E2 = E := by
  cases b with
  | true => cases h
  | false => exact ⟨rfl, Sum.inr.inj h⟩
set_option maxHeartbeats 2000000 in
theorem kW_statusOf {l : Launch} {G : GG} {σ : St} {u : Vw} {qq : Nat → Nat} (hR : RC σ 1 u qq) (hI : Iu u) {x : Int32} : CtX l G TL_statusOf 8 1 6 [.ref (gB G + 0), .int x, .ref (gB G + 99)] σ (fun a τ => (okP u x = true → a = .inl (some (.int 0)) ∧ τ = stO σ 0 (stat u x.toNatClampNeg).toInt64) ∧ (okP u x = false → a = .inl (some (.int 1)) ∧ τ = σ)) := by
  refine Ct.ofVH (by decide +kernel) rfl rfl (Nat.le_of_ble_eq_true rfl) ?_
  refine V.aload_n (q := 1) dL_statusOf_0 rfl rfl ?_
  refine V.iconst (q := 2) dL_statusOf_1 (v := 0) rfl rfl ?_
  refine V.aload_n (q := 3) dL_statusOf_2 rfl rfl ?_
  refine V.iload_n (q := 4) dL_statusOf_3 rfl rfl ?_
  refine V.cVLX (q := 7) (As := [_]) dL_statusOf_4 rfl (kL_statusOf hR) MX4_statusOf bw_759 rfl rfl rfl rfl (by decide) rfl (by decide) (by decide) (fun v9 τ9 h9 => ?_) (fun E9 τ9 h9 => ?_)
  · obtain ⟨rfl, h9⟩ := h9
    obtain ⟨g, rfl⟩ := ansA_inl h9
    refine V.i2l (q := 8) dL_statusOf_7 rfl ?_
    refine V.st16 (q := 9) dL_statusOf_8 (i := 0)  rfl (by decide) rfl ?_
    refine V.goto (tgt := 15) dL_statusOf_9 (by decide) ?_
    refine V.iconst (q := 16) dL_statusOf_15 (v := 0) rfl rfl ?_
    exact V.iret dL_statusOf_16 rfl ⟨_, rfl, rfl, fun _ => ⟨rfl, rfl⟩, fun z => by (rw [g] at z; cases z)⟩
  · obtain ⟨rfl, h9⟩ := h9
    obtain ⟨g, rfl⟩ := ansA_inr h9
    refine VX.catch (q9 := 0) (pre := []) (suf := []) rfl (by decide) (by decide) (fun z hz => nomatch hz) bw_758 (by decide +kernel) (fun x9 => ?_)
    refine V.astore_n (q := 13) dL_statusOf_12 rfl rfl rfl rfl ?_
    refine V.iconst (q := 14) dL_statusOf_13 (v := 1) rfl rfl ?_
    exact V.iret dL_statusOf_14 rfl ⟨_, rfl, rfl, fun z => by (rw [g] at z; cases z), fun _ => ⟨rfl, rfl⟩⟩
set_option maxHeartbeats 2000000 in
theorem kW_originOf {l : Launch} {G : GG} {σ : St} {u : Vw} {qq : Nat → Nat} (hR : RC σ 1 u qq) (hI : Iu u) {x : Int32} : CtX l G TL_originOf 8 1 6 [.ref (gB G + 0), .int x, .ref (gB G + 99)] σ (fun a τ => (okP u x = true → a = .inl (some (.int 0)) ∧ τ = stO σ 0 (ur u 0 x.toNatClampNeg).toInt64) ∧ (okP u x = false → a = .inl (some (.int 1)) ∧ τ = σ)) := by
  refine Ct.ofVH (by decide +kernel) rfl rfl (Nat.le_of_ble_eq_true rfl) ?_
  refine V.aload_n (q := 1) dL_originOf_0 rfl rfl ?_
  refine V.iconst (q := 2) dL_originOf_1 (v := 0) rfl rfl ?_
  refine V.aload_n (q := 3) dL_originOf_2 rfl rfl ?_
  refine V.iload_n (q := 4) dL_originOf_3 rfl rfl ?_
  refine V.cVLX (q := 7) (As := [_]) dL_originOf_4 rfl (kL_originOf hR) MX4_originOf bw_786 rfl rfl rfl rfl (by decide) rfl (by decide) (by decide) (fun v9 τ9 h9 => ?_) (fun E9 τ9 h9 => ?_)
  · obtain ⟨rfl, h9⟩ := h9
    obtain ⟨g, rfl⟩ := ansA_inl h9
    refine V.i2l (q := 8) dL_originOf_7 rfl ?_
    refine V.st16 (q := 9) dL_originOf_8 (i := 0)  rfl (by decide) rfl ?_
    refine V.goto (tgt := 15) dL_originOf_9 (by decide) ?_
    refine V.iconst (q := 16) dL_originOf_15 (v := 0) rfl rfl ?_
    exact V.iret dL_originOf_16 rfl ⟨_, rfl, rfl, fun _ => ⟨rfl, rfl⟩, fun z => by (rw [g] at z; cases z)⟩
  · obtain ⟨rfl, h9⟩ := h9
    obtain ⟨g, rfl⟩ := ansA_inr h9
    refine VX.catch (q9 := 0) (pre := []) (suf := []) rfl (by decide) (by decide) (fun z hz => nomatch hz) bw_758 (by decide +kernel) (fun x9 => ?_)
    refine V.astore_n (q := 13) dL_originOf_12 rfl rfl rfl rfl ?_
    refine V.iconst (q := 14) dL_originOf_13 (v := 1) rfl rfl ?_
    exact V.iret dL_originOf_14 rfl ⟨_, rfl, rfl, fun z => by (rw [g] at z; cases z), fun _ => ⟨rfl, rfl⟩⟩
set_option maxHeartbeats 2000000 in
theorem kW_destinationOf {l : Launch} {G : GG} {σ : St} {u : Vw} {qq : Nat → Nat} (hR : RC σ 1 u qq) (hI : Iu u) {x : Int32} : CtX l G TL_destinationOf 8 1 6 [.ref (gB G + 0), .int x, .ref (gB G + 99)] σ (fun a τ => (okP u x = true → a = .inl (some (.int 0)) ∧ τ = stO σ 0 (ur u 1 x.toNatClampNeg).toInt64) ∧ (okP u x = false → a = .inl (some (.int 1)) ∧ τ = σ)) := by
  refine Ct.ofVH (by decide +kernel) rfl rfl (Nat.le_of_ble_eq_true rfl) ?_
  refine V.aload_n (q := 1) dL_destinationOf_0 rfl rfl ?_
  refine V.iconst (q := 2) dL_destinationOf_1 (v := 0) rfl rfl ?_
  refine V.aload_n (q := 3) dL_destinationOf_2 rfl rfl ?_
  refine V.iload_n (q := 4) dL_destinationOf_3 rfl rfl ?_
  refine V.cVLX (q := 7) (As := [_]) dL_destinationOf_4 rfl (kL_destinationOf hR) MX4_destinationOf bw_793 rfl rfl rfl rfl (by decide) rfl (by decide) (by decide) (fun v9 τ9 h9 => ?_) (fun E9 τ9 h9 => ?_)
  · obtain ⟨rfl, h9⟩ := h9
    obtain ⟨g, rfl⟩ := ansA_inl h9
    refine V.i2l (q := 8) dL_destinationOf_7 rfl ?_
    refine V.st16 (q := 9) dL_destinationOf_8 (i := 0)  rfl (by decide) rfl ?_
    refine V.goto (tgt := 15) dL_destinationOf_9 (by decide) ?_
    refine V.iconst (q := 16) dL_destinationOf_15 (v := 0) rfl rfl ?_
    exact V.iret dL_destinationOf_16 rfl ⟨_, rfl, rfl, fun _ => ⟨rfl, rfl⟩, fun z => by (rw [g] at z; cases z)⟩
  · obtain ⟨rfl, h9⟩ := h9
    obtain ⟨g, rfl⟩ := ansA_inr h9
    refine VX.catch (q9 := 0) (pre := []) (suf := []) rfl (by decide) (by decide) (fun z hz => nomatch hz) bw_758 (by decide +kernel) (fun x9 => ?_)
    refine V.astore_n (q := 13) dL_destinationOf_12 rfl rfl rfl rfl ?_
    refine V.iconst (q := 14) dL_destinationOf_13 (v := 1) rfl rfl ?_
    exact V.iret dL_destinationOf_14 rfl ⟨_, rfl, rfl, fun z => by (rw [g] at z; cases z), fun _ => ⟨rfl, rfl⟩⟩
set_option maxHeartbeats 2000000 in
theorem kW_arrivalOf {l : Launch} {G : GG} {σ : St} {u : Vw} {qq : Nat → Nat} (hR : RC σ 1 u qq) (hI : Iu u) {x : Int32} : CtX l G TL_arrivalOf 8 1 6 [.ref (gB G + 0), .int x, .ref (gB G + 99)] σ (fun a τ => (okP u x = true → a = .inl (some (.int 0)) ∧ τ = stO σ 0 (ur u 2 x.toNatClampNeg).toInt64) ∧ (okP u x = false → a = .inl (some (.int 1)) ∧ τ = σ)) := by
  refine Ct.ofVH (by decide +kernel) rfl rfl (Nat.le_of_ble_eq_true rfl) ?_
  refine V.aload_n (q := 1) dL_arrivalOf_0 rfl rfl ?_
  refine V.iconst (q := 2) dL_arrivalOf_1 (v := 0) rfl rfl ?_
  refine V.aload_n (q := 3) dL_arrivalOf_2 rfl rfl ?_
  refine V.iload_n (q := 4) dL_arrivalOf_3 rfl rfl ?_
  refine V.cVLX (q := 7) (As := [_]) dL_arrivalOf_4 rfl (kL_arrivalOf hR) MX4_arrivalOf bw_800 rfl rfl rfl rfl (by decide) rfl (by decide) (by decide) (fun v9 τ9 h9 => ?_) (fun E9 τ9 h9 => ?_)
  · obtain ⟨rfl, h9⟩ := h9
    obtain ⟨g, rfl⟩ := ansA_inl h9
    refine V.i2l (q := 8) dL_arrivalOf_7 rfl ?_
    refine V.st16 (q := 9) dL_arrivalOf_8 (i := 0)  rfl (by decide) rfl ?_
    refine V.goto (tgt := 15) dL_arrivalOf_9 (by decide) ?_
    refine V.iconst (q := 16) dL_arrivalOf_15 (v := 0) rfl rfl ?_
    exact V.iret dL_arrivalOf_16 rfl ⟨_, rfl, rfl, fun _ => ⟨rfl, rfl⟩, fun z => by (rw [g] at z; cases z)⟩
  · obtain ⟨rfl, h9⟩ := h9
    obtain ⟨g, rfl⟩ := ansA_inr h9
    refine VX.catch (q9 := 0) (pre := []) (suf := []) rfl (by decide) (by decide) (fun z hz => nomatch hz) bw_758 (by decide +kernel) (fun x9 => ?_)
    refine V.astore_n (q := 13) dL_arrivalOf_12 rfl rfl rfl rfl ?_
    refine V.iconst (q := 14) dL_arrivalOf_13 (v := 1) rfl rfl ?_
    exact V.iret dL_arrivalOf_14 rfl ⟨_, rfl, rfl, fun z => by (rw [g] at z; cases z), fun _ => ⟨rfl, rfl⟩⟩
set_option maxHeartbeats 2000000 in
theorem kW_boardedAt {l : Launch} {G : GG} {σ : St} {u : Vw} {qq : Nat → Nat} (hR : RC σ 1 u qq) (hI : Iu u) {x : Int32} : CtX l G TL_boardedAt 8 1 6 [.ref (gB G + 0), .int x, .ref (gB G + 99)] σ (fun a τ => (okP u x = true → a = .inl (some (.int 0)) ∧ τ = stO σ 0 (ur u 3 x.toNatClampNeg).toInt64) ∧ (okP u x = false → a = .inl (some (.int 1)) ∧ τ = σ)) := by
  refine Ct.ofVH (by decide +kernel) rfl rfl (Nat.le_of_ble_eq_true rfl) ?_
  refine V.aload_n (q := 1) dL_boardedAt_0 rfl rfl ?_
  refine V.iconst (q := 2) dL_boardedAt_1 (v := 0) rfl rfl ?_
  refine V.aload_n (q := 3) dL_boardedAt_2 rfl rfl ?_
  refine V.iload_n (q := 4) dL_boardedAt_3 rfl rfl ?_
  refine V.cVLX (q := 7) (As := [_]) dL_boardedAt_4 rfl (kL_boardedAt hR) MX4_boardedAt bw_807 rfl rfl rfl rfl (by decide) rfl (by decide) (by decide) (fun v9 τ9 h9 => ?_) (fun E9 τ9 h9 => ?_)
  · obtain ⟨rfl, h9⟩ := h9
    obtain ⟨g, rfl⟩ := ansA_inl h9
    refine V.i2l (q := 8) dL_boardedAt_7 rfl ?_
    refine V.st16 (q := 9) dL_boardedAt_8 (i := 0)  rfl (by decide) rfl ?_
    refine V.goto (tgt := 15) dL_boardedAt_9 (by decide) ?_
    refine V.iconst (q := 16) dL_boardedAt_15 (v := 0) rfl rfl ?_
    exact V.iret dL_boardedAt_16 rfl ⟨_, rfl, rfl, fun _ => ⟨rfl, rfl⟩, fun z => by (rw [g] at z; cases z)⟩
  · obtain ⟨rfl, h9⟩ := h9
    obtain ⟨g, rfl⟩ := ansA_inr h9
    refine VX.catch (q9 := 0) (pre := []) (suf := []) rfl (by decide) (by decide) (fun z hz => nomatch hz) bw_758 (by decide +kernel) (fun x9 => ?_)
    refine V.astore_n (q := 13) dL_boardedAt_12 rfl rfl rfl rfl ?_
    refine V.iconst (q := 14) dL_boardedAt_13 (v := 1) rfl rfl ?_
    exact V.iret dL_boardedAt_14 rfl ⟨_, rfl, rfl, fun z => by (rw [g] at z; cases z), fun _ => ⟨rfl, rfl⟩⟩
set_option maxHeartbeats 2000000 in
theorem kW_leftAt {l : Launch} {G : GG} {σ : St} {u : Vw} {qq : Nat → Nat} (hR : RC σ 1 u qq) (hI : Iu u) {x : Int32} : CtX l G TL_leftAt 8 1 6 [.ref (gB G + 0), .int x, .ref (gB G + 99)] σ (fun a τ => (okP u x = true → a = .inl (some (.int 0)) ∧ τ = stO σ 0 (ur u 4 x.toNatClampNeg).toInt64) ∧ (okP u x = false → a = .inl (some (.int 1)) ∧ τ = σ)) := by
  refine Ct.ofVH (by decide +kernel) rfl rfl (Nat.le_of_ble_eq_true rfl) ?_
  refine V.aload_n (q := 1) dL_leftAt_0 rfl rfl ?_
  refine V.iconst (q := 2) dL_leftAt_1 (v := 0) rfl rfl ?_
  refine V.aload_n (q := 3) dL_leftAt_2 rfl rfl ?_
  refine V.iload_n (q := 4) dL_leftAt_3 rfl rfl ?_
  refine V.cVLX (q := 7) (As := [_]) dL_leftAt_4 rfl (kL_leftAt hR) MX4_leftAt bw_814 rfl rfl rfl rfl (by decide) rfl (by decide) (by decide) (fun v9 τ9 h9 => ?_) (fun E9 τ9 h9 => ?_)
  · obtain ⟨rfl, h9⟩ := h9
    obtain ⟨g, rfl⟩ := ansA_inl h9
    refine V.i2l (q := 8) dL_leftAt_7 rfl ?_
    refine V.st16 (q := 9) dL_leftAt_8 (i := 0)  rfl (by decide) rfl ?_
    refine V.goto (tgt := 15) dL_leftAt_9 (by decide) ?_
    refine V.iconst (q := 16) dL_leftAt_15 (v := 0) rfl rfl ?_
    exact V.iret dL_leftAt_16 rfl ⟨_, rfl, rfl, fun _ => ⟨rfl, rfl⟩, fun z => by (rw [g] at z; cases z)⟩
  · obtain ⟨rfl, h9⟩ := h9
    obtain ⟨g, rfl⟩ := ansA_inr h9
    refine VX.catch (q9 := 0) (pre := []) (suf := []) rfl (by decide) (by decide) (fun z hz => nomatch hz) bw_758 (by decide +kernel) (fun x9 => ?_)
    refine V.astore_n (q := 13) dL_leftAt_12 rfl rfl rfl rfl ?_
    refine V.iconst (q := 14) dL_leftAt_13 (v := 1) rfl rfl ?_
    exact V.iret dL_leftAt_14 rfl ⟨_, rfl, rfl, fun z => by (rw [g] at z; cases z), fun _ => ⟨rfl, rfl⟩⟩
set_option maxHeartbeats 2000000 in
theorem kW_waitOf {l : Launch} {G : GG} {σ : St} {u : Vw} {qq : Nat → Nat} (hR : RC σ 1 u qq) (hI : Iu u) {x : Int32} : CtX l G TL_waitOf 8 1 6 [.ref (gB G + 0), .int x, .ref (gB G + 99)] σ (fun a τ => (okP u x = true → a = .inl (some (.int 0)) ∧ τ = stO σ 0 (wtI u x.toNatClampNeg).toInt64) ∧ (okP u x = false → a = .inl (some (.int 1)) ∧ τ = σ)) := by
  refine Ct.ofVH (by decide +kernel) rfl rfl (Nat.le_of_ble_eq_true rfl) ?_
  refine V.aload_n (q := 1) dL_waitOf_0 rfl rfl ?_
  refine V.iconst (q := 2) dL_waitOf_1 (v := 0) rfl rfl ?_
  refine V.aload_n (q := 3) dL_waitOf_2 rfl rfl ?_
  refine V.iload_n (q := 4) dL_waitOf_3 rfl rfl ?_
  refine V.cVLX (q := 7) (As := [_]) dL_waitOf_4 rfl (kL_waitOf hR) MX4_waitOf bw_821 rfl rfl rfl rfl (by decide) rfl (by decide) (by decide) (fun v9 τ9 h9 => ?_) (fun E9 τ9 h9 => ?_)
  · obtain ⟨rfl, h9⟩ := h9
    obtain ⟨g, rfl⟩ := ansA_inl h9
    refine V.i2l (q := 8) dL_waitOf_7 rfl ?_
    refine V.st16 (q := 9) dL_waitOf_8 (i := 0)  rfl (by decide) rfl ?_
    refine V.goto (tgt := 15) dL_waitOf_9 (by decide) ?_
    refine V.iconst (q := 16) dL_waitOf_15 (v := 0) rfl rfl ?_
    exact V.iret dL_waitOf_16 rfl ⟨_, rfl, rfl, fun _ => ⟨rfl, rfl⟩, fun z => by (rw [g] at z; cases z)⟩
  · obtain ⟨rfl, h9⟩ := h9
    obtain ⟨g, rfl⟩ := ansA_inr h9
    refine VX.catch (q9 := 0) (pre := []) (suf := []) rfl (by decide) (by decide) (fun z hz => nomatch hz) bw_758 (by decide +kernel) (fun x9 => ?_)
    refine V.astore_n (q := 13) dL_waitOf_12 rfl rfl rfl rfl ?_
    refine V.iconst (q := 14) dL_waitOf_13 (v := 1) rfl rfl ?_
    exact V.iret dL_waitOf_14 rfl ⟨_, rfl, rfl, fun z => by (rw [g] at z; cases z), fun _ => ⟨rfl, rfl⟩⟩
set_option maxHeartbeats 2000000 in
theorem kW_rideOf {l : Launch} {G : GG} {σ : St} {u : Vw} {qq : Nat → Nat} (hR : RC σ 1 u qq) (hI : Iu u) {x : Int32} : CtX l G TL_rideOf 8 1 6 [.ref (gB G + 0), .int x, .ref (gB G + 99)] σ (fun a τ => (okP u x = true → a = .inl (some (.int 0)) ∧ τ = stO σ 0 (rdI u x.toNatClampNeg).toInt64) ∧ (okP u x = false → a = .inl (some (.int 1)) ∧ τ = σ)) := by
  refine Ct.ofVH (by decide +kernel) rfl rfl (Nat.le_of_ble_eq_true rfl) ?_
  refine V.aload_n (q := 1) dL_rideOf_0 rfl rfl ?_
  refine V.iconst (q := 2) dL_rideOf_1 (v := 0) rfl rfl ?_
  refine V.aload_n (q := 3) dL_rideOf_2 rfl rfl ?_
  refine V.iload_n (q := 4) dL_rideOf_3 rfl rfl ?_
  refine V.cVLX (q := 7) (As := [_]) dL_rideOf_4 rfl (kL_rideOf hR) MX4_rideOf bw_829 rfl rfl rfl rfl (by decide) rfl (by decide) (by decide) (fun v9 τ9 h9 => ?_) (fun E9 τ9 h9 => ?_)
  · obtain ⟨rfl, h9⟩ := h9
    obtain ⟨g, rfl⟩ := ansA_inl h9
    refine V.i2l (q := 8) dL_rideOf_7 rfl ?_
    refine V.st16 (q := 9) dL_rideOf_8 (i := 0)  rfl (by decide) rfl ?_
    refine V.goto (tgt := 15) dL_rideOf_9 (by decide) ?_
    refine V.iconst (q := 16) dL_rideOf_15 (v := 0) rfl rfl ?_
    exact V.iret dL_rideOf_16 rfl ⟨_, rfl, rfl, fun _ => ⟨rfl, rfl⟩, fun z => by (rw [g] at z; cases z)⟩
  · obtain ⟨rfl, h9⟩ := h9
    obtain ⟨g, rfl⟩ := ansA_inr h9
    refine VX.catch (q9 := 0) (pre := []) (suf := []) rfl (by decide) (by decide) (fun z hz => nomatch hz) bw_758 (by decide +kernel) (fun x9 => ?_)
    refine V.astore_n (q := 13) dL_rideOf_12 rfl rfl rfl rfl ?_
    refine V.iconst (q := 14) dL_rideOf_13 (v := 1) rfl rfl ?_
    exact V.iret dL_rideOf_14 rfl ⟨_, rfl, rfl, fun z => by (rw [g] at z; cases z), fun _ => ⟨rfl, rfl⟩⟩
set_option maxHeartbeats 2000000 in
theorem kW_detourOf {l : Launch} {G : GG} {σ : St} {u : Vw} {qq : Nat → Nat} (hR : RC σ 1 u qq) (hI : Iu u) {x : Int32} : CtX l G TL_detourOf 8 1 6 [.ref (gB G + 0), .int x, .ref (gB G + 99)] σ (fun a τ => (okP u x = true → a = .inl (some (.int 0)) ∧ τ = stO σ 0 (dtI u x.toNatClampNeg).toInt64) ∧ (okP u x = false → a = .inl (some (.int 1)) ∧ τ = σ)) := by
  refine Ct.ofVH (by decide +kernel) rfl rfl (Nat.le_of_ble_eq_true rfl) ?_
  refine V.aload_n (q := 1) dL_detourOf_0 rfl rfl ?_
  refine V.iconst (q := 2) dL_detourOf_1 (v := 0) rfl rfl ?_
  refine V.aload_n (q := 3) dL_detourOf_2 rfl rfl ?_
  refine V.iload_n (q := 4) dL_detourOf_3 rfl rfl ?_
  refine V.cVLX (q := 7) (As := [_]) dL_detourOf_4 rfl (kL_detourOf hR) MX4_detourOf bw_836 rfl rfl rfl rfl (by decide) rfl (by decide) (by decide) (fun v9 τ9 h9 => ?_) (fun E9 τ9 h9 => ?_)
  · obtain ⟨rfl, h9⟩ := h9
    obtain ⟨g, rfl⟩ := ansA_inl h9
    refine V.i2l (q := 8) dL_detourOf_7 rfl ?_
    refine V.st16 (q := 9) dL_detourOf_8 (i := 0)  rfl (by decide) rfl ?_
    refine V.goto (tgt := 15) dL_detourOf_9 (by decide) ?_
    refine V.iconst (q := 16) dL_detourOf_15 (v := 0) rfl rfl ?_
    exact V.iret dL_detourOf_16 rfl ⟨_, rfl, rfl, fun _ => ⟨rfl, rfl⟩, fun z => by (rw [g] at z; cases z)⟩
  · obtain ⟨rfl, h9⟩ := h9
    obtain ⟨g, rfl⟩ := ansA_inr h9
    refine VX.catch (q9 := 0) (pre := []) (suf := []) rfl (by decide) (by decide) (fun z hz => nomatch hz) bw_758 (by decide +kernel) (fun x9 => ?_)
    refine V.astore_n (q := 13) dL_detourOf_12 rfl rfl rfl rfl ?_
    refine V.iconst (q := 14) dL_detourOf_13 (v := 1) rfl rfl ?_
    exact V.iret dL_detourOf_14 rfl ⟨_, rfl, rfl, fun z => by (rw [g] at z; cases z), fun _ => ⟨rfl, rfl⟩⟩
set_option maxHeartbeats 2000000 in
theorem kW_countStatus {l : Launch} {G : GG} {σ : St} {u : Vw} {qq : Nat → Nat} (hR : RC σ 1 u qq) (hI : Iu u) {x : Int32} : CtX l G TL_countStatus 8 1 6 [.ref (gB G + 0), .int x, .ref (gB G + 99)] σ (fun a τ => (okI 0 3 x = true → a = .inl (some (.int 0)) ∧ τ = stO σ 0 (nI (many u x)).toInt64) ∧ (okI 0 3 x = false → a = .inl (some (.int 1)) ∧ τ = σ)) := by
  refine Ct.ofVH (by decide +kernel) rfl rfl (Nat.le_of_ble_eq_true rfl) ?_
  refine V.aload_n (q := 1) dL_countStatus_0 rfl rfl ?_
  refine V.iconst (q := 2) dL_countStatus_1 (v := 0) rfl rfl ?_
  refine V.aload_n (q := 3) dL_countStatus_2 rfl rfl ?_
  refine V.iload_n (q := 4) dL_countStatus_3 rfl rfl ?_
  refine V.cVLX (q := 7) (As := [_]) dL_countStatus_4 rfl (kL_countStatus hR) MX4_countStatus bw_846 rfl rfl rfl rfl (by decide) rfl (by decide) (by decide) (fun v9 τ9 h9 => ?_) (fun E9 τ9 h9 => ?_)
  · obtain ⟨rfl, h9⟩ := h9
    obtain ⟨g, rfl⟩ := ansA_inl h9
    refine V.i2l (q := 8) dL_countStatus_7 rfl ?_
    refine V.st16 (q := 9) dL_countStatus_8 (i := 0)  rfl (by decide) rfl ?_
    refine V.goto (tgt := 15) dL_countStatus_9 (by decide) ?_
    refine V.iconst (q := 16) dL_countStatus_15 (v := 0) rfl rfl ?_
    exact V.iret dL_countStatus_16 rfl ⟨_, rfl, rfl, fun _ => ⟨rfl, rfl⟩, fun z => by (rw [g] at z; cases z)⟩
  · obtain ⟨rfl, h9⟩ := h9
    obtain ⟨g, rfl⟩ := ansA_inr h9
    refine VX.catch (q9 := 0) (pre := []) (suf := []) rfl (by decide) (by decide) (fun z hz => nomatch hz) bw_462 (by decide +kernel) (fun x9 => ?_)
    refine V.astore_n (q := 13) dL_countStatus_12 rfl rfl rfl rfl ?_
    refine V.iconst (q := 14) dL_countStatus_13 (v := 1) rfl rfl ?_
    exact V.iret dL_countStatus_14 rfl ⟨_, rfl, rfl, fun z => by (rw [g] at z; cases z), fun _ => ⟨rfl, rfl⟩⟩
set_option maxHeartbeats 2000000 in
theorem kW_targetBy {l : Launch} {G : GG} {σ : St} {u : Vw} {qq : Nat → Nat} (hR : RC σ 1 u qq) (hI : Iu u) {x : Int32} : CtX l G TL_targetBy 8 1 6 [.ref (gB G + 0), .int x, .ref (gB G + 99)] σ (fun a τ => (okI 0 2 x = true → a = .inl (some (.int 0)) ∧ τ = stO σ 0 (tgt u x).toInt64) ∧ (okI 0 2 x = false → a = .inl (some (.int 1)) ∧ τ = σ)) := by
  refine Ct.ofVH (by decide +kernel) rfl rfl (Nat.le_of_ble_eq_true rfl) ?_
  refine V.aload_n (q := 1) dL_targetBy_0 rfl rfl ?_
  refine V.iconst (q := 2) dL_targetBy_1 (v := 0) rfl rfl ?_
  refine V.aload_n (q := 3) dL_targetBy_2 rfl rfl ?_
  refine V.iload_n (q := 4) dL_targetBy_3 rfl rfl ?_
  refine V.cVLX (q := 7) (As := [_]) dL_targetBy_4 rfl (kL_targetBy hR hI) MX4_targetBy bw_745 rfl rfl rfl rfl (by decide) rfl (by decide) (by decide) (fun v9 τ9 h9 => ?_) (fun E9 τ9 h9 => ?_)
  · obtain ⟨rfl, h9⟩ := h9
    obtain ⟨g, rfl⟩ := ansA_inl h9
    refine V.i2l (q := 8) dL_targetBy_7 rfl ?_
    refine V.st16 (q := 9) dL_targetBy_8 (i := 0)  rfl (by decide) rfl ?_
    refine V.goto (tgt := 15) dL_targetBy_9 (by decide) ?_
    refine V.iconst (q := 16) dL_targetBy_15 (v := 0) rfl rfl ?_
    exact V.iret dL_targetBy_16 rfl ⟨_, rfl, rfl, fun _ => ⟨rfl, rfl⟩, fun z => by (rw [g] at z; cases z)⟩
  · obtain ⟨rfl, h9⟩ := h9
    obtain ⟨g, rfl⟩ := ansA_inr h9
    refine VX.catch (q9 := 0) (pre := []) (suf := []) rfl (by decide) (by decide) (fun z hz => nomatch hz) bw_462 (by decide +kernel) (fun x9 => ?_)
    refine V.astore_n (q := 13) dL_targetBy_12 rfl rfl rfl rfl ?_
    refine V.iconst (q := 14) dL_targetBy_13 (v := 1) rfl rfl ?_
    exact V.iret dL_targetBy_14 rfl ⟨_, rfl, rfl, fun z => by (rw [g] at z; cases z), fun _ => ⟨rfl, rfl⟩⟩
set_option maxHeartbeats 2000000 in
theorem kW_waitingAt {l : Launch} {G : GG} {σ : St} {u : Vw} {qq : Nat → Nat} (hR : RC σ 1 u qq) (hI : Iu u) {x : Int32} : CtX l G TL_waitingAt 8 1 6 [.ref (gB G + 0), .int x, .ref (gB G + 99)] σ (fun a τ => (okF u x = true → a = .inl (some (.int 0)) ∧ τ = stO σ 0 (nI (cnt (fun j => (ur u 0 j == x) && (stat u j == 1)) (un u))).toInt64) ∧ (okF u x = false → a = .inl (some (.int 1)) ∧ τ = σ)) := by
  refine Ct.ofVH (by decide +kernel) rfl rfl (Nat.le_of_ble_eq_true rfl) ?_
  refine V.aload_n (q := 1) dL_waitingAt_0 rfl rfl ?_
  refine V.iconst (q := 2) dL_waitingAt_1 (v := 0) rfl rfl ?_
  refine V.aload_n (q := 3) dL_waitingAt_2 rfl rfl ?_
  refine V.iload_n (q := 4) dL_waitingAt_3 rfl rfl ?_
  refine V.cVLX (q := 7) (As := [_]) dL_waitingAt_4 rfl (kL_waitingAt hR) MX4_waitingAt bw_855 rfl rfl rfl rfl (by decide) rfl (by decide) (by decide) (fun v9 τ9 h9 => ?_) (fun E9 τ9 h9 => ?_)
  · obtain ⟨rfl, h9⟩ := h9
    obtain ⟨g, rfl⟩ := ansA_inl h9
    refine V.i2l (q := 8) dL_waitingAt_7 rfl ?_
    refine V.st16 (q := 9) dL_waitingAt_8 (i := 0)  rfl (by decide) rfl ?_
    refine V.goto (tgt := 15) dL_waitingAt_9 (by decide) ?_
    refine V.iconst (q := 16) dL_waitingAt_15 (v := 0) rfl rfl ?_
    exact V.iret dL_waitingAt_16 rfl ⟨_, rfl, rfl, fun _ => ⟨rfl, rfl⟩, fun z => by (rw [g] at z; cases z)⟩
  · obtain ⟨rfl, h9⟩ := h9
    obtain ⟨g, rfl⟩ := ansA_inr h9
    refine VX.catch (q9 := 0) (pre := []) (suf := []) rfl (by decide) (by decide) (fun z hz => nomatch hz) bw_758 (by decide +kernel) (fun x9 => ?_)
    refine V.astore_n (q := 13) dL_waitingAt_12 rfl rfl rfl rfl ?_
    refine V.iconst (q := 14) dL_waitingAt_13 (v := 1) rfl rfl ?_
    exact V.iret dL_waitingAt_14 rfl ⟨_, rfl, rfl, fun z => by (rw [g] at z; cases z), fun _ => ⟨rfl, rfl⟩⟩
set_option maxHeartbeats 2000000 in
theorem kW_queueAt {l : Launch} {G : GG} {σ : St} {u : Vw} {qq : Nat → Nat} (hR : RC σ 1 u qq) (hI : Iu u) {x y : Int32} : CtX l G TL_queueAt 8 1 6 [.ref (gB G + 0), .int x, .int y, .ref (gB G + 99)] σ (fun a τ => (okF u x = true → a = .inl (some (.int 0)) ∧ τ = stO σ 0 (qaI u x y).toInt64) ∧ (okF u x = false → a = .inl (some (.int 1)) ∧ τ = σ)) := by
  refine Ct.ofVH (by decide +kernel) rfl rfl (Nat.le_of_ble_eq_true rfl) ?_
  refine V.aload_n (q := 1) dL_queueAt_0 rfl rfl ?_
  refine V.iconst (q := 2) dL_queueAt_1 (v := 0) rfl rfl ?_
  refine V.aload_n (q := 3) dL_queueAt_2 rfl rfl ?_
  refine V.iload_n (q := 4) dL_queueAt_3 rfl rfl ?_
  refine V.iload_n (q := 5) dL_queueAt_4 rfl rfl ?_
  refine V.cVLX (q := 8) (As := [_, _]) dL_queueAt_5 rfl (kL_queueAt hR) MX4_queueAt bw_867 rfl rfl rfl rfl (by decide) rfl (by decide) (by decide) (fun v9 τ9 h9 => ?_) (fun E9 τ9 h9 => ?_)
  · obtain ⟨rfl, h9⟩ := h9
    obtain ⟨g, rfl⟩ := ansA_inl h9
    refine V.i2l (q := 9) dL_queueAt_8 rfl ?_
    refine V.st16 (q := 10) dL_queueAt_9 (i := 0)  rfl (by decide) rfl ?_
    refine V.goto (tgt := 17) dL_queueAt_10 (by decide) ?_
    refine V.iconst (q := 18) dL_queueAt_17 (v := 0) rfl rfl ?_
    exact V.iret dL_queueAt_18 rfl ⟨_, rfl, rfl, fun _ => ⟨rfl, rfl⟩, fun z => by (rw [g] at z; cases z)⟩
  · obtain ⟨rfl, h9⟩ := h9
    obtain ⟨g, rfl⟩ := ansA_inr h9
    refine VX.catch (q9 := 0) (pre := []) (suf := []) rfl (by decide) (by decide) (fun z hz => nomatch hz) bw_758 (by decide +kernel) (fun x9 => ?_)
    refine V.astore (q := 15) dL_queueAt_13 rfl rfl rfl ?_
    refine V.iconst (q := 16) dL_queueAt_15 (v := 1) rfl rfl ?_
    exact V.iret dL_queueAt_16 rfl ⟨_, rfl, rfl, fun z => by (rw [g] at z; cases z), fun _ => ⟨rfl, rfl⟩⟩
set_option maxHeartbeats 2000000 in
theorem kW_ridingTo {l : Launch} {G : GG} {σ : St} {u : Vw} {qq : Nat → Nat} (hR : RC σ 1 u qq) (hI : Iu u) {x : Int32} : CtX l G TL_ridingTo 8 1 6 [.ref (gB G + 0), .int x, .ref (gB G + 99)] σ (fun a τ => (okF u x = true → a = .inl (some (.int 0)) ∧ τ = stO σ 0 (nI (cnt (fun j => (ur u 1 j == x) && (stat u j == 2)) (un u))).toInt64) ∧ (okF u x = false → a = .inl (some (.int 1)) ∧ τ = σ)) := by
  refine Ct.ofVH (by decide +kernel) rfl rfl (Nat.le_of_ble_eq_true rfl) ?_
  refine V.aload_n (q := 1) dL_ridingTo_0 rfl rfl ?_
  refine V.iconst (q := 2) dL_ridingTo_1 (v := 0) rfl rfl ?_
  refine V.aload_n (q := 3) dL_ridingTo_2 rfl rfl ?_
  refine V.iload_n (q := 4) dL_ridingTo_3 rfl rfl ?_
  refine V.cVLX (q := 7) (As := [_]) dL_ridingTo_4 rfl (kL_ridingTo hR) MX4_ridingTo bw_874 rfl rfl rfl rfl (by decide) rfl (by decide) (by decide) (fun v9 τ9 h9 => ?_) (fun E9 τ9 h9 => ?_)
  · obtain ⟨rfl, h9⟩ := h9
    obtain ⟨g, rfl⟩ := ansA_inl h9
    refine V.i2l (q := 8) dL_ridingTo_7 rfl ?_
    refine V.st16 (q := 9) dL_ridingTo_8 (i := 0)  rfl (by decide) rfl ?_
    refine V.goto (tgt := 15) dL_ridingTo_9 (by decide) ?_
    refine V.iconst (q := 16) dL_ridingTo_15 (v := 0) rfl rfl ?_
    exact V.iret dL_ridingTo_16 rfl ⟨_, rfl, rfl, fun _ => ⟨rfl, rfl⟩, fun z => by (rw [g] at z; cases z)⟩
  · obtain ⟨rfl, h9⟩ := h9
    obtain ⟨g, rfl⟩ := ansA_inr h9
    refine VX.catch (q9 := 0) (pre := []) (suf := []) rfl (by decide) (by decide) (fun z hz => nomatch hz) bw_758 (by decide +kernel) (fun x9 => ?_)
    refine V.astore_n (q := 13) dL_ridingTo_12 rfl rfl rfl rfl ?_
    refine V.iconst (q := 14) dL_ridingTo_13 (v := 1) rfl rfl ?_
    exact V.iret dL_ridingTo_14 rfl ⟨_, rfl, rfl, fun z => by (rw [g] at z; cases z), fun _ => ⟨rfl, rfl⟩⟩
set_option maxHeartbeats 2000000 in
theorem kW_passengersBetween {l : Launch} {G : GG} {σ : St} {u : Vw} {qq : Nat → Nat} (hR : RC σ 1 u qq) (hI : Iu u) {x y : Int32} : CtX l G TL_passengersBetween 8 2 12 [.ref (gB G + 0), .int x, .int y, .ref (gB G + 99)] σ (fun a τ => ((okF u x && okF u y) = true → a = .inl (some (.int 0)) ∧ τ = stO σ 0 (nI (cnt (fun j => (ur u 0 j == x) && (ur u 1 j == y)) (un u))).toInt64) ∧ ((okF u x && okF u y) = false → a = .inl (some (.int 1)) ∧ τ = σ)) := by
  refine Ct.ofVH (by decide +kernel) rfl rfl (Nat.le_of_ble_eq_true rfl) ?_
  refine V.aload_n (q := 1) dL_passengersBetween_0 rfl rfl ?_
  refine V.iconst (q := 2) dL_passengersBetween_1 (v := 0) rfl rfl ?_
  refine V.aload_n (q := 3) dL_passengersBetween_2 rfl rfl ?_
  refine V.iload_n (q := 4) dL_passengersBetween_3 rfl rfl ?_
  refine V.iload_n (q := 5) dL_passengersBetween_4 rfl rfl ?_
  refine V.cVLX (q := 8) (As := [_, _]) dL_passengersBetween_5 rfl (kL_passengersBetween hR) MX4_passengersBetween bw_881 rfl rfl rfl rfl (by decide) rfl (by decide) (by decide) (fun v9 τ9 h9 => ?_) (fun E9 τ9 h9 => ?_)
  · obtain ⟨rfl, h9⟩ := h9
    obtain ⟨g, rfl⟩ := ansA_inl h9
    refine V.i2l (q := 9) dL_passengersBetween_8 rfl ?_
    refine V.st16 (q := 10) dL_passengersBetween_9 (i := 0)  rfl (by decide) rfl ?_
    refine V.goto (tgt := 17) dL_passengersBetween_10 (by decide) ?_
    refine V.iconst (q := 18) dL_passengersBetween_17 (v := 0) rfl rfl ?_
    exact V.iret dL_passengersBetween_18 rfl ⟨_, rfl, rfl, fun _ => ⟨rfl, rfl⟩, fun z => by (rw [g] at z; cases z)⟩
  · obtain ⟨rfl, h9⟩ := h9
    obtain ⟨g, rfl⟩ := ansA_inr h9
    refine VX.catch (q9 := 0) (pre := []) (suf := []) rfl (by decide) (by decide) (fun z hz => nomatch hz) bw_758 (by decide +kernel) (fun x9 => ?_)
    refine V.astore (q := 15) dL_passengersBetween_13 rfl rfl rfl ?_
    refine V.iconst (q := 16) dL_passengersBetween_15 (v := 1) rfl rfl ?_
    exact V.iret dL_passengersBetween_16 rfl ⟨_, rfl, rfl, fun z => by (rw [g] at z; cases z), fun _ => ⟨rfl, rfl⟩⟩
set_option maxHeartbeats 2000000 in
theorem kW_ticksWithPolicy {l : Launch} {G : GG} {σ : St} {u : Vw} {qq : Nat → Nat} (hR : RC σ 1 u qq) (hI : Iu u) (ht : uT u ≤ 999) {x : Int32} : CtX l G TL_ticksWithPolicy 8 1 6 [.ref (gB G + 0), .int x, .ref (gB G + 99)] σ (fun a τ => ∃ υ, FrS 8 σ υ ∧ (okI 0 2 x = true → a = .inl (some (.int 0)) ∧ τ = stO υ 0 (nI (fcn u x (us u 1))).toInt64) ∧ (okI 0 2 x = false → a = .inl (some (.int 1)) ∧ τ = υ)) := by
  refine Ct.ofVH (by decide +kernel) rfl rfl (Nat.le_of_ble_eq_true rfl) ?_
  refine V.aload_n (q := 1) dL_ticksWithPolicy_0 rfl rfl ?_
  refine V.iconst (q := 2) dL_ticksWithPolicy_1 (v := 0) rfl rfl ?_
  refine V.aload_n (q := 3) dL_ticksWithPolicy_2 rfl rfl ?_
  refine V.iload_n (q := 4) dL_ticksWithPolicy_3 rfl rfl ?_
  refine V.cVLX (q := 7) (As := [_]) dL_ticksWithPolicy_4 rfl (kL_ticksWithPolicy hR hI ht) MX4_ticksWithPolicy bw_888 rfl rfl rfl rfl (by decide) rfl (by decide) (by decide) (fun v9 τ9 h9 => ?_) (fun E9 τ9 h9 => ?_)
  · obtain ⟨hfr, h9⟩ := h9
    obtain ⟨g, rfl⟩ := ansA_inl h9
    refine V.i2l (q := 8) dL_ticksWithPolicy_7 rfl ?_
    refine V.st16 (q := 9) dL_ticksWithPolicy_8 (i := 0)  rfl (by decide) rfl ?_
    refine V.goto (tgt := 15) dL_ticksWithPolicy_9 (by decide) ?_
    refine V.iconst (q := 16) dL_ticksWithPolicy_15 (v := 0) rfl rfl ?_
    exact V.iret dL_ticksWithPolicy_16 rfl ⟨_, rfl, rfl, _, hfr, fun _ => ⟨rfl, rfl⟩, fun z => by (rw [g] at z; cases z)⟩
  · obtain ⟨hfr, h9⟩ := h9
    obtain ⟨g, rfl⟩ := ansA_inr h9
    refine VX.catch (q9 := 0) (pre := []) (suf := []) rfl (by decide) (by decide) (fun z hz => nomatch hz) bw_462 (by decide +kernel) (fun x9 => ?_)
    refine V.astore_n (q := 13) dL_ticksWithPolicy_12 rfl rfl rfl rfl ?_
    refine V.iconst (q := 14) dL_ticksWithPolicy_13 (v := 1) rfl rfl ?_
    exact V.iret dL_ticksWithPolicy_14 rfl ⟨_, rfl, rfl, _, hfr, fun z => by (rw [g] at z; cases z), fun _ => ⟨rfl, rfl⟩⟩
set_option maxHeartbeats 2000000 in
theorem kW_waitWithPolicy {l : Launch} {G : GG} {σ : St} {u : Vw} {qq : Nat → Nat} (hR : RC σ 1 u qq) (hI : Iu u) (ht : uT u ≤ 999) {x : Int32} : CtX l G TL_waitWithPolicy 8 1 6 [.ref (gB G + 0), .int x, .ref (gB G + 99)] σ (fun a τ => ∃ υ, FrS 8 σ υ ∧ (okI 0 2 x = true → a = .inl (some (.int 0)) ∧ τ = stO υ 0 (fcw u x).toInt64) ∧ (okI 0 2 x = false → a = .inl (some (.int 1)) ∧ τ = υ)) := by
  refine Ct.ofVH (by decide +kernel) rfl rfl (Nat.le_of_ble_eq_true rfl) ?_
  refine V.aload_n (q := 1) dL_waitWithPolicy_0 rfl rfl ?_
  refine V.iconst (q := 2) dL_waitWithPolicy_1 (v := 0) rfl rfl ?_
  refine V.aload_n (q := 3) dL_waitWithPolicy_2 rfl rfl ?_
  refine V.iload_n (q := 4) dL_waitWithPolicy_3 rfl rfl ?_
  refine V.cVLX (q := 7) (As := [_]) dL_waitWithPolicy_4 rfl (kL_waitWithPolicy hR hI ht) MX4_waitWithPolicy bw_895 rfl rfl rfl rfl (by decide) rfl (by decide) (by decide) (fun v9 τ9 h9 => ?_) (fun E9 τ9 h9 => ?_)
  · obtain ⟨hfr, h9⟩ := h9
    obtain ⟨g, rfl⟩ := ansA_inl h9
    refine V.i2l (q := 8) dL_waitWithPolicy_7 rfl ?_
    refine V.st16 (q := 9) dL_waitWithPolicy_8 (i := 0)  rfl (by decide) rfl ?_
    refine V.goto (tgt := 15) dL_waitWithPolicy_9 (by decide) ?_
    refine V.iconst (q := 16) dL_waitWithPolicy_15 (v := 0) rfl rfl ?_
    exact V.iret dL_waitWithPolicy_16 rfl ⟨_, rfl, rfl, _, hfr, fun _ => ⟨rfl, rfl⟩, fun z => by (rw [g] at z; cases z)⟩
  · obtain ⟨hfr, h9⟩ := h9
    obtain ⟨g, rfl⟩ := ansA_inr h9
    refine VX.catch (q9 := 0) (pre := []) (suf := []) rfl (by decide) (by decide) (fun z hz => nomatch hz) bw_462 (by decide +kernel) (fun x9 => ?_)
    refine V.astore_n (q := 13) dL_waitWithPolicy_12 rfl rfl rfl rfl ?_
    refine V.iconst (q := 14) dL_waitWithPolicy_13 (v := 1) rfl rfl ?_
    exact V.iret dL_waitWithPolicy_14 rfl ⟨_, rfl, rfl, _, hfr, fun z => by (rw [g] at z; cases z), fun _ => ⟨rfl, rfl⟩⟩
set_option maxHeartbeats 2000000 in
theorem kW_longestWaitWithPolicy {l : Launch} {G : GG} {σ : St} {u : Vw} {qq : Nat → Nat} (hR : RC σ 1 u qq) (hI : Iu u) (ht : uT u ≤ 999) {x : Int32} : CtX l G TL_longestWaitWithPolicy 8 1 6 [.ref (gB G + 0), .int x, .ref (gB G + 99)] σ (fun a τ => ∃ υ, FrS 8 σ υ ∧ (okI 0 2 x = true → a = .inl (some (.int 0)) ∧ τ = stO υ 0 (wmax (fcu u x (us u 1))).toInt64) ∧ (okI 0 2 x = false → a = .inl (some (.int 1)) ∧ τ = υ)) := by
  refine Ct.ofVH (by decide +kernel) rfl rfl (Nat.le_of_ble_eq_true rfl) ?_
  refine V.aload_n (q := 1) dL_longestWaitWithPolicy_0 rfl rfl ?_
  refine V.iconst (q := 2) dL_longestWaitWithPolicy_1 (v := 0) rfl rfl ?_
  refine V.aload_n (q := 3) dL_longestWaitWithPolicy_2 rfl rfl ?_
  refine V.iload_n (q := 4) dL_longestWaitWithPolicy_3 rfl rfl ?_
  refine V.cVLX (q := 7) (As := [_]) dL_longestWaitWithPolicy_4 rfl (kL_longestWaitWithPolicy hR hI ht) MX4_longestWaitWithPolicy bw_902 rfl rfl rfl rfl (by decide) rfl (by decide) (by decide) (fun v9 τ9 h9 => ?_) (fun E9 τ9 h9 => ?_)
  · obtain ⟨hfr, h9⟩ := h9
    obtain ⟨g, rfl⟩ := ansA_inl h9
    refine V.i2l (q := 8) dL_longestWaitWithPolicy_7 rfl ?_
    refine V.st16 (q := 9) dL_longestWaitWithPolicy_8 (i := 0)  rfl (by decide) rfl ?_
    refine V.goto (tgt := 15) dL_longestWaitWithPolicy_9 (by decide) ?_
    refine V.iconst (q := 16) dL_longestWaitWithPolicy_15 (v := 0) rfl rfl ?_
    exact V.iret dL_longestWaitWithPolicy_16 rfl ⟨_, rfl, rfl, _, hfr, fun _ => ⟨rfl, rfl⟩, fun z => by (rw [g] at z; cases z)⟩
  · obtain ⟨hfr, h9⟩ := h9
    obtain ⟨g, rfl⟩ := ansA_inr h9
    refine VX.catch (q9 := 0) (pre := []) (suf := []) rfl (by decide) (by decide) (fun z hz => nomatch hz) bw_462 (by decide +kernel) (fun x9 => ?_)
    refine V.astore_n (q := 13) dL_longestWaitWithPolicy_12 rfl rfl rfl rfl ?_
    refine V.iconst (q := 14) dL_longestWaitWithPolicy_13 (v := 1) rfl rfl ?_
    exact V.iret dL_longestWaitWithPolicy_14 rfl ⟨_, rfl, rfl, _, hfr, fun z => by (rw [g] at z; cases z), fun _ => ⟨rfl, rfl⟩⟩
set_option maxHeartbeats 2000000 in
theorem kW_expectedAt {l : Launch} {G : GG} {σ : St} {u : Vw} {qq : Nat → Nat} (hR : RC σ 1 u qq) (hI : Iu u) (ht : uT u ≤ 999) {x : Int32} : CtX l G TL_expectedAt 8 1 6 [.ref (gB G + 0), .int x, .ref (gB G + 99)] σ (fun a τ => ∃ υ, FrS 8 σ υ ∧ (okP u x = true → a = .inl (some (.int 0)) ∧ τ = stO υ 0 (ur (fcu u (us u 2) (us u 1)) 4 x.toNatClampNeg).toInt64) ∧ (okP u x = false → a = .inl (some (.int 1)) ∧ τ = υ)) := by
  refine Ct.ofVH (by decide +kernel) rfl rfl (Nat.le_of_ble_eq_true rfl) ?_
  refine V.aload_n (q := 1) dL_expectedAt_0 rfl rfl ?_
  refine V.iconst (q := 2) dL_expectedAt_1 (v := 0) rfl rfl ?_
  refine V.aload_n (q := 3) dL_expectedAt_2 rfl rfl ?_
  refine V.iload_n (q := 4) dL_expectedAt_3 rfl rfl ?_
  refine V.cVLX (q := 7) (As := [_]) dL_expectedAt_4 rfl (kL_expectedAt hR hI ht) MX4_expectedAt bw_938 rfl rfl rfl rfl (by decide) rfl (by decide) (by decide) (fun v9 τ9 h9 => ?_) (fun E9 τ9 h9 => ?_)
  · obtain ⟨hfr, h9⟩ := h9
    obtain ⟨g, rfl⟩ := ansA_inl h9
    refine V.i2l (q := 8) dL_expectedAt_7 rfl ?_
    refine V.st16 (q := 9) dL_expectedAt_8 (i := 0)  rfl (by decide) rfl ?_
    refine V.goto (tgt := 15) dL_expectedAt_9 (by decide) ?_
    refine V.iconst (q := 16) dL_expectedAt_15 (v := 0) rfl rfl ?_
    exact V.iret dL_expectedAt_16 rfl ⟨_, rfl, rfl, _, hfr, fun _ => ⟨rfl, rfl⟩, fun z => by (rw [g] at z; cases z)⟩
  · obtain ⟨hfr, h9⟩ := h9
    obtain ⟨g, rfl⟩ := ansA_inr h9
    refine VX.catch (q9 := 0) (pre := []) (suf := []) rfl (by decide) (by decide) (fun z hz => nomatch hz) bw_758 (by decide +kernel) (fun x9 => ?_)
    refine V.astore_n (q := 13) dL_expectedAt_12 rfl rfl rfl rfl ?_
    refine V.iconst (q := 14) dL_expectedAt_13 (v := 1) rfl rfl ?_
    exact V.iret dL_expectedAt_14 rfl ⟨_, rfl, rfl, _, hfr, fun z => by (rw [g] at z; cases z), fun _ => ⟨rfl, rfl⟩⟩
