/-! the law's wrappers of changes -/
set_option maxHeartbeats 2000000 in
theorem kW_setPolicy {l : Launch} {G : GG} {σ : St} {u : Vw} {qq : Nat → Nat} (hR : RC σ 1 u qq) (hI : Iu u) (ht : uT u ≤ 999) {r : Nat} {hv : Nat → Vw} (hH : CH σ r hv) {x : Int32} : CtX l G TL_setPolicy 8 1 6 [.ref (gB G + 0), .int x, .ref (gB G + 99)] σ (fun a τ => ∃ υ, CHG (okI 0 2 x) σ υ r hv u (uS u 2 x) ∧ (okI 0 2 x = true → a = .inl (some (.int 0)) ∧ τ = stO υ 0 (us u 2).toInt64) ∧ (okI 0 2 x = false → a = .inl (some (.int 1)) ∧ τ = υ)) := by
  refine Ct.ofVH (by decide +kernel) rfl rfl (Nat.le_of_ble_eq_true rfl) ?_
  refine V.aload_n (q := 1) dL_setPolicy_0 rfl rfl ?_
  refine V.iconst (q := 2) dL_setPolicy_1 (v := 0) rfl rfl ?_
  refine V.aload_n (q := 3) dL_setPolicy_2 rfl rfl ?_
  refine V.iload_n (q := 4) dL_setPolicy_3 rfl rfl ?_
  refine V.cVLX (q := 7) (As := [_]) dL_setPolicy_4 rfl (kL_setPolicy hR hI ht hH) MX4_setPolicy bw_962 rfl rfl rfl rfl (by decide) rfl (by decide) (by decide) (fun v9 τ9 h9 => ?_) (fun E9 τ9 h9 => ?_)
  · obtain ⟨hr, h9⟩ := h9
    obtain ⟨g, rfl⟩ := ansA_inl h9
    refine V.i2l (q := 8) dL_setPolicy_7 rfl ?_
    refine V.st16 (q := 9) dL_setPolicy_8 (i := 0)  rfl (by decide) rfl ?_
    refine V.goto (tgt := 15) dL_setPolicy_9 (by decide) ?_
    refine V.iconst (q := 16) dL_setPolicy_15 (v := 0) rfl rfl ?_
    exact V.iret dL_setPolicy_16 rfl ⟨_, rfl, rfl, _, hr, fun _ => ⟨rfl, rfl⟩, fun z => by (rw [g] at z; cases z)⟩
  · obtain ⟨hr, h9⟩ := h9
    obtain ⟨g, rfl⟩ := ansA_inr h9
    refine VX.catch (q9 := 0) (pre := []) (suf := []) rfl (by decide) (by decide) (fun z hz => nomatch hz) bw_462 (by decide +kernel) (fun x9 => ?_)
    refine V.astore_n (q := 13) dL_setPolicy_12 rfl rfl rfl rfl ?_
    refine V.iconst (q := 14) dL_setPolicy_13 (v := 1) rfl rfl ?_
    exact V.iret dL_setPolicy_14 rfl ⟨_, rfl, rfl, _, hr, fun z => by (rw [g] at z; cases z), fun _ => ⟨rfl, rfl⟩⟩
