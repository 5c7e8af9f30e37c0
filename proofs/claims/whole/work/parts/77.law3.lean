/-! the law's wrapper of addPassenger -/
theorem ans3_inl {b c d : Bool} {E F H : String} {v : Value} {w : Option Value} (h : (.inl w : Ans) = ans3 b c d E F H v) : b = true ∧ c = true ∧ d = true ∧ w = some v := by
  cases b with
  | true => exact ⟨rfl, ans2_inl h⟩
  | false => cases h
theorem ans3_inr {b c d : Bool} {E F H E2 : String} {v : Value} (h : (.inr E2 : Ans) = ans3 b c d E F H v) : (b = false ∧ E2 = E) ∨ (b = true ∧ c = false ∧ E2 = F) ∨ (b = true ∧ c = true ∧ d = false ∧ E2 = H) := by
  cases b with
  | true =>
    rcases ans2_inr h with ⟨g, e⟩ | ⟨g, g2, e⟩
    · exact Or.inr (Or.inl ⟨rfl, g, e⟩)
    · exact Or.inr (Or.inr ⟨rfl, g, g2, e⟩)
  | false => exact Or.inl ⟨rfl, Sum.inr.inj h⟩
set_option maxHeartbeats 2000000 in
theorem kW_addPassenger {l : Launch} {G : GG} {σ : St} {u : Vw} {qq : Nat → Nat} (hR : RC σ 1 u qq) (hI : Iu u) (ht : uT u ≤ 999) {r : Nat} {hv : Nat → Vw} (hH : CH σ r hv) {x y t : Int32} : CtX l G TL_addPassenger 8 3 18 [.ref (gB G + 0), .int x, .int y, .int t, .ref (gB G + 99)] σ (fun a τ => ∃ υ, CHG ((okF u x && okF u y) && ((apC u x y t) && (decide (nI (un u) < 40)))) σ υ r hv u (addu u x y t) ∧ ∃ k : Int32, ((okF u x && okF u y) = true ∧ (apC u x y t) = true ∧ (decide (nI (un u) < 40)) = true ∧ k = 0 ∧ a = .inl (some (.int k)) ∧ τ = stO υ 0 (nI (un u)).toInt64) ∨ ((okF u x && okF u y) = false ∧ k = 1 ∧ a = .inl (some (.int k)) ∧ τ = υ) ∨ ((okF u x && okF u y) = true ∧ (apC u x y t) = false ∧ k = 2 ∧ a = .inl (some (.int k)) ∧ τ = υ) ∨ ((okF u x && okF u y) = true ∧ (apC u x y t) = true ∧ (decide (nI (un u) < 40)) = false ∧ k = 3 ∧ a = .inl (some (.int k)) ∧ τ = υ)) := by
  refine Ct.ofVH (by decide +kernel) rfl rfl (Nat.le_of_ble_eq_true rfl) ?_
  refine V.aload (q := 2) dL_addPassenger_0 rfl rfl ?_
  refine V.iconst (q := 3) dL_addPassenger_2 (v := 0) rfl rfl ?_
  refine V.aload_n (q := 4) dL_addPassenger_3 rfl rfl ?_
  refine V.iload_n (q := 5) dL_addPassenger_4 rfl rfl ?_
  refine V.iload_n (q := 6) dL_addPassenger_5 rfl rfl ?_
  refine V.iload_n (q := 7) dL_addPassenger_6 rfl rfl ?_
  refine V.cVLX (q := 10) (As := [_, _, _]) dL_addPassenger_7 rfl (kL_addPassenger hR hI ht hH) MX4_addPassenger bw_945 rfl rfl rfl rfl (by decide) rfl (by decide) (by decide) (fun v9 τ9 h9 => ?_) (fun E9 τ9 h9 => ?_)
  · obtain ⟨hr, h9⟩ := h9
    obtain ⟨g, g2, g3, rfl⟩ := ans3_inl h9
    refine V.i2l (q := 11) dL_addPassenger_10 rfl ?_
    refine V.st16 (q := 12) dL_addPassenger_11 (i := 0)  rfl (by decide) rfl ?_
    refine V.goto (tgt := 27) dL_addPassenger_12 (by decide) ?_
    refine V.iconst (q := 28) dL_addPassenger_27 (v := 0) rfl rfl ?_
    exact V.iret dL_addPassenger_28 rfl ⟨_, rfl, rfl, _, hr, 0, Or.inl ⟨g, g2, g3, rfl, rfl, rfl⟩⟩
  · obtain ⟨hr, h9⟩ := h9
    rcases ans3_inr h9 with ⟨g, rfl⟩ | ⟨g, g2, rfl⟩ | ⟨g, g2, g3, rfl⟩
    · refine VX.catch (q9 := 0) (pre := []) (suf := [(0, 12, 19, 13), (0, 12, 23, 79)]) rfl (by decide) (by decide) (fun z hz => nomatch hz) bw_758 (by decide +kernel) (fun x9 => ?_)
      refine V.astore (q := 17) dL_addPassenger_15 rfl rfl rfl ?_
      refine V.iconst (q := 18) dL_addPassenger_17 (v := 1) rfl rfl ?_
      exact V.iret dL_addPassenger_18 rfl ⟨_, rfl, rfl, _, hr, 1, Or.inr (Or.inl ⟨g, rfl, rfl, rfl⟩)⟩
    · refine VX.catch (q9 := 0) (pre := [(0, 12, 15, 25)]) (suf := [(0, 12, 23, 79)]) rfl (by decide) (by decide) (fun z hz => by (rw [List.mem_singleton.mp hz]; exact ⟨by decide, "java/lang/IndexOutOfBoundsException", bw_758, by decide +kernel⟩)) bw_462 (by decide +kernel) (fun x9 => ?_)
      refine V.astore (q := 21) dL_addPassenger_19 rfl rfl rfl ?_
      refine V.iconst (q := 22) dL_addPassenger_21 (v := 2) rfl rfl ?_
      exact V.iret dL_addPassenger_22 rfl ⟨_, rfl, rfl, _, hr, 2, Or.inr (Or.inr (Or.inl ⟨g, g2, rfl, rfl, rfl⟩))⟩
    · refine VX.catch (q9 := 0) (pre := [(0, 12, 15, 25), (0, 12, 19, 13)]) (suf := []) rfl (by decide) (by decide) (fun z hz => by (rcases List.mem_cons.mp hz with e9 | e9 <;> first | (rw [e9]; exact ⟨by decide, "java/lang/IndexOutOfBoundsException", bw_758, by decide +kernel⟩) | (rw [List.mem_singleton.mp e9]; exact ⟨by decide, "java/lang/IllegalArgumentException", bw_462, by decide +kernel⟩))) bw_909 (by decide +kernel) (fun x9 => ?_)
      refine V.astore (q := 25) dL_addPassenger_23 rfl rfl rfl ?_
      refine V.iconst (q := 26) dL_addPassenger_25 (v := 3) rfl rfl ?_
      exact V.iret dL_addPassenger_26 rfl ⟨_, rfl, rfl, _, hr, 3, Or.inr (Or.inr (Or.inr ⟨g, g2, g3, rfl, rfl, rfl⟩))⟩
set_option maxHeartbeats 2000000 in
theorem kW_save {l : Launch} {G : GG} {σ : St} {u : Vw} {qq : Nat → Nat} (hR : RC σ 1 u qq) (hI : Iu u) {b : Nat → Bool} {v : Nat → Vw} (hS : CSl σ b v) {x : Int32} : CtX l G TL_save 8 1 6 [.ref (gB G + 0), .int x, .ref (gB G + 99)] σ (fun a τ => ∃ υ, (FrSv σ υ ∧ (okS x = true → CSl υ (slB b x.toNatClampNeg) (slV v x.toNatClampNeg u)) ∧ (okS x = false → υ = σ)) ∧ (okS x = true → a = .inl (some (.int 0)) ∧ τ = stO υ 0 (if (!(b x.toNatClampNeg)) = true then 1 else 0)) ∧ (okS x = false → a = .inl (some (.int 1)) ∧ τ = υ)) := by
  refine Ct.ofVH (by decide +kernel) rfl rfl (Nat.le_of_ble_eq_true rfl) ?_
  refine V.aload_n (q := 1) dL_save_0 rfl rfl ?_
  refine V.iconst (q := 2) dL_save_1 (v := 0) rfl rfl ?_
  refine V.aload_n (q := 3) dL_save_2 rfl rfl ?_
  refine V.iload_n (q := 4) dL_save_3 rfl rfl ?_
  refine V.cVLX (q := 7) (As := [_]) dL_save_4 rfl (kL_save hR hI hS) MX4_save bw_988 rfl rfl rfl rfl (by decide) rfl (by decide) (by decide) (fun v9 τ9 h9 => ?_) (fun E9 τ9 h9 => ?_)
  · obtain ⟨hr1, hr2, hr3, h9⟩ := h9
    have hr := And.intro hr1 (And.intro hr2 hr3)
    obtain ⟨g, rfl⟩ := ansA_inl h9
    refine V.if_eq (tgt := 14) (q := 10) dL_save_7 (by decide) rfl (fun c7 => ?_) (fun c7 => ?_)
    · refine V.lconst (q := 15) dL_save_14 (v := 0) rfl rfl ?_
      refine V.st16 (q := 16) dL_save_15 (i := 0)  rfl (by decide) rfl ?_
      refine V.goto (tgt := 22) dL_save_16 (by decide) ?_
      refine V.iconst (q := 23) dL_save_22 (v := 0) rfl rfl ?_
      exact V.iret dL_save_23 rfl ⟨_, rfl, rfl, _, hr, fun _ => ⟨rfl, by rw [bI0.mp c7]; rfl⟩, fun z => by (rw [g] at z; cases z)⟩
    · refine V.lconst (q := 11) dL_save_10 (v := 1) rfl rfl ?_
      refine V.goto (tgt := 15) dL_save_11 (by decide) ?_
      refine V.st16 (q := 16) dL_save_15 (i := 0)  rfl (by decide) rfl ?_
      refine V.goto (tgt := 22) dL_save_16 (by decide) ?_
      refine V.iconst (q := 23) dL_save_22 (v := 0) rfl rfl ?_
      exact V.iret dL_save_23 rfl ⟨_, rfl, rfl, _, hr, fun _ => ⟨rfl, by rw [bI1.mp c7]; rfl⟩, fun z => by (rw [g] at z; cases z)⟩
  · obtain ⟨hr1, hr2, hr3, h9⟩ := h9
    have hr := And.intro hr1 (And.intro hr2 hr3)
    obtain ⟨g, rfl⟩ := ansA_inr h9
    refine VX.catch (q9 := 0) (pre := []) (suf := []) rfl (by decide) (by decide) (fun z hz => nomatch hz) bw_758 (by decide +kernel) (fun x9 => ?_)
    refine V.astore_n (q := 20) dL_save_19 rfl rfl rfl rfl ?_
    refine V.iconst (q := 21) dL_save_20 (v := 1) rfl rfl ?_
    exact V.iret dL_save_21 rfl ⟨_, rfl, rfl, _, hr, fun z => by (rw [g] at z; cases z), fun _ => ⟨rfl, rfl⟩⟩
