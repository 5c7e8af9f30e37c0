/-! the law's wrappers of load, play -/
theorem ansR_inl {r : Er ⊕ PSt} {g : PSt → Nat} {w : Option Value} (h : (.inl w : Ans) = ansR r g) : ∃ s, r = .inr s ∧ w = some (.int (nI (g s))) := by
  cases r with
  | inl e => cases h
  | inr s => exact ⟨s, rfl, Sum.inl.inj h⟩
theorem ansR_inr {r : Er ⊕ PSt} {g : PSt → Nat} {E : String} (h : (.inr E : Ans) = ansR r g) : ∃ e, r = .inl e ∧ E = "java/lang/IllegalArgumentException" := by
  cases r with
  | inl e => exact ⟨e, rfl, Sum.inr.inj h⟩
  | inr s => cases h
def wA (b : Ans) (τ υ : St) (r : Er ⊕ PSt) (g : PSt → Nat) : Prop := match r with
  | .inl _ => b = .inl (some (.int 1)) ∧ τ = υ
  | .inr s => b = .inl (some (.int 0)) ∧ τ = stO υ 0 (nI (g s)).toInt64
set_option maxHeartbeats 2000000 in
theorem kW_load {l : Launch} {G : GG} {σ : St} {a : Ab} (h : CL σ a) (hA : AOk a) (hb : byT (aI a)) : CtX l G TL_load 8 1 6 [.ref (gB G + 0), .ref (gB G + 99)] σ (fun b τ => ∃ υ, (FrA1 σ υ ∧ CL υ (ldA a (loadR (aI a)))) ∧ wA b τ υ (loadR (aI a)) (fun s => un s.2.1)) := by
  refine Ct.ofVH (by decide +kernel) rfl rfl (Nat.le_of_ble_eq_true rfl) ?_
  refine V.aload_n (q := 1) dL_load_0 rfl rfl ?_
  refine V.iconst (q := 2) dL_load_1 (v := 0) rfl rfl ?_
  refine V.aload_n (q := 3) dL_load_2 rfl rfl ?_
  refine V.cVLX (q := 6) (As := []) dL_load_3 rfl (kL_load h hA hb) MX4_load bw_463 rfl rfl rfl rfl (by decide) rfl (by decide) (by decide) (fun v9 τ9 h9 => ?_) (fun E9 τ9 h9 => ?_)
  · obtain ⟨hf, hC, h9⟩ := h9
    obtain ⟨s, hr, rfl⟩ := ansR_inl h9
    refine V.i2l (q := 7) dL_load_6 rfl ?_
    refine V.st16 (q := 8) dL_load_7 (i := 0)  rfl (by decide) rfl ?_
    refine V.goto (tgt := 14) dL_load_8 (by decide) ?_
    refine V.iconst (q := 15) dL_load_14 (v := 0) rfl rfl ?_
    exact V.iret dL_load_15 rfl ⟨_, rfl, rfl, _, ⟨hf, hC⟩, by rw [hr]; exact ⟨rfl, rfl⟩⟩
  · obtain ⟨hf, hC, h9⟩ := h9
    obtain ⟨x, hr, rfl⟩ := ansR_inr h9
    refine VX.catch (q9 := 0) (pre := []) (suf := []) rfl (by decide) (by decide) (fun z hz => nomatch hz) bw_462 (by decide +kernel) (fun x9 => ?_)
    refine V.astore_n (q := 12) dL_load_11 rfl rfl rfl rfl ?_
    refine V.iconst (q := 13) dL_load_12 (v := 1) rfl rfl ?_
    exact V.iret dL_load_13 rfl ⟨_, rfl, rfl, _, ⟨hf, hC⟩, by rw [hr]; exact ⟨rfl, rfl⟩⟩
set_option maxHeartbeats 2000000 in
theorem kW_play {l : Launch} {G : GG} {σ : St} {a : Ab} (h : CL σ a) (hA : AOk a) (hb : byT (aI a)) : CtX l G TL_play 8 1 6 [.ref (gB G + 0), .ref (gB G + 99)] σ (fun b τ => ∃ υ, (FrA1 σ υ ∧ CL υ (plA a (playR (aI a) (aU a)))) ∧ wA b τ υ (playR (aI a) (aU a)) (fun s => s.2.2)) := by
  refine Ct.ofVH (by decide +kernel) rfl rfl (Nat.le_of_ble_eq_true rfl) ?_
  refine V.aload_n (q := 1) dL_play_0 rfl rfl ?_
  refine V.iconst (q := 2) dL_play_1 (v := 0) rfl rfl ?_
  refine V.aload_n (q := 3) dL_play_2 rfl rfl ?_
  refine V.cVLX (q := 6) (As := []) dL_play_3 rfl (kL_play h hA hb) MX4_play bw_737 rfl rfl rfl rfl (by decide) rfl (by decide) (by decide) (fun v9 τ9 h9 => ?_) (fun E9 τ9 h9 => ?_)
  · obtain ⟨hf, hC, h9⟩ := h9
    obtain ⟨s, hr, rfl⟩ := ansR_inl h9
    refine V.i2l (q := 7) dL_play_6 rfl ?_
    refine V.st16 (q := 8) dL_play_7 (i := 0)  rfl (by decide) rfl ?_
    refine V.goto (tgt := 14) dL_play_8 (by decide) ?_
    refine V.iconst (q := 15) dL_play_14 (v := 0) rfl rfl ?_
    exact V.iret dL_play_15 rfl ⟨_, rfl, rfl, _, ⟨hf, hC⟩, by rw [hr]; exact ⟨rfl, rfl⟩⟩
  · obtain ⟨hf, hC, h9⟩ := h9
    obtain ⟨x, hr, rfl⟩ := ansR_inr h9
    refine VX.catch (q9 := 0) (pre := []) (suf := []) rfl (by decide) (by decide) (fun z hz => nomatch hz) bw_462 (by decide +kernel) (fun x9 => ?_)
    refine V.astore_n (q := 12) dL_play_11 rfl rfl rfl rfl ?_
    refine V.iconst (q := 13) dL_play_12 (v := 1) rfl rfl ?_
    exact V.iret dL_play_13 rfl ⟨_, rfl, rfl, _, ⟨hf, hC⟩, by rw [hr]; exact ⟨rfl, rfl⟩⟩
