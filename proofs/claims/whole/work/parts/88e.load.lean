/-! the model: all commands; load, play -/
def FrB (σ τ : St) : Prop := (∀ k j, ¬ (k = 94 ∧ (j = 0 ∨ j = 9 ∨ j = 10 ∨ j = 11 ∨ j = 12 ∨ j = 13)) → sF τ k j = sF σ k j) ∧ (∀ k, k ≠ 95 → sA τ k = sA σ k) ∧ τ.2.2 = σ.2.2
theorem FrU.B {σ τ : St} (h : FrU σ τ) : FrB σ τ := ⟨fun k j a => h.1 k j (fun z => a ⟨z.1, Or.inr z.2⟩), h.2.1, h.2.2⟩
theorem FrB.rf {σ : St} : FrB σ σ := FrU.rf.B
theorem FrB.trans {σ τ υ : St} (h : FrB σ τ) (h2 : FrB τ υ) : FrB σ υ := ⟨fun k j a => (h2.1 k j a).trans (h.1 k j a), fun k a => (h2.2.1 k a).trans (h.2.1 k a), h2.2.2.trans h.2.2⟩
theorem FrB.z {σ : St} {x : Int32} : FrB σ (stF σ 94 0 x) := ⟨fun k j a => by
  show up2 (sF σ) 94 0 x k j = _
  rw [up2_if, if_neg (fun z => a ⟨z.1, Or.inl z.2⟩)], fun _ _ => rfl, rfl⟩
theorem BackP.u {σ τ : St} {pl : Nat} (h : BackP σ τ pl) : FrU σ τ := ⟨fun k j _ => by rw [h.1.1], h.1.2.1, h.1.2.2⟩
theorem FrU.thr {σ τ : St} (h : FrU σ τ) : thr τ = thr σ := h.1 94 0 (by decide)
theorem FrB.KM {σ τ : St} {p : Nat} {w : Vw} (h : FrB σ τ) (hK : KM σ p w) : KM τ p w := RMg.congr hK (fun i _ => by rw [h.2.1 96 (by decide)])
theorem FrU.KM {σ τ : St} {p : Nat} {w : Vw} (h : FrU σ τ) (hK : KM σ p w) : KM τ p w := h.B.KM hK
theorem FrB.a2 {σ τ : St} (h : FrB σ τ) : FrA2 σ τ := fun k hk => ⟨funext (fun j => h.1 k j (by omega)), h.2.1 k (by omega)⟩
theorem FrA2.trans {σ τ υ : St} (h : FrA2 σ τ) (h2 : FrA2 τ υ) : FrA2 σ υ := fun k a => ⟨(h2 k a).1.trans (h k a).1, (h2 k a).2.trans (h k a).2⟩
theorem FrA2.f {σ : St} {j : Nat} {x : Int32} : FrA2 σ (stF σ 94 j x) := fun k hk => ⟨(up2_ne (by omega) : up2 (sF σ) 94 j x k = sF σ k), rfl⟩
theorem bcI_end {o : Txt} {k : Nat} (hb : byT o) : bcI o k = -1 ↔ kn o k = 25 := by
  rw [kn_end]
  unfold bcI
  by_cases hk : k < o.1
  · rw [if_pos hk]
    constructor
    · intro z; exact absurd z (nne1 (by have := bc_lt hb hk; omega))
    · intro z; exact absurd hk z
  · rw [if_neg hk]
    exact ⟨fun _ => hk, fun _ => rfl⟩
/-- what commands leave -/
def MD (σ τ : St) (o : Txt) (w : Vw) (v : Option Value) (r : Er ⊕ PSt) : Prop := match r with
  | .inl e => v = some (.int (-1)) ∧ sF τ 94 11 = nI e.1 ∧ sF τ 94 10 = nI e.2 ∧ thr τ = 1 ∧ RM τ w
  | .inr s => v = some (.int (nI s.2.2)) ∧ MOk τ o s ∧ thr τ = thr σ
theorem nI_all (x : Int32) : ∃ e, x = nI e := by
  refine ⟨x.toBitVec.toNat, ?_⟩
  apply Int32.toBitVec_inj.mp
  simp [nI]
theorem RM_beg {σ : St} (h : ∀ i, i < 211 → sA σ 95 i = if i = 5 then 1 else 0) : RM σ (begu 0 0 0) := by
  refine RM.of ⟨Nat.zero_le _, fun j hj => ?_, ?_, fun i hi => absurd hi (Nat.not_lt_zero i)⟩
  · rw [h j (by omega)]
    show _ = (if j = 0 then (0 : Int32) else if j = 1 then 0 else if j = 2 then 0 else if j = 5 then 1 else 0)
    by_cases e : j = 5
    · subst e; rfl
    · rw [if_neg e]
      split
      · rfl
      · split
        · rfl
        · split <;> rfl
  · rw [h 10 (by decide)]; rfl
theorem beg3 {a b c : Int32} : uS (uS (uS (begu 0 0 0) 0 a) 1 b) 2 c = begu a b c := by
  show ((0, fun i => if i = 2 then c else if i = 1 then b else if i = 0 then a else if i = 0 then 0 else if i = 1 then 0 else if i = 2 then 0 else if i = 5 then 1 else 0, fun _ _ => 0) : Vw) = (0, fun j => if j = 0 then a else if j = 1 then b else if j = 2 then c else if j = 5 then 1 else 0, fun _ _ => 0)
  refine congrArg (fun g => ((0, g, fun _ _ => 0) : Vw)) (funext fun j => ?_)
  by_cases h0 : j = 0
  · subst h0; rfl
  by_cases h1 : j = 1
  · subst h1; rfl
  by_cases h2 : j = 2
  · subst h2; rfl
  simp only [h0, h1, h2, if_false]
set_option maxHeartbeats 8000000 in
theorem kU_commands {l : Launch} {G : GG} {σ : St} {o : Txt} {P e : Nat} {u : Vw} (hb : byT o) (ho : o.1 ≤ 500) (hB : MB σ o) (hM : MOk σ o (P, u, e)) (hO : Ok u) {w : Vw} (hK : KM σ 10 w) : CtP l G TX5_commands 13 [.ref (gB G + 94)] σ (fun v τ => FrB σ τ ∧ MD σ τ o w v (cmds o (P, u, 0))) := by
  obtain ⟨⟨h, hh, hat, hsp⟩, hM1, hM2, hM3, hMR⟩ := id hM
  have hsp : spE o h = P := hsp
  have hPo : P ≤ o.1 := by rw [← hsp]; exact spE_top hh
  have hPP : spE o P = P := spE_at (by rw [← hsp]; exact spE_no hh)
  have hI := hO.1
  obtain ⟨hF0, hN0, hFN0, h20, h2⟩ := hI.F
  have hfl : us u 0 - 1 = nI (uN u - 1) := by rw [hN0]; exact pk_sub (b := 1) (by omega)
  have ht9 : uT u ≤ 999 := hO.2
  have hR : RM σ u := hM.2.2.2.2
  have hF : FrU σ σ := FrU.rf
  refine CtP.ofV (by decide +kernel) rfl rfl (Nat.le_of_ble_eq_true rfl) ?_
  refine V.aload_n (q := 1) dX5_commands_0 rfl rfl ?_
  refine V.iconst (q := 2) dX5_commands_1 (v := 0) rfl rfl ?_
  refine V.pM (q := 5) dX5_commands_2 (j := 13) rfl bw_1024 rfl rfl rfl rfl rfl rfl ?_
  have hf0 : FrU σ (stF σ 94 13 0) := FrU.f (by decide)
  have hM : MOk (stF σ 94 13 0) o (P, u, 0) := hM.ex rfl
  have hB := hB.fr hf0
  have hF := hF.trans hf0
  generalize stF σ 94 13 0 = τ0 at hf0 hM hB hF ⊢
  have loop : ∀ (m : Nat) (s2 : PSt) (τ : St), m = o.1 - s2.1 → s2.1 ≤ o.1 → cmds o s2 = cmds o (P, u, 0) → Ok s2.2.1 → FrU σ τ → MB τ o → MOk τ o s2 → V l G TX5_commands 13 0 0 (RetP G (fun v τ => FrB σ τ ∧ MD σ τ o w v (cmds o (P, u, 0)))) 0 0 5 [some (.ref (gB G + 94))] [] (hof G τ) NC := by
    intro m
    induction m using Nat.strongRecOn with
    | _ m ih =>
      intro s2 τ hm hs2 hcm hO2 hF hB hM
      obtain ⟨⟨h6, hh6, hat6, hsp6⟩, -⟩ := id hM
      have hPP6 : spE o s2.1 = s2.1 := spE_at (by rw [← hsp6]; exact spE_no hh6)
      refine V.aload_n (q := 6) dX5_commands_5 rfl rfl ?_
      refine V.cVM (q := 9) dX5_commands_6 (As := []) rfl (kU_failed hM) MX5_failed bw_1100 rfl rfl rfl rfl (by decide) rfl ?_
      refine V.if_ne (tgt := 27) (q := 12) dX5_commands_9 (by decide) rfl (fun c9 => ?_) (fun c9 => ?_)
      · exact absurd rfl c9
      · refine V.aload_n (q := 13) dX5_commands_12 rfl rfl ?_
        refine V.cVMP (q := 16) (As := []) dX5_commands_13 rfl (kU_peek hb ho hB hh6 hat6) MX5_peek bw_1089 rfl rfl rfl rfl (by decide) rfl (fun v6 τ6 h6 => ?_)
        obtain ⟨rfl, hf6, hat⟩ := h6
        rw [hsp6] at hat ⊢
        have hB := hB.fr hf6.u
        have hM : MOk τ6 o s2 := hM.at hf6 ⟨s2.1, hs2, hat, hPP6⟩
        have hF := hF.trans hf6.u
        refine V.iconst (q := 17) dX5_commands_16 (v := -1) rfl rfl ?_
        refine V.icmp_eq (tgt := 27) (q := 20) dX5_commands_17 (by decide) rfl (fun c17 => ?_) (fun c17 => ?_)
        · have hk25 := (bcI_end hb).mp c17
          have hres : cmds o (P, u, 0) = .inr s2 := by rw [← hcm, cmds_step ho hs2, if_pos hk25]
          refine V.aload_n (q := 28) dX5_commands_27 rfl rfl ?_
          refine V.cVM (q := 31) dX5_commands_28 (As := []) rfl (kU_failed hM) MX5_failed bw_1100 rfl rfl rfl rfl (by decide) rfl ?_
          refine V.if_eq (tgt := 47) (q := 34) dX5_commands_31 (by decide) rfl (fun c31 => ?_) (fun c31 => ?_)
          · refine V.aload_n (q := 48) dX5_commands_47 rfl rfl ?_
            refine V.gM (q := 51) dX5_commands_48 (j := 13) rfl bw_1024 rfl rfl rfl rfl ?_
            rw [hM.2.2.2.1]
            exact V.iret dX5_commands_51 rfl (by
        exact ⟨_, _, rfl, rfl, rfl, hF.B, by rw [hres]; exact ⟨rfl, hM, hF.thr⟩⟩)
          · exact absurd rfl c31
        · have hk25 : ¬ kn o s2.1 = 25 := fun z => c17 ((bcI_end hb).mpr z)
          refine V.aload_n (q := 21) dX5_commands_20 rfl rfl ?_
          refine V.cVMP (q := 24) (As := []) dX5_commands_21 rfl (kU_command hb ho hB (show MOk τ6 o (s2.1, s2.2.1, s2.2.2) from hM) hO2) MX5_command bw_1129 rfl rfl rfl rfl (by decide) rfl (fun v7 τ7 h7 => ?_)
          rcases hx7 : cmdR o (s2.1, s2.2.1, s2.2.2) with e7 | q7
          · rw [hx7] at h7
            obtain ⟨rfl, hf7, hM⟩ := h7
            have hM : MFl τ7 o e7 := hM
            have hB := hB.fr hf7
            have hF := hF.trans hf7
            have hx7 : cmdR o s2 = .inl e7 := hx7
            have hres : cmds o (P, u, 0) = .inl e7 := by rw [← hcm]; exact cmd_l ho hs2 hk25 hx7
            refine V.goto (tgt := 5) dX5_commands_24 (by decide) ?_
            refine V.aload_n (q := 6) dX5_commands_5 rfl rfl ?_
            refine V.cVM (q := 9) dX5_commands_6 (As := []) rfl (kU_failedF hM) MX5_failed bw_1100 rfl rfl rfl rfl (by decide) rfl ?_
            refine V.if_ne (tgt := 27) (q := 12) dX5_commands_9 (by decide) rfl (fun c9 => ?_) (fun c9 => ?_)
            · refine V.aload_n (q := 28) dX5_commands_27 rfl rfl ?_
              refine V.cVM (q := 31) dX5_commands_28 (As := []) rfl (kU_failedF hM) MX5_failed bw_1100 rfl rfl rfl rfl (by decide) rfl ?_
              refine V.if_eq (tgt := 47) (q := 34) dX5_commands_31 (by decide) rfl (fun c31 => ?_) (fun c31 => ?_)
              · exact absurd c31 (by decide)
              · refine V.aload_n (q := 35) dX5_commands_34 rfl rfl ?_
                refine V.bipush (q := 37) dX5_commands_35 (v := 10) rfl rfl ?_
                refine V.cVMP (q := 40) (As := [_]) dX5_commands_37 rfl (cM_bringsBack (pl := 10) (by decide)) MX5_bringsBack bw_1291 rfl rfl rfl rfl (by decide) rfl (fun v8 τ8 h8 => ?_)
                obtain ⟨rfl, h8⟩ := h8
                have hR8 := h8.at (hF.KM hK)
                have hf8 := h8.u
                have hf8x : ∀ j, j ≠ 0 → sF τ8 94 j = sF τ7 94 j := fun j _ => by rw [h8.1.1]
                refine V.aload_n (q := 41) dX5_commands_40 rfl rfl ?_
                refine V.iconst (q := 42) dX5_commands_41 (v := 1) rfl rfl ?_
                refine V.pM (q := 45) dX5_commands_42 (j := 0) rfl bw_1011 rfl rfl rfl rfl rfl rfl ?_
                refine V.iconst (q := 46) dX5_commands_45 (v := -1) rfl rfl ?_
                exact V.iret dX5_commands_46 rfl (by
        exact ⟨_, _, rfl, rfl, rfl, (hF.trans hf8).B.trans FrB.z, by rw [hres]; exact ⟨rfl, (stF_in (by decide)).trans ((hf8x 11 (by decide)).trans hM.2.1), (stF_in (by decide)).trans ((hf8x 10 (by decide)).trans hM.2.2.2), stF_at, hR8.scF⟩⟩)
            · exact absurd c9 (by decide)
          · (rw [hx7] at h7)
            obtain ⟨rfl, hf7, hM⟩ := h7
            have hM : MOk τ7 o q7 := hM
            have hB := hB.fr hf7
            have hF := hF.trans hf7
            have hx7 : cmdR o s2 = .inr q7 := hx7
            have hpp := cmdR_p ho hx7
            refine V.goto (tgt := 5) dX5_commands_24 (by decide) ?_
            refine ih _ (by omega) q7 τ7 rfl hpp.2.1 ?_ (cmdR_ok hO2 hx7) hF hB hM
            rw [← hcm]; exact (cmd_r ho hs2 hk25 hx7).symm
  exact loop _ (P, u, 0) _ rfl hPo rfl hO hF hB hM
set_option maxHeartbeats 2000000 in
theorem kU_commandsF {l : Launch} {G : GG} {σ : St} {o : Txt} {e : Er} (hM : MFl σ o e) {w : Vw} (hK : KM σ 10 w) : CtP l G TX5_commands 13 [.ref (gB G + 94)] σ (fun v τ => FrB σ τ ∧ MD σ τ o w v (.inl e)) := by
  refine CtP.ofV (by decide +kernel) rfl rfl (Nat.le_of_ble_eq_true rfl) ?_
  refine V.aload_n (q := 1) dX5_commands_0 rfl rfl ?_
  refine V.iconst (q := 2) dX5_commands_1 (v := 0) rfl rfl ?_
  refine V.pM (q := 5) dX5_commands_2 (j := 13) rfl bw_1024 rfl rfl rfl rfl rfl rfl ?_
  have hf0 : FrU σ (stF σ 94 13 0) := FrU.f (by decide)
  have hM : MFl (stF σ 94 13 0) o e := hM.ex
  generalize stF σ 94 13 0 = τ0 at hf0 hM ⊢
  refine V.aload_n (q := 6) dX5_commands_5 rfl rfl ?_
  refine V.cVM (q := 9) dX5_commands_6 (As := []) rfl (kU_failedF hM) MX5_failed bw_1100 rfl rfl rfl rfl (by decide) rfl ?_
  refine V.if_ne (tgt := 27) (q := 12) dX5_commands_9 (by decide) rfl (fun c9 => ?_) (fun c9 => ?_)
  · refine V.aload_n (q := 28) dX5_commands_27 rfl rfl ?_
    refine V.cVM (q := 31) dX5_commands_28 (As := []) rfl (kU_failedF hM) MX5_failed bw_1100 rfl rfl rfl rfl (by decide) rfl ?_
    refine V.if_eq (tgt := 47) (q := 34) dX5_commands_31 (by decide) rfl (fun c31 => ?_) (fun c31 => ?_)
    · exact absurd c31 (by decide)
    · refine V.aload_n (q := 35) dX5_commands_34 rfl rfl ?_
      refine V.bipush (q := 37) dX5_commands_35 (v := 10) rfl rfl ?_
      refine V.cVMP (q := 40) (As := [_]) dX5_commands_37 rfl (cM_bringsBack (pl := 10) (by decide)) MX5_bringsBack bw_1291 rfl rfl rfl rfl (by decide) rfl (fun v8 τ8 h8 => ?_)
      obtain ⟨rfl, h8⟩ := h8
      have hR8 := h8.at (hf0.KM hK)
      have hf8 := h8.u
      have hf8x : ∀ j, j ≠ 0 → sF τ8 94 j = sF τ0 94 j := fun j _ => by rw [h8.1.1]
      refine V.aload_n (q := 41) dX5_commands_40 rfl rfl ?_
      refine V.iconst (q := 42) dX5_commands_41 (v := 1) rfl rfl ?_
      refine V.pM (q := 45) dX5_commands_42 (j := 0) rfl bw_1011 rfl rfl rfl rfl rfl rfl ?_
      refine V.iconst (q := 46) dX5_commands_45 (v := -1) rfl rfl ?_
      exact V.iret dX5_commands_46 rfl (by
      exact ⟨_, _, rfl, rfl, rfl, (hf0.trans hf8).B.trans FrB.z, rfl, (stF_in (by decide)).trans ((hf8x 11 (by decide)).trans hM.2.1), (stF_in (by decide)).trans ((hf8x 10 (by decide)).trans hM.2.2.2), stF_at, hR8.scF⟩)
  · exact absurd c9 (by decide)
set_option maxHeartbeats 2000000 in
theorem kU_begins {l : Launch} {G : GG} {σ : St} {o : Txt} (h7 : sF σ 94 7 = nI o.1) : CtP l G TX5_begins 1 [.ref (gB G + 94)] σ (fun v τ => v = none ∧ ∃ υ, KeepP σ υ 10 ∧ τ = stF (stF (stF (stF (stF υ 94 8 (nI o.1)) 94 7 0) 94 9 0) 94 11 0) 94 10 (-1)) := by
  refine CtP.ofV (by decide +kernel) rfl rfl (Nat.le_of_ble_eq_true rfl) ?_
  refine V.aload_n (q := 1) dX5_begins_0 rfl rfl ?_
  refine V.bipush (q := 3) dX5_begins_1 (v := 10) rfl rfl ?_
  refine V.cVMP (q := 6) (As := [_]) dX5_begins_3 rfl (cM_keeps (pl := 10) (by decide)) MX5_keeps bw_1080 rfl rfl rfl rfl (by decide) rfl (fun v1 τ1 h1 => ?_)
  obtain ⟨rfl, h1⟩ := h1
  refine V.aload_n (q := 7) dX5_begins_6 rfl rfl ?_
  refine V.aload_n (q := 8) dX5_begins_7 rfl rfl ?_
  refine V.gM (q := 11) dX5_begins_8 (j := 7) rfl bw_1018 rfl rfl rfl rfl ?_
  rw [show sF τ1 94 7 = nI o.1 from by rw [h1.1.1]; exact h7]
  refine V.pM (q := 14) dX5_begins_11 (j := 8) rfl bw_1019 rfl rfl rfl rfl rfl rfl ?_
  refine V.aload_n (q := 15) dX5_begins_14 rfl rfl ?_
  refine V.iconst (q := 16) dX5_begins_15 (v := 0) rfl rfl ?_
  refine V.pM (q := 19) dX5_begins_16 (j := 7) rfl bw_1018 rfl rfl rfl rfl rfl rfl ?_
  refine V.aload_n (q := 20) dX5_begins_19 rfl rfl ?_
  refine V.iconst (q := 21) dX5_begins_20 (v := 0) rfl rfl ?_
  refine V.pM (q := 24) dX5_begins_21 (j := 9) rfl bw_1020 rfl rfl rfl rfl rfl rfl ?_
  refine V.aload_n (q := 25) dX5_begins_24 rfl rfl ?_
  refine V.iconst (q := 26) dX5_begins_25 (v := 0) rfl rfl ?_
  refine V.pM (q := 29) dX5_begins_26 (j := 11) rfl bw_1022 rfl rfl rfl rfl rfl rfl ?_
  refine V.aload_n (q := 30) dX5_begins_29 rfl rfl ?_
  refine V.iconst (q := 31) dX5_begins_30 (v := -1) rfl rfl ?_
  refine V.pM (q := 34) dX5_begins_31 (j := 10) rfl bw_1021 rfl rfl rfl rfl rfl rfl ?_
  exact V.vret dX5_begins_34 rfl ⟨_, _, rfl, rfl, rfl, rfl, τ1, h1, rfl⟩
/-- what the model's parser leaves alone -/
def MX (τ : St) (a : Ab) : Prop := KM τ 10 (aU a) ∧ Hist τ (aR a) (aH a) ∧ MS τ (aB a) (aV a) ∧ MO τ (aO a) ∧ MB τ (aI a) ∧ sF τ 94 7 = 0
theorem MX.b {σ τ : St} {a : Ab} (h : MX σ a) (hf : FrB σ τ) : MX τ a := by
  obtain ⟨h1, h2, h3, h4, h5, h6⟩ := h
  refine ⟨hf.KM h1, ⟨(hf.1 94 3 (by decide)).trans h2.1, h2.2.1, fun i hi => hf.KM (h2.2.2 i hi)⟩, ⟨(hf.1 94 4 (by decide)).trans h3.1, (hf.1 94 5 (by decide)).trans h3.2.1, fun s hs hb => hf.KM (h3.2.2 s hs hb)⟩, ⟨(hf.1 94 15 (by decide)).trans h4.1, fun i hi => by rw [hf.2.1 98 (by decide)]; exact h4.2 i hi⟩, ⟨(hf.1 94 8 (by decide)).trans h5.1, fun i hi => by rw [hf.2.1 97 (by decide)]; exact h5.2 i hi⟩, (hf.1 94 7 (by decide)).trans h6⟩
theorem MX.beg {σ υ : St} {a : Ab} (h : ML σ a) (hK : KeepP (stF σ 94 0 0) υ 10) : ∀ τ, τ = stF (stF (stF (stF (stF υ 94 8 (nI (aI a).1)) 94 7 0) 94 9 0) 94 11 0) 94 10 (-1) → MX τ a ∧ FrA2 σ τ ∧ RM τ (aU a) ∧ sF τ 94 9 = nI 0 ∧ sF τ 94 11 = 0 ∧ sF τ 94 10 = -1 ∧ thr τ = 0 ∧ sO τ = sO σ := by
  intro τ hτ
  obtain ⟨h1, h2, h3, h4, h5, h6⟩ := h
  have e : ∀ j, j ≠ 8 → j ≠ 7 → j ≠ 9 → j ≠ 11 → j ≠ 10 → j ≠ 0 → sF τ 94 j = sF σ 94 j := fun j a b c d e f => by
    rw [hτ, stF_in e, stF_in d, stF_in c, stF_in b, stF_in a, hK.1.1]
    exact stF_in f
  have eA : sA τ = sA υ := by rw [hτ]; rfl
  have hR : RM (stF σ 94 0 0) (aU a) := h1.scF
  have km : ∀ p w, p < 10 → KM σ p w → KM τ p w := fun p w hp hw => RMg.congr (hK.other (p2 := p) (by omega) (KM.sc hw)) (fun i _ => by rw [eA])
  refine ⟨⟨RMg.congr (hK.at hR) (fun i _ => by rw [eA]), ⟨(e 3 (by decide) (by decide) (by decide) (by decide) (by decide) (by decide)).trans h2.1, h2.2.1, fun i hi => km _ _ (by have := h2.2.1; omega) (h2.2.2 i hi)⟩, ⟨(e 4 (by decide) (by decide) (by decide) (by decide) (by decide) (by decide)).trans h3.1, (e 5 (by decide) (by decide) (by decide) (by decide) (by decide) (by decide)).trans h3.2.1, fun s hs hb => km _ _ (by omega) (h3.2.2 s hs hb)⟩, ⟨(e 15 (by decide) (by decide) (by decide) (by decide) (by decide) (by decide)).trans h6.1, fun i hi => by rw [eA, hK.1.2.1 98 (by decide)]; exact h6.2 i hi⟩, ⟨?_, fun i hi => by rw [eA, hK.1.2.1 97 (by decide)]; exact h4.2 i hi⟩, ?_⟩, fun k hk => ⟨?_, ?_⟩, RMg.congr (hK.1.RM hR).g (fun i _ => by rw [eA]), ?_, ?_, ?_, ?_, by rw [hτ]; exact congrArg (fun z : Option Nat × (Nat → Option Nat) × (Nat → Int64) => z.2.2) hK.1.2.2⟩
  · rw [hτ, stF_in (by decide), stF_in (by decide), stF_in (by decide), stF_in (by decide), stF_at]
  · rw [hτ, stF_in (by decide), stF_in (by decide), stF_in (by decide), stF_at]
  · funext j
    rw [hτ]
    have n : ∀ (υ : St) (i : Nat) (x : Int32), sF (stF υ 94 i x) k j = sF υ k j := fun υ i x => congrFun (up2_ne (by omega) : up2 (sF υ) 94 i x k = sF υ k) j
    rw [n, n, n, n, n, hK.1.1, n]
  · rw [eA, hK.1.2.1 k (by omega)]; rfl
  · rw [hτ, stF_in (by decide), stF_in (by decide), stF_at]; rfl
  · rw [hτ, stF_in (by decide), stF_at]
  · rw [hτ, stF_at]
  · show sF τ 94 0 = 0
    rw [hτ, stF_in (by decide), stF_in (by decide), stF_in (by decide), stF_in (by decide), stF_in (by decide), hK.1.1]
    exact stF_at
theorem MX.er {τ : St} {a : Ab} {x y : Int32} (h : MX τ a) (hR : RM τ (aU a)) (hx : sF τ 94 11 = x) (hy : sF τ 94 10 = y) : ML τ (abE a x y) := ⟨hR, h.2.1, h.2.2.1, ⟨h.2.2.2.2.2, fun i hi => absurd hi (Nat.not_lt_zero i)⟩, ⟨hx, hy⟩, h.2.2.2.1⟩
def mdR (τ : St) (v : Option Value) (r : Er ⊕ PSt) (f : PSt → Nat) : Prop := match r with
  | .inl _ => v = some (.int 0) ∧ thr τ = 1
  | .inr s => v = some (.int (nI (f s))) ∧ thr τ = 0
theorem MX.ld {τ : St} {a : Ab} {s : PSt} {o : Txt} (h : MX τ a) (hM : MOk τ o s) : ML (stF (stF (stF τ 94 3 0) 94 4 0) 94 5 0) (abL a s) := ⟨hM.2.2.2.2, ⟨(stF_in (by decide)).trans ((stF_in (by decide)).trans stF_at), Nat.zero_le _, fun i hi => absurd hi (Nat.not_lt_zero i)⟩, ⟨(stF_in (by decide)).trans stF_at, stF_at, fun s hs hb => by cases hb⟩, ⟨(stF_in (by decide)).trans ((stF_in (by decide)).trans ((stF_in (by decide)).trans h.2.2.2.2.2)), fun i hi => absurd hi (Nat.not_lt_zero i)⟩, ⟨(stF_in (by decide)).trans ((stF_in (by decide)).trans ((stF_in (by decide)).trans hM.2.1)), (stF_in (by decide)).trans ((stF_in (by decide)).trans ((stF_in (by decide)).trans hM.2.2.1))⟩, ⟨(stF_in (by decide)).trans ((stF_in (by decide)).trans ((stF_in (by decide)).trans h.2.2.2.1.1)), h.2.2.2.1.2⟩⟩
set_option maxHeartbeats 16000000 in
theorem kM_load {l : Launch} {G : GG} {σ : St} {a : Ab} (h : ML σ a) (hA : AOk a) {o : Txt} (hoe : aI a = o) (hb : byT o) : CtP l G TX5_load 14 [.ref (gB G + 94)] σ (fun v τ => FrA2 σ τ ∧ ML τ (ldA a (loadR o)) ∧ mdR τ v (loadR o) (fun s => un s.2.1) ∧ sO τ = sO σ) := by
  have ho : o.1 ≤ 500 := by rw [← hoe]; exact hA.2.2.2.1
  have hMI := h.2.2.2.1
  rw [hoe] at hMI
  have hOa := hA.1
  refine CtP.ofV (by decide +kernel) rfl rfl (Nat.le_of_ble_eq_true rfl) ?_
  refine V.aload_n (q := 1) dX5_load_0 rfl rfl ?_
  refine V.iconst (q := 2) dX5_load_1 (v := 0) rfl rfl ?_
  refine V.pM (q := 5) dX5_load_2 (j := 0) rfl bw_1011 rfl rfl rfl rfl rfl rfl ?_
  refine V.aload_n (q := 6) dX5_load_5 rfl rfl ?_
  refine V.cVMP (q := 9) (As := []) dX5_load_6 rfl (kU_begins (o := o) ((stF_in (by decide)).trans hMI.1)) MX5_begins bw_1076 rfl rfl rfl rfl (by decide) rfl (fun v1 τ1 h1 => ?_)
  obtain ⟨rfl, υ, hK1, h1⟩ := h1
  have hX1 := MX.beg h hK1 τ1 (by rw [hoe]; exact h1)
  obtain ⟨hX, hFA, hR, h9, h11, h10, ht, hO1⟩ := hX1
  refine V.iconst (q := 10) dX5_load_9 (v := 0) rfl rfl ?_
  refine V.istore_n (q := 11) dX5_load_10 rfl rfl rfl rfl ?_
  have hB0 : MB τ1 o := by have := hX.2.2.2.2.1; rw [hoe] at this; exact this
  clear h1
  have rest : ∀ (τ9 : St) (e : Nat), RM τ9 (begu 0 0 0) → FrU τ1 τ9 → MB τ9 o → MOk τ9 o (spE o 0, begu 0 0 0, e) → V l G TX5_load 14 0 0 (RetP G (fun v τ => FrA2 σ τ ∧ ML τ (ldA a (loadR o)) ∧ mdR τ v (loadR o) (fun s => un s.2.1) ∧ sO τ = sO σ)) 0 0 38 [some (.ref (gB G + 94)), some (.int (nI 211))] [] (hof G τ9) NC := by
    intro τ9 e hR hF hB hM
    refine V.aload_n (q := 39) dX5_load_38 rfl rfl ?_
    refine V.ldcS (q := 41) dX5_load_39 (tx := "") (j := 16) (by decide) (by decide +kernel) rfl ?_
    refine V.cVMP (q := 44) (As := [_]) dX5_load_41 rfl (kU_accepts hb ho hB hM (s := ((spE o 0), begu 0 0 0, e)) (K := 0) (j := 16) (by decide) (by decide) (by decide +kernel)) MX5_accepts bw_1085 rfl rfl rfl rfl (by decide) rfl (fun v5 τ5 h5 => ?_)
    obtain ⟨rfl, hf5, hy, hn⟩ := h5
    have hB := hB.fr hf5
    have hF := hF.trans hf5
    refine V.if_ne (tgt := 56) (q := 47) dX5_load_44 (by decide) rfl (fun c44 => ?_) (fun c44 => ?_)
    · have k5 : kn o (spE o 0) = 0 := of_decide_eq_true (bI1.mp c44)
      have hM : MOk τ5 o (nx o (spE o 0), begu 0 0 0, e) := hy k5
      have hR : RM τ5 (begu 0 0 0) := hM.2.2.2.2
      have hx0 : tkR o 0 (spE o 0) = .inr (nx o (spE o 0)) := if_pos k5
      refine V.aload_n (q := 57) dX5_load_56 rfl rfl ?_
      refine V.gM (q := 60) dX5_load_57 (j := 1) rfl bw_1012 rfl rfl rfl rfl ?_
      refine V.iconst (q := 61) dX5_load_60 (v := 0) rfl rfl ?_
      refine V.aload_n (q := 62) dX5_load_61 rfl rfl ?_
      refine V.iconst (q := 63) dX5_load_62 (v := 2) rfl rfl ?_
      refine V.bipush (q := 65) dX5_load_63 (v := 20) rfl rfl ?_
      refine V.cVMP (q := 68) (As := [_, _]) dX5_load_65 rfl (kU_number hb ho hB hM (lo := 2) (hi := 20) (by omega) (by omega)) MX5_number bw_1110 rfl rfl rfl rfl (by decide) rfl (fun v1 τ1 h1 => ?_)
      rcases hx1 : numR o (nx o (spE o 0)) 2 20 with e1 | q1
      · rw [hx1] at h1
        obtain ⟨rfl, hf1, hM⟩ := h1
        have hM : MFl τ1 o e1 := hM
        have hB := hB.fr hf1
        have hF := hF.trans hf1
        show V _ _ _ _ _ _ _ _ _ _ _ (.int (nI 2) :: _) _ _
        refine V.st12 (q := 69) dX5_load_68 (i := 0) rfl rfl (by decide) rfl ?_
        have hM := hM.ar (j := 0) (x := (nI 2))
        have hf : FrU τ1 (stA τ1 95 0 (nI 2)) := FrM.rf.ar.u
        have hB := hB.fr hf
        have hF := hF.trans hf
        generalize stA τ1 95 0 (nI 2) = σ1 at hM hf hB hF ⊢
        refine V.aload_n (q := 70) dX5_load_69 rfl rfl ?_
        refine V.gM (q := 73) dX5_load_70 (j := 1) rfl bw_1012 rfl rfl rfl rfl ?_
        refine V.iconst (q := 74) dX5_load_73 (v := 1) rfl rfl ?_
        refine V.aload_n (q := 75) dX5_load_74 rfl rfl ?_
        refine V.iconst (q := 76) dX5_load_75 (v := 1) rfl rfl ?_
        refine V.bipush (q := 78) dX5_load_76 (v := 8) rfl rfl ?_
        refine V.cVM (q := 81) dX5_load_78 (As := [_, _]) rfl (kU_numberF hM) MX5_number bw_1110 rfl rfl rfl rfl (by decide) rfl ?_
        refine V.st12 (q := 82) dX5_load_81 (i := 1) rfl rfl (by decide) rfl ?_
        have hM := hM.ar (j := 1) (x := 1)
        have hf : FrU σ1 (stA σ1 95 1 1) := FrM.rf.ar.u
        have hB := hB.fr hf
        have hF := hF.trans hf
        generalize stA σ1 95 1 1 = σ2 at hM hf hB hF ⊢
        refine V.aload_n (q := 83) dX5_load_82 rfl rfl ?_
        refine V.gM (q := 86) dX5_load_83 (j := 1) rfl bw_1012 rfl rfl rfl rfl ?_
        refine V.iconst (q := 87) dX5_load_86 (v := 2) rfl rfl ?_
        refine V.aload_n (q := 88) dX5_load_87 rfl rfl ?_
        refine V.cVMP (q := 91) (As := []) dX5_load_88 rfl (kU_policyWordF hb ho hB hM) MX5_policyWord bw_1114 rfl rfl rfl rfl (by decide) rfl (fun v3 τ3 h3 => ?_)
        obtain ⟨rfl, hf3, hM⟩ := h3
        have hB := hB.fr hf3
        have hF := hF.trans hf3
        refine V.st12 (q := 92) dX5_load_91 (i := 2) rfl rfl (by decide) rfl ?_
        have hM := hM.ar (j := 2) (x := (-1))
        have hf : FrU τ3 (stA τ3 95 2 (-1)) := FrM.rf.ar.u
        have hB := hB.fr hf
        have hF := hF.trans hf
        generalize stA τ3 95 2 (-1) = σ3 at hM hf hB hF ⊢
        refine V.aload_n (q := 93) dX5_load_92 rfl rfl ?_
        refine V.cVM (q := 96) dX5_load_93 (As := []) rfl (kU_semicolonF hM) MX5_semicolon bw_1121 rfl rfl rfl rfl (by decide) rfl ?_
        refine V.aload_n (q := 97) dX5_load_96 rfl rfl ?_
        refine V.cVMP (q := 100) (As := []) dX5_load_97 rfl (kU_commandsF hM (hF.KM hX.1)) MX5_commands bw_1125 rfl rfl rfl rfl (by decide) rfl (fun v7 τ7 h7 => ?_)
        have hr : hdrS o (spE o 0) = .inl e1 := by
          unfold hdrS
          rw [hx0]
          show bnd (numR o (nx o (spE o 0)) 2 20) _ = _
          rw [hx1]; rfl
        have hres := load_h hr
        obtain ⟨hf7, rfl, h71, h72, h73, h74⟩ := h7
        have hFF := hF.B.trans hf7
        refine V.iconst (q := 101) dX5_load_100 (v := -1) rfl rfl ?_
        refine V.icmp_ne (tgt := 106) (q := 104) dX5_load_101 (by decide) rfl (fun c101 => ?_) (fun c101 => ?_)
        · exact absurd rfl c101
        · refine V.iconst (q := 105) dX5_load_104 (v := 0) rfl rfl ?_
          exact V.iret dX5_load_105 rfl (by
        have hrr := hres
        exact ⟨_, _, rfl, rfl, rfl, hFA.trans hFF.a2, by rw [hrr]; exact (hX.b hFF).er h74 h71 h72, by rw [hrr]; exact ⟨rfl, h73⟩, (congrArg (fun z : Option Nat × (Nat → Option Nat) × (Nat → Int64) => z.2.2) hFF.2.2).trans hO1⟩)
      · (rw [hx1] at h1)
        obtain ⟨rfl, hf1, hM, hbg⟩ := h1
        have hM : MOk τ1 o (q1.2, (begu 0 0 0), e) := hM
        have hR : RM τ1 (begu 0 0 0) := hM.2.2.2.2
        have hbg : sF τ1 94 12 = nI (nx o (spE o 0)) := hbg
        have hn1 := numR_r hx1
        have hB := hB.fr hf1
        have hF := hF.trans hf1
        show V _ _ _ _ _ _ _ _ _ _ _ (.int (nI q1.1) :: _) _ _
        refine V.st12 (q := 69) dX5_load_68 (i := 0) rfl rfl (by decide) rfl ?_
        have hR := hR.sc 0 (nI q1.1) (by decide)
        have hf : FrM τ1 (stA τ1 95 0 (nI q1.1)) := FrM.rf.ar
        have hM := hM.m hf hR
        have hB := hB.fr hf.u
        have hF := hF.trans hf.u
        generalize stA τ1 95 0 (nI q1.1) = σ1 at hM hf hR hB hF ⊢
        refine V.aload_n (q := 70) dX5_load_69 rfl rfl ?_
        refine V.gM (q := 73) dX5_load_70 (j := 1) rfl bw_1012 rfl rfl rfl rfl ?_
        refine V.iconst (q := 74) dX5_load_73 (v := 1) rfl rfl ?_
        refine V.aload_n (q := 75) dX5_load_74 rfl rfl ?_
        refine V.iconst (q := 76) dX5_load_75 (v := 1) rfl rfl ?_
        refine V.bipush (q := 78) dX5_load_76 (v := 8) rfl rfl ?_
        refine V.cVMP (q := 81) (As := [_, _]) dX5_load_78 rfl (kU_number hb ho hB hM (lo := 1) (hi := 8) (by omega) (by omega)) MX5_number bw_1110 rfl rfl rfl rfl (by decide) rfl (fun v2 τ2 h2 => ?_)
        rcases hx2 : numR o q1.2 1 8 with e2 | q2
        · rw [hx2] at h2
          obtain ⟨rfl, hf2, hM⟩ := h2
          have hM : MFl τ2 o e2 := hM
          have hB := hB.fr hf2
          have hF := hF.trans hf2
          show V _ _ _ _ _ _ _ _ _ _ _ (.int (nI 1) :: _) _ _
          refine V.st12 (q := 82) dX5_load_81 (i := 1) rfl rfl (by decide) rfl ?_
          have hM := hM.ar (j := 1) (x := (nI 1))
          have hf : FrU τ2 (stA τ2 95 1 (nI 1)) := FrM.rf.ar.u
          have hB := hB.fr hf
          have hF := hF.trans hf
          generalize stA τ2 95 1 (nI 1) = σ2 at hM hf hB hF ⊢
          refine V.aload_n (q := 83) dX5_load_82 rfl rfl ?_
          refine V.gM (q := 86) dX5_load_83 (j := 1) rfl bw_1012 rfl rfl rfl rfl ?_
          refine V.iconst (q := 87) dX5_load_86 (v := 2) rfl rfl ?_
          refine V.aload_n (q := 88) dX5_load_87 rfl rfl ?_
          refine V.cVMP (q := 91) (As := []) dX5_load_88 rfl (kU_policyWordF hb ho hB hM) MX5_policyWord bw_1114 rfl rfl rfl rfl (by decide) rfl (fun v3 τ3 h3 => ?_)
          obtain ⟨rfl, hf3, hM⟩ := h3
          have hB := hB.fr hf3
          have hF := hF.trans hf3
          refine V.st12 (q := 92) dX5_load_91 (i := 2) rfl rfl (by decide) rfl ?_
          have hM := hM.ar (j := 2) (x := (-1))
          have hf : FrU τ3 (stA τ3 95 2 (-1)) := FrM.rf.ar.u
          have hB := hB.fr hf
          have hF := hF.trans hf
          generalize stA τ3 95 2 (-1) = σ3 at hM hf hB hF ⊢
          refine V.aload_n (q := 93) dX5_load_92 rfl rfl ?_
          refine V.cVM (q := 96) dX5_load_93 (As := []) rfl (kU_semicolonF hM) MX5_semicolon bw_1121 rfl rfl rfl rfl (by decide) rfl ?_
          refine V.aload_n (q := 97) dX5_load_96 rfl rfl ?_
          refine V.cVMP (q := 100) (As := []) dX5_load_97 rfl (kU_commandsF hM (hF.KM hX.1)) MX5_commands bw_1125 rfl rfl rfl rfl (by decide) rfl (fun v7 τ7 h7 => ?_)
          have hr : hdrS o (spE o 0) = .inl e2 := by
            unfold hdrS
            rw [hx0]
            show bnd (numR o (nx o (spE o 0)) 2 20) _ = _
            rw [hx1]
            show bnd (numR o q1.2 1 8) _ = _
            rw [hx2]; rfl
          have hres := load_h hr
          obtain ⟨hf7, rfl, h71, h72, h73, h74⟩ := h7
          have hFF := hF.B.trans hf7
          refine V.iconst (q := 101) dX5_load_100 (v := -1) rfl rfl ?_
          refine V.icmp_ne (tgt := 106) (q := 104) dX5_load_101 (by decide) rfl (fun c101 => ?_) (fun c101 => ?_)
          · exact absurd rfl c101
          · refine V.iconst (q := 105) dX5_load_104 (v := 0) rfl rfl ?_
            exact V.iret dX5_load_105 rfl (by
        have hrr := hres
        exact ⟨_, _, rfl, rfl, rfl, hFA.trans hFF.a2, by rw [hrr]; exact (hX.b hFF).er h74 h71 h72, by rw [hrr]; exact ⟨rfl, h73⟩, (congrArg (fun z : Option Nat × (Nat → Option Nat) × (Nat → Int64) => z.2.2) hFF.2.2).trans hO1⟩)
        · (rw [hx2] at h2)
          obtain ⟨rfl, hf2, hM, hbg⟩ := h2
          have hM : MOk τ2 o (q2.2, (uS (begu 0 0 0) 0 (nI q1.1)), e) := hM
          have hR : RM τ2 (uS (begu 0 0 0) 0 (nI q1.1)) := hM.2.2.2.2
          have hbg : sF τ2 94 12 = nI q1.2 := hbg
          have hn2 := numR_r hx2
          have hB := hB.fr hf2
          have hF := hF.trans hf2
          show V _ _ _ _ _ _ _ _ _ _ _ (.int (nI q2.1) :: _) _ _
          refine V.st12 (q := 82) dX5_load_81 (i := 1) rfl rfl (by decide) rfl ?_
          have hR := hR.sc 1 (nI q2.1) (by decide)
          have hf : FrM τ2 (stA τ2 95 1 (nI q2.1)) := FrM.rf.ar
          have hM := hM.m hf hR
          have hB := hB.fr hf.u
          have hF := hF.trans hf.u
          generalize stA τ2 95 1 (nI q2.1) = σ2 at hM hf hR hB hF ⊢
          refine V.aload_n (q := 83) dX5_load_82 rfl rfl ?_
          refine V.gM (q := 86) dX5_load_83 (j := 1) rfl bw_1012 rfl rfl rfl rfl ?_
          refine V.iconst (q := 87) dX5_load_86 (v := 2) rfl rfl ?_
          refine V.aload_n (q := 88) dX5_load_87 rfl rfl ?_
          refine V.cVMP (q := 91) (As := []) dX5_load_88 rfl (kU_policyWord hb ho hB hM) MX5_policyWord bw_1114 rfl rfl rfl rfl (by decide) rfl (fun v3 τ3 h3 => ?_)
          rcases hx3 : polR o q2.2 with e3 | q3
          · rw [hx3] at h3
            obtain ⟨rfl, hf3, hM⟩ := h3
            have hM : MFl τ3 o e3 := hM
            have hB := hB.fr hf3
            have hF := hF.trans hf3
            show V _ _ _ _ _ _ _ _ _ _ _ (.int (-1) :: _) _ _
            refine V.st12 (q := 92) dX5_load_91 (i := 2) rfl rfl (by decide) rfl ?_
            have hM := hM.ar (j := 2) (x := (-1))
            have hf : FrU τ3 (stA τ3 95 2 (-1)) := FrM.rf.ar.u
            have hB := hB.fr hf
            have hF := hF.trans hf
            generalize stA τ3 95 2 (-1) = σ3 at hM hf hB hF ⊢
            refine V.aload_n (q := 93) dX5_load_92 rfl rfl ?_
            refine V.cVM (q := 96) dX5_load_93 (As := []) rfl (kU_semicolonF hM) MX5_semicolon bw_1121 rfl rfl rfl rfl (by decide) rfl ?_
            refine V.aload_n (q := 97) dX5_load_96 rfl rfl ?_
            refine V.cVMP (q := 100) (As := []) dX5_load_97 rfl (kU_commandsF hM (hF.KM hX.1)) MX5_commands bw_1125 rfl rfl rfl rfl (by decide) rfl (fun v7 τ7 h7 => ?_)
            have hr : hdrS o (spE o 0) = .inl e3 := by
              unfold hdrS
              rw [hx0]
              show bnd (numR o (nx o (spE o 0)) 2 20) _ = _
              rw [hx1]
              show bnd (numR o q1.2 1 8) _ = _
              rw [hx2]
              show bnd (polR o q2.2) _ = _
              rw [hx3]; rfl
            have hres := load_h hr
            obtain ⟨hf7, rfl, h71, h72, h73, h74⟩ := h7
            have hFF := hF.B.trans hf7
            refine V.iconst (q := 101) dX5_load_100 (v := -1) rfl rfl ?_
            refine V.icmp_ne (tgt := 106) (q := 104) dX5_load_101 (by decide) rfl (fun c101 => ?_) (fun c101 => ?_)
            · exact absurd rfl c101
            · refine V.iconst (q := 105) dX5_load_104 (v := 0) rfl rfl ?_
              exact V.iret dX5_load_105 rfl (by
        have hrr := hres
        exact ⟨_, _, rfl, rfl, rfl, hFA.trans hFF.a2, by rw [hrr]; exact (hX.b hFF).er h74 h71 h72, by rw [hrr]; exact ⟨rfl, h73⟩, (congrArg (fun z : Option Nat × (Nat → Option Nat) × (Nat → Int64) => z.2.2) hFF.2.2).trans hO1⟩)
          · (rw [hx3] at h3)
            obtain ⟨rfl, hf3, hM⟩ := h3
            have hM : MOk τ3 o (q3.2, (uS (uS (begu 0 0 0) 0 (nI q1.1)) 1 (nI q2.1)), e) := hM
            have hR : RM τ3 (uS (uS (begu 0 0 0) 0 (nI q1.1)) 1 (nI q2.1)) := hM.2.2.2.2
            have hB := hB.fr hf3
            have hF := hF.trans hf3
            show V _ _ _ _ _ _ _ _ _ _ _ (.int (nI q3.1) :: _) _ _
            refine V.st12 (q := 92) dX5_load_91 (i := 2) rfl rfl (by decide) rfl ?_
            have hR := hR.sc 2 (nI q3.1) (by decide)
            have hf : FrM τ3 (stA τ3 95 2 (nI q3.1)) := FrM.rf.ar
            have hM := hM.m hf hR
            have hB := hB.fr hf.u
            have hF := hF.trans hf.u
            generalize stA τ3 95 2 (nI q3.1) = σ3 at hM hf hR hB hF ⊢
            refine V.aload_n (q := 93) dX5_load_92 rfl rfl ?_
            refine V.cVMP (q := 96) (As := []) dX5_load_93 rfl (kU_semicolon hb ho hB hM) MX5_semicolon bw_1121 rfl rfl rfl rfl (by decide) rfl (fun v4 τ4 h4 => ?_)
            rcases hx4 : tkR o 20 q3.2 with e4 | q4
            · rw [hx4] at h4
              obtain ⟨rfl, hf4, hM⟩ := h4
              have hM : MFl τ4 o e4 := hM
              have hB := hB.fr hf4
              have hF := hF.trans hf4
              refine V.aload_n (q := 97) dX5_load_96 rfl rfl ?_
              refine V.cVMP (q := 100) (As := []) dX5_load_97 rfl (kU_commandsF hM (hF.KM hX.1)) MX5_commands bw_1125 rfl rfl rfl rfl (by decide) rfl (fun v7 τ7 h7 => ?_)
              have hr : hdrS o (spE o 0) = .inl e4 := by
                unfold hdrS
                rw [hx0]
                show bnd (numR o (nx o (spE o 0)) 2 20) _ = _
                rw [hx1]
                show bnd (numR o q1.2 1 8) _ = _
                rw [hx2]
                show bnd (polR o q2.2) _ = _
                rw [hx3]
                show bnd (tkR o 20 q3.2) _ = _
                rw [hx4]; rfl
              have hres := load_h hr
              obtain ⟨hf7, rfl, h71, h72, h73, h74⟩ := h7
              have hFF := hF.B.trans hf7
              refine V.iconst (q := 101) dX5_load_100 (v := -1) rfl rfl ?_
              refine V.icmp_ne (tgt := 106) (q := 104) dX5_load_101 (by decide) rfl (fun c101 => ?_) (fun c101 => ?_)
              · exact absurd rfl c101
              · refine V.iconst (q := 105) dX5_load_104 (v := 0) rfl rfl ?_
                exact V.iret dX5_load_105 rfl (by
        have hrr := hres
        exact ⟨_, _, rfl, rfl, rfl, hFA.trans hFF.a2, by rw [hrr]; exact (hX.b hFF).er h74 h71 h72, by rw [hrr]; exact ⟨rfl, h73⟩, (congrArg (fun z : Option Nat × (Nat → Option Nat) × (Nat → Int64) => z.2.2) hFF.2.2).trans hO1⟩)
            · (rw [hx4] at h4)
              obtain ⟨rfl, hf4, hM⟩ := h4
              have hM : MOk τ4 o (q4, (uS (uS (uS (begu 0 0 0) 0 (nI q1.1)) 1 (nI q2.1)) 2 (nI q3.1)), e) := hM
              have hR : RM τ4 (uS (uS (uS (begu 0 0 0) 0 (nI q1.1)) 1 (nI q2.1)) 2 (nI q3.1)) := hM.2.2.2.2
              have hB := hB.fr hf4
              have hF := hF.trans hf4
              have hM9 : MOk τ4 o (q4, (begu (nI q1.1) (nI q2.1) (nI q3.1)), e) := by rw [← beg3]; exact hM
              have hr : hdrS o (spE o 0) = .inr (q4, (begu (nI q1.1) (nI q2.1) (nI q3.1))) := by
                unfold hdrS
                rw [hx0]
                show bnd (numR o (nx o (spE o 0)) 2 20) _ = _
                rw [hx1]
                show bnd (numR o q1.2 1 8) _ = _
                rw [hx2]
                show bnd (polR o q2.2) _ = _
                rw [hx3]
                show bnd (tkR o 20 q3.2) _ = _
                rw [hx4]; rfl
              have hO9 := (hdrS_ok hr).1
              have hres := load_c hr
              refine V.aload_n (q := 97) dX5_load_96 rfl rfl ?_
              refine V.cVMP (q := 100) (As := []) dX5_load_97 rfl (kU_commands hb ho hB hM9 hO9 (hF.KM hX.1)) MX5_commands bw_1125 rfl rfl rfl rfl (by decide) rfl (fun v7 τ7 h7 => ?_)
              rcases hx7 : cmds o (q4, begu (nI q1.1) (nI q2.1) (nI q3.1), 0) with e7 | q7
              · rw [hx7] at h7
                obtain ⟨hf7, rfl, h71, h72, h73, h74⟩ := h7
                have hFF := hF.B.trans hf7
                show V _ _ _ _ _ _ _ _ _ _ _ (.int (-1) :: _) _ _
                refine V.iconst (q := 101) dX5_load_100 (v := -1) rfl rfl ?_
                refine V.icmp_ne (tgt := 106) (q := 104) dX5_load_101 (by decide) rfl (fun c101 => ?_) (fun c101 => ?_)
                · exact absurd rfl c101
                · refine V.iconst (q := 105) dX5_load_104 (v := 0) rfl rfl ?_
                  exact V.iret dX5_load_105 rfl (by
        have hrr : loadR o = .inl e7 := by rw [hres]; exact hx7
        exact ⟨_, _, rfl, rfl, rfl, hFA.trans hFF.a2, by rw [hrr]; exact (hX.b hFF).er h74 h71 h72, by rw [hrr]; exact ⟨rfl, h73⟩, (congrArg (fun z : Option Nat × (Nat → Option Nat) × (Nat → Int64) => z.2.2) hFF.2.2).trans hO1⟩)
              · (rw [hx7] at h7)
                obtain ⟨hf7, rfl, hM, h73⟩ := h7
                have hFF := hF.B.trans hf7
                have hR : RM τ7 q7.2.1 := hM.2.2.2.2
                have hq7 := cmds_e (s := (q4, begu (nI q1.1) (nI q2.1) (nI q3.1), 0)) ho (hdrS_ok hr).2.2 hx7
                have hq70 : q7.2.2 ≤ 0 + 2250000 := hq7
                show V _ _ _ _ _ _ _ _ _ _ _ (.int (nI q7.2.2) :: _) _ _
                refine V.iconst (q := 101) dX5_load_100 (v := -1) rfl rfl ?_
                refine V.icmp_ne (tgt := 106) (q := 104) dX5_load_101 (by decide) rfl (fun c101 => ?_) (fun c101 => ?_)
                · refine V.aload_n (q := 107) dX5_load_106 rfl rfl ?_
                  refine V.iconst (q := 108) dX5_load_107 (v := 0) rfl rfl ?_
                  refine V.pM (q := 111) dX5_load_108 (j := 3) rfl bw_1014 rfl rfl rfl rfl rfl rfl ?_
                  refine V.aload_n (q := 112) dX5_load_111 rfl rfl ?_
                  refine V.iconst (q := 113) dX5_load_112 (v := 0) rfl rfl ?_
                  refine V.pM (q := 116) dX5_load_113 (j := 4) rfl bw_1015 rfl rfl rfl rfl rfl rfl ?_
                  refine V.aload_n (q := 117) dX5_load_116 rfl rfl ?_
                  refine V.iconst (q := 118) dX5_load_117 (v := 0) rfl rfl ?_
                  refine V.pM (q := 121) dX5_load_118 (j := 5) rfl bw_1016 rfl rfl rfl rfl rfl rfl ?_
                  refine V.aload_n (q := 122) dX5_load_121 rfl rfl ?_
                  refine V.gM (q := 125) dX5_load_122 (j := 1) rfl bw_1012 rfl rfl rfl rfl ?_
                  refine V.bipush (q := 127) dX5_load_125 (v := 10) rfl rfl ?_
                  refine V.ldMn (q := 128) dX5_load_127 hR rfl rfl ?_
                  exact V.iret dX5_load_128 rfl (by
        have hrr : loadR o = .inr q7 := by rw [hres]; exact hx7
        have hfin := (hX.b hFF).ld hM
        exact ⟨_, _, rfl, rfl, rfl, hFA.trans (hFF.a2.trans (FrA2.f.trans (FrA2.f.trans FrA2.f))), by rw [hrr]; exact hfin, by rw [hrr]; exact ⟨rfl, (stF_in (by decide)).trans ((stF_in (by decide)).trans ((stF_in (by decide)).trans (h73.trans (hF.thr.trans ht))))⟩, (congrArg (fun z : Option Nat × (Nat → Option Nat) × (Nat → Int64) => z.2.2) hFF.2.2).trans hO1⟩)
                · exact absurd c101 (nne1 (by omega))
    · have k5 : ¬ kn o (spE o 0) = 0 := of_decide_eq_false (bI0.mp c44)
      obtain ⟨hM, hat⟩ := hn k5
      have hM : MOk τ5 o ((spE o 0), begu 0 0 0, e) := hM
      have hat : sF τ5 94 9 = nI (spE o 0) := hat
      have hx0 : tkR o 0 (spE o 0) = .inl (1, (spE o 0)) := if_neg k5
      refine V.aload_n (q := 48) dX5_load_47 rfl rfl ?_
      refine V.iconst (q := 49) dX5_load_48 (v := 1) rfl rfl ?_
      refine V.aload_n (q := 50) dX5_load_49 rfl rfl ?_
      refine V.gM (q := 53) dX5_load_50 (j := 9) rfl bw_1020 rfl rfl rfl rfl ?_
      rw [hat]
      refine V.cVM (q := 56) dX5_load_53 (As := [_, _]) rfl (kU_fail hM) MX5_fail bw_1106 rfl rfl rfl rfl (by decide) rfl ?_
      have hM : MFl (stF (stF τ5 94 11 1) 94 10 (nI (spE o 0))) o (1, (spE o 0)) := hM.fl (by decide) rfl rfl
      have hf6 : FrU τ5 (stF (stF τ5 94 11 1) 94 10 (nI (spE o 0))) := (FrU.f (by decide)).trans (FrU.f (by decide))
      have hB := hB.fr hf6
      have hF := hF.trans hf6
      generalize stF (stF τ5 94 11 1) 94 10 (nI (spE o 0)) = τ6 at hM hf6 hB hF ⊢
      refine V.aload_n (q := 57) dX5_load_56 rfl rfl ?_
      refine V.gM (q := 60) dX5_load_57 (j := 1) rfl bw_1012 rfl rfl rfl rfl ?_
      refine V.iconst (q := 61) dX5_load_60 (v := 0) rfl rfl ?_
      refine V.aload_n (q := 62) dX5_load_61 rfl rfl ?_
      refine V.iconst (q := 63) dX5_load_62 (v := 2) rfl rfl ?_
      refine V.bipush (q := 65) dX5_load_63 (v := 20) rfl rfl ?_
      refine V.cVM (q := 68) dX5_load_65 (As := [_, _]) rfl (kU_numberF hM) MX5_number bw_1110 rfl rfl rfl rfl (by decide) rfl ?_
      refine V.st12 (q := 69) dX5_load_68 (i := 0) rfl rfl (by decide) rfl ?_
      have hM := hM.ar (j := 0) (x := 2)
      have hf : FrU τ6 (stA τ6 95 0 2) := FrM.rf.ar.u
      have hB := hB.fr hf
      have hF := hF.trans hf
      generalize stA τ6 95 0 2 = σ1 at hM hf hB hF ⊢
      refine V.aload_n (q := 70) dX5_load_69 rfl rfl ?_
      refine V.gM (q := 73) dX5_load_70 (j := 1) rfl bw_1012 rfl rfl rfl rfl ?_
      refine V.iconst (q := 74) dX5_load_73 (v := 1) rfl rfl ?_
      refine V.aload_n (q := 75) dX5_load_74 rfl rfl ?_
      refine V.iconst (q := 76) dX5_load_75 (v := 1) rfl rfl ?_
      refine V.bipush (q := 78) dX5_load_76 (v := 8) rfl rfl ?_
      refine V.cVM (q := 81) dX5_load_78 (As := [_, _]) rfl (kU_numberF hM) MX5_number bw_1110 rfl rfl rfl rfl (by decide) rfl ?_
      refine V.st12 (q := 82) dX5_load_81 (i := 1) rfl rfl (by decide) rfl ?_
      have hM := hM.ar (j := 1) (x := 1)
      have hf : FrU σ1 (stA σ1 95 1 1) := FrM.rf.ar.u
      have hB := hB.fr hf
      have hF := hF.trans hf
      generalize stA σ1 95 1 1 = σ2 at hM hf hB hF ⊢
      refine V.aload_n (q := 83) dX5_load_82 rfl rfl ?_
      refine V.gM (q := 86) dX5_load_83 (j := 1) rfl bw_1012 rfl rfl rfl rfl ?_
      refine V.iconst (q := 87) dX5_load_86 (v := 2) rfl rfl ?_
      refine V.aload_n (q := 88) dX5_load_87 rfl rfl ?_
      refine V.cVMP (q := 91) (As := []) dX5_load_88 rfl (kU_policyWordF hb ho hB hM) MX5_policyWord bw_1114 rfl rfl rfl rfl (by decide) rfl (fun v3 τ3 h3 => ?_)
      obtain ⟨rfl, hf3, hM⟩ := h3
      have hB := hB.fr hf3
      have hF := hF.trans hf3
      refine V.st12 (q := 92) dX5_load_91 (i := 2) rfl rfl (by decide) rfl ?_
      have hM := hM.ar (j := 2) (x := (-1))
      have hf : FrU τ3 (stA τ3 95 2 (-1)) := FrM.rf.ar.u
      have hB := hB.fr hf
      have hF := hF.trans hf
      generalize stA τ3 95 2 (-1) = σ3 at hM hf hB hF ⊢
      refine V.aload_n (q := 93) dX5_load_92 rfl rfl ?_
      refine V.cVM (q := 96) dX5_load_93 (As := []) rfl (kU_semicolonF hM) MX5_semicolon bw_1121 rfl rfl rfl rfl (by decide) rfl ?_
      refine V.aload_n (q := 97) dX5_load_96 rfl rfl ?_
      refine V.cVMP (q := 100) (As := []) dX5_load_97 rfl (kU_commandsF hM (hF.KM hX.1)) MX5_commands bw_1125 rfl rfl rfl rfl (by decide) rfl (fun v7 τ7 h7 => ?_)
      have hr : hdrS o (spE o 0) = .inl (1, (spE o 0)) := by
        unfold hdrS
        rw [hx0]; rfl
      have hres := load_h hr
      obtain ⟨hf7, rfl, h71, h72, h73, h74⟩ := h7
      have hFF := hF.B.trans hf7
      refine V.iconst (q := 101) dX5_load_100 (v := -1) rfl rfl ?_
      refine V.icmp_ne (tgt := 106) (q := 104) dX5_load_101 (by decide) rfl (fun c101 => ?_) (fun c101 => ?_)
      · exact absurd rfl c101
      · refine V.iconst (q := 105) dX5_load_104 (v := 0) rfl rfl ?_
        exact V.iret dX5_load_105 rfl (by
        have hrr := hres
        exact ⟨_, _, rfl, rfl, rfl, hFA.trans hFF.a2, by rw [hrr]; exact (hX.b hFF).er h74 h71 h72, by rw [hrr]; exact ⟨rfl, h73⟩, (congrArg (fun z : Option Nat × (Nat → Option Nat) × (Nat → Int64) => z.2.2) hFF.2.2).trans hO1⟩)
  have loop : ∀ (m k : Nat) (τ : St), m = 211 - k → k ≤ 211 → FrM τ1 τ → (∀ i, i < k → sA τ 95 i = 0) → V l G TX5_load 14 0 0 (RetP G (fun v τ => FrA2 σ τ ∧ ML τ (ldA a (loadR o)) ∧ mdR τ v (loadR o) (fun s => un s.2.1) ∧ sO τ = sO σ)) 0 0 11 [some (.ref (gB G + 94)), some (.int (nI k))] [] (hof G τ) NC := by
    intro m
    induction m using Nat.strongRecOn with
    | _ m ih =>
      intro k τ hm hk9 hf hz
      refine V.iload_n (q := 12) dX5_load_11 rfl rfl ?_
      refine V.sipush (q := 15) dX5_load_12 (v := 211) rfl rfl ?_
      refine V.icmp_ge (tgt := 31) (q := 18) dX5_load_15 (by decide) rfl (fun c15 => ?_) (fun c15 => ?_)
      · have hke : k = 211 := Nat.le_antisymm hk9 (nle (a := 211) c15 (by decide) (by omega))
        subst hke
        refine V.aload_n (q := 32) dX5_load_31 rfl rfl ?_
        refine V.gM (q := 35) dX5_load_32 (j := 1) rfl bw_1012 rfl rfl rfl rfl ?_
        refine V.iconst (q := 36) dX5_load_35 (v := 5) rfl rfl ?_
        refine V.iconst (q := 37) dX5_load_36 (v := 1) rfl rfl ?_
        refine V.st12 (q := 38) dX5_load_37 (i := 5) rfl rfl (by decide) rfl ?_
        obtain ⟨e, he⟩ := nI_all (sF (stA τ 95 5 1) 94 13)
        have hf5 : FrM τ1 (stA τ 95 5 1) := hf.ar
        have hR : RM (stA τ 95 5 1) (begu 0 0 0) := RM_beg (fun i hi => by
          show up2 (sA τ) 95 5 1 95 i = _
          rw [up2_if]
          by_cases q : i = 5
          · rw [if_pos ⟨rfl, q⟩, if_pos q]
          · rw [if_neg (fun z => q z.2), if_neg q]; exact hz i hi)
        have hF : FrU τ1 (stA τ 95 5 1) := hf5.u
        have hB : MB (stA τ 95 5 1) o := hB0.fr hF
        have hM : MOk (stA τ 95 5 1) o (spE o 0, begu 0 0 0, e) := ⟨⟨0, Nat.zero_le _, by rw [hf5.1]; exact h9, rfl⟩, by rw [hf5.1]; exact h11, by rw [hf5.1]; exact h10, he, hR⟩
        generalize stA τ 95 5 1 = τ9 at he hf5 hR hF hB hM ⊢
        exact rest τ9 e hR hF hB hM
      · have hlt : k < 211 := nnle (a := 211) c15 (by decide) (by omega)
        refine V.aload_n (q := 19) dX5_load_18 rfl rfl ?_
        refine V.gM (q := 22) dX5_load_19 (j := 1) rfl bw_1012 rfl rfl rfl rfl ?_
        refine V.iload_n (q := 23) dX5_load_22 rfl rfl ?_
        refine V.iconst (q := 24) dX5_load_23 (v := 0) rfl rfl ?_
        refine V.st12 (q := 25) dX5_load_24 (i := k) rfl rfl (by omega) rfl ?_
        refine V.iinc (q := 28) dX5_load_25 rfl (by first | exact nI_inc _ | rfl) rfl rfl rfl ?_
        refine V.goto (tgt := 11) dX5_load_28 (by decide) ?_
        refine ih _ (by omega) (k + 1) _ rfl (by omega) hf.ar (fun i hi => ?_)
        show up2 (sA τ) 95 k 0 95 i = 0
        rw [up2_if]
        by_cases q : i = k
        · rw [if_pos ⟨rfl, q⟩]
        · rw [if_neg (fun z => q z.2)]; exact hz i (by omega)
  exact loop _ 0 τ1 rfl (Nat.zero_le _) FrM.rf (fun i hi => absurd hi (Nat.not_lt_zero i))
set_option maxHeartbeats 8000000 in
theorem kM_play {l : Launch} {G : GG} {σ : St} {a : Ab} (h : ML σ a) (hA : AOk a) {o : Txt} (hoe : aI a = o) (hb : byT o) : CtP l G TX5_play 14 [.ref (gB G + 94)] σ (fun v τ => FrA2 σ τ ∧ ML τ (plA a (playR o (aU a))) ∧ mdR τ v (playR o (aU a)) (fun s => s.2.2) ∧ sO τ = sO σ) := by
  have ho : o.1 ≤ 500 := by rw [← hoe]; exact hA.2.2.2.1
  have hMI := h.2.2.2.1
  rw [hoe] at hMI
  have hOa := hA.1
  refine CtP.ofV (by decide +kernel) rfl rfl (Nat.le_of_ble_eq_true rfl) ?_
  refine V.aload_n (q := 1) dX5_play_0 rfl rfl ?_
  refine V.iconst (q := 2) dX5_play_1 (v := 0) rfl rfl ?_
  refine V.pM (q := 5) dX5_play_2 (j := 0) rfl bw_1011 rfl rfl rfl rfl rfl rfl ?_
  refine V.aload_n (q := 6) dX5_play_5 rfl rfl ?_
  refine V.cVMP (q := 9) (As := []) dX5_play_6 rfl (kU_begins (o := o) ((stF_in (by decide)).trans hMI.1)) MX5_begins bw_1076 rfl rfl rfl rfl (by decide) rfl (fun v1 τ1 h1 => ?_)
  obtain ⟨rfl, υ, hK1, h1⟩ := h1
  have hX1 := MX.beg h hK1 τ1 (by rw [hoe]; exact h1)
  obtain ⟨hX, hFA, hR, h9, h11, h10, ht, hO1⟩ := hX1
  obtain ⟨e, he⟩ := nI_all (sF τ1 94 13)
  have hB : MB τ1 o := by have := hX.2.2.2.2.1; rw [hoe] at this; exact this
  have hM : MOk τ1 o (spE o 0, aU a, e) := ⟨⟨0, Nat.zero_le _, h9, rfl⟩, h11, h10, he, hR⟩
  clear h1
  refine V.aload_n (q := 10) dX5_play_9 rfl rfl ?_
  refine V.cVMP (q := 13) (As := []) dX5_play_10 rfl (kU_commands hb ho hB hM hOa hX.1) MX5_commands bw_1125 rfl rfl rfl rfl (by decide) rfl (fun v7 τ7 h7 => ?_)
  rcases hx7 : cmds o (spE o 0, aU a, 0) with e7 | q7
  · rw [hx7] at h7
    obtain ⟨hf7, rfl, h71, h72, h73, h74⟩ := h7
    show V _ _ _ _ _ _ _ _ _ _ _ (.int (-1) :: _) _ _
    refine V.istore_n (q := 14) dX5_play_13 rfl rfl rfl rfl ?_
    refine V.iload_n (q := 15) dX5_play_14 rfl rfl ?_
    refine V.iconst (q := 16) dX5_play_15 (v := -1) rfl rfl ?_
    refine V.icmp_ne (tgt := 21) (q := 19) dX5_play_16 (by decide) rfl (fun c16 => ?_) (fun c16 => ?_)
    · exact absurd rfl c16
    · refine V.iconst (q := 20) dX5_play_19 (v := 0) rfl rfl ?_
      exact V.iret dX5_play_20 rfl (by
      have hrr : playR o (aU a) = .inl e7 := hx7
      exact ⟨_, _, rfl, rfl, rfl, hFA.trans hf7.a2, by rw [hrr]; exact (hX.b hf7).er h74 h71 h72, by rw [hrr]; exact ⟨rfl, h73⟩, (congrArg (fun z : Option Nat × (Nat → Option Nat) × (Nat → Int64) => z.2.2) hf7.2.2).trans hO1⟩)
  · (rw [hx7] at h7)
    obtain ⟨hf7, rfl, hM, h73⟩ := h7
    have hR : RM τ7 q7.2.1 := hM.2.2.2.2
    have hX := hX.b hf7
    have hq7 := cmds_e (s := (spE o 0, aU a, 0)) ho (spE_top (Nat.zero_le _)) hx7
    have hq70 : q7.2.2 ≤ 0 + 2250000 := hq7
    show V _ _ _ _ _ _ _ _ _ _ _ (.int (nI q7.2.2) :: _) _ _
    refine V.istore_n (q := 14) dX5_play_13 rfl rfl rfl rfl ?_
    refine V.iload_n (q := 15) dX5_play_14 rfl rfl ?_
    refine V.iconst (q := 16) dX5_play_15 (v := -1) rfl rfl ?_
    refine V.icmp_ne (tgt := 21) (q := 19) dX5_play_16 (by decide) rfl (fun c16 => ?_) (fun c16 => ?_)
    · refine V.aload_n (q := 22) dX5_play_21 rfl rfl ?_
      refine V.bipush (q := 24) dX5_play_22 (v := 11) rfl rfl ?_
      refine V.cVMP (q := 27) (As := [_]) dX5_play_24 rfl (cM_keeps (pl := 11) (by decide)) MX5_keeps bw_1080 rfl rfl rfl rfl (by decide) rfl (fun v8 τ8 h8 => ?_)
      obtain ⟨rfl, h8⟩ := h8
      have hk11 := h8.at hR
      have hk10 := h8.other (p2 := 10) (by decide) hX.1
      refine V.aload_n (q := 28) dX5_play_27 rfl rfl ?_
      refine V.bipush (q := 30) dX5_play_28 (v := 10) rfl rfl ?_
      refine V.cVMP (q := 33) (As := [_]) dX5_play_30 rfl (cM_bringsBack (pl := 10) (by decide)) MX5_bringsBack bw_1291 rfl rfl rfl rfl (by decide) rfl (fun v9 τ9 h9b => ?_)
      obtain ⟨rfl, h9b⟩ := h9b
      have hR9 := h9b.at hk10
      have hk11 := h9b.1.KM hk11
      have hH9 : Hist τ9 (aR a) (aH a) := ⟨by rw [h9b.1.1, h8.1.1]; exact hX.2.1.1, hX.2.1.2.1, fun i hi => h9b.1.KM (h8.other (by have := hX.2.1.2.1; omega) (hX.2.1.2.2 i hi))⟩
      refine V.aload_n (q := 34) dX5_play_33 rfl rfl ?_
      refine V.cVMP (q := 37) (As := []) dX5_play_34 rfl (cM_records hH9 hR9) MX5_records bw_1299 rfl rfl rfl rfl (by decide) rfl (fun v10 τ10 h10b => ?_)
      obtain ⟨rfl, hf10, hH10⟩ := h10b
      have hk11 := hf10.KM (by decide) hk11
      refine V.aload_n (q := 38) dX5_play_37 rfl rfl ?_
      refine V.bipush (q := 40) dX5_play_38 (v := 11) rfl rfl ?_
      refine V.cVMP (q := 43) (As := [_]) dX5_play_40 rfl (cM_bringsBack (pl := 11) (by decide)) MX5_bringsBack bw_1291 rfl rfl rfl rfl (by decide) rfl (fun v11 τ11 h11b => ?_)
      obtain ⟨rfl, h11b⟩ := h11b
      have hR11 := h11b.at hk11
      refine V.iload_n (q := 44) dX5_play_43 rfl rfl ?_
      exact V.iret dX5_play_44 rfl (by
      have hrr : playR o (aU a) = .inr q7 := hx7
      have eF : ∀ k j, ¬ (k = 94 ∧ j = 3) → sF τ11 k j = sF τ7 k j := fun k j z => by rw [h11b.1.1, hf10.1 k j z, h9b.1.1, h8.1.1]
      have eA : ∀ k, k ≠ 95 → k ≠ 96 → sA τ11 k = sA τ7 k := fun k z z2 => by rw [h11b.1.2.1 k z, hf10.2.1 k z2, h9b.1.2.1 k z, h8.1.2.1 k z2]
      have eK : ∀ s w, s < 2 → KM τ7 (8 + s) w → KM τ11 (8 + s) w := fun s w hs hw => h11b.1.KM (hf10.KM (by omega) (h9b.1.KM (h8.other (by omega) hw)))
      have hH11 : Hist τ11 (pushN (aR a)) (pushV (aR a) (aH a) (aU a)) := ⟨by rw [h11b.1.1]; exact hH10.1, hH10.2.1, fun i hi => h11b.1.KM (hH10.2.2 i hi)⟩
      have hfin : ML τ11 (abP a q7) := ⟨hR11, hH11, ⟨(eF 94 4 (by decide)).trans hX.2.2.1.1, (eF 94 5 (by decide)).trans hX.2.2.1.2.1, fun s hs hb => eK s _ hs (hX.2.2.1.2.2 s hs hb)⟩, ⟨(eF 94 7 (by decide)).trans hX.2.2.2.2.2, fun i hi => absurd hi (Nat.not_lt_zero i)⟩, ⟨(eF 94 11 (by decide)).trans hM.2.1, (eF 94 10 (by decide)).trans hM.2.2.1⟩, ⟨(eF 94 15 (by decide)).trans hX.2.2.2.1.1, fun i hi => by rw [eA 98 (by decide) (by decide)]; exact hX.2.2.2.1.2 i hi⟩⟩
      exact ⟨_, _, rfl, rfl, rfl, hFA.trans (hf7.a2.trans (fun k hk => ⟨funext fun j => eF k j (by omega), eA k (by omega) (by omega)⟩)), by rw [hrr]; exact hfin, by rw [hrr]; exact ⟨rfl, (eF 94 0 (by decide)).trans (h73.trans ht)⟩, (congrArg (fun z : Option Nat × (Nat → Option Nat) × (Nat → Int64) => z.2.2) (h11b.1.2.2.trans (hf10.2.2.1.trans (h9b.1.2.2.trans (h8.1.2.2.trans hf7.2.2))))).trans hO1⟩)
    · exact absurd c16 (nne1 (by omega))
