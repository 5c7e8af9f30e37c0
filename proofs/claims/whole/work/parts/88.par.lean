/-! the model's parser: bytes, looks ahead, fails, words -/
def MB (σ : St) (o : Txt) : Prop := sF σ 94 8 = nI o.1 ∧ ∀ i, i < o.1 → sA σ 97 i = o.2 i
def MAt (σ : St) (o : Txt) (P : Nat) : Prop := ∃ h, h ≤ o.1 ∧ sF σ 94 9 = nI h ∧ spE o h = P
def MFl (σ : St) (o : Txt) (e : Er) : Prop := (∃ h, h ≤ o.1 ∧ sF σ 94 9 = nI h) ∧ sF σ 94 11 = nI e.1 ∧ (0 < e.1 ∧ e.1 < 10) ∧ sF σ 94 10 = nI e.2
def MOk (σ : St) (o : Txt) (s : PSt) : Prop := MAt σ o s.1 ∧ sF σ 94 11 = 0 ∧ sF σ 94 10 = -1 ∧ sF σ 94 13 = nI s.2.2 ∧ RM σ s.2.1
def MR (σ : St) (o : Txt) (r : Er ⊕ PSt) : Prop := match r with
  | .inl e => MFl σ o e
  | .inr s => MOk σ o s
def FrU (σ τ : St) : Prop := (∀ k j, ¬ (k = 94 ∧ (j = 9 ∨ j = 10 ∨ j = 11 ∨ j = 12 ∨ j = 13)) → sF τ k j = sF σ k j) ∧ (∀ k, k ≠ 95 → sA τ k = sA σ k) ∧ τ.2.2 = σ.2.2
theorem FrU.rf {σ : St} : FrU σ σ := ⟨fun _ _ _ => rfl, fun _ _ => rfl, rfl⟩
theorem FrU.trans {σ τ υ : St} (h : FrU σ τ) (h2 : FrU τ υ) : FrU σ υ := ⟨fun k j a => (h2.1 k j a).trans (h.1 k j a), fun k a => (h2.2.1 k a).trans (h.2.1 k a), h2.2.2.trans h.2.2⟩
theorem FrU.f {σ : St} {j : Nat} {x : Int32} (hj : j = 9 ∨ j = 10 ∨ j = 11 ∨ j = 12 ∨ j = 13) : FrU σ (stF σ 94 j x) := ⟨fun k i a => by
  show up2 (sF σ) 94 j x k i = _
  rw [up2_if, if_neg (fun z => a ⟨z.1, by rw [z.2]; exact hj⟩)], fun _ _ => rfl, rfl⟩
theorem FrM.u {σ τ : St} (h : FrM σ τ) : FrU σ τ := ⟨fun k j _ => by rw [h.1], h.2.1, h.2.2⟩
/-- fields of the model's parser alone -/
def FrJ (σ τ : St) : Prop := (∀ k j, ¬ (k = 94 ∧ (j = 9 ∨ j = 10 ∨ j = 11 ∨ j = 12 ∨ j = 13)) → sF τ k j = sF σ k j) ∧ sA τ = sA σ ∧ τ.2.2 = σ.2.2
def Fr9 (σ τ : St) : Prop := (∀ k j, ¬ (k = 94 ∧ j = 9) → sF τ k j = sF σ k j) ∧ sA τ = sA σ ∧ τ.2.2 = σ.2.2
theorem Fr9.rf {σ : St} : Fr9 σ σ := ⟨fun _ _ _ => rfl, rfl, rfl⟩
theorem Fr9.trans {σ τ υ : St} (h : Fr9 σ τ) (h2 : Fr9 τ υ) : Fr9 σ υ := ⟨fun k j a => (h2.1 k j a).trans (h.1 k j a), h2.2.1.trans h.2.1, h2.2.2.trans h.2.2⟩
theorem Fr9.f {σ : St} {x : Int32} : Fr9 σ (stF σ 94 9 x) := ⟨fun k i a => by
  show up2 (sF σ) 94 9 x k i = _
  rw [up2_if, if_neg a], rfl, rfl⟩
theorem Fr9.u {σ τ : St} (h : Fr9 σ τ) : FrU σ τ := ⟨fun k j a => h.1 k j (fun z => a ⟨z.1, Or.inl z.2⟩), fun k _ => by rw [h.2.1], h.2.2⟩
section MU
variable {σ τ : St} {o : Txt} {s : PSt} {e : Er} {h : Nat} {x : Int32}
theorem MB.fr (hB : MB σ o) (hf : FrU σ τ) : MB τ o := ⟨(hf.1 94 8 (by decide)).trans hB.1, fun i hi => by rw [hf.2.1 97 (by decide)]; exact hB.2 i hi⟩
theorem RM.j (hM : RM σ s.2.1) (hA : sA τ = sA σ) : RM τ s.2.1 := RMg.congr hM.g (fun i _ => by rw [hA])
theorem RM.a {u : Vw} (hM : RM σ u) (hA : sA τ = sA σ) : RM τ u := RMg.congr hM.g (fun i _ => by rw [hA])
/-- here moves -/
theorem MOk.at (hM : MOk σ o s) (hf : Fr9 σ τ) {P : Nat} (hA : MAt τ o P) : MOk τ o (P, s.2) := ⟨hA, (hf.1 94 11 (by decide)).trans hM.2.1, (hf.1 94 10 (by decide)).trans hM.2.2.1, (hf.1 94 13 (by decide)).trans hM.2.2.2.1, hM.2.2.2.2.a hf.2.1⟩
theorem MFl.at (hM : MFl σ o e) (hf : Fr9 σ τ) (hA : ∃ h, h ≤ o.1 ∧ sF τ 94 9 = nI h) : MFl τ o e := ⟨hA, (hf.1 94 11 (by decide)).trans hM.2.1, hM.2.2.1, (hf.1 94 10 (by decide)).trans hM.2.2.2⟩
theorem MAt.set (hh : h ≤ o.1) (hx : x = nI h) : MAt (stF σ 94 9 x) o (spE o h) := ⟨h, hh, stF_at.trans hx, rfl⟩
theorem MOk.fl (hM : MOk σ o s) {c p : Nat} {x y : Int32} (hc : 0 < c ∧ c < 10) (hx : x = nI c) (hy : y = nI p) : MFl (stF (stF σ 94 11 x) 94 10 y) o (c, p) := by
  obtain ⟨⟨h, h1, h2, h3⟩, -⟩ := hM
  exact ⟨⟨h, h1, (stF_in (by decide)).trans ((stF_in (by decide)).trans h2)⟩, (stF_in (by decide)).trans (stF_at.trans hx), hc, stF_at.trans hy⟩
end MU
/-- a byte as the model reads it -/
def bcI (o : Txt) (k : Nat) : Int32 := if k < o.1 then nI (bc o k) else -1
theorem bcI_eq {o : Txt} {k c : Nat} (hb : byT o) (hc : c < 256) : bcI o k = nI c ↔ bc o k = c := by
  unfold bcI
  by_cases hk : k < o.1
  · rw [if_pos hk]
    have := bc_lt hb hk
    exact nI_eq (by omega) (by omega)
  · rw [if_neg hk, bc_out hk]
    constructor
    · intro z; exact absurd z.symm (nne1 (by omega))
    · intro z; omega
theorem bcI_rng {o : Txt} {k a b : Nat} (hb : byT o) (ha : a < 256) (hb2 : b < 256) : (decide (nI a ≤ bcI o k) && decide (bcI o k ≤ nI b)) = (decide (a ≤ bc o k) && decide (bc o k ≤ b)) := by
  apply Bool.eq_iff_iff.mpr
  simp only [Bool.and_eq_true, decide_eq_true_eq]
  unfold bcI
  by_cases hk : k < o.1
  · rw [if_pos hk]
    have h1 := bc_lt hb hk
    exact and_congr (nI_leI (by omega) (by omega)) (nI_leI (by omega) (by omega))
  · rw [if_neg hk, bc_out hk]
    have h2 : ¬ nI a ≤ -1 := fun z => by
      have z2 := Int32.le_iff_toInt_le.mp z
      rw [nI_int (by omega)] at z2
      have z3 : (-1 : Int32).toInt = -1 := by decide
      omega
    constructor
    · intro z; exact absurd z.1 h2
    · intro z; omega
theorem bcI_w {o : Txt} {j i k : Nat} (hb : byT o) (hj : j < ev_ks.length) (hi : i < (wd j).length) (hk : k < o.1) : (bcI o k = (wd j).getD i 0) ↔ (o.2 k = (wd j).getD i 0) := by
  obtain ⟨-, h1, h2⟩ := wd_chr j hj i hi
  rw [← h2, bcI_eq hb (by omega), bc_eq hb hk h1]
set_option maxHeartbeats 1000000 in
theorem kU_byteAt {l : Launch} {G : GG} {σ : St} {o : Txt} (hb : byT o) (ho : o.1 ≤ 500) (hB : MB σ o) {k : Nat} (hk : k < 100000) : CtS l G TX5_byteAt 0 [.ref (gB G + 94), .int (nI k)] σ (some (.int (bcI o k))) σ := by
  refine CtS.ofV (by decide +kernel) rfl rfl (Nat.le_of_ble_eq_true rfl) ?_
  refine V.iload_n (q := 1) dX5_byteAt_0 rfl rfl ?_
  refine V.aload_n (q := 2) dX5_byteAt_1 rfl rfl ?_
  refine V.gM (q := 5) dX5_byteAt_2 (j := 8) rfl bw_1019 rfl rfl rfl rfl ?_
  rw [hB.1]
  refine V.icmp_ge (tgt := 21) (q := 8) dX5_byteAt_5 (by decide) rfl (fun c5 => ?_) (fun c5 => ?_)
  · have hk9 : ¬ k < o.1 := fun z => by have := nle c5 (by omega) (by omega); omega
    refine V.iconst (q := 22) dX5_byteAt_21 (v := -1) rfl rfl ?_
    exact V.iret dX5_byteAt_22 rfl ⟨by unfold bcI; rw [if_neg hk9], rfl, rfl⟩
  · have hk9 : k < o.1 := nnle c5 (by omega) (by omega)
    refine V.aload_n (q := 9) dX5_byteAt_8 rfl rfl ?_
    refine V.gM (q := 12) dX5_byteAt_9 (j := 6) rfl bw_1017 rfl rfl rfl rfl ?_
    refine V.iload_n (q := 13) dX5_byteAt_12 rfl rfl ?_
    refine V.ld14 (q := 14) dX5_byteAt_13 (i := k) (by first | rfl | assumption) rfl (by omega) rfl ?_
    rw [hB.2 k hk9]
    refine V.sipush (q := 17) dX5_byteAt_14 (v := 255) rfl rfl ?_
    refine V.iand (q := 18) dX5_byteAt_17 rfl ?_
    rw [bc_m hb hk9]
    refine V.goto (tgt := 22) dX5_byteAt_18 (by decide) ?_
    exact V.iret dX5_byteAt_22 rfl ⟨by unfold bcI; rw [if_pos hk9], rfl, rfl⟩
set_option maxHeartbeats 2000000 in
theorem kU_peek {l : Launch} {G : GG} {σ : St} {o : Txt} (hb : byT o) (ho : o.1 ≤ 500) (hB : MB σ o) {h : Nat} (hh : h ≤ o.1) (hat : sF σ 94 9 = nI h) : CtP l G TX5_peek 1 [.ref (gB G + 94)] σ (fun v τ => v = some (.int (bcI o (spE o h))) ∧ Fr9 σ τ ∧ sF τ 94 9 = nI (spE o h)) := by
  refine CtP.ofV (by decide +kernel) rfl rfl (Nat.le_of_ble_eq_true rfl) ?_
  have loop : ∀ (m : Nat) (k : Nat) (τ : St), m = o.1 - k → k ≤ o.1 → spE o k = spE o h → Fr9 σ τ → sF τ 94 9 = nI k → V l G TX5_peek 1 0 0 (RetP G (fun v τ => v = some (.int (bcI o (spE o h))) ∧ Fr9 σ τ ∧ sF τ 94 9 = nI (spE o h))) 0 0 0 (L0 [.ref (gB G + 94)] TX5_peek.2.2.1) [] (hof G τ) NC := by
    intro m
    induction m using Nat.strongRecOn with
    | _ m ih =>
      intro k τ hm hko hsk hf9 hk
      have hBk := hB.fr hf9.u
      refine V.aload_n (q := 1) dX5_peek_0 rfl rfl ?_
      refine V.aload_n (q := 2) dX5_peek_1 rfl rfl ?_
      refine V.gM (q := 5) dX5_peek_2 (j := 9) rfl bw_1020 rfl rfl rfl rfl ?_
      rw [hk]
      refine V.cVM (q := 8) dX5_peek_5 (As := [_]) rfl (kU_byteAt hb ho hBk (k := k) (by omega)) MX5_byteAt bw_1093 rfl rfl rfl rfl (by decide) rfl ?_
      refine V.bipush (q := 10) dX5_peek_8 (v := 32) rfl rfl ?_
      refine V.icmp_eq (tgt := 39) (q := 13) dX5_peek_10 (by decide) rfl (fun c10 => ?_) (fun c10 => ?_)
      · have q := (bcI_eq (c := 32) hb (by decide)).mp c10
        have hsp : spN (bc o k) = true := by unfold spN; simp [q]
        have hk1 := sc_lt sp9 hsp
        refine V.aload_n (q := 40) dX5_peek_39 rfl rfl ?_
        refine V.dup (q := 41) dX5_peek_40 rfl rfl ?_
        refine V.gM (q := 44) dX5_peek_41 (j := 9) rfl bw_1020 rfl rfl rfl rfl ?_
        rw [hk]
        refine V.iconst (q := 45) dX5_peek_44 (v := 1) rfl rfl ?_
        refine V.iadd (q := 46) dX5_peek_45 rfl ?_
        rw [nI_1]
        refine V.pM (q := 49) dX5_peek_46 (j := 9) rfl bw_1020 rfl rfl rfl rfl rfl rfl ?_
        refine V.goto (tgt := 0) dX5_peek_49 (by decide) ?_
        refine ih _ (by omega) (k + 1) _ rfl (by omega) ?_ (hf9.trans Fr9.f) stF_at
        rw [← hsk]; exact (sc_go sp9 hsp).symm
      · have q1 : ¬ bc o k = 32 := fun z => c10 ((bcI_eq (c := 32) hb (by decide)).mpr z)
        refine V.aload_n (q := 14) dX5_peek_13 rfl rfl ?_
        refine V.aload_n (q := 15) dX5_peek_14 rfl rfl ?_
        refine V.gM (q := 18) dX5_peek_15 (j := 9) rfl bw_1020 rfl rfl rfl rfl ?_
        rw [hk]
        refine V.cVM (q := 21) dX5_peek_18 (As := [_]) rfl (kU_byteAt hb ho hBk (k := k) (by omega)) MX5_byteAt bw_1093 rfl rfl rfl rfl (by decide) rfl ?_
        refine V.bipush (q := 23) dX5_peek_21 (v := 9) rfl rfl ?_
        refine V.icmp_eq (tgt := 39) (q := 26) dX5_peek_23 (by decide) rfl (fun c23 => ?_) (fun c23 => ?_)
        · have q := (bcI_eq (c := 9) hb (by decide)).mp c23
          have hsp : spN (bc o k) = true := by unfold spN; simp [q]
          have hk1 := sc_lt sp9 hsp
          refine V.aload_n (q := 40) dX5_peek_39 rfl rfl ?_
          refine V.dup (q := 41) dX5_peek_40 rfl rfl ?_
          refine V.gM (q := 44) dX5_peek_41 (j := 9) rfl bw_1020 rfl rfl rfl rfl ?_
          rw [hk]
          refine V.iconst (q := 45) dX5_peek_44 (v := 1) rfl rfl ?_
          refine V.iadd (q := 46) dX5_peek_45 rfl ?_
          rw [nI_1]
          refine V.pM (q := 49) dX5_peek_46 (j := 9) rfl bw_1020 rfl rfl rfl rfl rfl rfl ?_
          refine V.goto (tgt := 0) dX5_peek_49 (by decide) ?_
          refine ih _ (by omega) (k + 1) _ rfl (by omega) ?_ (hf9.trans Fr9.f) stF_at
          rw [← hsk]; exact (sc_go sp9 hsp).symm
        · have q2 : ¬ bc o k = 9 := fun z => c23 ((bcI_eq (c := 9) hb (by decide)).mpr z)
          refine V.aload_n (q := 27) dX5_peek_26 rfl rfl ?_
          refine V.aload_n (q := 28) dX5_peek_27 rfl rfl ?_
          refine V.gM (q := 31) dX5_peek_28 (j := 9) rfl bw_1020 rfl rfl rfl rfl ?_
          rw [hk]
          refine V.cVM (q := 34) dX5_peek_31 (As := [_]) rfl (kU_byteAt hb ho hBk (k := k) (by omega)) MX5_byteAt bw_1093 rfl rfl rfl rfl (by decide) rfl ?_
          refine V.bipush (q := 36) dX5_peek_34 (v := 10) rfl rfl ?_
          refine V.icmp_ne (tgt := 52) (q := 39) dX5_peek_36 (by decide) rfl (fun c36 => ?_) (fun c36 => ?_)
          · have q3 : ¬ bc o k = 10 := fun z => c36 ((bcI_eq (c := 10) hb (by decide)).mpr z)
            have hsp : spN (bc o k) = false := by unfold spN; simp [q1, q2, q3]
            have hke : spE o h = k := by rw [← hsk]; exact spE_at hsp
            refine V.aload_n (q := 53) dX5_peek_52 rfl rfl ?_
            refine V.aload_n (q := 54) dX5_peek_53 rfl rfl ?_
            refine V.gM (q := 57) dX5_peek_54 (j := 9) rfl bw_1020 rfl rfl rfl rfl ?_
            rw [hk]
            refine V.cVM (q := 60) dX5_peek_57 (As := [_]) rfl (kU_byteAt hb ho hBk (k := k) (by omega)) MX5_byteAt bw_1093 rfl rfl rfl rfl (by decide) rfl ?_
            exact V.iret dX5_peek_60 rfl ⟨_, _, rfl, rfl, rfl, by rw [hke], hf9, by rw [hke]; exact hk⟩
          · have q := (bcI_eq (c := 10) hb (by decide)).mp c36
            have hsp : spN (bc o k) = true := by unfold spN; simp [q]
            have hk1 := sc_lt sp9 hsp
            refine V.aload_n (q := 40) dX5_peek_39 rfl rfl ?_
            refine V.dup (q := 41) dX5_peek_40 rfl rfl ?_
            refine V.gM (q := 44) dX5_peek_41 (j := 9) rfl bw_1020 rfl rfl rfl rfl ?_
            rw [hk]
            refine V.iconst (q := 45) dX5_peek_44 (v := 1) rfl rfl ?_
            refine V.iadd (q := 46) dX5_peek_45 rfl ?_
            rw [nI_1]
            refine V.pM (q := 49) dX5_peek_46 (j := 9) rfl bw_1020 rfl rfl rfl rfl rfl rfl ?_
            refine V.goto (tgt := 0) dX5_peek_49 (by decide) ?_
            refine ih _ (by omega) (k + 1) _ rfl (by omega) ?_ (hf9.trans Fr9.f) stF_at
            rw [← hsk]; exact (sc_go sp9 hsp).symm
  exact loop _ h σ rfl hh rfl Fr9.rf hat
set_option maxHeartbeats 1000000 in
theorem kU_failed {l : Launch} {G : GG} {σ : St} {o : Txt} {s : PSt} (hM : MOk σ o s) : CtS l G TX5_failed 0 [.ref (gB G + 94)] σ (some (.int 0)) σ := by
  refine CtS.ofV (by decide +kernel) rfl rfl (Nat.le_of_ble_eq_true rfl) ?_
  refine V.aload_n (q := 1) dX5_failed_0 rfl rfl ?_
  refine V.gM (q := 4) dX5_failed_1 (j := 11) rfl bw_1022 rfl rfl rfl rfl ?_
  rw [hM.2.1]
  refine V.if_eq (tgt := 11) (q := 7) dX5_failed_4 (by decide) rfl (fun c4 => ?_) (fun c4 => ?_)
  · refine V.iconst (q := 12) dX5_failed_11 (v := 0) rfl rfl ?_
    exact V.zret (ty := .boolean) rfl dX5_failed_12 rfl ⟨rfl, rfl, rfl⟩
  · exact absurd rfl c4
set_option maxHeartbeats 1000000 in
theorem kU_failedF {l : Launch} {G : GG} {σ : St} {o : Txt} {e : Er} (hM : MFl σ o e) : CtS l G TX5_failed 0 [.ref (gB G + 94)] σ (some (.int 1)) σ := by
  refine CtS.ofV (by decide +kernel) rfl rfl (Nat.le_of_ble_eq_true rfl) ?_
  refine V.aload_n (q := 1) dX5_failed_0 rfl rfl ?_
  refine V.gM (q := 4) dX5_failed_1 (j := 11) rfl bw_1022 rfl rfl rfl rfl ?_
  rw [hM.2.1]
  refine V.if_eq (tgt := 11) (q := 7) dX5_failed_4 (by decide) rfl (fun c4 => ?_) (fun c4 => ?_)
  · exact absurd (neq (b := 0) c4 (by have := hM.2.2.1; omega) (by decide)) (by have := hM.2.2.1; omega)
  · refine V.iconst (q := 8) dX5_failed_7 (v := 1) rfl rfl ?_
    refine V.goto (tgt := 12) dX5_failed_8 (by decide) ?_
    exact V.zret (ty := .boolean) rfl dX5_failed_12 rfl ⟨rfl, rfl, rfl⟩
set_option maxHeartbeats 1000000 in
theorem kU_fail {l : Launch} {G : GG} {σ : St} {o : Txt} {s : PSt} (hM : MOk σ o s) {c p : Int32} : CtS l G TX5_fail 0 [.ref (gB G + 94), .int c, .int p] σ none (stF (stF σ 94 11 c) 94 10 p) := by
  refine CtS.ofV (by decide +kernel) rfl rfl (Nat.le_of_ble_eq_true rfl) ?_
  refine V.aload_n (q := 1) dX5_fail_0 rfl rfl ?_
  refine V.gM (q := 4) dX5_fail_1 (j := 11) rfl bw_1022 rfl rfl rfl rfl ?_
  rw [hM.2.1]
  refine V.if_ne (tgt := 17) (q := 7) dX5_fail_4 (by decide) rfl (fun c4 => ?_) (fun c4 => ?_)
  · exact absurd rfl c4
  · refine V.aload_n (q := 8) dX5_fail_7 rfl rfl ?_
    refine V.iload_n (q := 9) dX5_fail_8 rfl rfl ?_
    refine V.pM (q := 12) dX5_fail_9 (j := 11) rfl bw_1022 rfl rfl rfl rfl rfl rfl ?_
    refine V.aload_n (q := 13) dX5_fail_12 rfl rfl ?_
    refine V.iload_n (q := 14) dX5_fail_13 rfl rfl ?_
    refine V.pM (q := 17) dX5_fail_14 (j := 10) rfl bw_1021 rfl rfl rfl rfl rfl rfl ?_
    exact V.vret dX5_fail_17 rfl ⟨rfl, rfl, rfl⟩
set_option maxHeartbeats 1000000 in
theorem kU_failF {l : Launch} {G : GG} {σ : St} {o : Txt} {e : Er} (hM : MFl σ o e) {c p : Int32} : CtS l G TX5_fail 0 [.ref (gB G + 94), .int c, .int p] σ none σ := by
  refine CtS.ofV (by decide +kernel) rfl rfl (Nat.le_of_ble_eq_true rfl) ?_
  refine V.aload_n (q := 1) dX5_fail_0 rfl rfl ?_
  refine V.gM (q := 4) dX5_fail_1 (j := 11) rfl bw_1022 rfl rfl rfl rfl ?_
  rw [hM.2.1]
  refine V.if_ne (tgt := 17) (q := 7) dX5_fail_4 (by decide) rfl (fun c4 => ?_) (fun c4 => ?_)
  · exact V.vret dX5_fail_17 rfl ⟨rfl, rfl, rfl⟩
  · exact absurd (neq (b := 0) c4 (by have := hM.2.2.1; omega) (by decide)) (by have := hM.2.2.1; omega)
set_option maxHeartbeats 4000000 in
theorem kU_accepts {l : Launch} {G : GG} {σ : St} {o : Txt} (hb : byT o) (ho : o.1 ≤ 500) (hB : MB σ o) {s : PSt} (hM : MOk σ o s) {K j : Nat} (hK : K < 20) (hj : j < ev_ks.length) (hw : wd j = wd (ev_tx.getD K 0)) : CtP l G TX5_accepts 4 [.ref (gB G + 94), .ref (gA G (100 + j))] σ (fun v τ => v = some (.int (bI (decide (kn o s.1 = K)))) ∧ FrU σ τ ∧ (kn o s.1 = K → MOk τ o (nx o s.1, s.2)) ∧ (¬ kn o s.1 = K → MOk τ o s ∧ sF τ 94 9 = nI s.1)) := by
  obtain ⟨⟨h, hh, hat, hsp⟩, hM1, hM2, hM3, hMR⟩ := id hM
  obtain ⟨P, hPe⟩ : ∃ P, s.1 = P := ⟨_, rfl⟩
  rw [hPe] at hsp
  have hPo : P ≤ o.1 := by rw [← hsp]; exact spE_top hh
  have hMP : MOk σ o (P, s.2) := by rw [← hPe]; exact hM
  refine CtP.ofV (by decide +kernel) rfl rfl (Nat.le_of_ble_eq_true rfl) ?_
  refine V.aload_n (q := 1) dX5_accepts_0 rfl rfl ?_
  refine V.cVMP (q := 4) (As := []) dX5_accepts_1 rfl (kU_peek hb ho hB hh hat) MX5_peek bw_1089 rfl rfl rfl rfl (by decide) rfl (fun v1 τ1 h1 => ?_)
  obtain ⟨rfl, hf9, hat⟩ := h1
  rw [hsp] at hat ⊢
  have hB := hB.fr hf9.u
  have hMP9 : MOk τ1 o (P, s.2) := hMP.at hf9 ⟨P, hPo, hat, spE_at (by rw [← hsp]; exact spE_no hh)⟩
  refine V.istore_n (q := 5) dX5_accepts_4 rfl rfl rfl rfl ?_
  refine V.aload_n (q := 6) dX5_accepts_5 rfl rfl ?_
  refine V.gM (q := 9) dX5_accepts_6 (j := 9) rfl bw_1020 rfl rfl rfl rfl ?_
  rw [hat]
  refine V.istore_n (q := 10) dX5_accepts_9 rfl rfl rfl rfl ?_
  have loop3 : ∀ (m : Nat) (i : Nat), m = (wd j).length - i → i ≤ (wd j).length → V l G TX5_accepts 4 0 0 (RetP G (fun v τ => v = some (.int (bI (decide (kn o s.1 = K)))) ∧ FrU σ τ ∧ (kn o s.1 = K → MOk τ o (nx o s.1, s.2)) ∧ (¬ kn o s.1 = K → MOk τ o s ∧ sF τ 94 9 = nI s.1))) 0 0 61 [some (.ref (gB G + 94)), some (.ref (gA G (100 + j))), some (.int (bcI o P)), some (.int (nI (sc leN o P))), some (.int (bI (decide (sc leN o P - P = (wd j).length) && eqs o P (wd j) i))), some (.int (nI i))] [] (hof G τ1) NC := by
    intro m
    induction m using Nat.strongRecOn with
    | _ m ih =>
      intro i hm hi9
      refine V.iload (q := 63) dX5_accepts_61 rfl rfl ?_
      refine V.aload_n (q := 64) dX5_accepts_63 rfl rfl ?_
      refine V.cO (q := 67) dX5_accepts_64 (As := []) rfl (kJ_length hj) MJ_length bw_1104 (ob_str hj) rfl rfl (by decide) rfl ?_
      refine V.icmp_ge (tgt := 108) (q := 70) dX5_accepts_67 (by decide) rfl (fun c67 => ?_) (fun c67 => ?_)
      · have hie : i = (wd j).length := Nat.le_antisymm hi9 (nle (a := (wd j).length) (b := i) c67 (by have := (wd_len j hj).1; omega) (by have := (wd_len j hj).1; omega))
        refine V.iload (q := 110) dX5_accepts_108 rfl rfl ?_
        refine V.if_eq (tgt := 126) (q := 113) dX5_accepts_110 (by decide) rfl (fun c110 => ?_) (fun c110 => ?_)
        · rw [hie] at c110
          have hz : decide (kn o P = K) = false := by rw [← acc_iff hK, ← hw]; exact bI0.mp c110
          refine V.iload (q := 128) dX5_accepts_126 rfl rfl ?_
          exact V.zret (ty := .boolean) (bI_z _) dX5_accepts_128 rfl ⟨_, _, rfl, rfl, rfl, by rw [hie, hw, acc_iff hK, hPe], hf9.u, fun z => absurd (by rw [← hPe]; exact z) (of_decide_eq_false hz), fun _ => ⟨by rw [show s = (P, s.2) from by rw [← hPe]]; exact hMP9, by rw [hPe]; exact hat⟩⟩
        · rw [hie] at c110
          have hz : decide (kn o P = K) = true := by rw [← acc_iff hK, ← hw]; exact bI1.mp c110
          have hkK := of_decide_eq_true hz
          have hlen : (wd j).length = nen o P - P := by
            have h9 := bI1.mp c110
            simp only [Bool.and_eq_true, decide_eq_true_eq] at h9
            rw [kn_nen (by rw [hkK]; exact hK)]; exact h9.1.symm
          have hgt := nen_gt (o := o) (s := P)
          have hPl : P < o.1 := kn_lt (by rw [hkK]; omega)
          refine V.aload_n (q := 114) dX5_accepts_113 rfl rfl ?_
          refine V.dup (q := 115) dX5_accepts_114 rfl rfl ?_
          refine V.gM (q := 118) dX5_accepts_115 (j := 9) rfl bw_1020 rfl rfl rfl rfl ?_
          rw [hat]
          refine V.aload_n (q := 119) dX5_accepts_118 rfl rfl ?_
          refine V.cO (q := 122) dX5_accepts_119 (As := []) rfl (kJ_length hj) MJ_length bw_1104 (ob_str hj) rfl rfl (by decide) rfl ?_
          refine V.iadd (q := 123) dX5_accepts_122 rfl ?_
          rw [nI_add]
          refine V.pM (q := 126) dX5_accepts_123 (j := 9) rfl bw_1020 rfl rfl rfl rfl rfl rfl ?_
          refine V.iload (q := 128) dX5_accepts_126 rfl rfl ?_
          exact V.zret (ty := .boolean) (bI_z _) dX5_accepts_128 rfl ⟨_, _, rfl, rfl, rfl, by rw [hie, hw, acc_iff hK, hPe], hf9.u.trans Fr9.f.u, fun _ => by rw [hPe]; exact hMP9.at (τ := _) Fr9.f (MAt.set (nen_top hPl) (by rw [hlen]; congr 1; omega)), fun z => absurd (by rw [hPe]; exact hkK) z⟩
      · have hil : i < (wd j).length := nnle (a := (wd j).length) (b := i) c67 (by have := (wd_len j hj).1; omega) (by have := (wd_len j hj).1; omega)
        refine V.iload (q := 72) dX5_accepts_70 rfl rfl ?_
        refine V.if_eq (tgt := 108) (q := 75) dX5_accepts_72 (by decide) rfl (fun c72 => ?_) (fun c72 => ?_)
        · have hfin : (decide (sc leN o P - P = (wd j).length) && eqs o P (wd j) i) = false := bI0.mp c72
          have hall : (decide (sc leN o P - P = (wd j).length) && eqs o P (wd j) (wd j).length) = false := by
            apply Bool.eq_false_iff.mpr
            intro z
            simp only [Bool.and_eq_true, decide_eq_true_eq] at z
            apply Bool.eq_false_iff.mp hfin
            simp only [Bool.and_eq_true, decide_eq_true_eq]
            exact ⟨z.1, eqs_iff.mpr (fun q hq => eqs_iff.mp z.2 q (by omega))⟩
          refine V.iload (q := 110) dX5_accepts_108 rfl rfl ?_
          refine V.if_eq (tgt := 126) (q := 113) dX5_accepts_110 (by decide) rfl (fun c110 => ?_) (fun c110 => ?_)
          · have hz : decide (kn o P = K) = false := by rw [← acc_iff hK, ← hw]; exact hall
            refine V.iload (q := 128) dX5_accepts_126 rfl rfl ?_
            exact V.zret (ty := .boolean) (bI_z _) dX5_accepts_128 rfl ⟨_, _, rfl, rfl, rfl, by rw [hPe, hz]; rw [hfin], hf9.u, fun z => absurd (by rw [← hPe]; exact z) (of_decide_eq_false hz), fun _ => ⟨by rw [show s = (P, s.2) from by rw [← hPe]]; exact hMP9, by rw [hPe]; exact hat⟩⟩
          · exact absurd ((bI1.mp c110).symm.trans hfin) (by decide)
        · have hcur := bI1.mp c72
          simp only [Bool.and_eq_true, decide_eq_true_eq] at hcur
          have hE9 := sc_top (p := leN) hPo
          have hlt : P + i < o.1 := by omega
          have hcw := bcI_w (k := P + i) hb hj hil hlt
          refine V.aload_n (q := 76) dX5_accepts_75 rfl rfl ?_
          refine V.aload_n (q := 77) dX5_accepts_76 rfl rfl ?_
          refine V.gM (q := 80) dX5_accepts_77 (j := 9) rfl bw_1020 rfl rfl rfl rfl ?_
          rw [hat]
          refine V.iload (q := 82) dX5_accepts_80 rfl rfl ?_
          refine V.iadd (q := 83) dX5_accepts_82 rfl ?_
          rw [nI_add]
          refine V.cVM (q := 86) dX5_accepts_83 (As := [_]) rfl (kU_byteAt hb ho hB (k := (P + i)) (by omega)) MX5_byteAt bw_1093 rfl rfl rfl rfl (by decide) rfl ?_
          refine V.aload_n (q := 87) dX5_accepts_86 rfl rfl ?_
          refine V.iload (q := 89) dX5_accepts_87 rfl rfl ?_
          refine V.cO (q := 92) dX5_accepts_89 (As := [_]) rfl (kJ_charAt hj hil) MJ_charAt bw_1105 (ob_str hj) rfl rfl (by decide) rfl ?_
          refine V.icmp_ne (tgt := 99) (q := 95) dX5_accepts_92 (by decide) rfl (fun c92 => ?_) (fun c92 => ?_)
          · refine V.iconst (q := 100) dX5_accepts_99 (v := 0) rfl rfl ?_
            refine V.istore (q := 102) dX5_accepts_100 rfl rfl rfl ?_
            refine V.iinc (q := 105) dX5_accepts_102 rfl (by first | exact nI_inc _ | rfl) rfl rfl rfl ?_
            refine V.goto (tgt := 61) dX5_accepts_105 (by decide) ?_
            have hn : (decide (sc leN o P - P = (wd j).length) && eqs o P (wd j) (i + 1)) = false := by
              show (decide (sc leN o P - P = (wd j).length) && (eqs o P (wd j) i && decide (o.2 (P + i) = (wd j).getD i 0))) = false
              rw [hcur.2, decide_eq_true hcur.1]
              exact decide_eq_false (fun z => c92 (hcw.mpr z))
            refine V.to (L2 := [some (.ref (gB G + 94)), some (.ref (gA G (100 + j))), some (.int (bcI o P)), some (.int (nI (sc leN o P))), some (.int (bI (decide (sc leN o P - P = (wd j).length) && eqs o P (wd j) (i + 1)))), some (.int (nI (i + 1)))]) ?_ rfl rfl rfl (ih _ (by omega) (i + 1) rfl (by omega))
            rw [hn]; rfl
          · refine V.iconst (q := 96) dX5_accepts_95 (v := 1) rfl rfl ?_
            refine V.goto (tgt := 100) dX5_accepts_96 (by decide) ?_
            refine V.istore (q := 102) dX5_accepts_100 rfl rfl rfl ?_
            refine V.iinc (q := 105) dX5_accepts_102 rfl (by first | exact nI_inc _ | rfl) rfl rfl rfl ?_
            refine V.goto (tgt := 61) dX5_accepts_105 (by decide) ?_
            have hn : (decide (sc leN o P - P = (wd j).length) && eqs o P (wd j) (i + 1)) = true := by
              show (decide (sc leN o P - P = (wd j).length) && (eqs o P (wd j) i && decide (o.2 (P + i) = (wd j).getD i 0))) = true
              rw [hcur.2, decide_eq_true hcur.1]
              exact decide_eq_true (hcw.mp c92)
            refine V.to (L2 := [some (.ref (gB G + 94)), some (.ref (gA G (100 + j))), some (.int (bcI o P)), some (.int (nI (sc leN o P))), some (.int (bI (decide (sc leN o P - P = (wd j).length) && eqs o P (wd j) (i + 1)))), some (.int (nI (i + 1)))]) ?_ rfl rfl rfl (ih _ (by omega) (i + 1) rfl (by omega))
            rw [hn]; rfl
  have loop2 : ∀ (m : Nat) (k : Nat) (L4 L5 : Option Value), m = o.1 - k → P ≤ k → k ≤ o.1 → sc leN o k = sc leN o P → V l G TX5_accepts 4 0 0 (RetP G (fun v τ => v = some (.int (bI (decide (kn o s.1 = K)))) ∧ FrU σ τ ∧ (kn o s.1 = K → MOk τ o (nx o s.1, s.2)) ∧ (¬ kn o s.1 = K → MOk τ o s ∧ sF τ 94 9 = nI s.1))) 0 0 10 [some (.ref (gB G + 94)), some (.ref (gA G (100 + j))), some (.int (bcI o P)), some (.int (nI k)), L4, L5] [] (hof G τ1) NC := by
    intro m
    induction m using Nat.strongRecOn with
    | _ m ih =>
      intro k L4 L5 hm hPk hko hsk
      refine V.aload_n (q := 11) dX5_accepts_10 rfl rfl ?_
      refine V.iload_n (q := 12) dX5_accepts_11 rfl rfl ?_
      refine V.cVM (q := 15) dX5_accepts_12 (As := [_]) rfl (kU_byteAt hb ho hB (k := k) (by omega)) MX5_byteAt bw_1093 rfl rfl rfl rfl (by decide) rfl ?_
      refine V.bipush (q := 17) dX5_accepts_15 (v := 97) rfl rfl ?_
      refine V.bipush (q := 19) dX5_accepts_17 (v := 122) rfl rfl ?_
      refine V.cSt (q := 22) dX5_accepts_19 (As := [_, _, _]) rfl cM_inRange MX5_inRange bw_1097 rfl rfl (by decide) rfl ?_
      rw [show (decide ((97 : Int32) ≤ bcI o k) && decide (bcI o k ≤ 122)) = leN (bc o k) from bcI_rng (a := 97) (b := 122) hb (by decide) (by decide)]
      refine V.if_eq (tgt := 31) (q := 25) dX5_accepts_22 (by decide) rfl (fun c22 => ?_) (fun c22 => ?_)
      · have hl0 := bI0.mp c22
        have hke : k = sc leN o P := by rw [← hsk]; exact (sc_no hl0).symm
        refine V.aload_n (q := 32) dX5_accepts_31 rfl rfl ?_
        refine V.cVM (q := 35) dX5_accepts_32 (As := []) rfl (kU_failed hMP9) MX5_failed bw_1100 rfl rfl rfl rfl (by decide) rfl ?_
        refine V.if_ne (tgt := 55) (q := 38) dX5_accepts_35 (by decide) rfl (fun c35 => ?_) (fun c35 => ?_)
        · exact absurd rfl c35
        · refine V.iload_n (q := 39) dX5_accepts_38 rfl rfl ?_
          refine V.aload_n (q := 40) dX5_accepts_39 rfl rfl ?_
          refine V.gM (q := 43) dX5_accepts_40 (j := 9) rfl bw_1020 rfl rfl rfl rfl ?_
          rw [hat]
          refine V.isub (q := 44) dX5_accepts_43 rfl ?_
          rw [show nI k - nI P = nI (k - P) from pk_sub (by omega)]
          refine V.aload_n (q := 45) dX5_accepts_44 rfl rfl ?_
          refine V.cO (q := 48) dX5_accepts_45 (As := []) rfl (kJ_length hj) MJ_length bw_1104 (ob_str hj) rfl rfl (by decide) rfl ?_
          refine V.icmp_ne (tgt := 55) (q := 51) dX5_accepts_48 (by decide) rfl (fun c48 => ?_) (fun c48 => ?_)
          · have hle : ¬ k - P = (wd j).length := fun z => c48 (by rw [z])
            refine V.iconst (q := 56) dX5_accepts_55 (v := 0) rfl rfl ?_
            refine V.istore (q := 58) dX5_accepts_56 rfl rfl rfl ?_
            refine V.iconst (q := 59) dX5_accepts_58 (v := 0) rfl rfl ?_
            refine V.istore (q := 61) dX5_accepts_59 rfl rfl rfl ?_
            have h61 : (decide (sc leN o P - P = (wd j).length) && eqs o P (wd j) 0) = false := by
              show (decide (sc leN o P - P = (wd j).length) && true) = false
              rw [Bool.and_true, ← hke]; exact decide_eq_false hle
            refine V.to (L2 := [some (.ref (gB G + 94)), some (.ref (gA G (100 + j))), some (.int (bcI o P)), some (.int (nI (sc leN o P))), some (.int (bI (decide (sc leN o P - P = (wd j).length) && eqs o P (wd j) 0))), some (.int (nI 0))]) ?_ rfl rfl rfl (loop3 _ 0 rfl (Nat.zero_le _))
            rw [h61, ← hke]; rfl
          · have hle : k - P = (wd j).length := neq c48 (by omega) (by have := (wd_len j hj).1; omega)
            refine V.iconst (q := 52) dX5_accepts_51 (v := 1) rfl rfl ?_
            refine V.goto (tgt := 56) dX5_accepts_52 (by decide) ?_
            refine V.istore (q := 58) dX5_accepts_56 rfl rfl rfl ?_
            refine V.iconst (q := 59) dX5_accepts_58 (v := 0) rfl rfl ?_
            refine V.istore (q := 61) dX5_accepts_59 rfl rfl rfl ?_
            have h61 : (decide (sc leN o P - P = (wd j).length) && eqs o P (wd j) 0) = true := by
              show (decide (sc leN o P - P = (wd j).length) && true) = true
              rw [Bool.and_true, ← hke]; exact decide_eq_true hle
            refine V.to (L2 := [some (.ref (gB G + 94)), some (.ref (gA G (100 + j))), some (.int (bcI o P)), some (.int (nI (sc leN o P))), some (.int (bI (decide (sc leN o P - P = (wd j).length) && eqs o P (wd j) 0))), some (.int (nI 0))]) ?_ rfl rfl rfl (loop3 _ 0 rfl (Nat.zero_le _))
            rw [h61, ← hke]; rfl
      · have hl1 := bI1.mp c22
        have hko1 := sc_lt le9 hl1
        refine V.iinc (q := 28) dX5_accepts_25 rfl (by first | exact nI_inc _ | rfl) rfl rfl rfl ?_
        refine V.goto (tgt := 10) dX5_accepts_28 (by decide) ?_
        refine ih _ (by omega) (k + 1) L4 L5 rfl (by omega) (by omega) ?_
        rw [← hsk]; exact (sc_go le9 hl1).symm
  exact loop2 _ P none none rfl (Nat.le_refl _) hPo rfl
set_option maxHeartbeats 4000000 in
theorem kU_acceptsF {l : Launch} {G : GG} {σ : St} {o : Txt} (hb : byT o) (ho : o.1 ≤ 500) (hB : MB σ o) {e : Er} (hM : MFl σ o e) {j : Nat} (hj : j < ev_ks.length) : CtP l G TX5_accepts 4 [.ref (gB G + 94), .ref (gA G (100 + j))] σ (fun v τ => v = some (.int 0) ∧ FrU σ τ ∧ MFl τ o e) := by
  obtain ⟨⟨h, hh, hat⟩, hM1, hM2, hM3⟩ := id hM
  generalize hsp : spE o h = P
  have hPo : P ≤ o.1 := by rw [← hsp]; exact spE_top hh
  refine CtP.ofV (by decide +kernel) rfl rfl (Nat.le_of_ble_eq_true rfl) ?_
  refine V.aload_n (q := 1) dX5_accepts_0 rfl rfl ?_
  refine V.cVMP (q := 4) (As := []) dX5_accepts_1 rfl (kU_peek hb ho hB hh hat) MX5_peek bw_1089 rfl rfl rfl rfl (by decide) rfl (fun v1 τ1 h1 => ?_)
  obtain ⟨rfl, hf9, hat⟩ := h1
  rw [hsp] at hat ⊢
  have hB := hB.fr hf9.u
  have hM9 : MFl τ1 o e := hM.at hf9 ⟨P, hPo, hat⟩
  refine V.istore_n (q := 5) dX5_accepts_4 rfl rfl rfl rfl ?_
  refine V.aload_n (q := 6) dX5_accepts_5 rfl rfl ?_
  refine V.gM (q := 9) dX5_accepts_6 (j := 9) rfl bw_1020 rfl rfl rfl rfl ?_
  rw [hat]
  refine V.istore_n (q := 10) dX5_accepts_9 rfl rfl rfl rfl ?_
  have loop2 : ∀ (m : Nat) (k : Nat) (L4 L5 : Option Value), m = o.1 - k → P ≤ k → k ≤ o.1 → sc leN o k = sc leN o P → V l G TX5_accepts 4 0 0 (RetP G (fun v τ => v = some (.int 0) ∧ FrU σ τ ∧ MFl τ o e)) 0 0 10 [some (.ref (gB G + 94)), some (.ref (gA G (100 + j))), some (.int (bcI o P)), some (.int (nI k)), L4, L5] [] (hof G τ1) NC := by
    intro m
    induction m using Nat.strongRecOn with
    | _ m ih =>
      intro k L4 L5 hm hPk hko hsk
      refine V.aload_n (q := 11) dX5_accepts_10 rfl rfl ?_
      refine V.iload_n (q := 12) dX5_accepts_11 rfl rfl ?_
      refine V.cVM (q := 15) dX5_accepts_12 (As := [_]) rfl (kU_byteAt hb ho hB (k := k) (by omega)) MX5_byteAt bw_1093 rfl rfl rfl rfl (by decide) rfl ?_
      refine V.bipush (q := 17) dX5_accepts_15 (v := 97) rfl rfl ?_
      refine V.bipush (q := 19) dX5_accepts_17 (v := 122) rfl rfl ?_
      refine V.cSt (q := 22) dX5_accepts_19 (As := [_, _, _]) rfl cM_inRange MX5_inRange bw_1097 rfl rfl (by decide) rfl ?_
      rw [show (decide ((97 : Int32) ≤ bcI o k) && decide (bcI o k ≤ 122)) = leN (bc o k) from bcI_rng (a := 97) (b := 122) hb (by decide) (by decide)]
      refine V.if_eq (tgt := 31) (q := 25) dX5_accepts_22 (by decide) rfl (fun c22 => ?_) (fun c22 => ?_)
      · have hl0 := bI0.mp c22
        have hke : k = sc leN o P := by rw [← hsk]; exact (sc_no hl0).symm
        refine V.aload_n (q := 32) dX5_accepts_31 rfl rfl ?_
        refine V.cVM (q := 35) dX5_accepts_32 (As := []) rfl (kU_failedF hM9) MX5_failed bw_1100 rfl rfl rfl rfl (by decide) rfl ?_
        refine V.if_ne (tgt := 55) (q := 38) dX5_accepts_35 (by decide) rfl (fun c35 => ?_) (fun c35 => ?_)
        · refine V.iconst (q := 56) dX5_accepts_55 (v := 0) rfl rfl ?_
          refine V.istore (q := 58) dX5_accepts_56 rfl rfl rfl ?_
          refine V.iconst (q := 59) dX5_accepts_58 (v := 0) rfl rfl ?_
          refine V.istore (q := 61) dX5_accepts_59 rfl rfl rfl ?_
          refine V.iload (q := 63) dX5_accepts_61 rfl rfl ?_
          refine V.aload_n (q := 64) dX5_accepts_63 rfl rfl ?_
          refine V.cO (q := 67) dX5_accepts_64 (As := []) rfl (kJ_length hj) MJ_length bw_1104 (ob_str hj) rfl rfl (by decide) rfl ?_
          refine V.icmp_ge (tgt := 108) (q := 70) dX5_accepts_67 (by decide) rfl (fun c67 => ?_) (fun c67 => ?_)
          · refine V.iload (q := 110) dX5_accepts_108 rfl rfl ?_
            refine V.if_eq (tgt := 126) (q := 113) dX5_accepts_110 (by decide) rfl (fun c110 => ?_) (fun c110 => ?_)
            · refine V.iload (q := 128) dX5_accepts_126 rfl rfl ?_
              exact V.zret (ty := .boolean) rfl dX5_accepts_128 rfl ⟨_, _, rfl, rfl, rfl, rfl, hf9.u, hM9⟩
            · exact absurd rfl c110
          · refine V.iload (q := 72) dX5_accepts_70 rfl rfl ?_
            refine V.if_eq (tgt := 108) (q := 75) dX5_accepts_72 (by decide) rfl (fun c72 => ?_) (fun c72 => ?_)
            · refine V.iload (q := 110) dX5_accepts_108 rfl rfl ?_
              refine V.if_eq (tgt := 126) (q := 113) dX5_accepts_110 (by decide) rfl (fun c110 => ?_) (fun c110 => ?_)
              · refine V.iload (q := 128) dX5_accepts_126 rfl rfl ?_
                exact V.zret (ty := .boolean) rfl dX5_accepts_128 rfl ⟨_, _, rfl, rfl, rfl, rfl, hf9.u, hM9⟩
              · exact absurd rfl c110
            · exact absurd rfl c72
        · exact absurd c35 (by decide)
      · have hl1 := bI1.mp c22
        have hko1 := sc_lt le9 hl1
        refine V.iinc (q := 28) dX5_accepts_25 rfl (by first | exact nI_inc _ | rfl) rfl rfl rfl ?_
        refine V.goto (tgt := 10) dX5_accepts_28 (by decide) ?_
        refine ih _ (by omega) (k + 1) L4 L5 rfl (by omega) (by omega) ?_
        rw [← hsk]; exact (sc_go le9 hl1).symm
  exact loop2 _ P none none rfl (Nat.le_refl _) hPo rfl
