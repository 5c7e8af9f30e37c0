/-! the model brings slots back; output; input -/
set_option maxHeartbeats 2000000 in
theorem kM_restore0 {l : Launch} {G : GG} {σ : St} {u : Vw} (hM : RM σ u) {b : Nat → Bool} {v : Nat → Vw} (hS : MS σ b v) {r : Nat} {hv : Nat → Vw} (hH : Hist σ r hv) : CtP l G TX5_restore 1 [.ref (gB G + 94), .int 0] σ (fun w τ => w = some (.int (if b 0 = true then us (v 0) 3 else 0)) ∧ FrMC σ τ ∧ (b 0 = true → Hist τ 0 hv ∧ RM τ (v 0)) ∧ (b 0 = false → Hist τ r hv ∧ RM τ u) ∧ thr τ = if b 0 = true then 0 else 2) := by
  have hn : un u ≤ 40 := hM.1
  refine CtP.ofV (by decide +kernel) rfl rfl (Nat.le_of_ble_eq_true rfl) ?_
  refine V.aload_n (q := 1) dX5_restore_0 rfl rfl ?_
  refine V.iconst (q := 2) dX5_restore_1 (v := 0) rfl rfl ?_
  refine V.pM (q := 5) dX5_restore_2 (j := 0) rfl bw_1011 rfl rfl rfl rfl rfl rfl ?_
  have hM : RM (stF σ 94 0 0) u := hM.scF
  have hS : MS (stF σ 94 0 0) b v := hS.z
  have hH : Hist (stF σ 94 0 0) r hv := hH.z
  refine V.aload_n (q := 6) dX5_restore_5 rfl rfl ?_
  refine V.iload_n (q := 7) dX5_restore_6 rfl rfl ?_
  refine V.iconst (q := 8) dX5_restore_7 (v := 0) rfl rfl ?_
  refine V.iconst (q := 9) dX5_restore_8 (v := 1) rfl rfl ?_
  refine V.cSt (q := 12) dX5_restore_9 (As := [_, _, _]) rfl cM_inRange MX5_inRange bw_1097 rfl rfl (by decide) rfl ?_
  refine V.if_ne (tgt := 19) (q := 15) dX5_restore_12 (by decide) rfl (fun c12 => ?_) (fun c12 => ?_)
  · refine V.iconst (q := 20) dX5_restore_19 (v := 0) rfl rfl ?_
    refine V.iconst (q := 21) dX5_restore_20 (v := 1) rfl rfl ?_
    refine V.cVMP (q := 24) (As := [_, _]) dX5_restore_21 rfl (kM_fails_false) MX5_fails bw_1351 rfl rfl rfl rfl (by decide) rfl (fun v1 τ1 h1 => ?_)
    obtain ⟨rfl, rfl⟩ := h1
    refine V.if_ne (tgt := 66) (q := 27) dX5_restore_24 (by decide) rfl (fun c24 => ?_) (fun c24 => ?_)
    · exact absurd rfl c24
    · refine V.aload_n (q := 28) dX5_restore_27 rfl rfl ?_
      refine V.iload_n (q := 29) dX5_restore_28 rfl rfl ?_
      refine V.if_ne (tgt := 47) (q := 32) dX5_restore_29 (by decide) rfl (fun c29 => ?_) (fun c29 => ?_)
      · exact absurd rfl c29
      · refine V.aload_n (q := 33) dX5_restore_32 rfl rfl ?_
        refine V.gM (q := 36) dX5_restore_33 (j := 4) rfl bw_1015 rfl rfl rfl rfl ?_
        rw [hS.1]
        refine V.if_ne (tgt := 43) (q := 39) dX5_restore_36 (by decide) rfl (fun c36 => ?_) (fun c36 => ?_)
        · have g : b 0 = true := bI1.mp c36
          refine V.iconst (q := 44) dX5_restore_43 (v := 0) rfl rfl ?_
          refine V.goto (tgt := 59) dX5_restore_44 (by decide) ?_
          refine V.iconst (q := 60) dX5_restore_59 (v := 2) rfl rfl ?_
          refine V.cVMP (q := 63) (As := [_, _]) dX5_restore_60 rfl (kM_fails_false) MX5_fails bw_1351 rfl rfl rfl rfl (by decide) rfl (fun v1 τ1 h1 => ?_)
          obtain ⟨rfl, rfl⟩ := h1
          refine V.if_eq (tgt := 68) (q := 66) dX5_restore_63 (by decide) rfl (fun c63 => ?_) (fun c63 => ?_)
          · refine V.aload_n (q := 69) dX5_restore_68 rfl rfl ?_
            refine V.bipush (q := 71) dX5_restore_69 (v := 8) rfl rfl ?_
            refine V.iload_n (q := 72) dX5_restore_71 rfl rfl ?_
            refine V.iadd (q := 73) dX5_restore_72 rfl ?_
            rw [show (8 : Int32) + 0 = nI 8 from rfl]
            refine V.cVMP (q := 76) (As := [_]) dX5_restore_73 rfl (cM_bringsBack (pl := 8) (by decide)) MX5_bringsBack bw_1291 rfl rfl rfl rfl (by decide) rfl (fun v5 τ5 h5 => ?_)
            obtain ⟨rfl, hB⟩ := h5
            have hM := hB.at (hS.2.2 0 (by decide) g)
            refine V.aload_n (q := 77) dX5_restore_76 rfl rfl ?_
            refine V.iconst (q := 78) dX5_restore_77 (v := 0) rfl rfl ?_
            refine V.pM (q := 81) dX5_restore_78 (j := 3) rfl bw_1014 rfl rfl rfl rfl rfl rfl ?_
            have hM2 := hM
            have hM : RM (stF τ5 94 3 0) (v 0) := hM.scF
            refine V.aload_n (q := 82) dX5_restore_81 rfl rfl ?_
            refine V.gM (q := 85) dX5_restore_82 (j := 1) rfl bw_1012 rfl rfl rfl rfl ?_
            refine V.iconst (q := 86) dX5_restore_85 (v := 3) rfl rfl ?_
            refine V.ldMu (q := 87) 3 dX5_restore_86 hM rfl rfl rfl ?_
            exact V.iret dX5_restore_87 rfl ⟨_, _, rfl, rfl, rfl, by rw [if_pos g], (FrX.z.mc.trans hB.x.mc).trans FrMC.len, fun _ => ⟨⟨(up2_at : up2 (sF τ5) 94 3 0 94 3 = 0), by decide, fun i hi => absurd hi (Nat.not_lt_zero i)⟩, hM⟩, fun z => by (rw [g] at z; cases z), by rw [if_pos g]; exact ((up2_in (by decide) : up2 (sF τ5) 94 3 0 94 0 = sF τ5 94 0)).trans (hB.1.thr.trans thr_z)⟩
          · exact absurd rfl c63
        · have g : b 0 = false := bI0.mp c36
          refine V.iconst (q := 40) dX5_restore_39 (v := 1) rfl rfl ?_
          refine V.goto (tgt := 59) dX5_restore_40 (by decide) ?_
          refine V.iconst (q := 60) dX5_restore_59 (v := 2) rfl rfl ?_
          refine V.cVMP (q := 63) (As := [_, _]) dX5_restore_60 rfl (kM_fails_true) MX5_fails bw_1351 rfl rfl rfl rfl (by decide) rfl (fun v1 τ1 h1 => ?_)
          obtain ⟨rfl, rfl⟩ := h1
          refine V.if_eq (tgt := 68) (q := 66) dX5_restore_63 (by decide) rfl (fun c63 => ?_) (fun c63 => ?_)
          · exact absurd c63 (by decide)
          · refine V.iconst (q := 67) dX5_restore_66 (v := 0) rfl rfl ?_
            exact V.iret dX5_restore_67 rfl ⟨_, _, rfl, rfl, rfl, by rw [g]; rfl, (FrX.z.trans FrX.z).mc, fun z => by (rw [g] at z; cases z), fun _ => ⟨hH.z, hM.scF⟩, by rw [g]; exact thr_z⟩
  · exact absurd c12 (by decide)
set_option maxHeartbeats 2000000 in
theorem kM_restore1 {l : Launch} {G : GG} {σ : St} {u : Vw} (hM : RM σ u) {b : Nat → Bool} {v : Nat → Vw} (hS : MS σ b v) {r : Nat} {hv : Nat → Vw} (hH : Hist σ r hv) : CtP l G TX5_restore 1 [.ref (gB G + 94), .int 1] σ (fun w τ => w = some (.int (if b 1 = true then us (v 1) 3 else 0)) ∧ FrMC σ τ ∧ (b 1 = true → Hist τ 0 hv ∧ RM τ (v 1)) ∧ (b 1 = false → Hist τ r hv ∧ RM τ u) ∧ thr τ = if b 1 = true then 0 else 2) := by
  have hn : un u ≤ 40 := hM.1
  refine CtP.ofV (by decide +kernel) rfl rfl (Nat.le_of_ble_eq_true rfl) ?_
  refine V.aload_n (q := 1) dX5_restore_0 rfl rfl ?_
  refine V.iconst (q := 2) dX5_restore_1 (v := 0) rfl rfl ?_
  refine V.pM (q := 5) dX5_restore_2 (j := 0) rfl bw_1011 rfl rfl rfl rfl rfl rfl ?_
  have hM : RM (stF σ 94 0 0) u := hM.scF
  have hS : MS (stF σ 94 0 0) b v := hS.z
  have hH : Hist (stF σ 94 0 0) r hv := hH.z
  refine V.aload_n (q := 6) dX5_restore_5 rfl rfl ?_
  refine V.iload_n (q := 7) dX5_restore_6 rfl rfl ?_
  refine V.iconst (q := 8) dX5_restore_7 (v := 0) rfl rfl ?_
  refine V.iconst (q := 9) dX5_restore_8 (v := 1) rfl rfl ?_
  refine V.cSt (q := 12) dX5_restore_9 (As := [_, _, _]) rfl cM_inRange MX5_inRange bw_1097 rfl rfl (by decide) rfl ?_
  refine V.if_ne (tgt := 19) (q := 15) dX5_restore_12 (by decide) rfl (fun c12 => ?_) (fun c12 => ?_)
  · refine V.iconst (q := 20) dX5_restore_19 (v := 0) rfl rfl ?_
    refine V.iconst (q := 21) dX5_restore_20 (v := 1) rfl rfl ?_
    refine V.cVMP (q := 24) (As := [_, _]) dX5_restore_21 rfl (kM_fails_false) MX5_fails bw_1351 rfl rfl rfl rfl (by decide) rfl (fun v1 τ1 h1 => ?_)
    obtain ⟨rfl, rfl⟩ := h1
    refine V.if_ne (tgt := 66) (q := 27) dX5_restore_24 (by decide) rfl (fun c24 => ?_) (fun c24 => ?_)
    · exact absurd rfl c24
    · refine V.aload_n (q := 28) dX5_restore_27 rfl rfl ?_
      refine V.iload_n (q := 29) dX5_restore_28 rfl rfl ?_
      refine V.if_ne (tgt := 47) (q := 32) dX5_restore_29 (by decide) rfl (fun c29 => ?_) (fun c29 => ?_)
      · refine V.aload_n (q := 48) dX5_restore_47 rfl rfl ?_
        refine V.gM (q := 51) dX5_restore_48 (j := 5) rfl bw_1016 rfl rfl rfl rfl ?_
        rw [hS.2.1]
        refine V.if_ne (tgt := 58) (q := 54) dX5_restore_51 (by decide) rfl (fun c51 => ?_) (fun c51 => ?_)
        · have g : b 1 = true := bI1.mp c51
          refine V.iconst (q := 59) dX5_restore_58 (v := 0) rfl rfl ?_
          refine V.iconst (q := 60) dX5_restore_59 (v := 2) rfl rfl ?_
          refine V.cVMP (q := 63) (As := [_, _]) dX5_restore_60 rfl (kM_fails_false) MX5_fails bw_1351 rfl rfl rfl rfl (by decide) rfl (fun v1 τ1 h1 => ?_)
          obtain ⟨rfl, rfl⟩ := h1
          refine V.if_eq (tgt := 68) (q := 66) dX5_restore_63 (by decide) rfl (fun c63 => ?_) (fun c63 => ?_)
          · refine V.aload_n (q := 69) dX5_restore_68 rfl rfl ?_
            refine V.bipush (q := 71) dX5_restore_69 (v := 8) rfl rfl ?_
            refine V.iload_n (q := 72) dX5_restore_71 rfl rfl ?_
            refine V.iadd (q := 73) dX5_restore_72 rfl ?_
            rw [show (8 : Int32) + 1 = nI 9 from rfl]
            refine V.cVMP (q := 76) (As := [_]) dX5_restore_73 rfl (cM_bringsBack (pl := 9) (by decide)) MX5_bringsBack bw_1291 rfl rfl rfl rfl (by decide) rfl (fun v5 τ5 h5 => ?_)
            obtain ⟨rfl, hB⟩ := h5
            have hM := hB.at (hS.2.2 1 (by decide) g)
            refine V.aload_n (q := 77) dX5_restore_76 rfl rfl ?_
            refine V.iconst (q := 78) dX5_restore_77 (v := 0) rfl rfl ?_
            refine V.pM (q := 81) dX5_restore_78 (j := 3) rfl bw_1014 rfl rfl rfl rfl rfl rfl ?_
            have hM2 := hM
            have hM : RM (stF τ5 94 3 0) (v 1) := hM.scF
            refine V.aload_n (q := 82) dX5_restore_81 rfl rfl ?_
            refine V.gM (q := 85) dX5_restore_82 (j := 1) rfl bw_1012 rfl rfl rfl rfl ?_
            refine V.iconst (q := 86) dX5_restore_85 (v := 3) rfl rfl ?_
            refine V.ldMu (q := 87) 3 dX5_restore_86 hM rfl rfl rfl ?_
            exact V.iret dX5_restore_87 rfl ⟨_, _, rfl, rfl, rfl, by rw [if_pos g], (FrX.z.mc.trans hB.x.mc).trans FrMC.len, fun _ => ⟨⟨(up2_at : up2 (sF τ5) 94 3 0 94 3 = 0), by decide, fun i hi => absurd hi (Nat.not_lt_zero i)⟩, hM⟩, fun z => by (rw [g] at z; cases z), by rw [if_pos g]; exact ((up2_in (by decide) : up2 (sF τ5) 94 3 0 94 0 = sF τ5 94 0)).trans (hB.1.thr.trans thr_z)⟩
          · exact absurd rfl c63
        · have g : b 1 = false := bI0.mp c51
          refine V.iconst (q := 55) dX5_restore_54 (v := 1) rfl rfl ?_
          refine V.goto (tgt := 59) dX5_restore_55 (by decide) ?_
          refine V.iconst (q := 60) dX5_restore_59 (v := 2) rfl rfl ?_
          refine V.cVMP (q := 63) (As := [_, _]) dX5_restore_60 rfl (kM_fails_true) MX5_fails bw_1351 rfl rfl rfl rfl (by decide) rfl (fun v1 τ1 h1 => ?_)
          obtain ⟨rfl, rfl⟩ := h1
          refine V.if_eq (tgt := 68) (q := 66) dX5_restore_63 (by decide) rfl (fun c63 => ?_) (fun c63 => ?_)
          · exact absurd c63 (by decide)
          · refine V.iconst (q := 67) dX5_restore_66 (v := 0) rfl rfl ?_
            exact V.iret dX5_restore_67 rfl ⟨_, _, rfl, rfl, rfl, by rw [g]; rfl, (FrX.z.trans FrX.z).mc, fun z => by (rw [g] at z; cases z), fun _ => ⟨hH.z, hM.scF⟩, by rw [g]; exact thr_z⟩
      · exact absurd c29 (by decide)
  · exact absurd c12 (by decide)
set_option maxHeartbeats 2000000 in
theorem kM_restoreN {l : Launch} {G : GG} {σ : St} {u : Vw} (hM : RM σ u) {x : Int32} (hx : okI 0 1 x = false) : CtP l G TX5_restore 1 [.ref (gB G + 94), .int x] σ (fun v τ => v = some (.int (0)) ∧ FrX σ τ ∧ RM τ u ∧ thr τ = 1) := by
  have hn : un u ≤ 40 := hM.1
  refine CtP.ofV (by decide +kernel) rfl rfl (Nat.le_of_ble_eq_true rfl) ?_
  refine V.aload_n (q := 1) dX5_restore_0 rfl rfl ?_
  refine V.iconst (q := 2) dX5_restore_1 (v := 0) rfl rfl ?_
  refine V.pM (q := 5) dX5_restore_2 (j := 0) rfl bw_1011 rfl rfl rfl rfl rfl rfl ?_
  have hM : RM (stF σ 94 0 0) u := hM.scF
  refine V.aload_n (q := 6) dX5_restore_5 rfl rfl ?_
  refine V.iload_n (q := 7) dX5_restore_6 rfl rfl ?_
  refine V.iconst (q := 8) dX5_restore_7 (v := 0) rfl rfl ?_
  refine V.iconst (q := 9) dX5_restore_8 (v := 1) rfl rfl ?_
  refine V.cSt (q := 12) dX5_restore_9 (As := [_, _, _]) rfl cM_inRange MX5_inRange bw_1097 rfl rfl (by decide) rfl ?_
  refine V.if_ne (tgt := 19) (q := 15) dX5_restore_12 (by decide) rfl (fun c12 => ?_) (fun c12 => ?_)
  · exact absurd (bI1.mp c12) (by rw [show (decide ((0 : Int32) ≤ x) && decide (x ≤ 1)) = false from hx]; decide)
  · refine V.iconst (q := 16) dX5_restore_15 (v := 1) rfl rfl ?_
    refine V.goto (tgt := 20) dX5_restore_16 (by decide) ?_
    refine V.iconst (q := 21) dX5_restore_20 (v := 1) rfl rfl ?_
    refine V.cVMP (q := 24) (As := [_, _]) dX5_restore_21 rfl (kM_fails_true) MX5_fails bw_1351 rfl rfl rfl rfl (by decide) rfl (fun v1 τ1 h1 => ?_)
    obtain ⟨rfl, rfl⟩ := h1
    refine V.if_ne (tgt := 66) (q := 27) dX5_restore_24 (by decide) rfl (fun c24 => ?_) (fun c24 => ?_)
    · refine V.iconst (q := 67) dX5_restore_66 (v := 0) rfl rfl ?_
      exact V.iret dX5_restore_67 rfl ⟨_, _, rfl, rfl, rfl, rfl, FrX.z.trans FrX.z, hM.scF, thr_z⟩
    · exact absurd c24 (by decide)
/-- the model's output and input -/
def MO (σ : St) (o : Txt) : Prop := sF σ 94 15 = nI o.1 ∧ ∀ i, i < o.1 → sA σ 98 i = o.2 i
def MI (σ : St) (o : Txt) : Prop := sF σ 94 7 = nI o.1 ∧ ∀ i, i < o.1 → sA σ 97 i = o.2 i
def FrMO (σ τ : St) : Prop := (∀ k j, ¬ (k = 94 ∧ (j = 0 ∨ j = 15)) → sF τ k j = sF σ k j) ∧ (∀ k, k ≠ 98 → sA τ k = sA σ k) ∧ τ.2.2 = σ.2.2
theorem FrMO.rf {σ : St} : FrMO σ σ := ⟨fun _ _ _ => rfl, fun _ _ => rfl, rfl⟩
theorem FrMO.trans {σ τ υ : St} (h : FrMO σ τ) (h2 : FrMO τ υ) : FrMO σ υ := ⟨fun k j a => (h2.1 k j a).trans (h.1 k j a), fun k a => (h2.2.1 k a).trans (h.2.1 k a), h2.2.2.trans h.2.2⟩
theorem FrMO.z {σ : St} {x : Int32} : FrMO σ (stF σ 94 0 x) := ⟨fun k j a => by
  show up2 (sF σ) 94 0 x k j = _
  rw [up2_if, if_neg (fun z => a ⟨z.1, Or.inl z.2⟩)], fun _ _ => rfl, rfl⟩
theorem FrMO.len {σ : St} {x : Int32} : FrMO σ (stF σ 94 15 x) := ⟨fun k j a => by
  show up2 (sF σ) 94 15 x k j = _
  rw [up2_if, if_neg (fun z => a ⟨z.1, Or.inr z.2⟩)], fun _ _ => rfl, rfl⟩
theorem FrMO.ar {σ : St} {i : Nat} {x : Int32} : FrMO σ (stA σ 98 i x) := ⟨fun _ _ _ => rfl, fun k a => (up2_ne a), rfl⟩
theorem FrMO.RM {σ τ : St} {u : Vw} (h : FrMO σ τ) (hM : RM σ u) : RM τ u := RMg.congr hM.g (fun i _ => by rw [h.2.1 95 (by decide)])
theorem MO.z {σ : St} {o : Txt} {x : Int32} (h : MO σ o) : MO (stF σ 94 0 x) o := ⟨(up2_in (by decide) : up2 (sF σ) 94 0 x 94 15 = sF σ 94 15).trans h.1, h.2⟩
theorem MO.zero {σ : St} {f : Nat → Int32} : MO (stF σ 94 15 0) (0, f) := ⟨(up2_at : up2 (sF σ) 94 15 0 94 15 = 0), fun i hi => absurd hi (Nat.not_lt_zero i)⟩
theorem MO_wr {σ : St} {o : Txt} {x y z : Int32} (h : MO σ o) (hy : y = x) (hz : z = nI (o.1 + 1)) : MO (stF (stA σ 98 o.1 y) 94 15 z) (wr o x) := ⟨(up2_at : up2 (sF σ) 94 15 z 94 15 = z).trans hz, fun i hi => by
  show up2 (sA σ) 98 o.1 y 98 i = if i = o.1 then x else o.2 i
  rw [up2_if]
  by_cases e : i = o.1
  · rw [if_pos ⟨rfl, e⟩, if_pos e, hy]
  · rw [if_neg (fun w => e w.2), if_neg e]
    exact h.2 i (by have hi : i < o.1 + 1 := hi; omega)⟩
theorem thr_15 {σ : St} {x : Int32} : thr (stF σ 94 15 x) = thr σ := (up2_in (by decide) : up2 (sF σ) 94 15 x 94 0 = sF σ 94 0)
set_option maxHeartbeats 2000000 in
theorem kM_write {l : Launch} {G : GG} {σ : St} {o : Txt}  (hO : MO σ o) (ho : o.1 < 80) {x : Int32} (hx : Asc x) : CtP l G TX5_write 0 [.ref (gB G + 94), .int x] σ (fun v τ => v = none ∧ FrMO σ τ ∧ MO τ (wr o x) ∧ thr τ = thr σ) := by
  refine CtP.ofV (by decide +kernel) rfl rfl (Nat.le_of_ble_eq_true rfl) ?_
  refine V.aload_n (q := 1) dX5_write_0 rfl rfl ?_
  refine V.gM (q := 4) dX5_write_1 (j := 14) rfl bw_1025 rfl rfl rfl rfl ?_
  refine V.aload_n (q := 5) dX5_write_4 rfl rfl ?_
  refine V.gM (q := 8) dX5_write_5 (j := 15) rfl bw_1026 rfl rfl rfl rfl ?_
  rw [hO.1]
  refine V.iload_n (q := 9) dX5_write_8 rfl rfl ?_
  refine V.i2b (q := 10) dX5_write_9 rfl ?_
  refine V.st15 (q := 11) dX5_write_10 (i := o.1) (by first | rfl | assumption) rfl ho rfl ?_
  refine V.aload_n (q := 12) dX5_write_11 rfl rfl ?_
  refine V.dup (q := 13) dX5_write_12 rfl rfl ?_
  refine V.gM (q := 16) dX5_write_13 (j := 15) rfl bw_1026 rfl rfl rfl rfl ?_
  rw [show sF (stA σ 98 o.1 (vp_nar .byte x.toInt8.toInt32)) 94 15 = nI o.1 from hO.1]
  refine V.iconst (q := 17) dX5_write_16 (v := 1) rfl rfl ?_
  refine V.iadd (q := 18) dX5_write_17 rfl ?_
  refine V.pM (q := 21) dX5_write_18 (j := 15) rfl bw_1026 rfl rfl rfl rfl rfl rfl ?_
  exact V.vret dX5_write_21 rfl ⟨none, _, rfl, rfl, rfl, rfl, FrMO.ar.trans FrMO.len, MO_wr hO (byt_asc hx) (nI_1 _), thr_15⟩
set_option maxHeartbeats 2000000 in
theorem kM_writeNumber {l : Launch} {G : GG} {σ : St} {o : Txt}  (hO : MO σ o) (ho : o.1 + 2 ≤ 80) {n : Nat} (hn : n < 100) : CtP l G TX5_writeNumber 1 [.ref (gB G + 94), .int (nI n)] σ (fun v τ => v = none ∧ FrMO σ τ ∧ MO τ (wrN o n) ∧ thr τ = thr σ) := by
  have hfr : FrMO σ σ := FrMO.rf
  have hT : thr σ = thr σ := rfl
  refine CtP.ofV (by decide +kernel) rfl rfl (Nat.le_of_ble_eq_true rfl) ?_
  refine V.iload_n (q := 1) dX5_writeNumber_0 rfl rfl ?_
  refine V.bipush (q := 3) dX5_writeNumber_1 (v := 9) rfl rfl ?_
  refine V.icmp_le (tgt := 17) (q := 6) dX5_writeNumber_3 (by decide) rfl (fun c3 => ?_) (fun c3 => ?_)
  · have h10 : ¬ 10 ≤ n := fun z => by have := nle (a := n) (b := 9) c3 (by omega) (by decide); omega
    refine V.aload_n (q := 18) dX5_writeNumber_17 rfl rfl ?_
    refine V.bipush (q := 20) dX5_writeNumber_18 (v := 48) rfl rfl ?_
    refine V.iload_n (q := 21) dX5_writeNumber_20 rfl rfl ?_
    refine V.bipush (q := 23) dX5_writeNumber_21 (v := 10) rfl rfl ?_
    refine V.irem (q := 24) dX5_writeNumber_23 (by decide) rfl ?_
    refine V.iadd (q := 25) dX5_writeNumber_24 rfl ?_
    rw [mod10 hn]
    refine V.cVMP (q := 28) (As := [_]) dX5_writeNumber_25 rfl (kM_write (o := o) (x := dig (n % 10)) hO (by omega) (dig_asc (by omega))) MX5_write bw_1596 rfl rfl rfl rfl (by decide) rfl (fun v1 τ1 h1 => ?_)
    obtain ⟨rfl, hfr1, hO, hT1⟩ := h1
    have hfr := hfr.trans hfr1
    have hT := hT1.trans hT
    exact V.vret dX5_writeNumber_28 rfl ⟨none, _, rfl, rfl, rfl, rfl, hfr, by unfold wrN; rw [if_neg h10]; exact hO, hT⟩
  · have h10 : 10 ≤ n := nnle (a := n) (b := 9) c3 (by omega) (by decide)
    refine V.aload_n (q := 7) dX5_writeNumber_6 rfl rfl ?_
    refine V.bipush (q := 9) dX5_writeNumber_7 (v := 48) rfl rfl ?_
    refine V.iload_n (q := 10) dX5_writeNumber_9 rfl rfl ?_
    refine V.bipush (q := 12) dX5_writeNumber_10 (v := 10) rfl rfl ?_
    refine V.idiv (q := 13) dX5_writeNumber_12 (by decide) rfl ?_
    refine V.iadd (q := 14) dX5_writeNumber_13 rfl ?_
    rw [div10 hn]
    refine V.cVMP (q := 17) (As := [_]) dX5_writeNumber_14 rfl (kM_write (o := o) (x := dig (n / 10)) hO (by omega) (dig_asc (by omega))) MX5_write bw_1596 rfl rfl rfl rfl (by decide) rfl (fun v1 τ1 h1 => ?_)
    obtain ⟨rfl, hfr1, hO, hT1⟩ := h1
    have hfr := hfr.trans hfr1
    have hT := hT1.trans hT
    refine V.aload_n (q := 18) dX5_writeNumber_17 rfl rfl ?_
    refine V.bipush (q := 20) dX5_writeNumber_18 (v := 48) rfl rfl ?_
    refine V.iload_n (q := 21) dX5_writeNumber_20 rfl rfl ?_
    refine V.bipush (q := 23) dX5_writeNumber_21 (v := 10) rfl rfl ?_
    refine V.irem (q := 24) dX5_writeNumber_23 (by decide) rfl ?_
    refine V.iadd (q := 25) dX5_writeNumber_24 rfl ?_
    rw [mod10 hn]
    refine V.cVMP (q := 28) (As := [_]) dX5_writeNumber_25 rfl (kM_write (o := wr o (dig (n / 10))) (x := dig (n % 10)) hO (show o.1 + 1 < 80 by omega) (dig_asc (by omega))) MX5_write bw_1596 rfl rfl rfl rfl (by decide) rfl (fun v1 τ1 h1 => ?_)
    obtain ⟨rfl, hfr1, hO, hT1⟩ := h1
    have hfr := hfr.trans hfr1
    have hT := hT1.trans hT
    exact V.vret dX5_writeNumber_28 rfl ⟨none, _, rfl, rfl, rfl, rfl, hfr, by unfold wrN; rw [if_pos h10]; exact hO, hT⟩
theorem asc_255 {x : Int32} (h : Asc x) : x &&& 255 = x := by
  obtain ⟨n, hn, rfl⟩ := h
  have key : ∀ b, b < 128 → nI b &&& 255 = nI b := by decide +kernel
  exact key n hn
theorem ob_m {o : Txt} {x : Int32} (ho : o.1 ≤ 80) : (decide (0 ≤ x) && decide (x ≤ nI o.1 - 1)) = decide (0 ≤ x ∧ x < nI o.1) := by
  have h := okP_m (u := (o.1, fun _ => 0, fun _ _ => 0)) (x := x)
  apply Bool.eq_iff_iff.mpr
  simp only [Bool.and_eq_true, decide_eq_true_eq]
  refine and_congr_right (fun h0 => ?_)
  have h1 := i32_le0 h0
  rcases Nat.eq_zero_or_pos o.1 with z | z
  · rw [z, Int32.le_iff_toInt_le, Int32.lt_iff_toInt_lt]
    have e1 : (nI 0 - 1).toInt = -1 := rfl
    have e2 : (nI 0).toInt = 0 := rfl
    omega
  · rw [show nI o.1 - 1 = nI (o.1 - 1) from pk_sub (b := 1) (by omega), Int32.le_iff_toInt_le, Int32.lt_iff_toInt_lt, nI_int (by omega), nI_int (by omega)]
    omega
set_option maxHeartbeats 2000000 in
theorem kM_outputByte {l : Launch} {G : GG} {σ : St} {o : Txt}  (hO : MO σ o) (ho : o.1 ≤ 80) (ha : AscT o) {x : Int32} : CtP l G TX5_outputByte 1 [.ref (gB G + 94), .int x] σ (fun v τ => v = some (.int (obI o x)) ∧ FrMO σ τ ∧ MO τ o ∧ thr τ = 0) := by
  refine CtP.ofV (by decide +kernel) rfl rfl (Nat.le_of_ble_eq_true rfl) ?_
  refine V.aload_n (q := 1) dX5_outputByte_0 rfl rfl ?_
  refine V.iconst (q := 2) dX5_outputByte_1 (v := 0) rfl rfl ?_
  refine V.pM (q := 5) dX5_outputByte_2 (j := 0) rfl bw_1011 rfl rfl rfl rfl rfl rfl ?_
  have hO : MO (stF σ 94 0 0) o := hO.z
  refine V.iload_n (q := 6) dX5_outputByte_5 rfl rfl ?_
  refine V.iconst (q := 7) dX5_outputByte_6 (v := 0) rfl rfl ?_
  refine V.aload_n (q := 8) dX5_outputByte_7 rfl rfl ?_
  refine V.gM (q := 11) dX5_outputByte_8 (j := 15) rfl bw_1026 rfl rfl rfl rfl ?_
  rw [hO.1]
  refine V.iconst (q := 12) dX5_outputByte_11 (v := 1) rfl rfl ?_
  refine V.isub (q := 13) dX5_outputByte_12 rfl ?_
  refine V.cSt (q := 16) dX5_outputByte_13 (As := [_, _, _]) rfl cM_inRange MX5_inRange bw_1097 rfl rfl (by decide) rfl ?_
  rw [ob_m ho]
  refine V.if_eq (tgt := 32) (q := 19) dX5_outputByte_16 (by decide) rfl (fun c16 => ?_) (fun c16 => ?_)
  · have g : ¬ (0 ≤ x ∧ x < nI o.1) := of_decide_eq_false (bI0.mp c16)
    refine V.iconst (q := 33) dX5_outputByte_32 (v := -1) rfl rfl ?_
    exact V.iret dX5_outputByte_33 rfl ⟨_, _, rfl, rfl, rfl, by unfold obI; rw [if_neg g], FrMO.z, hO, thr_z⟩
  · have g : 0 ≤ x ∧ x < nI o.1 := of_decide_eq_true (bI1.mp c16)
    have h0 := i32_le0 g.1
    have hx := nI_back h0
    have hi : x.toNatClampNeg < o.1 := by
      have h3 := Int32.lt_iff_toInt_lt.mp g.2
      have h4 := clamp_int h0
      rw [nI_int (by omega)] at h3
      omega
    refine V.aload_n (q := 20) dX5_outputByte_19 rfl rfl ?_
    refine V.gM (q := 23) dX5_outputByte_20 (j := 14) rfl bw_1025 rfl rfl rfl rfl ?_
    refine V.iload_n (q := 24) dX5_outputByte_23 rfl rfl ?_
    refine V.ld15 (q := 25) dX5_outputByte_24 (i := x.toNatClampNeg) (by first | rfl | assumption) hx (by omega) rfl ?_
    refine V.sipush (q := 28) dX5_outputByte_25 (v := 255) rfl rfl ?_
    refine V.iand (q := 29) dX5_outputByte_28 rfl ?_
    refine V.goto (tgt := 33) dX5_outputByte_29 (by decide) ?_
    exact V.iret dX5_outputByte_33 rfl ⟨_, _, rfl, rfl, rfl, by unfold obI; rw [if_pos g, hO.2 _ hi, asc_255 (ha _ hi)], FrMO.z, hO, thr_z⟩
