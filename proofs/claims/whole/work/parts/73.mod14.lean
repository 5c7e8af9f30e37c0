/-! the model's append -/
def apA (a b c d e : Int32) (k : Nat) : Int32 := if k < 4 then a else if k < 8 then b else if k < 12 then c else if k < 16 then d else e
def apB (a b c d e : Int32) (k : Nat) : Int32 := sb (apA a b c d e k) (nI (24 - 8 * (k % 4)))
def apK (o : Txt) (a b c d e : Int32) : Nat → Txt
  | 0 => o
  | k + 1 => wr (apK o a b c d e k) (apB a b c d e k)
theorem apK_len {o : Txt} {a b c d e : Int32} : ∀ k, (apK o a b c d e k).1 = o.1 + k
  | 0 => rfl
  | k + 1 => by
    show (apK o a b c d e k).1 + 1 = o.1 + (k + 1)
    rw [apK_len k]
    omega
theorem apK_20 {o : Txt} {a b c d e : Int32} : apK o a b c d e 20 = ap20 o a b c d e := rfl
theorem sh_k {k : Nat} (h : k < 20) : (24 : Int32) - 8 * (nI k - nI k / 4 * 4) = nI (24 - 8 * (k % 4)) := by
  have key : ∀ j, j < 20 → (24 : Int32) - 8 * (nI j - nI j / 4 * 4) = nI (24 - 8 * (j % 4)) := by decide +kernel
  exact key k h
set_option maxHeartbeats 2000000 in
theorem kM_append {l : Launch} {G : GG} {σ : St} {o : Txt}  (hI : MI σ o) (ho : o.1 ≤ 500) {a b c d e : Int32} : CtP l G TX5_append 0 [.ref (gB G + 94), .int a, .int b, .int c, .int d, .int e] σ (fun w τ => w = some (.int (if o.1 + 20 ≤ 500 then nI (o.1 + 20) else -1)) ∧ FrMI σ τ ∧ MI τ (if o.1 + 20 ≤ 500 then ap20 o a b c d e else o) ∧ thr τ = 0) := by
  refine CtP.ofV (by decide +kernel) rfl rfl (Nat.le_of_ble_eq_true rfl) ?_
  by_cases hle : o.1 + 20 ≤ 500
  · skip
    have loop : ∀ (m : Nat) (i : Nat) (τ : St) (L7 : Option Value), m = 20 - i → i ≤ 20 → FrMI σ τ → MI τ (apK o a b c d e i) → thr τ = 0 → V l G TX5_append 0 0 0 (RetP G (fun w τ => w = some (.int (if o.1 + 20 ≤ 500 then nI (o.1 + 20) else -1)) ∧ FrMI σ τ ∧ MI τ (if o.1 + 20 ≤ 500 then ap20 o a b c d e else o) ∧ thr τ = 0)) 0 0 23 [some (.ref (gB G + 94)), some (.int a), some (.int b), some (.int c), some (.int d), some (.int e), some (.int (nI i)), L7] [] (hof G τ) NC := by
      intro m
      induction m using Nat.strongRecOn with
      | _ m ih =>
        intro i τ L7 hm hile hfr hI hT
        refine V.iload (q := 25) dX5_append_23 rfl rfl ?_
        refine V.bipush (q := 27) dX5_append_25 (v := 20) rfl rfl ?_
        refine V.icmp_ge (tgt := 117) (q := 30) dX5_append_27 (by decide) rfl (fun c27 => ?_) (fun c27 => ?_)
        · have hie : i = 20 := Nat.le_antisymm hile (nle (a := 20) (b := i) c27 (by decide) (by omega))
          refine V.aload_n (q := 118) dX5_append_117 rfl rfl ?_
          refine V.gM (q := 121) dX5_append_118 (j := 7) rfl bw_1018 rfl rfl rfl rfl ?_
          rw [hI.1, apK_len, hie]
          exact V.iret dX5_append_121 rfl ⟨_, _, rfl, rfl, rfl, by rw [if_pos hle], hfr, by rw [if_pos hle, ← apK_20, ← hie]; exact hI, hT⟩
        · have hlt : i < 20 := nnle (a := 20) (b := i) c27 (by decide) (by omega)
          refine V.iload (q := 32) dX5_append_30 rfl rfl ?_
          refine V.iconst (q := 33) dX5_append_32 (v := 4) rfl rfl ?_
          refine V.icmp_ge (tgt := 40) (q := 36) dX5_append_33 (by decide) rfl (fun c33 => ?_) (fun c33 => ?_)
          · refine V.iload (q := 42) dX5_append_40 rfl rfl ?_
            refine V.bipush (q := 44) dX5_append_42 (v := 8) rfl rfl ?_
            refine V.icmp_ge (tgt := 51) (q := 47) dX5_append_44 (by decide) rfl (fun c44 => ?_) (fun c44 => ?_)
            · refine V.iload (q := 53) dX5_append_51 rfl rfl ?_
              refine V.bipush (q := 55) dX5_append_53 (v := 12) rfl rfl ?_
              refine V.icmp_ge (tgt := 62) (q := 58) dX5_append_55 (by decide) rfl (fun c55 => ?_) (fun c55 => ?_)
              · refine V.iload (q := 64) dX5_append_62 rfl rfl ?_
                refine V.bipush (q := 66) dX5_append_64 (v := 16) rfl rfl ?_
                refine V.icmp_ge (tgt := 74) (q := 69) dX5_append_66 (by decide) rfl (fun c66 => ?_) (fun c66 => ?_)
                · refine V.iload (q := 76) dX5_append_74 rfl rfl ?_
                  refine V.istore (q := 78) dX5_append_76 rfl rfl rfl ?_
                  refine V.aload_n (q := 79) dX5_append_78 rfl rfl ?_
                  refine V.gM (q := 82) dX5_append_79 (j := 6) rfl bw_1017 rfl rfl rfl rfl ?_
                  refine V.aload_n (q := 83) dX5_append_82 rfl rfl ?_
                  refine V.gM (q := 86) dX5_append_83 (j := 7) rfl bw_1018 rfl rfl rfl rfl ?_
                  rw [hI.1]
                  refine V.iload (q := 88) dX5_append_86 rfl rfl ?_
                  refine V.bipush (q := 90) dX5_append_88 (v := 24) rfl rfl ?_
                  refine V.bipush (q := 92) dX5_append_90 (v := 8) rfl rfl ?_
                  refine V.iload (q := 94) dX5_append_92 rfl rfl ?_
                  refine V.iconst (q := 95) dX5_append_94 (v := 4) rfl rfl ?_
                  refine V.irem (q := 96) dX5_append_95 (by decide) rfl ?_
                  refine V.imul (q := 97) dX5_append_96 rfl ?_
                  refine V.isub (q := 98) dX5_append_97 rfl ?_
                  rw [sh_k hlt]
                  refine V.ishr (q := 99) dX5_append_98 rfl ?_
                  refine V.i2b (q := 100) dX5_append_99 rfl ?_
                  refine V.st14 (q := 101) dX5_append_100 (i := (apK o a b c d e i).1) (by first | rfl | assumption) rfl (by rw [apK_len]; omega) rfl ?_
                  refine V.aload_n (q := 102) dX5_append_101 rfl rfl ?_
                  refine V.dup (q := 103) dX5_append_102 rfl rfl ?_
                  refine V.gM (q := 106) dX5_append_103 (j := 7) rfl bw_1018 rfl rfl rfl rfl ?_
                  rw [show sF (stA τ 97 (apK o a b c d e i).1 (vp_nar .byte (e >>> (nI (24 - 8 * (i % 4)) &&& 31)).toInt8.toInt32)) 94 7 = nI (apK o a b c d e i).1 from hI.1]
                  refine V.iconst (q := 107) dX5_append_106 (v := 1) rfl rfl ?_
                  refine V.iadd (q := 108) dX5_append_107 rfl ?_
                  rw [show nI (apK o a b c d e i).1 + 1 = nI ((apK o a b c d e i).1 + 1) from nI_1 _]
                  refine V.pM (q := 111) dX5_append_108 (j := 7) rfl bw_1018 rfl rfl rfl rfl rfl rfl ?_
                  refine V.iinc (q := 114) dX5_append_111 rfl (by first | exact nI_inc _ | rfl) rfl rfl rfl ?_
                  refine V.goto (tgt := 23) dX5_append_114 (by decide) ?_
                  have eb : apB a b c d e i = (vp_nar .byte (e >>> (nI (24 - 8 * (i % 4)) &&& 31)).toInt8.toInt32) := by
                    unfold apB apA
                    rw [if_neg (Nat.not_lt.mpr (nle (a := 4) (b := i) c33 (by decide) (by omega))), if_neg (Nat.not_lt.mpr (nle (a := 8) (b := i) c44 (by decide) (by omega))), if_neg (Nat.not_lt.mpr (nle (a := 12) (b := i) c55 (by decide) (by omega))), if_neg (Nat.not_lt.mpr (nle (a := 16) (b := i) c66 (by decide) (by omega)))]
                    rfl
                  have hI2 : MI (stF (stA τ 97 (apK o a b c d e i).1 (vp_nar .byte (e >>> (nI (24 - 8 * (i % 4)) &&& 31)).toInt8.toInt32)) 94 7 (nI ((apK o a b c d e i).1 + 1))) (apK o a b c d e (i + 1)) := by
                    show MI _ (wr (apK o a b c d e i) (apB a b c d e i))
                    rw [eb]
                    exact MI_wr hI rfl
                  exact ih _ (by omega) (i + 1) _ _ rfl (by omega) (hfr.trans (FrMI.ar.trans FrMI.len)) hI2 (thr_7.trans hT)
                · refine V.iload (q := 71) dX5_append_69 rfl rfl ?_
                  refine V.goto (tgt := 76) dX5_append_71 (by decide) ?_
                  refine V.istore (q := 78) dX5_append_76 rfl rfl rfl ?_
                  refine V.aload_n (q := 79) dX5_append_78 rfl rfl ?_
                  refine V.gM (q := 82) dX5_append_79 (j := 6) rfl bw_1017 rfl rfl rfl rfl ?_
                  refine V.aload_n (q := 83) dX5_append_82 rfl rfl ?_
                  refine V.gM (q := 86) dX5_append_83 (j := 7) rfl bw_1018 rfl rfl rfl rfl ?_
                  rw [hI.1]
                  refine V.iload (q := 88) dX5_append_86 rfl rfl ?_
                  refine V.bipush (q := 90) dX5_append_88 (v := 24) rfl rfl ?_
                  refine V.bipush (q := 92) dX5_append_90 (v := 8) rfl rfl ?_
                  refine V.iload (q := 94) dX5_append_92 rfl rfl ?_
                  refine V.iconst (q := 95) dX5_append_94 (v := 4) rfl rfl ?_
                  refine V.irem (q := 96) dX5_append_95 (by decide) rfl ?_
                  refine V.imul (q := 97) dX5_append_96 rfl ?_
                  refine V.isub (q := 98) dX5_append_97 rfl ?_
                  rw [sh_k hlt]
                  refine V.ishr (q := 99) dX5_append_98 rfl ?_
                  refine V.i2b (q := 100) dX5_append_99 rfl ?_
                  refine V.st14 (q := 101) dX5_append_100 (i := (apK o a b c d e i).1) (by first | rfl | assumption) rfl (by rw [apK_len]; omega) rfl ?_
                  refine V.aload_n (q := 102) dX5_append_101 rfl rfl ?_
                  refine V.dup (q := 103) dX5_append_102 rfl rfl ?_
                  refine V.gM (q := 106) dX5_append_103 (j := 7) rfl bw_1018 rfl rfl rfl rfl ?_
                  rw [show sF (stA τ 97 (apK o a b c d e i).1 (vp_nar .byte (d >>> (nI (24 - 8 * (i % 4)) &&& 31)).toInt8.toInt32)) 94 7 = nI (apK o a b c d e i).1 from hI.1]
                  refine V.iconst (q := 107) dX5_append_106 (v := 1) rfl rfl ?_
                  refine V.iadd (q := 108) dX5_append_107 rfl ?_
                  rw [show nI (apK o a b c d e i).1 + 1 = nI ((apK o a b c d e i).1 + 1) from nI_1 _]
                  refine V.pM (q := 111) dX5_append_108 (j := 7) rfl bw_1018 rfl rfl rfl rfl rfl rfl ?_
                  refine V.iinc (q := 114) dX5_append_111 rfl (by first | exact nI_inc _ | rfl) rfl rfl rfl ?_
                  refine V.goto (tgt := 23) dX5_append_114 (by decide) ?_
                  have eb : apB a b c d e i = (vp_nar .byte (d >>> (nI (24 - 8 * (i % 4)) &&& 31)).toInt8.toInt32) := by
                    unfold apB apA
                    rw [if_neg (Nat.not_lt.mpr (nle (a := 4) (b := i) c33 (by decide) (by omega))), if_neg (Nat.not_lt.mpr (nle (a := 8) (b := i) c44 (by decide) (by omega))), if_neg (Nat.not_lt.mpr (nle (a := 12) (b := i) c55 (by decide) (by omega))), if_pos (nnle (a := 16) (b := i) c66 (by decide) (by omega))]
                    rfl
                  have hI2 : MI (stF (stA τ 97 (apK o a b c d e i).1 (vp_nar .byte (d >>> (nI (24 - 8 * (i % 4)) &&& 31)).toInt8.toInt32)) 94 7 (nI ((apK o a b c d e i).1 + 1))) (apK o a b c d e (i + 1)) := by
                    show MI _ (wr (apK o a b c d e i) (apB a b c d e i))
                    rw [eb]
                    exact MI_wr hI rfl
                  exact ih _ (by omega) (i + 1) _ _ rfl (by omega) (hfr.trans (FrMI.ar.trans FrMI.len)) hI2 (thr_7.trans hT)
              · refine V.iload_n (q := 59) dX5_append_58 rfl rfl ?_
                refine V.goto (tgt := 76) dX5_append_59 (by decide) ?_
                refine V.istore (q := 78) dX5_append_76 rfl rfl rfl ?_
                refine V.aload_n (q := 79) dX5_append_78 rfl rfl ?_
                refine V.gM (q := 82) dX5_append_79 (j := 6) rfl bw_1017 rfl rfl rfl rfl ?_
                refine V.aload_n (q := 83) dX5_append_82 rfl rfl ?_
                refine V.gM (q := 86) dX5_append_83 (j := 7) rfl bw_1018 rfl rfl rfl rfl ?_
                rw [hI.1]
                refine V.iload (q := 88) dX5_append_86 rfl rfl ?_
                refine V.bipush (q := 90) dX5_append_88 (v := 24) rfl rfl ?_
                refine V.bipush (q := 92) dX5_append_90 (v := 8) rfl rfl ?_
                refine V.iload (q := 94) dX5_append_92 rfl rfl ?_
                refine V.iconst (q := 95) dX5_append_94 (v := 4) rfl rfl ?_
                refine V.irem (q := 96) dX5_append_95 (by decide) rfl ?_
                refine V.imul (q := 97) dX5_append_96 rfl ?_
                refine V.isub (q := 98) dX5_append_97 rfl ?_
                rw [sh_k hlt]
                refine V.ishr (q := 99) dX5_append_98 rfl ?_
                refine V.i2b (q := 100) dX5_append_99 rfl ?_
                refine V.st14 (q := 101) dX5_append_100 (i := (apK o a b c d e i).1) (by first | rfl | assumption) rfl (by rw [apK_len]; omega) rfl ?_
                refine V.aload_n (q := 102) dX5_append_101 rfl rfl ?_
                refine V.dup (q := 103) dX5_append_102 rfl rfl ?_
                refine V.gM (q := 106) dX5_append_103 (j := 7) rfl bw_1018 rfl rfl rfl rfl ?_
                rw [show sF (stA τ 97 (apK o a b c d e i).1 (vp_nar .byte (c >>> (nI (24 - 8 * (i % 4)) &&& 31)).toInt8.toInt32)) 94 7 = nI (apK o a b c d e i).1 from hI.1]
                refine V.iconst (q := 107) dX5_append_106 (v := 1) rfl rfl ?_
                refine V.iadd (q := 108) dX5_append_107 rfl ?_
                rw [show nI (apK o a b c d e i).1 + 1 = nI ((apK o a b c d e i).1 + 1) from nI_1 _]
                refine V.pM (q := 111) dX5_append_108 (j := 7) rfl bw_1018 rfl rfl rfl rfl rfl rfl ?_
                refine V.iinc (q := 114) dX5_append_111 rfl (by first | exact nI_inc _ | rfl) rfl rfl rfl ?_
                refine V.goto (tgt := 23) dX5_append_114 (by decide) ?_
                have eb : apB a b c d e i = (vp_nar .byte (c >>> (nI (24 - 8 * (i % 4)) &&& 31)).toInt8.toInt32) := by
                  unfold apB apA
                  rw [if_neg (Nat.not_lt.mpr (nle (a := 4) (b := i) c33 (by decide) (by omega))), if_neg (Nat.not_lt.mpr (nle (a := 8) (b := i) c44 (by decide) (by omega))), if_pos (nnle (a := 12) (b := i) c55 (by decide) (by omega))]
                  rfl
                have hI2 : MI (stF (stA τ 97 (apK o a b c d e i).1 (vp_nar .byte (c >>> (nI (24 - 8 * (i % 4)) &&& 31)).toInt8.toInt32)) 94 7 (nI ((apK o a b c d e i).1 + 1))) (apK o a b c d e (i + 1)) := by
                  show MI _ (wr (apK o a b c d e i) (apB a b c d e i))
                  rw [eb]
                  exact MI_wr hI rfl
                exact ih _ (by omega) (i + 1) _ _ rfl (by omega) (hfr.trans (FrMI.ar.trans FrMI.len)) hI2 (thr_7.trans hT)
            · refine V.iload_n (q := 48) dX5_append_47 rfl rfl ?_
              refine V.goto (tgt := 76) dX5_append_48 (by decide) ?_
              refine V.istore (q := 78) dX5_append_76 rfl rfl rfl ?_
              refine V.aload_n (q := 79) dX5_append_78 rfl rfl ?_
              refine V.gM (q := 82) dX5_append_79 (j := 6) rfl bw_1017 rfl rfl rfl rfl ?_
              refine V.aload_n (q := 83) dX5_append_82 rfl rfl ?_
              refine V.gM (q := 86) dX5_append_83 (j := 7) rfl bw_1018 rfl rfl rfl rfl ?_
              rw [hI.1]
              refine V.iload (q := 88) dX5_append_86 rfl rfl ?_
              refine V.bipush (q := 90) dX5_append_88 (v := 24) rfl rfl ?_
              refine V.bipush (q := 92) dX5_append_90 (v := 8) rfl rfl ?_
              refine V.iload (q := 94) dX5_append_92 rfl rfl ?_
              refine V.iconst (q := 95) dX5_append_94 (v := 4) rfl rfl ?_
              refine V.irem (q := 96) dX5_append_95 (by decide) rfl ?_
              refine V.imul (q := 97) dX5_append_96 rfl ?_
              refine V.isub (q := 98) dX5_append_97 rfl ?_
              rw [sh_k hlt]
              refine V.ishr (q := 99) dX5_append_98 rfl ?_
              refine V.i2b (q := 100) dX5_append_99 rfl ?_
              refine V.st14 (q := 101) dX5_append_100 (i := (apK o a b c d e i).1) (by first | rfl | assumption) rfl (by rw [apK_len]; omega) rfl ?_
              refine V.aload_n (q := 102) dX5_append_101 rfl rfl ?_
              refine V.dup (q := 103) dX5_append_102 rfl rfl ?_
              refine V.gM (q := 106) dX5_append_103 (j := 7) rfl bw_1018 rfl rfl rfl rfl ?_
              rw [show sF (stA τ 97 (apK o a b c d e i).1 (vp_nar .byte (b >>> (nI (24 - 8 * (i % 4)) &&& 31)).toInt8.toInt32)) 94 7 = nI (apK o a b c d e i).1 from hI.1]
              refine V.iconst (q := 107) dX5_append_106 (v := 1) rfl rfl ?_
              refine V.iadd (q := 108) dX5_append_107 rfl ?_
              rw [show nI (apK o a b c d e i).1 + 1 = nI ((apK o a b c d e i).1 + 1) from nI_1 _]
              refine V.pM (q := 111) dX5_append_108 (j := 7) rfl bw_1018 rfl rfl rfl rfl rfl rfl ?_
              refine V.iinc (q := 114) dX5_append_111 rfl (by first | exact nI_inc _ | rfl) rfl rfl rfl ?_
              refine V.goto (tgt := 23) dX5_append_114 (by decide) ?_
              have eb : apB a b c d e i = (vp_nar .byte (b >>> (nI (24 - 8 * (i % 4)) &&& 31)).toInt8.toInt32) := by
                unfold apB apA
                rw [if_neg (Nat.not_lt.mpr (nle (a := 4) (b := i) c33 (by decide) (by omega))), if_pos (nnle (a := 8) (b := i) c44 (by decide) (by omega))]
                rfl
              have hI2 : MI (stF (stA τ 97 (apK o a b c d e i).1 (vp_nar .byte (b >>> (nI (24 - 8 * (i % 4)) &&& 31)).toInt8.toInt32)) 94 7 (nI ((apK o a b c d e i).1 + 1))) (apK o a b c d e (i + 1)) := by
                show MI _ (wr (apK o a b c d e i) (apB a b c d e i))
                rw [eb]
                exact MI_wr hI rfl
              exact ih _ (by omega) (i + 1) _ _ rfl (by omega) (hfr.trans (FrMI.ar.trans FrMI.len)) hI2 (thr_7.trans hT)
          · refine V.iload_n (q := 37) dX5_append_36 rfl rfl ?_
            refine V.goto (tgt := 76) dX5_append_37 (by decide) ?_
            refine V.istore (q := 78) dX5_append_76 rfl rfl rfl ?_
            refine V.aload_n (q := 79) dX5_append_78 rfl rfl ?_
            refine V.gM (q := 82) dX5_append_79 (j := 6) rfl bw_1017 rfl rfl rfl rfl ?_
            refine V.aload_n (q := 83) dX5_append_82 rfl rfl ?_
            refine V.gM (q := 86) dX5_append_83 (j := 7) rfl bw_1018 rfl rfl rfl rfl ?_
            rw [hI.1]
            refine V.iload (q := 88) dX5_append_86 rfl rfl ?_
            refine V.bipush (q := 90) dX5_append_88 (v := 24) rfl rfl ?_
            refine V.bipush (q := 92) dX5_append_90 (v := 8) rfl rfl ?_
            refine V.iload (q := 94) dX5_append_92 rfl rfl ?_
            refine V.iconst (q := 95) dX5_append_94 (v := 4) rfl rfl ?_
            refine V.irem (q := 96) dX5_append_95 (by decide) rfl ?_
            refine V.imul (q := 97) dX5_append_96 rfl ?_
            refine V.isub (q := 98) dX5_append_97 rfl ?_
            rw [sh_k hlt]
            refine V.ishr (q := 99) dX5_append_98 rfl ?_
            refine V.i2b (q := 100) dX5_append_99 rfl ?_
            refine V.st14 (q := 101) dX5_append_100 (i := (apK o a b c d e i).1) (by first | rfl | assumption) rfl (by rw [apK_len]; omega) rfl ?_
            refine V.aload_n (q := 102) dX5_append_101 rfl rfl ?_
            refine V.dup (q := 103) dX5_append_102 rfl rfl ?_
            refine V.gM (q := 106) dX5_append_103 (j := 7) rfl bw_1018 rfl rfl rfl rfl ?_
            rw [show sF (stA τ 97 (apK o a b c d e i).1 (vp_nar .byte (a >>> (nI (24 - 8 * (i % 4)) &&& 31)).toInt8.toInt32)) 94 7 = nI (apK o a b c d e i).1 from hI.1]
            refine V.iconst (q := 107) dX5_append_106 (v := 1) rfl rfl ?_
            refine V.iadd (q := 108) dX5_append_107 rfl ?_
            rw [show nI (apK o a b c d e i).1 + 1 = nI ((apK o a b c d e i).1 + 1) from nI_1 _]
            refine V.pM (q := 111) dX5_append_108 (j := 7) rfl bw_1018 rfl rfl rfl rfl rfl rfl ?_
            refine V.iinc (q := 114) dX5_append_111 rfl (by first | exact nI_inc _ | rfl) rfl rfl rfl ?_
            refine V.goto (tgt := 23) dX5_append_114 (by decide) ?_
            have eb : apB a b c d e i = (vp_nar .byte (a >>> (nI (24 - 8 * (i % 4)) &&& 31)).toInt8.toInt32) := by
              unfold apB apA
              rw [if_pos (nnle (a := 4) (b := i) c33 (by decide) (by omega))]
              rfl
            have hI2 : MI (stF (stA τ 97 (apK o a b c d e i).1 (vp_nar .byte (a >>> (nI (24 - 8 * (i % 4)) &&& 31)).toInt8.toInt32)) 94 7 (nI ((apK o a b c d e i).1 + 1))) (apK o a b c d e (i + 1)) := by
              show MI _ (wr (apK o a b c d e i) (apB a b c d e i))
              rw [eb]
              exact MI_wr hI rfl
            exact ih _ (by omega) (i + 1) _ _ rfl (by omega) (hfr.trans (FrMI.ar.trans FrMI.len)) hI2 (thr_7.trans hT)
    refine V.aload_n (q := 1) dX5_append_0 rfl rfl ?_
    refine V.iconst (q := 2) dX5_append_1 (v := 0) rfl rfl ?_
    refine V.pM (q := 5) dX5_append_2 (j := 0) rfl bw_1011 rfl rfl rfl rfl rfl rfl ?_
    have hI : MI (stF σ 94 0 0) o := hI.z
    refine V.aload_n (q := 6) dX5_append_5 rfl rfl ?_
    refine V.gM (q := 9) dX5_append_6 (j := 7) rfl bw_1018 rfl rfl rfl rfl ?_
    rw [hI.1]
    refine V.bipush (q := 11) dX5_append_9 (v := 20) rfl rfl ?_
    refine V.iadd (q := 12) dX5_append_11 rfl ?_
    rw [show nI o.1 + 20 = nI (o.1 + 20) from nI_add _ 20]
    refine V.sipush (q := 15) dX5_append_12 (v := 500) rfl rfl ?_
    refine V.icmp_le (tgt := 20) (q := 18) dX5_append_15 (by decide) rfl (fun c15 => ?_) (fun c15 => ?_)
    · refine V.iconst (q := 21) dX5_append_20 (v := 0) rfl rfl ?_
      refine V.istore (q := 23) dX5_append_21 rfl rfl rfl ?_
      exact loop _ 0 _ _ rfl (Nat.zero_le _) FrMI.z hI thr_z
    · exact absurd (nI_le hle (by decide)) c15
  · skip
    refine V.aload_n (q := 1) dX5_append_0 rfl rfl ?_
    refine V.iconst (q := 2) dX5_append_1 (v := 0) rfl rfl ?_
    refine V.pM (q := 5) dX5_append_2 (j := 0) rfl bw_1011 rfl rfl rfl rfl rfl rfl ?_
    have hI : MI (stF σ 94 0 0) o := hI.z
    refine V.aload_n (q := 6) dX5_append_5 rfl rfl ?_
    refine V.gM (q := 9) dX5_append_6 (j := 7) rfl bw_1018 rfl rfl rfl rfl ?_
    rw [hI.1]
    refine V.bipush (q := 11) dX5_append_9 (v := 20) rfl rfl ?_
    refine V.iadd (q := 12) dX5_append_11 rfl ?_
    rw [show nI o.1 + 20 = nI (o.1 + 20) from nI_add _ 20]
    refine V.sipush (q := 15) dX5_append_12 (v := 500) rfl rfl ?_
    refine V.icmp_le (tgt := 20) (q := 18) dX5_append_15 (by decide) rfl (fun c15 => ?_) (fun c15 => ?_)
    · exact absurd (nle (b := 500) c15 (by omega) (by decide)) hle
    · refine V.iconst (q := 19) dX5_append_18 (v := -1) rfl rfl ?_
      exact V.iret dX5_append_19 rfl ⟨_, _, rfl, rfl, rfl, by rw [if_neg hle], FrMI.z, by rw [if_neg hle]; exact hI, thr_z⟩
