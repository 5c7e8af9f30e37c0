/-! LiftScheduler: places in a queue -/
set_option maxHeartbeats 2000000 in
theorem kL_queueAt {l : Launch} {G : GG} {σ : St} {u : Vw} {qq : Nat → Nat} (hR : RC σ 1 u qq) {x y : Int32} : CtX l G TX4_queueAt 7 1 6 [.ref (gB G + 0), .int x, .int y] σ (fun a τ => τ = σ ∧ a = ansA (okF u x) "java/lang/IndexOutOfBoundsException" (.int (qaI u x y))) := by
  have hn : un u ≤ 40 := hR.1
  refine CtX.ofV (by decide +kernel) rfl rfl (Nat.le_of_ble_eq_true rfl) ?_
  have loop : ∀ (m : Nat) (i : Nat) (L5 : Option Value), m = un u - i → i ≤ un u → fst (qcB u qq x y) 0 (un u) = fst (qcB u qq x y) i (un u - i) → okF u x = true → V l G TX4_queueAt 7 1 6 (RetX G (fun a τ => τ = σ ∧ a = ansA (okF u x) "java/lang/IndexOutOfBoundsException" (.int (qaI u x y)))) 1 6 10 [some (.ref (gB G + 0)), some (.int x), some (.int y), some (.int (nI (cnt (fun j => wtB u x (qq j)) i))), some (.int (nI i)), L5] [] (hof G σ) NC := by
    intro m
    induction m using Nat.strongRecOn with
    | _ m ih =>
      intro i L5 hm hile hf g
      refine V.iload (q := 12) dX4_queueAt_10 rfl rfl ?_
      refine V.aload_n (q := 13) dX4_queueAt_12 rfl rfl ?_
      refine V.gL (q := 16) dX4_queueAt_13 (j := 0) rfl bw_168 rfl rfl rfl rfl ?_
      refine V.gSn (q := 19) dX4_queueAt_16 hR rfl bw_69 rfl ?_
      refine V.icmp_ge (tgt := 78) (q := 22) dX4_queueAt_19 (by decide) rfl (fun c19 => ?_) (fun c19 => ?_)
      · have hie : i = un u := Nat.le_antisymm hile (nle c19 (by omega) (by omega))
        refine V.iconst (q := 79) dX4_queueAt_78 (v := -1) rfl rfl ?_
        exact V.iret dX4_queueAt_79 rfl ⟨_, rfl, rfl, rfl, ansA_t g (by rw [← qa_queue hn hR.2.2.2.2.2.2.2, hf, hie, Nat.sub_self]; rfl)⟩
      · have hlt : i < un u := nnle c19 (by omega) (by omega)
        have hqi := hR.2.2.2.2.2.2.2.1 i hlt
        have hck := cnt_le (fun j => wtB u x (qq j)) i
        refine V.aload_n (q := 23) dX4_queueAt_22 rfl rfl ?_
        refine V.gL (q := 26) dX4_queueAt_23 (j := 0) rfl bw_168 rfl rfl rfl rfl ?_
        refine V.gS (q := 29) dX4_queueAt_26 (j := 18) rfl bw_87 rfl rfl rfl rfl ?_
        refine V.iload (q := 31) dX4_queueAt_29 rfl rfl ?_
        refine V.ldSq (q := 32) dX4_queueAt_31 hR rfl rfl (by omega) rfl ?_
        refine V.istore (q := 34) dX4_queueAt_32 rfl rfl rfl ?_
        refine V.aload_n (q := 35) dX4_queueAt_34 rfl rfl ?_
        refine V.gL (q := 38) dX4_queueAt_35 (j := 0) rfl bw_168 rfl rfl rfl rfl ?_
        refine V.gS (q := 41) dX4_queueAt_38 (j := 13) rfl bw_77 rfl rfl rfl rfl ?_
        refine V.iload (q := 43) dX4_queueAt_41 rfl rfl ?_
        refine V.ldSu (q := 44) 0 dX4_queueAt_43 hR rfl rfl rfl hqi rfl ?_
        refine V.iload_n (q := 45) dX4_queueAt_44 rfl rfl ?_
        refine V.icmp_ne (tgt := 72) (q := 48) dX4_queueAt_45 (by decide) rfl (fun c45 => ?_) (fun c45 => ?_)
        · have ew : wtB u x (qq i) = false := by simp [wtB, c45]
          refine V.iinc (q := 75) dX4_queueAt_72 rfl (by first | exact nI_inc _ | rfl) rfl rfl rfl ?_
          refine V.goto (tgt := 10) dX4_queueAt_75 (by decide) ?_
          have hf2 : fst (qcB u qq x y) 0 (un u) = fst (qcB u qq x y) (i + 1) (un u - (i + 1)) := by
            rw [hf, show un u - i = (un u - (i + 1)) + 1 by omega]
            simp [fst, qcB, ew]
          refine V.to (L2 := [some (.ref (gB G + 0)), some (.int x), some (.int y), some (.int (nI (cnt (fun j => wtB u x (qq j)) (i + 1)))), some (.int (nI (i + 1))), some (.int (nI (qq i)))]) ?_ rfl rfl rfl (ih _ (by omega) (i + 1) _ rfl (by omega) hf2 g)
          rw [show cnt (fun j => wtB u x (qq j)) (i + 1) = cnt (fun j => wtB u x (qq j)) i by simp [cnt, ew]]
          rfl
        · refine V.aload_n (q := 49) dX4_queueAt_48 rfl rfl ?_
          refine V.gL (q := 52) dX4_queueAt_49 (j := 0) rfl bw_168 rfl rfl rfl rfl ?_
          refine V.iload (q := 54) dX4_queueAt_52 rfl rfl ?_
          refine V.cVS (q := 57) dX4_queueAt_54 (As := [_]) rfl (cS_findStatus rfl hR hqi) MX3_findStatus bw_365 rfl rfl rfl rfl (by decide) rfl ?_
          refine V.iconst (q := 58) dX4_queueAt_57 (v := 1) rfl rfl ?_
          refine V.icmp_ne (tgt := 72) (q := 61) dX4_queueAt_58 (by decide) rfl (fun c58 => ?_) (fun c58 => ?_)
          · have ew : wtB u x (qq i) = false := by simp [wtB, c58]
            refine V.iinc (q := 75) dX4_queueAt_72 rfl (by first | exact nI_inc _ | rfl) rfl rfl rfl ?_
            refine V.goto (tgt := 10) dX4_queueAt_75 (by decide) ?_
            have hf2 : fst (qcB u qq x y) 0 (un u) = fst (qcB u qq x y) (i + 1) (un u - (i + 1)) := by
              rw [hf, show un u - i = (un u - (i + 1)) + 1 by omega]
              simp [fst, qcB, ew]
            refine V.to (L2 := [some (.ref (gB G + 0)), some (.int x), some (.int y), some (.int (nI (cnt (fun j => wtB u x (qq j)) (i + 1)))), some (.int (nI (i + 1))), some (.int (nI (qq i)))]) ?_ rfl rfl rfl (ih _ (by omega) (i + 1) _ rfl (by omega) hf2 g)
            rw [show cnt (fun j => wtB u x (qq j)) (i + 1) = cnt (fun j => wtB u x (qq j)) i by simp [cnt, ew]]
            rfl
          · have ew : wtB u x (qq i) = true := by simp [wtB, c45, c58]
            refine V.iload_n (q := 62) dX4_queueAt_61 rfl rfl ?_
            refine V.iload_n (q := 63) dX4_queueAt_62 rfl rfl ?_
            refine V.icmp_ne (tgt := 69) (q := 66) dX4_queueAt_63 (by decide) rfl (fun c63 => ?_) (fun c63 => ?_)
            · refine V.iinc (q := 72) dX4_queueAt_69 rfl (by first | exact nI_inc _ | rfl) rfl rfl rfl ?_
              refine V.iinc (q := 75) dX4_queueAt_72 rfl (by first | exact nI_inc _ | rfl) rfl rfl rfl ?_
              refine V.goto (tgt := 10) dX4_queueAt_75 (by decide) ?_
              have hf2 : fst (qcB u qq x y) 0 (un u) = fst (qcB u qq x y) (i + 1) (un u - (i + 1)) := by
                rw [hf, show un u - i = (un u - (i + 1)) + 1 by omega]
                simp [fst, qcB, ew, c63]
              refine V.to (L2 := [some (.ref (gB G + 0)), some (.int x), some (.int y), some (.int (nI (cnt (fun j => wtB u x (qq j)) (i + 1)))), some (.int (nI (i + 1))), some (.int (nI (qq i)))]) ?_ rfl rfl rfl (ih _ (by omega) (i + 1) _ rfl (by omega) hf2 g)
              rw [show cnt (fun j => wtB u x (qq j)) (i + 1) = cnt (fun j => wtB u x (qq j)) i + 1 by simp [cnt, ew]]
              rfl
            · refine V.iload (q := 68) dX4_queueAt_66 rfl rfl ?_
              exact V.iret dX4_queueAt_68 rfl ⟨_, rfl, rfl, rfl, ansA_t g (by rw [← qa_queue hn hR.2.2.2.2.2.2.2, hf, show un u - i = (un u - (i + 1)) + 1 by omega]; simp [fst, qcB, ew, c63, oI])⟩
  refine V.aload_n (q := 1) dX4_queueAt_0 rfl rfl ?_
  refine V.iload_n (q := 2) dX4_queueAt_1 rfl rfl ?_
  refine V.cVLX (q := 5) (As := [_]) dX4_queueAt_2 rfl (kL_reqF hR) MX4_requireFloor bw_426 rfl rfl rfl rfl (by decide) rfl (by decide) (by decide) (fun v9 τ9 h9 => ?_) (fun E9 τ9 h9 => ?_)
  · obtain ⟨rfl, h9⟩ := h9
    obtain ⟨g, rfl⟩ := reqA_inl h9
    refine V.iconst (q := 6) dX4_queueAt_5 (v := 0) rfl rfl ?_
    refine V.istore_n (q := 7) dX4_queueAt_6 rfl rfl rfl rfl ?_
    refine V.iconst (q := 8) dX4_queueAt_7 (v := 0) rfl rfl ?_
    refine V.istore (q := 10) dX4_queueAt_8 rfl rfl rfl ?_
    exact loop _ 0 _ rfl (Nat.zero_le _) rfl g
  · obtain ⟨rfl, h9⟩ := h9
    obtain ⟨g, rfl⟩ := reqA_inr h9
    exact VX.out rfl (by decide) (by decide) ⟨_, rfl, rfl, ⟨rfl, ansA_f g⟩⟩
