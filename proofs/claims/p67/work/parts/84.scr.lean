/-! the class cuts its tokens: bytes, numbers, words, one token -/
theorem bI0 {b : Bool} : bI b = 0 ↔ b = false := by cases b <;> simp [bI]
theorem bI1 {b : Bool} : ¬ bI b = 0 ↔ b = true := by cases b <;> simp [bI]
def blI (a b : Int32) : Bool := (leI a && leI b) || (dgI a && dgI b)
section VKT
variable {l : Launch} {G : GG} {T : MT} {d mc ms ce sl idx a : Nat} {Q : PQ} {pc q : Nat} {L : List (Option Value)} {st : List Value} {σ : St}
theorem V.gSim (hd : decode T.2.1 pc = .ok (.getfield idx, 3)) (hS : sS σ = some a) (hw : Cond.fieldLink T.1.cls idx RX2 (TX2 5).2.1 (TX2 5).2.2.1 ∈ BW) (hq : pc + 3 = q) (kk : V l G T d mc ms Q ce sl q L (.ref a :: st) (hof G σ) NC) : V l G T d mc ms Q ce sl pc L (.ref (gB G + 19) :: st) (hof G σ) NC := by
  refine V.gP (k := 19) (j := 5) (v := .ref a) hd rfl hw rfl rfl ?_ hq kk
  show some (va_rf (sS σ)) = _
  rw [hS]; rfl
end VKT
set_option maxHeartbeats 1000000 in
theorem kP_isSpace {l : Launch} {G : GG} {σ : St} {v : Int32} : CtS l G TX2_isSpace 0 [.int v] σ (some (.int (bI (spI v)))) σ := by
  refine CtS.ofV (by decide +kernel) rfl rfl (Nat.le_of_ble_eq_true rfl) ?_
  refine V.iload_n (q := 1) dX2_isSpace_0 rfl rfl ?_
  refine V.bipush (q := 3) dX2_isSpace_1 (v := 32) rfl rfl ?_
  refine V.icmp_eq (tgt := 18) (q := 6) dX2_isSpace_3 (by decide) rfl (fun c3 => ?_) (fun c3 => ?_)
  · refine V.iconst (q := 19) dX2_isSpace_18 (v := 1) rfl rfl ?_
    refine V.goto (tgt := 23) dX2_isSpace_19 (by decide) ?_
    exact V.zret (ty := .boolean) rfl dX2_isSpace_23 rfl ⟨by simp [spI, bI, c3], rfl, rfl⟩
  · refine V.iload_n (q := 7) dX2_isSpace_6 rfl rfl ?_
    refine V.bipush (q := 9) dX2_isSpace_7 (v := 9) rfl rfl ?_
    refine V.icmp_eq (tgt := 18) (q := 12) dX2_isSpace_9 (by decide) rfl (fun c9 => ?_) (fun c9 => ?_)
    · refine V.iconst (q := 19) dX2_isSpace_18 (v := 1) rfl rfl ?_
      refine V.goto (tgt := 23) dX2_isSpace_19 (by decide) ?_
      exact V.zret (ty := .boolean) rfl dX2_isSpace_23 rfl ⟨by simp [spI, bI, c3, c9], rfl, rfl⟩
    · refine V.iload_n (q := 13) dX2_isSpace_12 rfl rfl ?_
      refine V.bipush (q := 15) dX2_isSpace_13 (v := 10) rfl rfl ?_
      refine V.icmp_ne (tgt := 22) (q := 18) dX2_isSpace_15 (by decide) rfl (fun c15 => ?_) (fun c15 => ?_)
      · refine V.iconst (q := 23) dX2_isSpace_22 (v := 0) rfl rfl ?_
        exact V.zret (ty := .boolean) rfl dX2_isSpace_23 rfl ⟨by simp [spI, bI, c3, c9, c15], rfl, rfl⟩
      · refine V.iconst (q := 19) dX2_isSpace_18 (v := 1) rfl rfl ?_
        refine V.goto (tgt := 23) dX2_isSpace_19 (by decide) ?_
        exact V.zret (ty := .boolean) rfl dX2_isSpace_23 rfl ⟨by simp [spI, bI, c3, c9, c15], rfl, rfl⟩
set_option maxHeartbeats 1000000 in
theorem kP_isDigit {l : Launch} {G : GG} {σ : St} {v : Int32} : CtS l G TX2_isDigit 0 [.int v] σ (some (.int (bI (dgI v)))) σ := by
  refine CtS.ofV (by decide +kernel) rfl rfl (Nat.le_of_ble_eq_true rfl) ?_
  refine V.iload_n (q := 1) dX2_isDigit_0 rfl rfl ?_
  refine V.bipush (q := 3) dX2_isDigit_1 (v := 48) rfl rfl ?_
  refine V.icmp_lt (tgt := 16) (q := 6) dX2_isDigit_3 (by decide) rfl (fun c3 => ?_) (fun c3 => ?_)
  · refine V.iconst (q := 17) dX2_isDigit_16 (v := 0) rfl rfl ?_
    exact V.zret (ty := .boolean) rfl dX2_isDigit_17 rfl ⟨by rw [show dgI v = false from okN1 (nge c3)]; rfl, rfl, rfl⟩
  · refine V.iload_n (q := 7) dX2_isDigit_6 rfl rfl ?_
    refine V.bipush (q := 9) dX2_isDigit_7 (v := 57) rfl rfl ?_
    refine V.icmp_gt (tgt := 16) (q := 12) dX2_isDigit_9 (by decide) rfl (fun c9 => ?_) (fun c9 => ?_)
    · refine V.iconst (q := 17) dX2_isDigit_16 (v := 0) rfl rfl ?_
      exact V.zret (ty := .boolean) rfl dX2_isDigit_17 rfl ⟨by rw [show dgI v = false from okN2 (nleT (Int32.not_le.mpr c9))]; rfl, rfl, rfl⟩
    · refine V.iconst (q := 13) dX2_isDigit_12 (v := 1) rfl rfl ?_
      refine V.goto (tgt := 17) dX2_isDigit_13 (by decide) ?_
      exact V.zret (ty := .boolean) rfl dX2_isDigit_17 rfl ⟨by rw [show dgI v = true from okT (geT c3) (leT (Int32.not_lt.mp c9))]; rfl, rfl, rfl⟩
set_option maxHeartbeats 1000000 in
theorem kP_isLetter {l : Launch} {G : GG} {σ : St} {v : Int32} : CtS l G TX2_isLetter 0 [.int v] σ (some (.int (bI (leI v)))) σ := by
  refine CtS.ofV (by decide +kernel) rfl rfl (Nat.le_of_ble_eq_true rfl) ?_
  refine V.iload_n (q := 1) dX2_isLetter_0 rfl rfl ?_
  refine V.bipush (q := 3) dX2_isLetter_1 (v := 97) rfl rfl ?_
  refine V.icmp_lt (tgt := 16) (q := 6) dX2_isLetter_3 (by decide) rfl (fun c3 => ?_) (fun c3 => ?_)
  · refine V.iconst (q := 17) dX2_isLetter_16 (v := 0) rfl rfl ?_
    exact V.zret (ty := .boolean) rfl dX2_isLetter_17 rfl ⟨by rw [show leI v = false from okN1 (nge c3)]; rfl, rfl, rfl⟩
  · refine V.iload_n (q := 7) dX2_isLetter_6 rfl rfl ?_
    refine V.bipush (q := 9) dX2_isLetter_7 (v := 122) rfl rfl ?_
    refine V.icmp_gt (tgt := 16) (q := 12) dX2_isLetter_9 (by decide) rfl (fun c9 => ?_) (fun c9 => ?_)
    · refine V.iconst (q := 17) dX2_isLetter_16 (v := 0) rfl rfl ?_
      exact V.zret (ty := .boolean) rfl dX2_isLetter_17 rfl ⟨by rw [show leI v = false from okN2 (nleT (Int32.not_le.mpr c9))]; rfl, rfl, rfl⟩
    · refine V.iconst (q := 13) dX2_isLetter_12 (v := 1) rfl rfl ?_
      refine V.goto (tgt := 17) dX2_isLetter_13 (by decide) ?_
      exact V.zret (ty := .boolean) rfl dX2_isLetter_17 rfl ⟨by rw [show leI v = true from okT (geT c3) (leT (Int32.not_lt.mp c9))]; rfl, rfl, rfl⟩
set_option maxHeartbeats 1000000 in
theorem kP_together {l : Launch} {G : GG} {σ : St} {a b : Int32} : CtS l G TX2_belongTogether 1 [.int a, .int b] σ (some (.int (bI (blI a b)))) σ := by
  refine CtS.ofV (by decide +kernel) rfl rfl (Nat.le_of_ble_eq_true rfl) ?_
  refine V.iload_n (q := 1) dX2_belongTogether_0 rfl rfl ?_
  refine V.cSt (q := 4) dX2_belongTogether_1 (As := [_]) rfl kP_isLetter MX2_isLetter bw_807 rfl rfl (by decide) rfl ?_
  refine V.if_eq (tgt := 14) (q := 7) dX2_belongTogether_4 (by decide) rfl (fun c4 => ?_) (fun c4 => ?_)
  · refine V.iload_n (q := 15) dX2_belongTogether_14 rfl rfl ?_
    refine V.cSt (q := 18) dX2_belongTogether_15 (As := [_]) rfl kP_isDigit MX2_isDigit bw_810 rfl rfl (by decide) rfl ?_
    refine V.if_eq (tgt := 32) (q := 21) dX2_belongTogether_18 (by decide) rfl (fun c18 => ?_) (fun c18 => ?_)
    · refine V.iconst (q := 33) dX2_belongTogether_32 (v := 0) rfl rfl ?_
      exact V.zret (ty := .boolean) rfl dX2_belongTogether_33 rfl ⟨by unfold blI; simp [show leI a = false from bI0.mp c4, show dgI a = false from bI0.mp c18, bI], rfl, rfl⟩
    · refine V.iload_n (q := 22) dX2_belongTogether_21 rfl rfl ?_
      refine V.cSt (q := 25) dX2_belongTogether_22 (As := [_]) rfl kP_isDigit MX2_isDigit bw_810 rfl rfl (by decide) rfl ?_
      refine V.if_eq (tgt := 32) (q := 28) dX2_belongTogether_25 (by decide) rfl (fun c25 => ?_) (fun c25 => ?_)
      · refine V.iconst (q := 33) dX2_belongTogether_32 (v := 0) rfl rfl ?_
        exact V.zret (ty := .boolean) rfl dX2_belongTogether_33 rfl ⟨by unfold blI; simp [show leI a = false from bI0.mp c4, show dgI a = true from bI1.mp c18, show dgI b = false from bI0.mp c25, bI], rfl, rfl⟩
      · refine V.iconst (q := 29) dX2_belongTogether_28 (v := 1) rfl rfl ?_
        refine V.goto (tgt := 33) dX2_belongTogether_29 (by decide) ?_
        exact V.zret (ty := .boolean) rfl dX2_belongTogether_33 rfl ⟨by unfold blI; simp [show leI a = false from bI0.mp c4, show dgI a = true from bI1.mp c18, show dgI b = true from bI1.mp c25, bI], rfl, rfl⟩
  · refine V.iload_n (q := 8) dX2_belongTogether_7 rfl rfl ?_
    refine V.cSt (q := 11) dX2_belongTogether_8 (As := [_]) rfl kP_isLetter MX2_isLetter bw_807 rfl rfl (by decide) rfl ?_
    refine V.if_ne (tgt := 28) (q := 14) dX2_belongTogether_11 (by decide) rfl (fun c11 => ?_) (fun c11 => ?_)
    · refine V.iconst (q := 29) dX2_belongTogether_28 (v := 1) rfl rfl ?_
      refine V.goto (tgt := 33) dX2_belongTogether_29 (by decide) ?_
      exact V.zret (ty := .boolean) rfl dX2_belongTogether_33 rfl ⟨by unfold blI; simp [show leI a = true from bI1.mp c4, show leI b = true from bI1.mp c11, bI], rfl, rfl⟩
    · refine V.iload_n (q := 15) dX2_belongTogether_14 rfl rfl ?_
      refine V.cSt (q := 18) dX2_belongTogether_15 (As := [_]) rfl kP_isDigit MX2_isDigit bw_810 rfl rfl (by decide) rfl ?_
      refine V.if_eq (tgt := 32) (q := 21) dX2_belongTogether_18 (by decide) rfl (fun c18 => ?_) (fun c18 => ?_)
      · refine V.iconst (q := 33) dX2_belongTogether_32 (v := 0) rfl rfl ?_
        exact V.zret (ty := .boolean) rfl dX2_belongTogether_33 rfl ⟨by unfold blI; simp [show leI a = true from bI1.mp c4, show leI b = false from bI0.mp c11, show dgI a = false from bI0.mp c18, bI], rfl, rfl⟩
      · refine V.iload_n (q := 22) dX2_belongTogether_21 rfl rfl ?_
        refine V.cSt (q := 25) dX2_belongTogether_22 (As := [_]) rfl kP_isDigit MX2_isDigit bw_810 rfl rfl (by decide) rfl ?_
        refine V.if_eq (tgt := 32) (q := 28) dX2_belongTogether_25 (by decide) rfl (fun c25 => ?_) (fun c25 => ?_)
        · refine V.iconst (q := 33) dX2_belongTogether_32 (v := 0) rfl rfl ?_
          exact V.zret (ty := .boolean) rfl dX2_belongTogether_33 rfl ⟨by unfold blI; simp [show leI a = true from bI1.mp c4, show leI b = false from bI0.mp c11, show dgI a = true from bI1.mp c18, show dgI b = false from bI0.mp c25, bI], rfl, rfl⟩
        · refine V.iconst (q := 29) dX2_belongTogether_28 (v := 1) rfl rfl ?_
          refine V.goto (tgt := 33) dX2_belongTogether_29 (by decide) ?_
          exact V.zret (ty := .boolean) rfl dX2_belongTogether_33 rfl ⟨by unfold blI; simp [show leI a = true from bI1.mp c4, show leI b = false from bI0.mp c11, show dgI a = true from bI1.mp c18, show dgI b = true from bI1.mp c25, bI], rfl, rfl⟩
set_option maxHeartbeats 1000000 in
theorem kP_numberOf {l : Launch} {G : GG} {σ : St} {o : Txt} (hb : byT o) (ho : o.1 ≤ 500) (hB : ∀ i, i < o.1 → sA σ 18 i = o.2 i) {s e : Nat} (hse : s ≤ e) (he : e ≤ o.1) (hdg : ∀ j, s ≤ j → j < e → dgN (bc o j) = true) : CtS l G TX2_numberOf 0 [.ref (gB G + 18), .int (nI s), .int (nI e)] σ (some (.int (nI (if e - s > 3 then 1000 else numv o s (e - s))))) σ := by
  refine CtS.ofV (by decide +kernel) rfl rfl (Nat.le_of_ble_eq_true rfl) ?_
  refine V.iload_n (q := 1) dX2_numberOf_0 rfl rfl ?_
  refine V.iload_n (q := 2) dX2_numberOf_1 rfl rfl ?_
  refine V.isub (q := 3) dX2_numberOf_2 rfl ?_
  rw [show nI e - nI s = nI (e - s) from pk_sub hse]
  refine V.iconst (q := 4) dX2_numberOf_3 (v := 3) rfl rfl ?_
  refine V.icmp_le (tgt := 11) (q := 7) dX2_numberOf_4 (by decide) rfl (fun c4 => ?_) (fun c4 => ?_)
  · have h3 : ¬ e - s > 3 := fun z => by have := nle (a := e - s) (b := 3) c4 (by omega) (by decide); omega
    have loop : ∀ (m : Nat) (k : Nat), m = e - s - k → s + k ≤ e → V l G TX2_numberOf 0 0 0 (RetS G (some (.int (nI (if e - s > 3 then 1000 else numv o s (e - s))))) σ) 0 0 16 [some (.ref (gB G + 18)), some (.int (nI s)), some (.int (nI e)), some (.int (nI (numv o s k))), some (.int (nI (s + k)))] [] (hof G σ) NC := by
      intro m
      induction m using Nat.strongRecOn with
      | _ m ih =>
        intro k hm hke0
        refine V.iload (q := 18) dX2_numberOf_16 rfl rfl ?_
        refine V.iload_n (q := 19) dX2_numberOf_18 rfl rfl ?_
        refine V.icmp_ge (tgt := 41) (q := 22) dX2_numberOf_19 (by decide) rfl (fun c19 => ?_) (fun c19 => ?_)
        · have hke : k = e - s := by have := nle (a := e) (b := s + k) c19 (by omega) (by omega); omega
          refine V.iload_n (q := 42) dX2_numberOf_41 rfl rfl ?_
          exact V.iret dX2_numberOf_42 rfl ⟨by rw [if_neg h3, ← hke], rfl, rfl⟩
        · have hlt : s + k < e := nnle (a := e) (b := s + k) c19 (by omega) (by omega)
          have hdk := hdg (s + k) (by omega) hlt
          have hbk : bc o (s + k) < 128 ∧ 48 ≤ bc o (s + k) := by
            unfold dgN at hdk
            simp only [Bool.and_eq_true, decide_eq_true_eq] at hdk
            omega
          refine V.iload_n (q := 23) dX2_numberOf_22 rfl rfl ?_
          refine V.bipush (q := 25) dX2_numberOf_23 (v := 10) rfl rfl ?_
          refine V.imul (q := 26) dX2_numberOf_25 rfl ?_
          refine V.aload_n (q := 27) dX2_numberOf_26 rfl rfl ?_
          refine V.iload (q := 29) dX2_numberOf_27 rfl rfl ?_
          refine V.ld6 (q := 30) dX2_numberOf_29 (i := s + k) (by first | rfl | assumption) rfl (by omega) rfl ?_
          rw [hB _ (by omega), (bc_eq hb (show s + k < o.1 by omega) hbk.1).mpr rfl]
          refine V.iadd (q := 31) dX2_numberOf_30 rfl ?_
          refine V.bipush (q := 33) dX2_numberOf_31 (v := 48) rfl rfl ?_
          refine V.isub (q := 34) dX2_numberOf_33 rfl ?_
          refine V.istore_n (q := 35) dX2_numberOf_34 rfl rfl rfl rfl ?_
          refine V.iinc (q := 38) dX2_numberOf_35 rfl (by first | exact nI_inc _ | rfl) rfl rfl rfl ?_
          refine V.goto (tgt := 16) dX2_numberOf_38 (by decide) ?_
          refine V.to (L2 := [some (.ref (gB G + 18)), some (.int (nI s)), some (.int (nI e)), some (.int (nI (numv o s (k + 1)))), some (.int (nI (s + (k + 1))))]) ?_ rfl rfl rfl (ih _ (by omega) (k + 1) rfl (by omega))
          rw [show nI (numv o s k) * 10 + nI (bc o (s + k)) - 48 = nI (numv o s (k + 1)) from ?_]
          · rfl
          · show nI (numv o s k) * nI 10 + nI (bc o (s + k)) - nI 48 = nI (numv o s k * 10 + (bc o (s + k) - 48))
            rw [pk_mul, nI_add, pk_sub (by omega)]
            congr 1
            omega
    refine V.iconst (q := 12) dX2_numberOf_11 (v := 0) rfl rfl ?_
    refine V.istore_n (q := 13) dX2_numberOf_12 rfl rfl rfl rfl ?_
    refine V.iload_n (q := 14) dX2_numberOf_13 rfl rfl ?_
    refine V.istore (q := 16) dX2_numberOf_14 rfl rfl rfl ?_
    exact loop _ 0 rfl hse
  · have h3 : e - s > 3 := nnle (a := e - s) (b := 3) (fun z => c4 z) (by omega) (by decide)
    refine V.sipush (q := 10) dX2_numberOf_7 (v := 1000) rfl rfl ?_
    exact V.iret dX2_numberOf_10 rfl ⟨by rw [if_pos h3]; rfl, rfl, rfl⟩
set_option maxHeartbeats 1000000 in
theorem kP_isText {l : Launch} {G : GG} {σ : St} {o : Txt} (hB : ∀ i, i < o.1 → sA σ 18 i = o.2 i) (ho : o.1 ≤ 500) {j s e : Nat} (hj : j < ev_ks.length) (hse : s ≤ e) (he : e ≤ o.1) : CtS l G TX2_isText 4 [.ref (gA G (100 + j)), .ref (gB G + 18), .int (nI s), .int (nI e)] σ (some (.int (bI (isWd o s e (wd j))))) σ := by
  refine CtS.ofV (by decide +kernel) rfl rfl (Nat.le_of_ble_eq_true rfl) ?_
  refine V.aload_n (q := 1) dX2_isText_0 rfl rfl ?_
  refine V.cO (q := 4) dX2_isText_1 (As := []) rfl (kJ_length hj) MJ0_length_8abf5 bw_830 (ob_str hj) rfl rfl (by decide) rfl ?_
  refine V.iload_n (q := 5) dX2_isText_4 rfl rfl ?_
  refine V.iload_n (q := 6) dX2_isText_5 rfl rfl ?_
  refine V.isub (q := 7) dX2_isText_6 rfl ?_
  rw [show nI e - nI s = nI (e - s) from pk_sub hse]
  refine V.icmp_eq (tgt := 12) (q := 10) dX2_isText_7 (by decide) rfl (fun c7 => ?_) (fun c7 => ?_)
  · have hlen : (wd j).length = e - s := neq c7 (by have := (wd_len j hj).1; omega) (by omega)
    have loop : ∀ (m : Nat) (k : Nat), m = e - s - k → s + k ≤ e → (∀ i, i < k → o.2 (s + i) = (wd j).getD i 0) → V l G TX2_isText 4 0 0 (RetS G (some (.int (bI (isWd o s e (wd j))))) σ) 0 0 15 [some (.ref (gA G (100 + j))), some (.ref (gB G + 18)), some (.int (nI s)), some (.int (nI e)), some (.int (nI (s + k)))] [] (hof G σ) NC := by
      intro m
      induction m using Nat.strongRecOn with
      | _ m ih =>
        intro k hm hke0 hw
        refine V.iload (q := 17) dX2_isText_15 rfl rfl ?_
        refine V.iload_n (q := 18) dX2_isText_17 rfl rfl ?_
        refine V.icmp_ge (tgt := 44) (q := 21) dX2_isText_18 (by decide) rfl (fun c18 => ?_) (fun c18 => ?_)
        · have hke : k = e - s := by have := nle (a := e) (b := s + k) c18 (by omega) (by omega); omega
          refine V.iconst (q := 45) dX2_isText_44 (v := 1) rfl rfl ?_
          exact V.zret (ty := .boolean) rfl dX2_isText_45 rfl ⟨by rw [show isWd o s e (wd j) = true from isWd_iff.mpr ⟨hlen.symm, fun i hi => hw i (by omega)⟩]; rfl, rfl, rfl⟩
        · have hlt : s + k < e := nnle (a := e) (b := s + k) c18 (by omega) (by omega)
          refine V.aload_n (q := 22) dX2_isText_21 rfl rfl ?_
          refine V.iload (q := 24) dX2_isText_22 rfl rfl ?_
          refine V.iload_n (q := 25) dX2_isText_24 rfl rfl ?_
          refine V.isub (q := 26) dX2_isText_25 rfl ?_
          rw [show nI (s + k) - nI s = nI k from by rw [pk_sub (by omega)]; congr 1; omega]
          refine V.cO (q := 29) dX2_isText_26 (As := [_]) rfl (kJ_charAt (i := k) hj (by omega)) MJ0_charAt_5068e bw_831 (ob_str hj) rfl rfl (by decide) rfl ?_
          refine V.aload_n (q := 30) dX2_isText_29 rfl rfl ?_
          refine V.iload (q := 32) dX2_isText_30 rfl rfl ?_
          refine V.ld6 (q := 33) dX2_isText_32 (i := s + k) (by first | rfl | assumption) rfl (by omega) rfl ?_
          refine V.icmp_eq (tgt := 38) (q := 36) dX2_isText_33 (by decide) rfl (fun c33 => ?_) (fun c33 => ?_)
          · rw [hB _ (by omega)] at c33
            refine V.iinc (q := 41) dX2_isText_38 rfl (by first | exact nI_inc _ | rfl) rfl rfl rfl ?_
            refine V.goto (tgt := 15) dX2_isText_41 (by decide) ?_
            refine ih _ (by omega) (k + 1) rfl (by omega) (fun i hi => ?_)
            rcases Nat.eq_or_lt_of_le (Nat.le_of_lt_succ hi) with y | y
            · rw [y]; exact c33.symm
            · exact hw i y
          · rw [hB _ (by omega)] at c33
            refine V.iconst (q := 37) dX2_isText_36 (v := 0) rfl rfl ?_
            exact V.zret (ty := .boolean) rfl dX2_isText_37 rfl ⟨by rw [show isWd o s e (wd j) = false from Bool.eq_false_iff.mpr (fun z => c33 ((isWd_iff.mp z).2 k (by omega)).symm)]; rfl, rfl, rfl⟩
    refine V.iload_n (q := 13) dX2_isText_12 rfl rfl ?_
    refine V.istore (q := 15) dX2_isText_13 rfl rfl rfl ?_
    exact loop _ 0 rfl hse (fun i hi => absurd hi (Nat.not_lt_zero i))
  · have hlen : ¬ e - s = (wd j).length := fun z => c7 (by rw [z])
    refine V.iconst (q := 11) dX2_isText_10 (v := 0) rfl rfl ?_
    exact V.zret (ty := .boolean) rfl dX2_isText_11 rfl ⟨by rw [show isWd o s e (wd j) = false from by unfold isWd; rw [decide_eq_false hlen]; rfl]; rfl, rfl, rfl⟩
theorem tx_lt : ∀ k, k < 26 → ev_tx.getD k 0 < ev_ks.length := by decide +kernel
set_option maxHeartbeats 1000000 in
theorem kP_kindOf {l : Launch} {G : GG} {σ : St} {o : Txt} (hB : ∀ i, i < o.1 → sA σ 18 i = o.2 i) (ho : o.1 ≤ 500) {s e : Nat} (hse : s ≤ e) (he : e ≤ o.1) : CtS l G TX2_kindOf 5 [.ref (gB G + 18), .int (nI s), .int (nI e)] σ (some (.ref (gA G (kof o s e 0 26)))) σ := by
  refine CtS.ofV (by decide +kernel) rfl rfl (Nat.le_of_ble_eq_true rfl) ?_
  have loop : ∀ (m : Nat) (k : Nat) (L6 : Option Value), m = 26 - k → k ≤ 26 → kof o s e k (26 - k) = kof o s e 0 26 → V l G TX2_kindOf 5 0 0 (RetS G (some (.ref (gA G (kof o s e 0 26)))) σ) 0 0 11 [some (.ref (gB G + 18)), some (.int (nI s)), some (.int (nI e)), some (.ref (gA G 27)), some (.int 26), some (.int (nI k)), L6] [] (hof G σ) NC := by
    intro m
    induction m using Nat.strongRecOn with
    | _ m ih =>
      intro k L6 hm hk hkf
      refine V.iload (q := 13) dX2_kindOf_11 rfl rfl ?_
      refine V.iload (q := 15) dX2_kindOf_13 rfl rfl ?_
      refine V.icmp_ge (tgt := 47) (q := 18) dX2_kindOf_15 (by decide) rfl (fun c15 => ?_) (fun c15 => ?_)
      · have hk26 : k = 26 := Nat.le_antisymm hk (nle (a := 26) (b := k) c15 (by decide) (by omega))
        subst hk26
        refine V.gets (q := 50) dX2_kindOf_47 (st_kind (i := 24) (by decide) rfl) bw_847 rfl ?_
        exact V.aret dX2_kindOf_50 rfl ⟨by rw [← hkf]; rfl, rfl, rfl⟩
      · have hlt : k < 26 := nnle (a := 26) (b := k) c15 (by decide) (by omega)
        refine V.aload_n (q := 19) dX2_kindOf_18 rfl rfl ?_
        refine V.iload (q := 21) dX2_kindOf_19 rfl rfl ?_
        refine V.taald (q := 22) dX2_kindOf_21 (i := k) ta_ks (by omega) (by decide) rfl rfl rfl ?_
        refine V.astore (q := 24) dX2_kindOf_22 rfl rfl rfl ?_
        refine V.aload (q := 26) dX2_kindOf_24 rfl rfl ?_
        refine V.getO (q := 29) dX2_kindOf_26 (of_txt (by omega)) rfl bw_991 rfl ?_
        refine V.aload_n (q := 30) dX2_kindOf_29 rfl rfl ?_
        refine V.iload_n (q := 31) dX2_kindOf_30 rfl rfl ?_
        refine V.iload_n (q := 32) dX2_kindOf_31 rfl rfl ?_
        refine V.cSt (q := 35) dX2_kindOf_32 (As := [_, _, _, _]) rfl (kP_isText hB ho (tx_lt k (by omega)) hse he) MX2_isText bw_827 rfl rfl (by decide) rfl ?_
        refine V.if_eq (tgt := 41) (q := 38) dX2_kindOf_35 (by decide) rfl (fun c35 => ?_) (fun c35 => ?_)
        · have hw := bI0.mp c35
          refine V.iinc (q := 44) dX2_kindOf_41 rfl (by first | exact nI_inc _ | rfl) rfl rfl rfl ?_
          refine V.goto (tgt := 11) dX2_kindOf_44 (by decide) ?_
          refine ih _ (by omega) (k + 1) _ rfl (by omega) ?_
          rw [← hkf, show 26 - k = (26 - (k + 1)) + 1 by omega]
          exact (if_neg (by rw [hw]; decide)).symm
        · have hw := bI1.mp c35
          refine V.aload (q := 40) dX2_kindOf_38 rfl rfl ?_
          exact V.aret dX2_kindOf_40 rfl ⟨by rw [← hkf, show 26 - k = (26 - (k + 1)) + 1 by omega]; unfold kof; rw [if_pos hw], rfl, rfl⟩
  refine V.gets (q := 3) dX2_kindOf_0 st_ks bw_825 rfl ?_
  refine V.astore_n (q := 4) dX2_kindOf_3 rfl rfl rfl rfl ?_
  refine V.aload_n (q := 5) dX2_kindOf_4 rfl rfl ?_
  refine V.tlen (q := 6) dX2_kindOf_5 ta_ks rfl rfl ?_
  refine V.istore (q := 8) dX2_kindOf_6 rfl rfl rfl ?_
  refine V.iconst (q := 9) dX2_kindOf_8 (v := 0) rfl rfl ?_
  refine V.istore (q := 11) dX2_kindOf_9 rfl rfl rfl ?_
  exact loop _ 0 none rfl (Nat.zero_le _) rfl
set_option maxHeartbeats 1000000 in
theorem kP_addToken {l : Launch} {G : GG} {σ : St} {m k : Nat} {x y : Int32} (hm : sF σ 19 3 = nI m) (h5 : m ≤ 500) (hk : k < 26) : CtS l G TX2_addToken 0 [.ref (gB G + 19), .ref (gA G k), .int x, .int y] σ none (stF (stA (stA (stK σ m (some (gA G k))) 21 m x) 22 m y) 19 3 (nI (m + 1))) := by
  refine CtS.ofV (by decide +kernel) rfl rfl (Nat.le_of_ble_eq_true rfl) ?_
  refine V.aload_n (q := 1) dX2_addToken_0 rfl rfl ?_
  refine V.gP (q := 4) dX2_addToken_1 (j := 3) (by first | rfl | assumption) bw_140 rfl rfl rfl rfl ?_
  rw [hm]
  refine V.sipush (q := 7) dX2_addToken_4 (v := 501) rfl rfl ?_
  refine V.icmp_ge (tgt := 50) (q := 10) dX2_addToken_7 (by decide) rfl (fun c7 => ?_) (fun c7 => ?_)
  · exact absurd (nle (a := 501) (b := m) c7 (by decide) (by omega)) (by omega)
  · refine V.aload_n (q := 11) dX2_addToken_10 rfl rfl ?_
    refine V.gP (q := 14) dX2_addToken_11 (j := 0) (by first | rfl | assumption) bw_137 rfl rfl rfl rfl ?_
    refine V.aload_n (q := 15) dX2_addToken_14 rfl rfl ?_
    refine V.gP (q := 18) dX2_addToken_15 (j := 3) (by first | rfl | assumption) bw_140 rfl rfl rfl rfl ?_
    rw [hm]
    refine V.aload_n (q := 19) dX2_addToken_18 rfl rfl ?_
    refine V.stKd (q := 20) dX2_addToken_19 (i := m) rfl (by omega) hk rfl ?_
    refine V.aload_n (q := 21) dX2_addToken_20 rfl rfl ?_
    refine V.gP (q := 24) dX2_addToken_21 (j := 1) (by first | rfl | assumption) bw_138 rfl rfl rfl rfl ?_
    refine V.aload_n (q := 25) dX2_addToken_24 rfl rfl ?_
    refine V.gP (q := 28) dX2_addToken_25 (j := 3) (by first | rfl | assumption) bw_140 rfl rfl rfl rfl ?_
    rw [show sF (stK σ m (some (gA G k))) 19 3 = nI m from hm]
    refine V.iload_n (q := 29) dX2_addToken_28 rfl rfl ?_
    refine V.st9 (q := 30) dX2_addToken_29 (i := m) (by first | rfl | assumption) rfl (by omega) rfl ?_
    refine V.aload_n (q := 31) dX2_addToken_30 rfl rfl ?_
    refine V.gP (q := 34) dX2_addToken_31 (j := 2) (by first | rfl | assumption) bw_139 rfl rfl rfl rfl ?_
    refine V.aload_n (q := 35) dX2_addToken_34 rfl rfl ?_
    refine V.gP (q := 38) dX2_addToken_35 (j := 3) (by first | rfl | assumption) bw_140 rfl rfl rfl rfl ?_
    rw [show sF (stA (stK σ m (some (gA G k))) 21 m x) 19 3 = nI m from hm]
    refine V.iload_n (q := 39) dX2_addToken_38 rfl rfl ?_
    refine V.st9 (q := 40) dX2_addToken_39 (i := m) (by first | rfl | assumption) rfl (by omega) rfl ?_
    refine V.aload_n (q := 41) dX2_addToken_40 rfl rfl ?_
    refine V.dup (q := 42) dX2_addToken_41 rfl rfl ?_
    refine V.gP (q := 45) dX2_addToken_42 (j := 3) (by first | rfl | assumption) bw_140 rfl rfl rfl rfl ?_
    rw [show sF (stA (stA (stK σ m (some (gA G k))) 21 m x) 22 m y) 19 3 = nI m from hm]
    refine V.iconst (q := 46) dX2_addToken_45 (v := 1) rfl rfl ?_
    refine V.iadd (q := 47) dX2_addToken_46 rfl ?_
    rw [nI_1]
    refine V.pP (q := 50) dX2_addToken_47 (j := 3) (by first | rfl | assumption) bw_140 rfl rfl rfl rfl rfl rfl ?_
    exact V.vret dX2_addToken_50 rfl ⟨rfl, rfl, rfl⟩
