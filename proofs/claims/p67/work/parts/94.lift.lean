/-! the constructor of LiftScheduler; the state at the start -/
theorem zS_ok : ∀ j, j < 19 → defaultValue (tyX3 j) = vp_V zS j := by
  intro j hj
  rcases (show j = 0 ∨ j = 1 ∨ j = 2 ∨ j = 3 ∨ j = 4 ∨ j = 5 ∨ j = 6 ∨ j = 7 ∨ j = 8 ∨ j = 9 ∨ j = 10 ∨ j = 11 ∨ j = 12 ∨ j = 13 ∨ j = 14 ∨ j = 15 ∨ j = 16 ∨ j = 17 ∨ j = 18 by omega) with rfl | rfl | rfl | rfl | rfl | rfl | rfl | rfl | rfl | rfl | rfl | rfl | rfl | rfl | rfl | rfl | rfl | rfl | rfl <;> rfl
theorem zP_ok : ∀ j, j < 9 → defaultValue (tyX2 j) = vp_V zP j := by
  intro j hj
  rcases (show j = 0 ∨ j = 1 ∨ j = 2 ∨ j = 3 ∨ j = 4 ∨ j = 5 ∨ j = 6 ∨ j = 7 ∨ j = 8 by omega) with rfl | rfl | rfl | rfl | rfl | rfl | rfl | rfl | rfl <;> rfl
theorem zL_ok : ∀ j, j < 12 → defaultValue (tyX4 j) = vp_V zL j := by
  intro j hj
  rcases (show j = 0 ∨ j = 1 ∨ j = 2 ∨ j = 3 ∨ j = 4 ∨ j = 5 ∨ j = 6 ∨ j = 7 ∨ j = 8 ∨ j = 9 ∨ j = 10 ∨ j = 11 by omega) with rfl | rfl | rfl | rfl | rfl | rfl | rfl | rfl | rfl | rfl | rfl | rfl <;> rfl
def s0F : Nat → Nat → Int32 := fun k j => if kd k = 1 then simF j else if k = 19 then scF j else 0
def s0A : Nat → Nat → Int32 := fun _ _ => 0
def s0 : St := (s0F, s0A, none, (fun _ => none), fun _ => 0)
abbrev rfE (G : GG) (N : Nat) (r : Nat → Option Nat) : va_E := .inl (gC G 4, N, .inr (.inr (.inr (.inr r))))
def lfW (G : GG) (fs : List Value) (p q : Nat) : HM := fun a => if a = 0 then .inr (2, fs) else if a = 15 then rfE G 8 (rfA G 24 p) else if a = 16 then rfE G 2 (rfA G 80 q) else hof G s0 a
theorem rfA_0 {G : GG} {k0 : Nat} : rfA G k0 0 = fun _ => none := funext fun i => if_neg (Nat.not_lt_zero i)
theorem rfA_up {G : GG} {k0 t : Nat} : va_up (rfA G k0 t) t (some (gB G + (k0 + 7 * t))) = rfA G k0 (t + 1) := funext fun i => by
  by_cases e : i = t
  · subst e
    simp [va_up, rfA]
  · by_cases e2 : i < t
    · simp [va_up, rfA, e, e2, Nat.lt_succ_of_lt e2]
    · have e3 : ¬ i < t + 1 := by omega
      simp [va_up, rfA, e, e2, e3]
theorem s0A_z {k : Nat} (h : k ≠ 95) : s0A k = fun _ => 0 := rfl
section LF
variable {G : GG} {fs fs2 : List Value} {p q k c t : Nat} {e : va_E}
theorem lf_at : lfW G fs p q 0 = .inr (2, fs) := rfl
theorem lf_15 : lfW G fs p q 15 = rfE G 8 (rfA G 24 p) := rfl
theorem lf_16 : lfW G fs p q 16 = rfE G 2 (rfA G 80 q) := rfl
theorem lf_in (h : k ≠ 0 ∧ k ≠ 15 ∧ k ≠ 16) : lfW G fs p q k = hof G s0 k := by
  unfold lfW
  rw [if_neg h.1, if_neg h.2.1, if_neg h.2.2]
theorem lf_ne (hk : kd k = 1 ∨ kd k = 2) : k ≠ 0 ∧ k ≠ 15 ∧ k ≠ 16 ∧ k ≠ 95 := by
  refine ⟨?_, ?_, ?_, ?_⟩ <;> (intro e; subst e; revert hk; decide +kernel)
theorem lf_sm (hk : kd k = 1) : lfW G fs p q k = .inr (1, fsS G k simF) := by
  have h := lf_ne (Or.inl hk)
  rw [lf_in ⟨h.1, h.2.1, h.2.2.1⟩, hof_at hk]
  show (.inr (1, fsS G k (s0F k)) : va_E) = _
  rw [show s0F k = simF from funext fun j => if_pos hk]
theorem lf_put : hset (lfW G fs p q) 0 (.inr (2, fs2)) = lfW G fs2 p q := funext fun a => by
  by_cases h : a = 0
  · subst h; rfl
  · simp [hset, lfW, h]
theorem lf_past0 : hset (lfW G fs 0 q) 15 (rfE G 8 (fun _ => none)) = lfW G fs 0 q := funext fun a => by
  by_cases h : a = 15
  · subst h
    show rfE G 8 (fun _ => none) = rfE G 8 (rfA G 24 0)
    rw [rfA_0]
  · simp [hset, h]
theorem lf_slots0 : hset (lfW G fs p 0) 16 (rfE G 2 (fun _ => none)) = lfW G fs p 0 := funext fun a => by
  by_cases h : a = 16
  · subst h
    show rfE G 2 (fun _ => none) = rfE G 2 (rfA G 80 0)
    rw [rfA_0]
  · simp [hset, h]
theorem lf_past (h : t = p) : hset (lfW G fs p q) 15 (rfE G 8 (va_up (rfA G 24 p) t (some (gB G + (24 + 7 * t))))) = lfW G fs (p + 1) q := funext fun a => by
  subst h
  by_cases h : a = 15
  · subst h
    show rfE G 8 (va_up _ _ _) = rfE G 8 (rfA G 24 (t + 1))
    rw [rfA_up]
  · simp [hset, lfW, h]
theorem lf_slot (h : t = q) : hset (lfW G fs p q) 16 (rfE G 2 (va_up (rfA G 80 q) t (some (gB G + (80 + 7 * t))))) = lfW G fs p (q + 1) := funext fun a => by
  subst h
  by_cases h : a = 16
  · subst h
    show rfE G 2 (va_up _ _ _) = rfE G 2 (rfA G 80 (t + 1))
    rw [rfA_up]
  · simp [hset, lfW, h]
theorem lf_arr (h0 : k ≠ 0 ∧ k ≠ 15 ∧ k ≠ 16) (h5 : k ≠ 95) (hk : kd k = c) (he : cellk G c k (s0F k) (fun _ => 0) none (fun _ => none) (fun _ => 0) = e) : hset (lfW G fs p q) k e = lfW G fs p q := funext fun a => by
  by_cases h : a = k
  · subst h
    rw [hset_same, lf_in h0, hof_at hk, ← he]
    show cellk G c a (s0F a) (fun _ => 0) none (fun _ => none) (fun _ => 0) = cellk G c a (s0F a) (s0A a) none (fun _ => none) (fun _ => 0)
    rw [s0A_z h5]
  · simp [hset, h]
theorem lf_sim (hk : kd k = 1) (h6 : ∀ j, j < 6 → kd (k + 1 + j) = 2) : nwW (lfW G fs p q) k 1 (fsS G k simF) (z6 G) = lfW G fs p q := funext fun a => by
  by_cases h : a = k
  · subst h
    rw [nw_at, lf_sm hk]
  · by_cases h2 : k < a ∧ a ≤ k + 6
    · obtain ⟨j, hj, rfl⟩ : ∃ j, j < 6 ∧ a = k + 1 + j := ⟨a - k - 1, by omega, by omega⟩
      have hn := lf_ne (Or.inr (h6 j hj))
      rw [lf_in ⟨hn.1, hn.2.1, hn.2.2.1⟩, hof_at (h6 j hj)]
      have hl : (z6 G).length = 6 := rfl
      have e1 : nwW (lfW G fs p q) k 1 (fsS G k simF) (z6 G) (k + 1 + j) = (z6 G).getD (k + 1 + j - k - 1) (.inr (0, [])) := by
        unfold nwW
        rw [if_neg h, if_pos (by rw [hl]; exact h2)]
      rw [e1, show k + 1 + j - k - 1 = j by omega]
      show (z6 G).getD j (.inr (0, [])) = .inl (gC G 0, 40, .inl (s0A (k + 1 + j)))
      rw [s0A_z hn.2.2.2]
      rcases (show j = 0 ∨ j = 1 ∨ j = 2 ∨ j = 3 ∨ j = 4 ∨ j = 5 by omega) with rfl | rfl | rfl | rfl | rfl | rfl <;> rfl
    · unfold nwW
      rw [if_neg h, if_neg (by show ¬ (k < a ∧ a ≤ k + (z6 G).length); exact h2)]
theorem lf_scr : nwW (lfW G fs p q) 19 0 (fsP G scF none) (z3 G) = lfW G fs p q := funext fun a => by
  by_cases h : a = 19
  · subst h; rfl
  · by_cases h2 : 19 < a ∧ a ≤ 22
    · rcases (show a = 20 ∨ a = 21 ∨ a = 22 by omega) with rfl | rfl | rfl <;> rfl
    · unfold nwW
      rw [if_neg h, if_neg (by show ¬ (19 < a ∧ a ≤ 19 + (z3 G).length); exact h2)]
end LF
section CIN
variable {l : Launch} {G : GG} {T : MT} {d mc ms ce sl : Nat} {Q : PQ} {pc q : Nat} {L : List (Option Value)} {st st0 : List Value} {h : HM} {n : Nat}
theorem V.callIN {T' : MT} {np d' mc' ms' : Nat} {Q' : PQ} {As : List Value} {b : Nat} (hT : T.1.cls = "LiftScheduler") (hy : T'.1 = ⟨"LiftScheduler$Script", "<init>", "()V"⟩) (hC : Ct l G T' d' mc' ms' (.ref b :: As) h n Q') (M : MWi T' np) (hret : T'.2.2.2.1 = none) (hd : decode T.2.1 pc = .ok (.invokespecial 46, 3)) (hst : st0 = As.reverse ++ .ref b :: st)
    (hnp : As.length = np) (h8 : cat8 st = true) (hdd : d' + 1 ≤ d) (hm1 : ce + mc' ≤ mc) (hm2 : sl + ms' ≤ ms) (hq : pc + 3 = q)
    (kr : ∀ (v : Option Value) (h2 : HM) (n2 : Nat), Q' (.inl v) h2 n2 → V l G T d mc ms Q (ce + mc') (sl + ms') q L (v.toList ++ st) h2 n2)
    (kx : ∀ (E : String) (h2 : HM) (n2 : Nat), Q' (.inr E) h2 n2 → VX l G T d mc ms Q (ce + mc') (sl + ms') pc L E h2 n2) : V l G T d mc ms Q ce sl pc L st0 h n := by
  intro p e s m args below meth c H locs ls F hl hP hS
  subst hst
  have hE : EV G s s.heap := F.2.2.2.2.2.2.2.2.2.1
  have hsr := hE.2.2.2.2.2.2.2.1
  have hnest : va_Nw (.methodLinkNest T.1.cls 46 T'.1 "LiftScheduler") s := by rw [hT, hy]; exact hsr.2.2.2.2.1
  obtain ⟨⟨hmh, hpp, h19, hini, hcode, hh⟩, hin, hnm⟩ := M
  have hm : ∀ w ∈ wsT T', w ∈ BW := by
    rw [wsT_code hh]
    exact fun w hw => (List.mem_cons.mp hw).elim (fun e => e ▸ hcode) id
  rw [hret] at hcode
  have hcn : va_CN (rmV d mc ms) s args T.1.cls 46 T'.1 "LiftScheduler" T'.2.1 T'.2.2.1 none (wsT T') (rmV d' mc' ms') mc' ms' np := by
    refine ⟨⟨rfl, rfl, hdd, ?_, fun w hw => pay_bw F.2.2.2.2.1 w (hm w hw), ?_⟩, F.2.2.2.2.1 _ hcode, F.2.2.2.2.1 _ hini, hmh, fun sig hs => ?_, va_Nw.use rfl hnest⟩
    · show 8 + (T'.2.2.1 + 11) + 38 * d' ≤ 38 * d
      omega
    · rw [wsT_code hh, hret]
      exact List.mem_cons_self
    · rw [hs] at hpp
      exact (Option.some.inj hpp).symm
  exact Run.done F hl hP hS hq (vx_runIN (As := As) (rest := st) (b := b) ⟨F.1, F.2.1, F.2.2.1, F.2.2.2.1, F.2.2.2.2.1⟩ (hC F.2.2.2.2.2.2.2.2.2.2.2.2) ⟨hcn, hnm, F.2.2.2.2.1 _ hin⟩ ⟨Sat.blind, fun U hU hW => ⟨rfl, Sat.start F hP hS hU hW⟩⟩ rfl hnp hl.1 rfl (lv_room (of_decide_eq_true h8)) hd ⟨hm1, hm2⟩) kr kx
end CIN
set_option maxHeartbeats 16000000 in
set_option maxRecDepth 10000 in
theorem kR_lift {l : Launch} {G : GG} : Ct l G TX4_init 2 93 5196 [.ref (gB G + 0)] (lfW G zL 0 0) 1 (RetR (lfW G (fsL G (fun _ => 0)) 8 2) 94) := by
  have h9 : NC = 94 := rfl
  refine Ct.ofV (by decide +kernel) rfl rfl (Nat.le_of_ble_eq_true rfl) ?_
  refine V.aload_n (q := 1) dX4_init_0 rfl rfl ?_
  refine V.objInit (q := 4) dX4_init_1 bw_30 bw_31 bw_32 rfl (by decide) rfl ?_
  refine V.aload_n (q := 5) dX4_init_4 rfl rfl ?_
  refine V.new (q := 8) (ci := 1) (N := 19) dX4_init_5 rfl inX3 tyX3_ok bw_33 bw_34 bw_3 zS_ok (by decide) (by omega) (by omega) rfl ?_
  refine V.to (n2 := 2) rfl rfl nw_new rfl ?_
  refine V.dup (q := 9) dX4_init_8 rfl rfl ?_
  refine V.callI (q := 12) (As := []) (kR_sim (k := 1) (by decide)) MX3_init rfl bw_35 dX4_init_9 rfl rfl rfl (by decide) (by omega) (by omega) rfl (fun v h2 n2 hQ => ?_) (fun E h2 n2 hQ => nomatch hQ.1)
  obtain ⟨e1, rfl, rfl⟩ := hQ
  cases e1
  refine V.to (n2 := 8) rfl rfl (lf_sim (k := 1) (by decide +kernel) (by decide +kernel)) rfl ?_
  refine V.put (q := 15) (j := 0) dX4_init_12 lf_at (by decide) rfl inX4 tyX4_ok nmX4 (by decide) rfl bw_168 (Or.inr ⟨rfl, rfl⟩) rfl rfl (Nat.le_of_ble_eq_true rfl) rfl ?_
  refine V.to rfl rfl lf_put rfl ?_
  refine V.aload_n (q := 16) dX4_init_15 rfl rfl ?_
  refine V.new (q := 19) (ci := 1) (N := 19) dX4_init_16 rfl inX3 tyX3_ok bw_33 bw_34 bw_3 zS_ok (by decide) (by omega) (by omega) rfl ?_
  refine V.to (n2 := 9) rfl rfl nw_new rfl ?_
  refine V.dup (q := 20) dX4_init_19 rfl rfl ?_
  refine V.callI (q := 23) (As := []) (kR_sim (k := 8) (by decide)) MX3_init rfl bw_35 dX4_init_20 rfl rfl rfl (by decide) (by omega) (by omega) rfl (fun v h2 n2 hQ => ?_) (fun E h2 n2 hQ => nomatch hQ.1)
  obtain ⟨e1, rfl, rfl⟩ := hQ
  cases e1
  refine V.to (n2 := 15) rfl rfl (lf_sim (k := 8) (by decide +kernel) (by decide +kernel)) rfl ?_
  refine V.put (q := 26) (j := 1) dX4_init_23 lf_at (by decide) rfl inX4 tyX4_ok nmX4 (by decide) rfl bw_169 (Or.inr ⟨rfl, rfl⟩) rfl rfl (Nat.le_of_ble_eq_true rfl) rfl ?_
  refine V.to rfl rfl lf_put rfl ?_
  refine V.aload_n (q := 27) dX4_init_26 rfl rfl ?_
  refine V.bipush (q := 29) dX4_init_27 (v := 8) rfl rfl ?_
  refine V.newarrQ (q := 32) (t0 := 4) (N := 8) (C := "LiftScheduler$Simulation") dX4_init_29 bw_33 (fun U hU => hU.2.2.2.2.2.1) rfl rfl (by decide) (by decide) (by omega) (by omega) rfl ?_
  refine V.to (n2 := 16) rfl rfl lf_past0 rfl ?_
  refine V.put (q := 35) (j := 2) dX4_init_32 lf_at (by decide) rfl inX4 tyX4_ok nmX4 (by decide) rfl bw_170 (Or.inr ⟨rfl, rfl⟩) rfl rfl (Nat.le_of_ble_eq_true rfl) rfl ?_
  refine V.to rfl rfl lf_put rfl ?_
  refine V.aload_n (q := 36) dX4_init_35 rfl rfl ?_
  refine V.iconst (q := 37) dX4_init_36 (v := 0) rfl rfl ?_
  refine V.put (q := 40) (j := 3) dX4_init_37 lf_at (by decide) rfl inX4 tyX4_ok nmX4 (by decide) rfl bw_171 (Or.inl rfl) rfl rfl (Nat.le_of_ble_eq_true rfl) rfl ?_
  refine V.to rfl rfl lf_put rfl ?_
  refine V.aload_n (q := 41) dX4_init_40 rfl rfl ?_
  refine V.iconst (q := 42) dX4_init_41 (v := 0) rfl rfl ?_
  refine V.put (q := 45) (j := 4) dX4_init_42 lf_at (by decide) rfl inX4 tyX4_ok nmX4 (by decide) rfl bw_172 (Or.inl rfl) rfl rfl (Nat.le_of_ble_eq_true rfl) rfl ?_
  refine V.to rfl rfl lf_put rfl ?_
  refine V.aload_n (q := 46) dX4_init_45 rfl rfl ?_
  refine V.iconst (q := 47) dX4_init_46 (v := 2) rfl rfl ?_
  refine V.newarrQ (q := 50) (t0 := 4) (N := 2) (C := "LiftScheduler$Simulation") dX4_init_47 bw_33 (fun U hU => hU.2.2.2.2.2.1) rfl rfl (by decide) (by decide) (by omega) (by omega) rfl ?_
  refine V.to (n2 := 17) rfl rfl lf_slots0 rfl ?_
  refine V.put (q := 53) (j := 5) dX4_init_50 lf_at (by decide) rfl inX4 tyX4_ok nmX4 (by decide) rfl bw_173 (Or.inr ⟨rfl, rfl⟩) rfl rfl (Nat.le_of_ble_eq_true rfl) rfl ?_
  refine V.to rfl rfl lf_put rfl ?_
  refine V.aload_n (q := 54) dX4_init_53 rfl rfl ?_
  refine V.iconst (q := 55) dX4_init_54 (v := 2) rfl rfl ?_
  refine V.newarr (q := 57) (t0 := 2) (N := 2) (a0 := (2, .inl (fun _ => 0))) dX4_init_55 bw_166 rfl trivial rfl (fun _ => rfl) rfl (by decide) (by decide) (by omega) (by omega) (by omega) rfl ?_
  refine V.to (n2 := 18) rfl rfl (lf_arr (k := 17) (c := 5) (by decide) (by decide) (by decide +kernel) rfl) rfl ?_
  refine V.put (q := 60) (j := 6) dX4_init_57 lf_at (by decide) rfl inX4 tyX4_ok nmX4 (by decide) rfl bw_174 (Or.inr ⟨rfl, rfl⟩) rfl rfl (Nat.le_of_ble_eq_true rfl) rfl ?_
  refine V.to rfl rfl lf_put rfl ?_
  refine V.aload_n (q := 61) dX4_init_60 rfl rfl ?_
  refine V.sipush (q := 64) dX4_init_61 (v := 500) rfl rfl ?_
  refine V.newarr (q := 66) (t0 := 1) (N := 500) (a0 := (500, .inl (fun _ => 0))) dX4_init_64 bw_167 rfl trivial rfl (fun _ => rfl) rfl (by decide) (by decide) (by omega) (by omega) (by omega) rfl ?_
  refine V.to (n2 := 19) rfl rfl (lf_arr (k := 18) (c := 6) (by decide) (by decide) (by decide +kernel) rfl) rfl ?_
  refine V.put (q := 69) (j := 7) dX4_init_66 lf_at (by decide) rfl inX4 tyX4_ok nmX4 (by decide) rfl bw_175 (Or.inr ⟨rfl, rfl⟩) rfl rfl (Nat.le_of_ble_eq_true rfl) rfl ?_
  refine V.to rfl rfl lf_put rfl ?_
  refine V.aload_n (q := 70) dX4_init_69 rfl rfl ?_
  refine V.iconst (q := 71) dX4_init_70 (v := 0) rfl rfl ?_
  refine V.put (q := 74) (j := 8) dX4_init_71 lf_at (by decide) rfl inX4 tyX4_ok nmX4 (by decide) rfl bw_176 (Or.inl rfl) rfl rfl (Nat.le_of_ble_eq_true rfl) rfl ?_
  refine V.to rfl rfl lf_put rfl ?_
  refine V.aload_n (q := 75) dX4_init_74 rfl rfl ?_
  refine V.new (q := 78) (ci := 0) (N := 9) dX4_init_75 rfl inX2 tyX2_ok bw_129 bw_130 bw_4 zP_ok (by decide) (by omega) (by omega) rfl ?_
  refine V.to (n2 := 20) rfl rfl nw_new rfl ?_
  refine V.dup (q := 79) dX4_init_78 rfl rfl ?_
  refine V.callIN (q := 82) (As := []) rfl rfl (kR_scr rfl) MX2_init rfl dX4_init_79 rfl rfl rfl (by decide) (by omega) (by omega) rfl (fun v h2 n2 hQ => ?_) (fun E h2 n2 hQ => nomatch hQ.1)
  obtain ⟨e1, rfl, rfl⟩ := hQ
  cases e1
  refine V.to (n2 := 23) rfl rfl lf_scr rfl ?_
  refine V.put (q := 85) (j := 9) dX4_init_82 lf_at (by decide) rfl inX4 tyX4_ok nmX4 (by decide) rfl bw_177 (Or.inr ⟨rfl, rfl⟩) rfl rfl (Nat.le_of_ble_eq_true rfl) rfl ?_
  refine V.to rfl rfl lf_put rfl ?_
  refine V.aload_n (q := 86) dX4_init_85 rfl rfl ?_
  refine V.bipush (q := 88) dX4_init_86 (v := 64) rfl rfl ?_
  refine V.newarr (q := 90) (t0 := 1) (N := 64) (a0 := (64, .inl (fun _ => 0))) dX4_init_88 bw_167 rfl trivial rfl (fun _ => rfl) rfl (by decide) (by decide) (by omega) (by omega) (by omega) rfl ?_
  refine V.to (n2 := 24) rfl rfl (lf_arr (k := 23) (c := 10) (by decide) (by decide) (by decide +kernel) rfl) rfl ?_
  refine V.put (q := 93) (j := 10) dX4_init_90 lf_at (by decide) rfl inX4 tyX4_ok nmX4 (by decide) rfl bw_178 (Or.inr ⟨rfl, rfl⟩) rfl rfl (Nat.le_of_ble_eq_true rfl) rfl ?_
  refine V.to rfl rfl lf_put rfl ?_
  refine V.aload_n (q := 94) dX4_init_93 rfl rfl ?_
  refine V.iconst (q := 95) dX4_init_94 (v := 0) rfl rfl ?_
  refine V.put (q := 98) (j := 11) dX4_init_95 lf_at (by decide) rfl inX4 tyX4_ok nmX4 (by decide) rfl bw_179 (Or.inl rfl) rfl rfl (Nat.le_of_ble_eq_true rfl) rfl ?_
  refine V.to rfl rfl lf_put rfl ?_
  refine V.iconst (q := 99) dX4_init_98 (v := 0) rfl rfl ?_
  refine V.istore_n (q := 100) dX4_init_99 rfl rfl rfl rfl ?_
  refine V.iload_n (q := 101) dX4_init_100 rfl rfl ?_
  refine V.bipush (q := 103) dX4_init_101 (v := 8) rfl rfl ?_
  refine V.icmp_ge (tgt := 125) (q := 106) dX4_init_103 (by decide) rfl (fun c103 => ?_) (fun c103 => ?_)
  case refine_1 => exact absurd c103 (by decide)
  refine V.aload_n (q := 107) dX4_init_106 rfl rfl ?_
  refine V.get (q := 110) (j := 2) dX4_init_107 lf_at (by decide) rfl inX4 (by decide) rfl bw_170 rfl rfl ?_
  refine V.iload_n (q := 111) dX4_init_110 rfl rfl ?_
  refine V.new (q := 114) (ci := 1) (N := 19) dX4_init_111 rfl inX3 tyX3_ok bw_33 bw_34 bw_3 zS_ok (by decide) (by omega) (by omega) rfl ?_
  refine V.to (n2 := 25) rfl rfl nw_new rfl ?_
  refine V.dup (q := 115) dX4_init_114 rfl rfl ?_
  refine V.callI (q := 118) (As := []) (kR_sim (k := 24) (by decide)) MX3_init rfl bw_35 dX4_init_115 rfl rfl rfl (by decide) (by omega) (by omega) rfl (fun v h2 n2 hQ => ?_) (fun E h2 n2 hQ => nomatch hQ.1)
  obtain ⟨e1, rfl, rfl⟩ := hQ
  cases e1
  refine V.to (n2 := 31) rfl rfl (lf_sim (k := 24) (by decide +kernel) (by decide +kernel)) rfl ?_
  refine V.aast (q := 119) (k := 15) (N := 8) (i := 0) (t0 := 4) (k2 := 24 + 7 * 0) (ci := 1) (r := ("LiftScheduler$Simulation", TX3, 19)) dX4_init_118 lf_15 (by decide) rfl (lf_sm (by decide +kernel)) (by decide) rfl (by decide) (by decide) rfl rfl ?_
  refine V.to rfl rfl (lf_past (t := 0) rfl) rfl ?_
  refine V.iinc (q := 122) (v := 1) dX4_init_119 rfl rfl rfl rfl rfl ?_
  refine V.goto (tgt := 100) dX4_init_122 (by decide) ?_
  refine V.iload_n (q := 101) dX4_init_100 rfl rfl ?_
  refine V.bipush (q := 103) dX4_init_101 (v := 8) rfl rfl ?_
  refine V.icmp_ge (tgt := 125) (q := 106) dX4_init_103 (by decide) rfl (fun c103 => ?_) (fun c103 => ?_)
  case refine_1 => exact absurd c103 (by decide)
  refine V.aload_n (q := 107) dX4_init_106 rfl rfl ?_
  refine V.get (q := 110) (j := 2) dX4_init_107 lf_at (by decide) rfl inX4 (by decide) rfl bw_170 rfl rfl ?_
  refine V.iload_n (q := 111) dX4_init_110 rfl rfl ?_
  refine V.new (q := 114) (ci := 1) (N := 19) dX4_init_111 rfl inX3 tyX3_ok bw_33 bw_34 bw_3 zS_ok (by decide) (by omega) (by omega) rfl ?_
  refine V.to (n2 := 32) rfl rfl nw_new rfl ?_
  refine V.dup (q := 115) dX4_init_114 rfl rfl ?_
  refine V.callI (q := 118) (As := []) (kR_sim (k := 31) (by decide)) MX3_init rfl bw_35 dX4_init_115 rfl rfl rfl (by decide) (by omega) (by omega) rfl (fun v h2 n2 hQ => ?_) (fun E h2 n2 hQ => nomatch hQ.1)
  obtain ⟨e1, rfl, rfl⟩ := hQ
  cases e1
  refine V.to (n2 := 38) rfl rfl (lf_sim (k := 31) (by decide +kernel) (by decide +kernel)) rfl ?_
  refine V.aast (q := 119) (k := 15) (N := 8) (i := 1) (t0 := 4) (k2 := 24 + 7 * 1) (ci := 1) (r := ("LiftScheduler$Simulation", TX3, 19)) dX4_init_118 lf_15 (by decide) rfl (lf_sm (by decide +kernel)) (by decide) rfl (by decide) (by decide) rfl rfl ?_
  refine V.to rfl rfl (lf_past (t := 1) rfl) rfl ?_
  refine V.iinc (q := 122) (v := 2) dX4_init_119 rfl rfl rfl rfl rfl ?_
  refine V.goto (tgt := 100) dX4_init_122 (by decide) ?_
  refine V.iload_n (q := 101) dX4_init_100 rfl rfl ?_
  refine V.bipush (q := 103) dX4_init_101 (v := 8) rfl rfl ?_
  refine V.icmp_ge (tgt := 125) (q := 106) dX4_init_103 (by decide) rfl (fun c103 => ?_) (fun c103 => ?_)
  case refine_1 => exact absurd c103 (by decide)
  refine V.aload_n (q := 107) dX4_init_106 rfl rfl ?_
  refine V.get (q := 110) (j := 2) dX4_init_107 lf_at (by decide) rfl inX4 (by decide) rfl bw_170 rfl rfl ?_
  refine V.iload_n (q := 111) dX4_init_110 rfl rfl ?_
  refine V.new (q := 114) (ci := 1) (N := 19) dX4_init_111 rfl inX3 tyX3_ok bw_33 bw_34 bw_3 zS_ok (by decide) (by omega) (by omega) rfl ?_
  refine V.to (n2 := 39) rfl rfl nw_new rfl ?_
  refine V.dup (q := 115) dX4_init_114 rfl rfl ?_
  refine V.callI (q := 118) (As := []) (kR_sim (k := 38) (by decide)) MX3_init rfl bw_35 dX4_init_115 rfl rfl rfl (by decide) (by omega) (by omega) rfl (fun v h2 n2 hQ => ?_) (fun E h2 n2 hQ => nomatch hQ.1)
  obtain ⟨e1, rfl, rfl⟩ := hQ
  cases e1
  refine V.to (n2 := 45) rfl rfl (lf_sim (k := 38) (by decide +kernel) (by decide +kernel)) rfl ?_
  refine V.aast (q := 119) (k := 15) (N := 8) (i := 2) (t0 := 4) (k2 := 24 + 7 * 2) (ci := 1) (r := ("LiftScheduler$Simulation", TX3, 19)) dX4_init_118 lf_15 (by decide) rfl (lf_sm (by decide +kernel)) (by decide) rfl (by decide) (by decide) rfl rfl ?_
  refine V.to rfl rfl (lf_past (t := 2) rfl) rfl ?_
  refine V.iinc (q := 122) (v := 3) dX4_init_119 rfl rfl rfl rfl rfl ?_
  refine V.goto (tgt := 100) dX4_init_122 (by decide) ?_
  refine V.iload_n (q := 101) dX4_init_100 rfl rfl ?_
  refine V.bipush (q := 103) dX4_init_101 (v := 8) rfl rfl ?_
  refine V.icmp_ge (tgt := 125) (q := 106) dX4_init_103 (by decide) rfl (fun c103 => ?_) (fun c103 => ?_)
  case refine_1 => exact absurd c103 (by decide)
  refine V.aload_n (q := 107) dX4_init_106 rfl rfl ?_
  refine V.get (q := 110) (j := 2) dX4_init_107 lf_at (by decide) rfl inX4 (by decide) rfl bw_170 rfl rfl ?_
  refine V.iload_n (q := 111) dX4_init_110 rfl rfl ?_
  refine V.new (q := 114) (ci := 1) (N := 19) dX4_init_111 rfl inX3 tyX3_ok bw_33 bw_34 bw_3 zS_ok (by decide) (by omega) (by omega) rfl ?_
  refine V.to (n2 := 46) rfl rfl nw_new rfl ?_
  refine V.dup (q := 115) dX4_init_114 rfl rfl ?_
  refine V.callI (q := 118) (As := []) (kR_sim (k := 45) (by decide)) MX3_init rfl bw_35 dX4_init_115 rfl rfl rfl (by decide) (by omega) (by omega) rfl (fun v h2 n2 hQ => ?_) (fun E h2 n2 hQ => nomatch hQ.1)
  obtain ⟨e1, rfl, rfl⟩ := hQ
  cases e1
  refine V.to (n2 := 52) rfl rfl (lf_sim (k := 45) (by decide +kernel) (by decide +kernel)) rfl ?_
  refine V.aast (q := 119) (k := 15) (N := 8) (i := 3) (t0 := 4) (k2 := 24 + 7 * 3) (ci := 1) (r := ("LiftScheduler$Simulation", TX3, 19)) dX4_init_118 lf_15 (by decide) rfl (lf_sm (by decide +kernel)) (by decide) rfl (by decide) (by decide) rfl rfl ?_
  refine V.to rfl rfl (lf_past (t := 3) rfl) rfl ?_
  refine V.iinc (q := 122) (v := 4) dX4_init_119 rfl rfl rfl rfl rfl ?_
  refine V.goto (tgt := 100) dX4_init_122 (by decide) ?_
  refine V.iload_n (q := 101) dX4_init_100 rfl rfl ?_
  refine V.bipush (q := 103) dX4_init_101 (v := 8) rfl rfl ?_
  refine V.icmp_ge (tgt := 125) (q := 106) dX4_init_103 (by decide) rfl (fun c103 => ?_) (fun c103 => ?_)
  case refine_1 => exact absurd c103 (by decide)
  refine V.aload_n (q := 107) dX4_init_106 rfl rfl ?_
  refine V.get (q := 110) (j := 2) dX4_init_107 lf_at (by decide) rfl inX4 (by decide) rfl bw_170 rfl rfl ?_
  refine V.iload_n (q := 111) dX4_init_110 rfl rfl ?_
  refine V.new (q := 114) (ci := 1) (N := 19) dX4_init_111 rfl inX3 tyX3_ok bw_33 bw_34 bw_3 zS_ok (by decide) (by omega) (by omega) rfl ?_
  refine V.to (n2 := 53) rfl rfl nw_new rfl ?_
  refine V.dup (q := 115) dX4_init_114 rfl rfl ?_
  refine V.callI (q := 118) (As := []) (kR_sim (k := 52) (by decide)) MX3_init rfl bw_35 dX4_init_115 rfl rfl rfl (by decide) (by omega) (by omega) rfl (fun v h2 n2 hQ => ?_) (fun E h2 n2 hQ => nomatch hQ.1)
  obtain ⟨e1, rfl, rfl⟩ := hQ
  cases e1
  refine V.to (n2 := 59) rfl rfl (lf_sim (k := 52) (by decide +kernel) (by decide +kernel)) rfl ?_
  refine V.aast (q := 119) (k := 15) (N := 8) (i := 4) (t0 := 4) (k2 := 24 + 7 * 4) (ci := 1) (r := ("LiftScheduler$Simulation", TX3, 19)) dX4_init_118 lf_15 (by decide) rfl (lf_sm (by decide +kernel)) (by decide) rfl (by decide) (by decide) rfl rfl ?_
  refine V.to rfl rfl (lf_past (t := 4) rfl) rfl ?_
  refine V.iinc (q := 122) (v := 5) dX4_init_119 rfl rfl rfl rfl rfl ?_
  refine V.goto (tgt := 100) dX4_init_122 (by decide) ?_
  refine V.iload_n (q := 101) dX4_init_100 rfl rfl ?_
  refine V.bipush (q := 103) dX4_init_101 (v := 8) rfl rfl ?_
  refine V.icmp_ge (tgt := 125) (q := 106) dX4_init_103 (by decide) rfl (fun c103 => ?_) (fun c103 => ?_)
  case refine_1 => exact absurd c103 (by decide)
  refine V.aload_n (q := 107) dX4_init_106 rfl rfl ?_
  refine V.get (q := 110) (j := 2) dX4_init_107 lf_at (by decide) rfl inX4 (by decide) rfl bw_170 rfl rfl ?_
  refine V.iload_n (q := 111) dX4_init_110 rfl rfl ?_
  refine V.new (q := 114) (ci := 1) (N := 19) dX4_init_111 rfl inX3 tyX3_ok bw_33 bw_34 bw_3 zS_ok (by decide) (by omega) (by omega) rfl ?_
  refine V.to (n2 := 60) rfl rfl nw_new rfl ?_
  refine V.dup (q := 115) dX4_init_114 rfl rfl ?_
  refine V.callI (q := 118) (As := []) (kR_sim (k := 59) (by decide)) MX3_init rfl bw_35 dX4_init_115 rfl rfl rfl (by decide) (by omega) (by omega) rfl (fun v h2 n2 hQ => ?_) (fun E h2 n2 hQ => nomatch hQ.1)
  obtain ⟨e1, rfl, rfl⟩ := hQ
  cases e1
  refine V.to (n2 := 66) rfl rfl (lf_sim (k := 59) (by decide +kernel) (by decide +kernel)) rfl ?_
  refine V.aast (q := 119) (k := 15) (N := 8) (i := 5) (t0 := 4) (k2 := 24 + 7 * 5) (ci := 1) (r := ("LiftScheduler$Simulation", TX3, 19)) dX4_init_118 lf_15 (by decide) rfl (lf_sm (by decide +kernel)) (by decide) rfl (by decide) (by decide) rfl rfl ?_
  refine V.to rfl rfl (lf_past (t := 5) rfl) rfl ?_
  refine V.iinc (q := 122) (v := 6) dX4_init_119 rfl rfl rfl rfl rfl ?_
  refine V.goto (tgt := 100) dX4_init_122 (by decide) ?_
  refine V.iload_n (q := 101) dX4_init_100 rfl rfl ?_
  refine V.bipush (q := 103) dX4_init_101 (v := 8) rfl rfl ?_
  refine V.icmp_ge (tgt := 125) (q := 106) dX4_init_103 (by decide) rfl (fun c103 => ?_) (fun c103 => ?_)
  case refine_1 => exact absurd c103 (by decide)
  refine V.aload_n (q := 107) dX4_init_106 rfl rfl ?_
  refine V.get (q := 110) (j := 2) dX4_init_107 lf_at (by decide) rfl inX4 (by decide) rfl bw_170 rfl rfl ?_
  refine V.iload_n (q := 111) dX4_init_110 rfl rfl ?_
  refine V.new (q := 114) (ci := 1) (N := 19) dX4_init_111 rfl inX3 tyX3_ok bw_33 bw_34 bw_3 zS_ok (by decide) (by omega) (by omega) rfl ?_
  refine V.to (n2 := 67) rfl rfl nw_new rfl ?_
  refine V.dup (q := 115) dX4_init_114 rfl rfl ?_
  refine V.callI (q := 118) (As := []) (kR_sim (k := 66) (by decide)) MX3_init rfl bw_35 dX4_init_115 rfl rfl rfl (by decide) (by omega) (by omega) rfl (fun v h2 n2 hQ => ?_) (fun E h2 n2 hQ => nomatch hQ.1)
  obtain ⟨e1, rfl, rfl⟩ := hQ
  cases e1
  refine V.to (n2 := 73) rfl rfl (lf_sim (k := 66) (by decide +kernel) (by decide +kernel)) rfl ?_
  refine V.aast (q := 119) (k := 15) (N := 8) (i := 6) (t0 := 4) (k2 := 24 + 7 * 6) (ci := 1) (r := ("LiftScheduler$Simulation", TX3, 19)) dX4_init_118 lf_15 (by decide) rfl (lf_sm (by decide +kernel)) (by decide) rfl (by decide) (by decide) rfl rfl ?_
  refine V.to rfl rfl (lf_past (t := 6) rfl) rfl ?_
  refine V.iinc (q := 122) (v := 7) dX4_init_119 rfl rfl rfl rfl rfl ?_
  refine V.goto (tgt := 100) dX4_init_122 (by decide) ?_
  refine V.iload_n (q := 101) dX4_init_100 rfl rfl ?_
  refine V.bipush (q := 103) dX4_init_101 (v := 8) rfl rfl ?_
  refine V.icmp_ge (tgt := 125) (q := 106) dX4_init_103 (by decide) rfl (fun c103 => ?_) (fun c103 => ?_)
  case refine_1 => exact absurd c103 (by decide)
  refine V.aload_n (q := 107) dX4_init_106 rfl rfl ?_
  refine V.get (q := 110) (j := 2) dX4_init_107 lf_at (by decide) rfl inX4 (by decide) rfl bw_170 rfl rfl ?_
  refine V.iload_n (q := 111) dX4_init_110 rfl rfl ?_
  refine V.new (q := 114) (ci := 1) (N := 19) dX4_init_111 rfl inX3 tyX3_ok bw_33 bw_34 bw_3 zS_ok (by decide) (by omega) (by omega) rfl ?_
  refine V.to (n2 := 74) rfl rfl nw_new rfl ?_
  refine V.dup (q := 115) dX4_init_114 rfl rfl ?_
  refine V.callI (q := 118) (As := []) (kR_sim (k := 73) (by decide)) MX3_init rfl bw_35 dX4_init_115 rfl rfl rfl (by decide) (by omega) (by omega) rfl (fun v h2 n2 hQ => ?_) (fun E h2 n2 hQ => nomatch hQ.1)
  obtain ⟨e1, rfl, rfl⟩ := hQ
  cases e1
  refine V.to (n2 := 80) rfl rfl (lf_sim (k := 73) (by decide +kernel) (by decide +kernel)) rfl ?_
  refine V.aast (q := 119) (k := 15) (N := 8) (i := 7) (t0 := 4) (k2 := 24 + 7 * 7) (ci := 1) (r := ("LiftScheduler$Simulation", TX3, 19)) dX4_init_118 lf_15 (by decide) rfl (lf_sm (by decide +kernel)) (by decide) rfl (by decide) (by decide) rfl rfl ?_
  refine V.to rfl rfl (lf_past (t := 7) rfl) rfl ?_
  refine V.iinc (q := 122) (v := 8) dX4_init_119 rfl rfl rfl rfl rfl ?_
  refine V.goto (tgt := 100) dX4_init_122 (by decide) ?_
  refine V.iload_n (q := 101) dX4_init_100 rfl rfl ?_
  refine V.bipush (q := 103) dX4_init_101 (v := 8) rfl rfl ?_
  refine V.icmp_ge (tgt := 125) (q := 106) dX4_init_103 (by decide) rfl (fun c103 => ?_) (fun c103 => ?_)
  case refine_2 => exact absurd (by decide) c103
  refine V.iconst (q := 126) dX4_init_125 (v := 0) rfl rfl ?_
  refine V.istore_n (q := 127) dX4_init_126 rfl rfl rfl rfl ?_
  refine V.iload_n (q := 128) dX4_init_127 rfl rfl ?_
  refine V.iconst (q := 129) dX4_init_128 (v := 2) rfl rfl ?_
  refine V.icmp_ge (tgt := 151) (q := 132) dX4_init_129 (by decide) rfl (fun c129 => ?_) (fun c129 => ?_)
  case refine_1 => exact absurd c129 (by decide)
  refine V.aload_n (q := 133) dX4_init_132 rfl rfl ?_
  refine V.get (q := 136) (j := 5) dX4_init_133 lf_at (by decide) rfl inX4 (by decide) rfl bw_173 rfl rfl ?_
  refine V.iload_n (q := 137) dX4_init_136 rfl rfl ?_
  refine V.new (q := 140) (ci := 1) (N := 19) dX4_init_137 rfl inX3 tyX3_ok bw_33 bw_34 bw_3 zS_ok (by decide) (by omega) (by omega) rfl ?_
  refine V.to (n2 := 81) rfl rfl nw_new rfl ?_
  refine V.dup (q := 141) dX4_init_140 rfl rfl ?_
  refine V.callI (q := 144) (As := []) (kR_sim (k := 80) (by decide)) MX3_init rfl bw_35 dX4_init_141 rfl rfl rfl (by decide) (by omega) (by omega) rfl (fun v h2 n2 hQ => ?_) (fun E h2 n2 hQ => nomatch hQ.1)
  obtain ⟨e1, rfl, rfl⟩ := hQ
  cases e1
  refine V.to (n2 := 87) rfl rfl (lf_sim (k := 80) (by decide +kernel) (by decide +kernel)) rfl ?_
  refine V.aast (q := 145) (k := 16) (N := 2) (i := 0) (t0 := 4) (k2 := 80 + 7 * 0) (ci := 1) (r := ("LiftScheduler$Simulation", TX3, 19)) dX4_init_144 lf_16 (by decide) rfl (lf_sm (by decide +kernel)) (by decide) rfl (by decide) (by decide) rfl rfl ?_
  refine V.to rfl rfl (lf_slot (t := 0) rfl) rfl ?_
  refine V.iinc (q := 148) (v := 1) dX4_init_145 rfl rfl rfl rfl rfl ?_
  refine V.goto (tgt := 127) dX4_init_148 (by decide) ?_
  refine V.iload_n (q := 128) dX4_init_127 rfl rfl ?_
  refine V.iconst (q := 129) dX4_init_128 (v := 2) rfl rfl ?_
  refine V.icmp_ge (tgt := 151) (q := 132) dX4_init_129 (by decide) rfl (fun c129 => ?_) (fun c129 => ?_)
  case refine_1 => exact absurd c129 (by decide)
  refine V.aload_n (q := 133) dX4_init_132 rfl rfl ?_
  refine V.get (q := 136) (j := 5) dX4_init_133 lf_at (by decide) rfl inX4 (by decide) rfl bw_173 rfl rfl ?_
  refine V.iload_n (q := 137) dX4_init_136 rfl rfl ?_
  refine V.new (q := 140) (ci := 1) (N := 19) dX4_init_137 rfl inX3 tyX3_ok bw_33 bw_34 bw_3 zS_ok (by decide) (by omega) (by omega) rfl ?_
  refine V.to (n2 := 88) rfl rfl nw_new rfl ?_
  refine V.dup (q := 141) dX4_init_140 rfl rfl ?_
  refine V.callI (q := 144) (As := []) (kR_sim (k := 87) (by decide)) MX3_init rfl bw_35 dX4_init_141 rfl rfl rfl (by decide) (by omega) (by omega) rfl (fun v h2 n2 hQ => ?_) (fun E h2 n2 hQ => nomatch hQ.1)
  obtain ⟨e1, rfl, rfl⟩ := hQ
  cases e1
  refine V.to (n2 := 94) rfl rfl (lf_sim (k := 87) (by decide +kernel) (by decide +kernel)) rfl ?_
  refine V.aast (q := 145) (k := 16) (N := 2) (i := 1) (t0 := 4) (k2 := 80 + 7 * 1) (ci := 1) (r := ("LiftScheduler$Simulation", TX3, 19)) dX4_init_144 lf_16 (by decide) rfl (lf_sm (by decide +kernel)) (by decide) rfl (by decide) (by decide) rfl rfl ?_
  refine V.to rfl rfl (lf_slot (t := 1) rfl) rfl ?_
  refine V.iinc (q := 148) (v := 2) dX4_init_145 rfl rfl rfl rfl rfl ?_
  refine V.goto (tgt := 127) dX4_init_148 (by decide) ?_
  refine V.iload_n (q := 128) dX4_init_127 rfl rfl ?_
  refine V.iconst (q := 129) dX4_init_128 (v := 2) rfl rfl ?_
  refine V.icmp_ge (tgt := 151) (q := 132) dX4_init_129 (by decide) rfl (fun c129 => ?_) (fun c129 => ?_)
  case refine_2 => exact absurd (by decide) c129
  exact V.vret dX4_init_151 rfl ⟨rfl, rfl, rfl⟩
