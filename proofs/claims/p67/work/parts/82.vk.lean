/-! texts and kinds: rows, the JDK's members -/
theorem of_val {ad : Nat → Nat} {j : Nat} (hj : j < ev_ks.length) : ("java/lang/String", "value", "[B", Value.ref (ad (200 + j)), ad (100 + j)) ∈ ev_of ad := List.mem_append_right _ (List.mem_flatMap.mpr ⟨j, List.mem_range.mpr hj, by simp⟩)
theorem of_cod {ad : Nat → Nat} {j : Nat} (hj : j < ev_ks.length) : ("java/lang/String", "coder", "B", Value.int 0, ad (100 + j)) ∈ ev_of ad := List.mem_append_right _ (List.mem_flatMap.mpr ⟨j, List.mem_range.mpr hj, by simp⟩)
theorem of_ord {ad : Nat → Nat} {i : Nat} (hi : i < 26) : ("java/lang/Enum", "ordinal", "I", Value.int (nI i), ad i) ∈ ev_of ad := List.mem_append_left _ (List.mem_flatMap.mpr ⟨i, List.mem_range.mpr hi, by simp⟩)
theorem of_txt {ad : Nat → Nat} {i : Nat} (hi : i < 26) : ("LiftScheduler$Kind", "text", "Ljava/lang/String;", Value.ref (ad (100 + ev_tx.getD i 0)), ad i) ∈ ev_of ad := List.mem_append_left _ (List.mem_flatMap.mpr ⟨i, List.mem_range.mpr hi, by simp⟩)
theorem ob_kind {ad : Nat → Nat} {i : Nat} (hi : i < 26) : ("LiftScheduler$Kind", ad i) ∈ ev_ob ad := List.mem_append_left _ (List.mem_map.mpr ⟨i, List.mem_range.mpr hi, rfl⟩)
theorem ob_str {ad : Nat → Nat} {j : Nat} (hj : j < ev_ks.length) : ("java/lang/String", ad (100 + j)) ∈ ev_ob ad := List.mem_append_right _ (List.mem_map.mpr ⟨j, List.mem_range.mpr hj, rfl⟩)
theorem ta_byt {ad : Nat → Nat} {j : Nat} (hj : j < ev_ks.length) : (FieldType.byte, ad (200 + j), (wd j).length, fun k => Value.int ((wd j).getD k 0)) ∈ ev_ta ad := List.mem_append_right _ (List.mem_map.mpr ⟨j, List.mem_range.mpr hj, rfl⟩)
theorem ta_sw {ad : Nat → Nat} : (FieldType.int, ad 26, 26, fun k => Value.int (ev_sw.getD k 0)) ∈ ev_ta ad := List.mem_append_left _ List.mem_cons_self
theorem ta_ks {ad : Nat → Nat} : (FieldType.object "LiftScheduler$Kind", ad 27, 26, fun k => Value.ref (ad k)) ∈ ev_ta ad := List.mem_append_left _ (List.mem_cons_of_mem _ List.mem_cons_self)
theorem st_kind {ad : Nat → Nat} {i : Nat} {nm : String} (hi : i < 26) (hn : ev_kn.getD i "" = nm) : ("LiftScheduler$Kind", nm, "LLiftScheduler$Kind;", Value.ref (ad i)) ∈ ev_st ad := List.mem_append_left _ (List.mem_map.mpr ⟨i, List.mem_range.mpr hi, by rw [hn]⟩)
theorem st_sw {ad : Nat → Nat} : ("LiftScheduler$1", "$SwitchMap$LiftScheduler$Kind", "[I", Value.ref (ad 26)) ∈ ev_st ad := List.mem_append_right _ List.mem_cons_self
theorem st_ks {ad : Nat → Nat} : ("LiftScheduler$Script", "KINDS", "[LLiftScheduler$Kind;", Value.ref (ad 27)) ∈ ev_st ad := List.mem_append_right _ (List.mem_cons_of_mem _ List.mem_cons_self)
theorem st_cs {ad : Nat → Nat} : ("java/lang/String", "COMPACT_STRINGS", "Z", Value.int 1) ∈ ev_st ad := List.mem_append_right _ (List.mem_cons_of_mem _ (List.mem_cons_of_mem _ List.mem_cons_self))
theorem asg_rf {vm : Vm} {c : ClassId} : vm.assignable c c = true := by
  show vm.assignableAux (255 + 1) c c = true
  rw [Vm.assignableAux]
  simp
section VK
variable {l : Launch} {G : GG} {T : MT} {d mc ms ce sl : Nat} {Q : PQ} {pc q : Nat} {L : List (Option Value)} {st st0 : List Value} {h : HM} {n : Nat}
theorem V.i2c {x : Int32} (hd : decode T.2.1 pc = .ok (.i2c, 1)) (hq : pc + 1 = q) (k : V l G T d mc ms Q ce sl q L (.int (x.toUInt32 % 65536).toInt32 :: st) h n) : V l G T d mc ms Q ce sl pc L (.int x :: st) h n := by
  intro p e s m args below meth c H locs ls F hl hP hS
  subst hq
  exact lv_i2c F.1 F.2.1 hd rfl (k p e s m args below meth c H locs ls F hl hP hS)
/-- what the kinds' addresses are told apart by -/
theorem V.inj (k : (∀ i j, i < 26 → j < 26 → gA G i = gA G j → i = j) → V l G T d mc ms Q ce sl pc L st h n) : V l G T d mc ms Q ce sl pc L st h n := by
  intro p e s m args below meth c H locs ls F hl hP hS
  have hE : EV G s s.heap := F.2.2.2.2.2.2.2.2.2.1
  exact k hE.2.2.2.2.2.2.2.1.2.1 p e s m args below meth c H locs ls F hl hP hS
theorem V.getsQ {idx : Nat} (hd : decode T.2.1 pc = .ok (.getstatic idx, 3)) (hw : Cond.fieldLink T.1.cls idx "jdk/internal/util/Preconditions" "SIOOBE_FORMATTER" "Ljava/util/function/BiFunction;" ∈ BW) (hq : pc + 3 = q) (kk : ∀ r : Option Nat, V l G T d mc ms Q ce sl q L (va_rf r :: st) h n) : V l G T d mc ms Q ce sl pc L st h n := by
  intro p e s m args below meth c H locs ls F hl hP hS
  subst hq
  have hE : EV G s s.heap := F.2.2.2.2.2.2.2.2.2.1
  rcases hE.2.2.2.2.2.2.2.2 with hz | ⟨t, hz⟩
  · exact va_gets F.1 F.2.1 hz hS F.2.2.2.1 (F.2.2.2.2.1 _ hw) (fun x hx => hx) hd (kk none p e s m args below meth c H locs ls F hl hP hS)
  · exact va_gets F.1 F.2.1 hz hS F.2.2.2.1 (F.2.2.2.2.1 _ hw) (fun x hx => hx) hd (kk (some t) p e s m args below meth c H locs ls F hl hP hS)
/-- a call on an object below B -/
theorem V.callO {T' : MT} {np d' mc' ms' idx a : Nat} {Q' : PQ} {As : List Value} (hC : Ct l G T' d' mc' ms' (.ref a :: As) h n Q') (M : MWv T' np) (hw : Cond.methodLink T.1.cls idx T'.1 ∈ BW) (hd : decode T.2.1 pc = .ok (.invokevirtual idx, 3)) (hst : st0 = As.reverse ++ .ref a :: st)
    (ho : (T'.1.cls, a) ∈ ev_ob (gA G)) (hnp : As.length = np) (h8 : cat8 st = true) (hdd : d' + 1 ≤ d) (hm1 : ce + mc' ≤ mc) (hm2 : sl + ms' ≤ ms) (hq : pc + 3 = q)
    (kr : ∀ (v : Option Value) (h2 : HM) (n2 : Nat), Q' (.inl v) h2 n2 → V l G T d mc ms Q (ce + mc') (sl + ms') q L (v.toList ++ st) h2 n2)
    (kx : ∀ (E : String) (h2 : HM) (n2 : Nat), Q' (.inr E) h2 n2 → VX l G T d mc ms Q (ce + mc') (sl + ms') pc L E h2 n2) : V l G T d mc ms Q ce sl pc L st0 h n := by
  intro p e s m args below meth c H locs ls F hl hP hS
  subst hst
  refine Run.done F hl hP hS hq (vx_runV (As := As) (rest := st) (b := a) (C := T'.1.cls) ⟨F.1, F.2.1, F.2.2.1, F.2.2.2.1, F.2.2.2.2.1⟩ (hC F.2.2.2.2.2.2.2.2.2.2.2.2) ⟨M.1.call F.2.2.2.2.1 hdd hw, F.2.2.2.2.1 _ M.2.1, F.2.2.2.2.1 _ M.2.2⟩ ⟨Sat.blind, ?_, fun U hU hW => ⟨rfl, Sat.start F hP hS hU hW⟩⟩ rfl hnp hl.1 rfl (lv_room (of_decide_eq_true h8)) hd ⟨hm1, hm2⟩) kr kx
  have hE : EV G s s.heap := F.2.2.2.2.2.2.2.2.2.1
  exact va_Orecv (hE.2.2.2.2.2.1 _ ho) hS
/-- a reference to an object below B into an array of its class -/
theorem V.aastO {k N i t0 a : Nat} {C : String} {f : Nat → Option Nat} {x : Int32} (hd : decode T.2.1 pc = .ok (.aastore, 1)) (hk : h k = .inl (gC G t0, N, .inr (.inr (.inr (.inr f))))) (hkn : k < n) (ht : (tysG G)[t0]? = some (gC G t0, .object C)) (ho : (C, a) ∈ ev_ob (gA G)) (hi : i < N) (hN : N < 2 ^ 31) (hx : x = nI i) (hq : pc + 1 = q) (kk : V l G T d mc ms Q ce sl q L st (hset h k (.inl (gC G t0, N, .inr (.inr (.inr (.inr (va_up f i (some a)))))))) n) : V l G T d mc ms Q ce sl pc L (.ref a :: .int x :: .ref (gB G + k) :: st) h n := by
  intro p e s m args below meth c H locs ls F hl hP hS
  subst hq; subst hx
  have hKV : KV G s := F.2.2.2.2.2.2.2.2.1
  have hE : EV G s s.heap := F.2.2.2.2.2.2.2.2.2.1
  have hca := hP.2 k hkn
  rw [hk] at hca
  obtain ⟨cellV, g1, g2, g3⟩ := va_Orecv (hE.2.2.2.2.2.1 _ ho) hS
  obtain ⟨kA, comp, k1, k2', k3, -⟩ := (hKV.2 t0 _ ht).2
  have hcomp : comp = cellV.cls := Option.some.inj (k3.symm.trans g3)
  subst hcomp
  obtain ⟨kC, hkC, -⟩ := Vm.findClass_spec k3
  have h0 : ¬ nI i < 0 := nI_pos (by omega)
  refine W.aast F.1 F.2.1 hca (fun q h => by cases h) (fun h => by cases h) k1 k2' rfl hkC ⟨h0, by show _ < (arrV _ _ _).slots.size; rw [arrV_size, nI_clamp (by omega)]; exact hi⟩ g1 (fun q h => by rw [h] at g2; cases g2) hkC asg_rf rfl rfl hd fun H1 e1 z oq => ?_
  refine kk p e s m args below meth c H1 _ ls F hl (hP.set ?_ z oq) (hS.put z oq (hP.fr hkn))
  show H1[gB G + k]? = some (vp_cell _ _)
  rw [e1, vp_cell_q, vp_cell_q, arrV_store, nI_clamp (by omega)]
  congr 2
  funext j
  by_cases hj : j = i
  · subst hj; simp [updV, va_up, va_rf]
  · simp [updV, va_up, hj]
/-- the kinds' ordinal(), which stands in Enum -/
theorem V.callU {T' : MT} {np d' mc' ms' idx a : Nat} {x : MethodName} {owner : String} {Q' : PQ} {As : List Value} (hC : Ct l G T' d' mc' ms' (.ref a :: As) h n Q') (M : MWb T' np ∧ Cond.instanceMethod T'.1 ∈ BW) (hx : T'.1 = ⟨owner, x.name, x.desc⟩) (hmh : owner ≠ "java/lang/invoke/MethodHandle" ∧ owner ≠ "java/lang/invoke/VarHandle") (hsm : Cond.sameMethod x.cls owner x.name x.desc ∈ BW) (hsl : Cond.selects x.cls x T'.1 ∈ BW) (hw : Cond.methodLink T.1.cls idx x ∈ BW) (hd : decode T.2.1 pc = .ok (.invokevirtual idx, 3)) (hst : st0 = As.reverse ++ .ref a :: st)
    (ho : (x.cls, a) ∈ ev_ob (gA G)) (hnp : As.length = np) (h8 : cat8 st = true) (hdd : d' + 1 ≤ d) (hm1 : ce + mc' ≤ mc) (hm2 : sl + ms' ≤ ms) (hq : pc + 3 = q)
    (kr : ∀ (v : Option Value) (h2 : HM) (n2 : Nat), Q' (.inl v) h2 n2 → V l G T d mc ms Q (ce + mc') (sl + ms') q L (v.toList ++ st) h2 n2)
    (kx : ∀ (E : String) (h2 : HM) (n2 : Nat), Q' (.inr E) h2 n2 → VX l G T d mc ms Q (ce + mc') (sl + ms') pc L E h2 n2) : V l G T d mc ms Q ce sl pc L st0 h n := by
  intro p e s m args below meth c H locs ls F hl hP hS
  subst hst
  have hts := F.2.2.2.2.1
  obtain ⟨⟨hy, hp, h19, hini, hcode, hh⟩, hins⟩ := M
  have hm : ∀ w ∈ wsT T', w ∈ BW := by
    rw [wsT_code hh]
    exact fun w hw => (List.mem_cons.mp hw).elim (fun e => e ▸ hcode) id
  have hdesc : T'.1.desc = x.desc := by rw [hx]
  refine Run.done F hl hP hS hq (vx_runU (As := As) (rest := st) (b := a) (C := x.cls) (owner := owner) (x := x) ⟨F.1, F.2.1, F.2.2.1, F.2.2.2.1, F.2.2.2.2.1⟩ (hC F.2.2.2.2.2.2.2.2.2.2.2.2) ⟨⟨rfl, rfl, hdd, ?_, fun w hw => pay_bw F.2.2.2.2.1 w (hm w hw), by rw [wsT_code hh]; exact List.mem_cons_self⟩, hts _ hcode, hts _ hini, hmh, fun sig hs => ?_, hts _ hw, hts _ hsm, ?_, hts _ hsl, hts _ hins⟩ ⟨Sat.blind, ?_, fun U hU hW => ⟨rfl, Sat.start F hP hS hU hW⟩⟩ rfl hnp hl.1 rfl (lv_room (of_decide_eq_true h8)) hd ⟨hm1, hm2⟩) kr kx
  · show 8 + (T'.2.2.1 + 11) + 38 * d' ≤ 38 * d
    omega
  · rw [hdesc, hs] at hp
    exact (Option.some.inj hp).symm
  · rw [← hx]
    exact va_Decl.of (hts _ hins) (hts _ hcode)
  · have hE : EV G s s.heap := F.2.2.2.2.2.2.2.2.2.1
    exact va_Orecv (hE.2.2.2.2.2.1 _ ho) hS
end VK
section VKS
variable {l : Launch} {G : GG} {T T' : MT} {d mc ms ce sl d' np idx a k : Nat} {Q : PQ} {pc q : Nat} {L : List (Option Value)} {st st0 : List Value} {σ τ : St} {v : Option Value}
theorem V.cO (As : List Value) (hd : decode T.2.1 pc = .ok (.invokevirtual idx, 3)) (hst : st0 = As.reverse ++ .ref a :: st) (hC : CtS l G T' d' (.ref a :: As) σ v τ) (hM : MWv T' np) (hw : Cond.methodLink T.1.cls idx T'.1 ∈ BW) (ho : (T'.1.cls, a) ∈ ev_ob (gA G)) (hnp : As.length = np) (h8 : cat8 st = true) (hdd : d' + 1 ≤ d) (hq : pc + 3 = q) (kk : V l G T d mc ms Q ce sl q L (v.toList ++ st) (hof G τ) NC) (hm1 : ce ≤ mc := by omega) (hm2 : sl ≤ ms := by omega) : V l G T d mc ms Q ce sl pc L st0 (hof G σ) NC := by
  refine V.callO hC hM hw hd hst ho hnp h8 hdd hm1 hm2 hq (fun v2 h2 n2 hQ => ?_) (fun E h2 n2 hQ => ?_)
  · obtain ⟨e1, rfl, rfl⟩ := hQ
    cases e1
    exact kk
  · cases hQ.1
/-- a kind's reference into the kinds' row -/
theorem V.stKd {i : Nat} {x : Int32} (hd : decode T.2.1 pc = .ok (.aastore, 1)) (hx : x = nI i) (hi : i < 501) (hk : k < 26) (hq : pc + 1 = q) (kk : V l G T d mc ms Q ce sl q L st (hof G (stK σ i (some (gA G k)))) NC) : V l G T d mc ms Q ce sl pc L (.ref (gA G k) :: .int x :: .ref (gB G + 20) :: st) (hof G σ) NC :=
  V.aastO (t0 := 5) hd (hof_at (k := 20) (c := 8) rfl) (by decide) rfl (ob_kind hk) hi (by decide) hx hq (V.hm (hof_set (τ := stK σ i (some (gA G k))) (k := 20) (c := 8) rfl (fun a h => rfl) (fun a h => rfl) (Or.inl rfl) (Or.inr rfl) (Or.inl rfl) rfl (fun a ha e h => by
    have key : ∀ b, b < 94 → kd b = 8 → b = 20 := by decide +kernel
    exact key a ha e)) kk)
/-- the parser's simulation -/
theorem V.pSim {k9 : Nat} (hd : decode T.2.1 pc = .ok (.putfield idx, 3)) (hw : Cond.fieldLink T.1.cls idx RX2 (TX2 5).2.1 (TX2 5).2.2.1 ∈ BW) (hq : pc + 3 = q) (kk : V l G T d mc ms Q ce sl q L st (hof G (stS σ (some k9))) NC) : V l G T d mc ms Q ce sl pc L (.ref k9 :: .ref (gB G + 19) :: st) (hof G σ) NC := by
  refine V.put (k := 19) (j := 5) (ci := 0) (fs := (fsP G (sF σ 19) (sS σ))) hd (hof_at (k := 19) (c := 7) rfl) (by decide) rfl inX2 tyX2_ok nmX2 (by decide) rfl hw (Or.inl rfl) rfl rfl (by rw [show (fsP G (sF σ 19) (sS σ)).length = 9 from rfl]; decide) hq (V.hm ?_ kk)
  refine hof_set (τ := stS σ (some k9)) (k := 19) (c := 7) rfl (fun a h => rfl) (fun a h => rfl) (Or.inr rfl) (Or.inl rfl) (Or.inl rfl) rfl (fun a ha e h => ?_)
  have key : ∀ b, b < 94 → kd b = 7 → b = 19 := by decide +kernel
  exact key a ha e
end VKS
theorem kJ_ordinal {l : Launch} {G : GG} {σ : St} {i : Nat} (hi : i < 26) : CtS l G TJx29ce0_ordinal_8abf5 0 [.ref (gA G i)] σ (some (.int (nI i))) σ := by
  refine CtS.ofV (by decide +kernel) rfl rfl (Nat.le_of_ble_eq_true rfl) ?_
  refine V.aload_n (q := 1) dJx29ce0_ordinal_8abf5_0 rfl rfl ?_
  refine V.getO (q := 4) dJx29ce0_ordinal_8abf5_1 (of_ord hi) rfl bw_992 rfl ?_
  exact V.iret dJx29ce0_ordinal_8abf5_4 rfl ⟨rfl, rfl, rfl⟩
theorem kJ_coder {l : Launch} {G : GG} {σ : St} {j : Nat} (hj : j < ev_ks.length) : CtS l G TJ0_coder_7d493 0 [.ref (gA G (100 + j))] σ (some (.int 0)) σ := by
  refine CtS.ofV (by decide +kernel) rfl rfl (Nat.le_of_ble_eq_true rfl) ?_
  refine V.gets (q := 3) dJ0_coder_7d493_0 st_cs bw_562 rfl ?_
  refine V.if_eq (tgt := 13) (q := 6) dJ0_coder_7d493_3 (by decide) rfl (fun c3 => ?_) (fun c3 => ?_)
  · exact absurd c3 (by decide)
  refine V.aload_n (q := 7) dJ0_coder_7d493_6 rfl rfl ?_
  refine V.getO (q := 10) dJ0_coder_7d493_7 (of_cod hj) rfl bw_990 rfl ?_
  refine V.goto (tgt := 14) dJ0_coder_7d493_10 (by decide) ?_
  exact V.zret (ty := .byte) rfl dJ0_coder_7d493_14 rfl ⟨rfl, rfl, rfl⟩
theorem kJ_isLatin1 {l : Launch} {G : GG} {σ : St} {j : Nat} (hj : j < ev_ks.length) : CtS l G TJ0_isLatin1_aae02 0 [.ref (gA G (100 + j))] σ (some (.int 1)) σ := by
  refine CtS.ofV (by decide +kernel) rfl rfl (Nat.le_of_ble_eq_true rfl) ?_
  refine V.gets (q := 3) dJ0_isLatin1_aae02_0 st_cs bw_562 rfl ?_
  refine V.if_eq (tgt := 17) (q := 6) dJ0_isLatin1_aae02_3 (by decide) rfl (fun c3 => ?_) (fun c3 => ?_)
  · exact absurd c3 (by decide)
  refine V.aload_n (q := 7) dJ0_isLatin1_aae02_6 rfl rfl ?_
  refine V.getO (q := 10) dJ0_isLatin1_aae02_7 (of_cod hj) rfl bw_990 rfl ?_
  refine V.if_ne (tgt := 17) (q := 13) dJ0_isLatin1_aae02_10 (by decide) rfl (fun c3 => ?_) (fun c3 => ?_)
  · exact absurd rfl c3
  refine V.iconst (q := 14) dJ0_isLatin1_aae02_13 (v := 1) rfl rfl ?_
  refine V.goto (tgt := 18) dJ0_isLatin1_aae02_14 (by decide) ?_
  exact V.zret (ty := .boolean) rfl dJ0_isLatin1_aae02_18 rfl ⟨rfl, rfl, rfl⟩
theorem wd_len : ∀ j, j < ev_ks.length → (wd j).length < 100 ∧ nI (wd j).length >>> ((0 : Int32) &&& 31) = nI (wd j).length := by decide +kernel
theorem wd_chr : ∀ j, j < ev_ks.length → ∀ i, i < (wd j).length → (((wd j).getD i 0 &&& 255).toUInt32 % 65536).toInt32 = (wd j).getD i 0 ∧ ((wd j).getD i 0).toNatClampNeg < 128 ∧ nI ((wd j).getD i 0).toNatClampNeg = (wd j).getD i 0 := by decide +kernel
theorem chr_n : ∀ n, n < 128 → narrow .char (.int (nI n)) = .int (nI n) := by decide +kernel
theorem kJ_length {l : Launch} {G : GG} {σ : St} {j : Nat} (hj : j < ev_ks.length) : CtS l G TJ0_length_8abf5 1 [.ref (gA G (100 + j))] σ (some (.int (nI (wd j).length))) σ := by
  refine CtS.ofV (by decide +kernel) rfl rfl (Nat.le_of_ble_eq_true rfl) ?_
  refine V.aload_n (q := 1) dJ0_length_8abf5_0 rfl rfl ?_
  refine V.getO (q := 4) dJ0_length_8abf5_1 (of_val hj) rfl bw_989 rfl ?_
  refine V.tlen (q := 5) dJ0_length_8abf5_4 (ta_byt hj) rfl rfl ?_
  refine V.aload_n (q := 6) dJ0_length_8abf5_5 rfl rfl ?_
  refine V.cO (q := 9) (As := []) dJ0_length_8abf5_6 rfl (kJ_coder hj) MJ0_coder_7d493 bw_558 (ob_str hj) rfl rfl (by decide) rfl ?_
  refine V.ishr (q := 10) dJ0_length_8abf5_9 rfl ?_
  exact V.iret dJ0_length_8abf5_10 rfl ⟨by show (Sum.inl (some (Value.int (nI (wd j).length >>> ((0 : Int32) &&& 31)))) : Ans) = _; rw [(wd_len j hj).2], rfl, rfl⟩
theorem kJ_pre {l : Launch} {G : GG} {σ : St} {i N : Nat} {r : Option Nat} (hi : i < N) (hN : N < 100) : CtS l G TJ3_checkIndex_8e157 0 [.int (nI i), .int (nI N), va_rf r] σ (some (.int (nI i))) σ := by
  refine CtS.ofV (by decide +kernel) rfl (by cases r <;> rfl) (Nat.le_of_ble_eq_true rfl) ?_
  refine V.iload_n (q := 1) dJ3_checkIndex_8e157_0 rfl rfl ?_
  refine V.if_lt (tgt := 9) (q := 4) dJ3_checkIndex_8e157_1 (by decide) rfl (fun c3 => ?_) (fun c3 => ?_)
  · exact absurd c3 (nI_pos (by omega))
  refine V.iload_n (q := 5) dJ3_checkIndex_8e157_4 rfl rfl ?_
  refine V.iload_n (q := 6) dJ3_checkIndex_8e157_5 rfl rfl ?_
  refine V.icmp_lt (tgt := 16) (q := 9) dJ3_checkIndex_8e157_6 (by decide) rfl (fun c6 => ?_) (fun c6 => absurd (nI_lt hi (by omega)) c6)
  refine V.iload_n (q := 17) dJ3_checkIndex_8e157_16 rfl rfl ?_
  exact V.iret dJ3_checkIndex_8e157_17 rfl ⟨rfl, rfl, rfl⟩
theorem kJ_chk {l : Launch} {G : GG} {σ : St} {i N : Nat} (hi : i < N) (hN : N < 100) : CtS l G TJ0_checkIndex_df160 1 [.int (nI i), .int (nI N)] σ none σ := by
  refine CtS.ofV (by decide +kernel) rfl rfl (Nat.le_of_ble_eq_true rfl) ?_
  refine V.iload_n (q := 1) dJ0_checkIndex_df160_0 rfl rfl ?_
  refine V.iload_n (q := 2) dJ0_checkIndex_df160_1 rfl rfl ?_
  refine V.getsQ (q := 5) dJ0_checkIndex_df160_2 bw_637 rfl (fun r => ?_)
  refine V.cSt (q := 8) (As := [.int (nI i), .int (nI N), va_rf r]) dJ0_checkIndex_df160_5 rfl (kJ_pre hi hN) MJ3_checkIndex_8e157 bw_739 rfl rfl (by decide) rfl ?_
  refine V.pop (q := 9) dJ0_checkIndex_df160_8 rfl rfl ?_
  exact V.vret dJ0_checkIndex_df160_9 rfl ⟨rfl, rfl, rfl⟩
theorem kJ_lchar {l : Launch} {G : GG} {σ : St} {i j : Nat} (hj : j < ev_ks.length) (hi : i < (wd j).length) : CtS l G TJ1_charAt_3b067 2 [.ref (gA G (200 + j)), .int (nI i)] σ (some (.int ((wd j).getD i 0))) σ := by
  have h100 := (wd_len j hj).1
  obtain ⟨e1, e2, e3⟩ := wd_chr j hj i hi
  refine CtS.ofV (by decide +kernel) rfl rfl (Nat.le_of_ble_eq_true rfl) ?_
  refine V.iload_n (q := 1) dJ1_charAt_3b067_0 rfl rfl ?_
  refine V.aload_n (q := 2) dJ1_charAt_3b067_1 rfl rfl ?_
  refine V.tlen (q := 3) dJ1_charAt_3b067_2 (ta_byt hj) rfl rfl ?_
  refine V.cSt (q := 6) (As := [.int (nI i), .int (nI (wd j).length)]) dJ1_charAt_3b067_3 rfl (kJ_chk hi h100) MJ0_checkIndex_df160 bw_842 rfl rfl (by decide) rfl ?_
  refine V.aload_n (q := 7) dJ1_charAt_3b067_6 rfl rfl ?_
  refine V.iload_n (q := 8) dJ1_charAt_3b067_7 rfl rfl ?_
  refine V.tbald (q := 9) (i := i) dJ1_charAt_3b067_8 (ta_byt hj) hi (by omega) rfl rfl rfl ?_
  refine V.sipush (q := 12) dJ1_charAt_3b067_9 (v := 255) rfl rfl ?_
  refine V.iand (q := 13) dJ1_charAt_3b067_12 rfl ?_
  refine V.i2c (q := 14) dJ1_charAt_3b067_13 rfl ?_
  rw [e1]
  exact V.zret (ty := .char) (by rw [← e3]; exact chr_n _ e2) dJ1_charAt_3b067_14 rfl ⟨rfl, rfl, rfl⟩
theorem kJ_charAt {l : Launch} {G : GG} {σ : St} {i j : Nat} (hj : j < ev_ks.length) (hi : i < (wd j).length) : CtS l G TJ0_charAt_5068e 3 [.ref (gA G (100 + j)), .int (nI i)] σ (some (.int ((wd j).getD i 0))) σ := by
  obtain ⟨e1, e2, e3⟩ := wd_chr j hj i hi
  refine CtS.ofV (by decide +kernel) rfl rfl (Nat.le_of_ble_eq_true rfl) ?_
  refine V.aload_n (q := 1) dJ0_charAt_5068e_0 rfl rfl ?_
  refine V.cO (q := 4) (As := []) dJ0_charAt_5068e_1 rfl (kJ_isLatin1 hj) MJ0_isLatin1_aae02 bw_835 (ob_str hj) rfl rfl (by decide) rfl ?_
  refine V.if_eq (tgt := 16) (q := 7) dJ0_charAt_5068e_4 (by decide) rfl (fun c3 => ?_) (fun c3 => ?_)
  · exact absurd c3 (by decide)
  refine V.aload_n (q := 8) dJ0_charAt_5068e_7 rfl rfl ?_
  refine V.getO (q := 11) dJ0_charAt_5068e_8 (of_val hj) rfl bw_989 rfl ?_
  refine V.iload_n (q := 12) dJ0_charAt_5068e_11 rfl rfl ?_
  refine V.cSt (q := 15) (As := [.ref (gA G (200 + j)), .int (nI i)]) dJ0_charAt_5068e_12 rfl (kJ_lchar hj hi) MJ1_charAt_3b067 bw_839 rfl rfl (by decide) rfl ?_
  exact V.zret (ty := .char) (by rw [← e3]; exact chr_n _ e2) dJ0_charAt_5068e_15 rfl ⟨rfl, rfl, rfl⟩
section VKO
variable {l : Launch} {G : GG} {T : MT} {d mc ms ce sl idx k : Nat} {Q : PQ} {pc q : Nat} {L : List (Option Value)} {st : List Value} {σ : St}
theorem V.ord (hd : decode T.2.1 pc = .ok (.invokevirtual idx, 3)) (hk : k < 26) (hw : Cond.methodLink T.1.cls idx ⟨"LiftScheduler$Kind", "ordinal", "()I"⟩ ∈ BW) (h8 : cat8 st = true) (hdd : 1 ≤ d) (hq : pc + 3 = q) (kk : V l G T d mc ms Q ce sl q L (.int (nI k) :: st) (hof G σ) NC) (hm1 : ce ≤ mc := by omega) (hm2 : sl ≤ ms := by omega) : V l G T d mc ms Q ce sl pc L (.ref (gA G k) :: st) (hof G σ) NC := by
  refine V.callU (As := []) (x := ⟨"LiftScheduler$Kind", "ordinal", "()I"⟩) (owner := "java/lang/Enum") (kJ_ordinal (l := l) (σ := σ) hk) MUJx29ce0_ordinal_8abf5 rfl (by decide +kernel) bw_880 bw_882 hw hd rfl (ob_kind hk) rfl h8 hdd hm1 hm2 hq (fun v2 h2 n2 hQ => ?_) (fun E h2 n2 hQ => ?_)
  · obtain ⟨e1, rfl, rfl⟩ := hQ
    cases e1
    exact kk
  · cases hQ.1
end VKO
