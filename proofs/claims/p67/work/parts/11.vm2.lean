/-! contracts out of bodies; calls -/
theorem Sat.blind {G : GG} {h : HM} {n : Nat} {av : List Value} : FrameBlind (va_Pc av (Sat G h n)) := fun a U g mk hp =>
  ⟨hp.1, hp.2.1, hp.2.2.1.moved (Vm.Alike.refl U.vm), hp.2.2.2.at' (State.WarmedH.refl U) (fun _ _ _ => rfl)⟩
def L0 (args : List Value) (nL : Nat) : List (Option Value) := args.map some ++ List.replicate (nL - args.length) none
theorem lv_args_get : ∀ (vs : List Value) (k : Nat), (vs.all fun v => v.category == 1) = true → ∀ (i : Nat) (v : Value), vs[i]? = some v → (k + i, v) ∈ lv_args k vs
  | [], _, _, i, v, h => by simp at h
  | x :: vs, k, hc, 0, v, h => by
    simp only [List.getElem?_cons_zero] at h
    cases h
    exact List.mem_cons_self
  | x :: vs, k, hc, i + 1, v, h => by
    simp only [List.all_cons, Bool.and_eq_true, beq_iff_eq] at hc
    simp only [List.getElem?_cons_succ] at h
    have h2 := lv_args_get vs (k + 1) hc.2 i v h
    show _ ∈ (k, x) :: lv_args (if x.category = 2 then k + 2 else k + 1) vs
    rw [if_neg (by omega)]
    rw [show k + (i + 1) = k + 1 + i by omega]
    exact List.mem_cons_of_mem _ h2
theorem lg_sl_one : ∀ (vs : List Value), (vs.all fun v => v.category == 1) = true → (lg_sl vs).length = vs.length
  | [], _ => rfl
  | x :: vs, hc => by
    simp only [List.all_cons, Bool.and_eq_true, beq_iff_eq] at hc
    have h2 := lg_sl_one vs hc.2
    have e : lg_sl (x :: vs) = lg_sl [x] ++ lg_sl vs := by simp [lg_sl]
    rw [e, List.length_append, h2]
    simp [lg_sl, hc.1]
    omega
theorem lvo_entry {args : List Value} {nL : Nat} (hc : (args.all fun v => v.category == 1) = true) (hn : args.length ≤ nL) : lvo ((lg_sl args ++ List.replicate (nL - (lg_sl args).length) Slot.unset).toArray) nL (L0 args nL) := by
  have h := lv_entry args (n := nL) (by rw [lg_sl_one args hc]; exact hn)
  refine ⟨h.1, h.2.1, fun i v hi => ?_⟩
  by_cases hl : i < args.length
  · rw [L0, List.getElem?_append_left (by simpa using hl), List.getElem?_map] at hi
    cases ha : args[i]? with
    | none => rw [ha] at hi; cases hi
    | some x =>
      rw [ha] at hi
      cases hi
      have h2 := lv_args_get args 0 hc i v ha
      rw [Nat.zero_add] at h2
      exact h.2.2 (i, v) h2
  · rw [L0, List.getElem?_append_right (by simpa using hl)] at hi
    have := List.eq_of_mem_replicate (List.mem_of_getElem? hi)
    cases this
theorem Fx.of {l : Launch} {G : GG} {T : MT} {rm : Room} {h : HM} {n : Nat} {p : Program} {e : Env} {s s₁ : State} {m : MethodId} {args : Array Value} {below : List Frame} {meth : Method} {c : Code} (B : BodyLoose p l T.1 (headSpec (wsT T) rm) T.2.1 T.2.2.1 T.2.2.2.1 e s m args below meth c s₁) (hml : c.maxLocals = T.2.2.1) (ht : c.exceptionTable.toList = tableOf T.2.2.2.2) (hs : Sat G h n s) (hl : l.stackTraces = false) : Fx l G T p s m args meth c := by
  have hts := atoms_spec (ws := wsT T) B.pre
  refine ⟨B.exec, B.bytes, hml, findClass_of_methodNamed B.named, fun w hw => hts w (List.mem_cons_of_mem _ hw), B.returns, B.notSynchronized, fun hi => ?_, hs.2.1, hs.2.2, ?_, fun _ => ht, hl⟩
  · exact ((name_of_methodNamed B.named B.method).1).trans hi
  · have := hs.1.le
    omega
section CTV
variable {l : Launch} {G : GG} {T : MT} {d mc ms : Nat} {Q : PQ} {h : HM} {n : Nat} {av : List Value}
theorem Ct.ofV (hy : plainName T.1.cls = true) (hh : T.2.2.2.2 = []) (hc : (av.all fun v => v.category == 1) = true) (hn : av.length ≤ T.2.2.1) (body : V l G T d mc ms Q 0 0 0 (L0 av T.2.2.1) [] h n) : Ct l G T d mc ms av h n Q := by
  intro hst
  have hw : wsT T = Cond.code T.1 T.2.1 T.2.2.1 T.2.2.2.1 :: BW := by simp [wsT, hh]
  refine vx_ofW (cc := T.2.1) (maxL := T.2.2.1) (ret := T.2.2.2.1) hy hw ?_
  intro p e s m args below meth c s₁ B hml htab hv
  obtain ⟨rfl, hs⟩ := hv
  have ht : c.exceptionTable.toList = tableOf T.2.2.2.2 := by
    rw [hh]
    cases hx : c.exceptionTable.toList with
    | nil => rfl
    | cons a r => exact (htab a (by rw [hx]; exact List.mem_cons_self)).elim
  rw [lg_entry_eq]
  exact body p e s m _ below meth c s.heap [] _ (Fx.of B hml ht hs hst) (lvo_entry hc hn) hs.1 va_S.rf
theorem Ct.ofVH {x : Nat × Nat × Nat × Nat} {xs : List (Nat × Nat × Nat × Nat)} (hy : plainName T.1.cls = true) (hh : T.2.2.2.2 = x :: xs) (hc : (av.all fun v => v.category == 1) = true) (hn : av.length ≤ T.2.2.1) (body : V l G T d mc ms Q 0 0 0 (L0 av T.2.2.1) [] h n) : Ct l G T d mc ms av h n Q := by
  intro hst
  have hw : wsT T = Cond.codeWith T.1 T.2.1 T.2.2.1 T.2.2.2.1 T.2.2.2.2 :: BW := by simp [wsT, hh]
  refine vx_ofWH (cc := T.2.1) (maxL := T.2.2.1) (ret := T.2.2.2.1) (hh := T.2.2.2.2) hy hw ?_
  intro p e s m args below meth c s₁ B hml hv
  obtain ⟨rfl, hs⟩ := hv
  have hts := atoms_spec (ws := wsT T) B.pre
  have ht : c.exceptionTable.toList = tableOf T.2.2.2.2 := vx_table (x := T.1) (y := T.1) B (hts _ (by rw [hw]; exact List.mem_cons_self))
  rw [lg_entry_eq]
  exact body p e s m _ below meth c s.heap [] _ (Fx.of B hml ht hs hst) (lvo_entry hc hn) hs.1 va_S.rf
/-- a method that is called, by its words -/
def MWb (T : MT) (np : Nat) : Prop := (T.1.cls ≠ "java/lang/invoke/MethodHandle" ∧ T.1.cls ≠ "java/lang/invoke/VarHandle") ∧ (parseMethodDescriptor T.1.desc).map (fun d => d.parameters.length) = some np ∧ T.2.2.1 ≤ 19 ∧ Cond.initialized T.1.cls ∈ BW ∧ Cond.code T.1 T.2.1 T.2.2.1 T.2.2.2.1 ∈ BW ∧ T.2.2.2.2 = []
def MWv (T : MT) (np : Nat) : Prop := MWb T np ∧ Cond.instanceMethod T.1 ∈ BW ∧ Cond.selects T.1.cls T.1 T.1 ∈ BW
def MWs (T : MT) (np : Nat) : Prop := MWb T np ∧ Cond.static T.1 ∈ BW
def MWi (T : MT) (np : Nat) : Prop := MWb T np ∧ Cond.instanceMethod T.1 ∈ BW ∧ T.1.name = "<init>"
theorem pay_bw {s : State} {args : Array Value} (F : ∀ w ∈ BW, w.before args s = true) : ∀ w ∈ BW, ∀ (a' : Array Value) (U : State), s.WarmedH U.vm → w.before a' U = true :=
  fun w hw a' U hW => word_at hW (good_of_word (bw_good w hw)) (F w hw)
theorem wsT_code {T : MT} (h : T.2.2.2.2 = []) : wsT T = Cond.code T.1 T.2.1 T.2.2.1 T.2.2.2.1 :: BW := by simp [wsT, h]
theorem MWb.call {T' : MT} {np d' mc' ms' : Nat} {own : String} {idx : Nat} {s : State} {args : Array Value} (M : MWb T' np) (F : ∀ w ∈ BW, w.before args s = true) (hd : d' + 1 ≤ d) (hl : Cond.methodLink own idx T'.1 ∈ BW) : CallB (rmV d mc ms) s args own idx T'.1 T'.2.1 T'.2.2.1 T'.2.2.2.1 (wsT T') (rmV d' mc' ms') mc' ms' np := by
  obtain ⟨hy, hp, h19, hini, hcode, hh⟩ := M
  have hm : ∀ w ∈ wsT T', w ∈ BW := by
    rw [wsT_code hh]
    exact fun w hw => (List.mem_cons.mp hw).elim (fun e => e ▸ hcode) id
  refine ⟨rfl, rfl, ?_, ?_, fun w hw => pay_bw F w (hm w hw), by rw [wsT_code hh]; exact List.mem_cons_self, F _ hcode, F _ hini, hy, fun sig hs => ?_, F _ hl⟩
  · exact hd
  · show 8 + (T'.2.2.1 + 11) + 38 * d' ≤ 38 * d
    omega
  · rw [hs] at hp
    exact (Option.some.inj hp).symm
theorem Sat.start {s : State} {H : Heap} {locs : List Loc} {U : State} {p : Program} {m : MethodId} {args : Array Value} {meth : Method} {c : Code} (F : Fx l G T p s m args meth c) (hP : HP G h n H) (hS : va_S (FrA G) s.heap H locs) (hU : U.heap = H) (hW : s.WarmedH U.vm) : Sat G h n U := by
  obtain ⟨-, -, -, -, -, -, -, -, hK, hE, hz, -⟩ := F
  exact ⟨by rw [hU]; exact hP, hK.moved hW.alike, hE.at' hW (fun a ha hn => by rw [hU]; exact hS.2.1 a ha hn)⟩
/-- behind a call -/
theorem Run.done {p : Program} {e : Env} {s : State} {m : MethodId} {args : Array Value} {below : List Frame} {meth : Method} {c : Code} {H : Heap} {locs : List Loc} {ls : Array Slot} {mc' ms' ce sl pc q : Nat} {st0 rest : List Value} {Q' : PQ} {a : Array Value} {L : List (Option Value)}
    (F : Fx l G T p s m args meth c) (hl : lvo ls T.2.2.1 L) (hP : HP G h n H) (hS : va_S (FrA G) s.heap H locs) (hq : pc + 3 = q)
    (hr : vx_Run p l e (rmV d mc ms) s m args below meth c H locs ce sl mc' ms' (F0 m pc ls st0) rest (QcV G Q' a) (XcV G Q') (FrA G))
    (kr : ∀ (v : Option Value) (h2 : HM) (n2 : Nat), Q' (.inl v) h2 n2 → V l G T d mc ms Q (ce + mc') (sl + ms') q L (v.toList ++ rest) h2 n2)
    (kx : ∀ (E : String) (h2 : HM) (n2 : Nat), Q' (.inr E) h2 n2 → VX l G T d mc ms Q (ce + mc') (sl + ms') pc L E h2 n2) :
    W p l e (rmV d mc ms) s m args below meth c H locs ce sl (vx_MQ below (QcV G Q) (XcV G Q) args s mc ms (FrA G)) (F0 m pc ls st0) := by
  subst hq
  intro T9 hT X
  rcases hr T9 hT X with ⟨v, st₀, t, T', L9, h0, X', hL, e1, e2, ⟨⟨v2, h2, n2, ho, hp2, hq2⟩, hF⟩, st⟩ | ⟨q, st₀, t, T', L9, E, ce9, h0, X', hL, e1, e2, ⟨⟨h2, n2, hp2, hq2⟩, hF⟩, hce, hcv, hcl, st⟩
  · cases ho
    obtain ⟨-, -, k3⟩ := vx_keep h0 e1 hS (fun _ _ z => z) (fun _ z => z) hL hF
    obtain ⟨t2, a1, b1⟩ := kr v h2 n2 hq2 p e s m args below meth c T'.heap (locs ++ L9) ls F hl (by rw [e1]; exact hp2) k3 T' rfl X'
    exact ⟨t2, st t2 a1, b1⟩
  · obtain ⟨-, -, k3⟩ := vx_keep h0 e1 hS (fun _ _ z => z) (fun _ z => z) hL hF
    obtain ⟨t2, a1, b1⟩ := kx E h2 n2 hq2 p e s m args below meth c T'.heap (locs ++ L9) ls q ce9 rest F hl (by rw [e1]; exact hp2) k3 (by rw [e1]; exact hce) hcv hcl T' rfl X'
    exact ⟨t2, st.trans a1, b1⟩
variable {ce sl pc q : Nat} {L : List (Option Value)} {st st0 : List Value}
def cat8 (st : List Value) : Bool := decide ((st.map fun v => v.category).sum ≤ 8)
theorem V.callV {T' : MT} {np d' mc' ms' idx k : Nat} {Q' : PQ} {As : List Value} {ci : Nat} {fs : List Value} {TT : u_T} {N : Nat} (hC : Ct l G T' d' mc' ms' (.ref (gB G + k) :: As) h n Q') (M : MWv T' np) (hw : Cond.methodLink T.1.cls idx T'.1 ∈ BW) (hd : decode T.2.1 pc = .ok (.invokevirtual idx, 3)) (hst : st0 = As.reverse ++ .ref (gB G + k) :: st)
    (hk : h k = .inr (ci, fs)) (hkn : k < n) (hci : vwCl[ci]? = some (T'.1.cls, TT, N)) (hnp : As.length = np) (h8 : cat8 st = true) (hdd : d' + 1 ≤ d) (hm1 : ce + mc' ≤ mc) (hm2 : sl + ms' ≤ ms) (hq : pc + 3 = q)
    (kr : ∀ (v : Option Value) (h2 : HM) (n2 : Nat), Q' (.inl v) h2 n2 → V l G T d mc ms Q (ce + mc') (sl + ms') q L (v.toList ++ st) h2 n2)
    (kx : ∀ (E : String) (h2 : HM) (n2 : Nat), Q' (.inr E) h2 n2 → VX l G T d mc ms Q (ce + mc') (sl + ms') pc L E h2 n2) : V l G T d mc ms Q ce sl pc L st0 h n := by
  intro p e s m args below meth c H locs ls F hl hP hS
  subst hst
  refine Run.done F hl hP hS hq (vx_runV (As := As) (rest := st) (b := gB G + k) (C := T'.1.cls) ⟨F.1, F.2.1, F.2.2.1, F.2.2.2.1, F.2.2.2.2.1⟩ (hC F.2.2.2.2.2.2.2.2.2.2.2.2) ⟨M.1.call F.2.2.2.2.1 hdd hw, F.2.2.2.2.1 _ M.2.1, F.2.2.2.2.1 _ M.2.2⟩ ⟨Sat.blind, ?_, fun U hU hW => ⟨rfl, Sat.start F hP hS hU hW⟩⟩ rfl hnp hl.1 rfl (lv_room (of_decide_eq_true h8)) hd ⟨hm1, hm2⟩) kr kx
  have hKV : KV G s := F.2.2.2.2.2.2.2.2.1
  exact va_recv hKV hP.P (q0 := k) hci (by rw [wof_get hkn, hk])
theorem V.callS {T' : MT} {np d' mc' ms' idx : Nat} {Q' : PQ} {As : List Value} (hC : Ct l G T' d' mc' ms' As h n Q') (M : MWs T' np) (hw : Cond.methodLink T.1.cls idx T'.1 ∈ BW) (hd : decode T.2.1 pc = .ok (.invokestatic idx, 3)) (hst : st0 = As.reverse ++ st)
    (hnp : As.length = np) (h8 : cat8 st = true) (hdd : d' + 1 ≤ d) (hm1 : ce + mc' ≤ mc) (hm2 : sl + ms' ≤ ms) (hq : pc + 3 = q)
    (kr : ∀ (v : Option Value) (h2 : HM) (n2 : Nat), Q' (.inl v) h2 n2 → V l G T d mc ms Q (ce + mc') (sl + ms') q L (v.toList ++ st) h2 n2)
    (kx : ∀ (E : String) (h2 : HM) (n2 : Nat), Q' (.inr E) h2 n2 → VX l G T d mc ms Q (ce + mc') (sl + ms') pc L E h2 n2) : V l G T d mc ms Q ce sl pc L st0 h n := by
  intro p e s m args below meth c H locs ls F hl hP hS
  subst hst
  exact Run.done F hl hP hS hq (vx_runS (As := As) (rest := st) ⟨F.1, F.2.1, F.2.2.1, F.2.2.2.1, F.2.2.2.2.1⟩ (hC F.2.2.2.2.2.2.2.2.2.2.2.2) ⟨M.1.call F.2.2.2.2.1 hdd hw, F.2.2.2.2.1 _ M.2⟩ ⟨Sat.blind, fun U hU hW => ⟨rfl, Sat.start F hP hS hU hW⟩⟩ rfl hnp hl.1 rfl (lv_room (of_decide_eq_true h8)) hd ⟨hm1, hm2⟩) kr kx
theorem V.callI {T' : MT} {np d' mc' ms' idx : Nat} {Q' : PQ} {As : List Value} {b : Nat} (hC : Ct l G T' d' mc' ms' (.ref b :: As) h n Q') (M : MWi T' np) (hret : T'.2.2.2.1 = none) (hw : Cond.methodLink T.1.cls idx T'.1 ∈ BW) (hd : decode T.2.1 pc = .ok (.invokespecial idx, 3)) (hst : st0 = As.reverse ++ .ref b :: st)
    (hnp : As.length = np) (h8 : cat8 st = true) (hdd : d' + 1 ≤ d) (hm1 : ce + mc' ≤ mc) (hm2 : sl + ms' ≤ ms) (hq : pc + 3 = q)
    (kr : ∀ (v : Option Value) (h2 : HM) (n2 : Nat), Q' (.inl v) h2 n2 → V l G T d mc ms Q (ce + mc') (sl + ms') q L (v.toList ++ st) h2 n2)
    (kx : ∀ (E : String) (h2 : HM) (n2 : Nat), Q' (.inr E) h2 n2 → VX l G T d mc ms Q (ce + mc') (sl + ms') pc L E h2 n2) : V l G T d mc ms Q ce sl pc L st0 h n := by
  intro p e s m args below meth c H locs ls F hl hP hS
  subst hst
  have hcb := M.1.call (d := d) (mc := mc) (ms := ms) (d' := d') (mc' := mc') (ms' := ms') F.2.2.2.2.1 hdd hw
  rw [hret] at hcb
  exact Run.done F hl hP hS hq (vx_runI (As := As) (rest := st) (b := b) ⟨F.1, F.2.1, F.2.2.1, F.2.2.2.1, F.2.2.2.2.1⟩ (hC F.2.2.2.2.2.2.2.2.2.2.2.2) ⟨hcb, M.2.2, F.2.2.2.2.1 _ M.2.1⟩ ⟨Sat.blind, fun U hU hW => ⟨rfl, Sat.start F hP hS hU hW⟩⟩ rfl hnp hl.1 rfl (lv_room (of_decide_eq_true h8)) hd ⟨hm1, hm2⟩) kr kx
/-- what is thrown goes on to the caller -/
theorem VX.out {E : String} (hh : T.2.2.2.2 = []) (hc : ce ≤ mc) (hs : sl ≤ ms) (hQ : Q (.inr E) h n) : VX l G T d mc ms Q ce sl pc L E h n := by
  intro p e s m args below meth c H locs ls q ce9 rest F hl hP hS h1 h2 h3
  refine vx_out (E := E) (ce := ce9) ?_ F.2.2.2.2.2.2.1 h1 h2 h3 (fun t ht _ => ⟨⟨h, n, by rw [ht]; exact hP, hQ⟩, hS.F ht⟩) hS.2.2 hc hs
  rw [F.2.2.2.2.2.2.2.2.2.2.2.1.no hh, hh]
  intro x hx
  cases hx
theorem Ct.mono {Q2 : PQ} (hC : Ct l G T d mc ms av h n Q) (hQ : ∀ a h2 n2, Q a h2 n2 → Q2 a h2 n2) : Ct l G T d mc ms av h n Q2 := by
  intro hst
  intro p e ha hc hk s m args below hf happ hP hK
  obtain ⟨n9, o, h1, h2, h3, hq⟩ := hC hst p e ha hc hk s m args below hf happ hP hK
  refine ⟨n9, o, h1, h2, h3, ?_⟩
  rcases hq with ⟨⟨⟨v, h2, n2, e1, e2, e3⟩, hF⟩, hL⟩ | ⟨q, e1, E, ce, L9, ⟨⟨h2, n2, e2, e3⟩, hF⟩, hr⟩
  · exact Or.inl ⟨⟨⟨v, h2, n2, e1, e2, hQ _ _ _ e3⟩, hF⟩, hL⟩
  · exact Or.inr ⟨q, e1, E, ce, L9, ⟨⟨h2, n2, e2, hQ _ _ _ e3⟩, hF⟩, hr⟩
end CTV
