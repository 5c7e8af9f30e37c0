/-! X: the list E, contracts out of bodies, calls -/
theorem XE.nd {G : GG} {E : va_W} {H : Heap} (hE : XE G E H) {i j : Nat} {p q : Nat × va_E} (hi : E[i]? = some p) (hj : E[j]? = some q) (h : p.1 = q.1) : i = j := hE.2.1 i j p q hi hj h
theorem XE.o {G : GG} {E : va_W} {H : Heap} (hE : XE G E H) {i : Nat} {p : Nat × va_E} (hi : E[i]? = some p) : FrO G p.1 := hE.2.2 i p hi
/-- one cell's new contents -/
theorem XE.set {G : GG} {E : va_W} {H H1 : Heap} {j a : Nat} {e e0 : va_E} (hE : XE G E H) (hj : E[j]? = some (a, e0)) (he : va_at (gD G) vwCl (a, e) H1) (oq : ∀ q : Nat, q ≠ a → H1[q]? = H[q]?) : XE G (E.set j (a, e)) H1 := by
  have hl : j < E.length := (List.getElem?_eq_some_iff.mp hj).1
  have key : ∀ (i : Nat) (p : Nat × va_E), (E.set j (a, e))[i]? = some p → (i = j ∧ p = (a, e)) ∨ (i ≠ j ∧ E[i]? = some p) := by
    intro i p hi
    by_cases h : i = j
    · subst h
      rw [List.getElem?_set_self hl] at hi
      exact Or.inl ⟨rfl, (Option.some.inj hi).symm⟩
    · rw [List.getElem?_set_ne (fun z => h z.symm)] at hi
      exact Or.inr ⟨h, hi⟩
  have adr : ∀ (i : Nat) (p : Nat × va_E), (E.set j (a, e))[i]? = some p → ∃ p0, E[i]? = some p0 ∧ p0.1 = p.1 := by
    intro i p hi
    rcases key i p hi with ⟨rfl, rfl⟩ | ⟨-, h⟩
    · exact ⟨_, hj, rfl⟩
    · exact ⟨p, h, rfl⟩
  refine ⟨fun i p hi => ?_, fun i k p q hi hk h => ?_, fun i p hi => ?_⟩
  · rcases key i p hi with ⟨rfl, rfl⟩ | ⟨h, h2⟩
    · exact he
    · exact (hE.1 i p h2).kept (oq _ (fun z => h (hE.nd h2 hj z)))
  · obtain ⟨p0, e1, e2⟩ := adr i p hi
    obtain ⟨q0, e3, e4⟩ := adr k q hk
    exact hE.nd e1 e3 (by rw [e2, e4, h])
  · obtain ⟨p0, e1, e2⟩ := adr i p hi
    rw [← e2]
    exact hE.o e1
/-- a new cell, ahead of the others -/
theorem XE.push {G : GG} {E : va_W} {H H1 : Heap} {a : Nat} {e : va_E} (hE : XE G E H) (he : va_at (gD G) vwCl (a, e) H1) (ho : FrO G a) (ha : H.size ≤ a) (oq : ∀ q : Nat, q < H.size → H1[q]? = H[q]?) : XE G ((a, e) :: E) H1 := by
  have lt : ∀ (i : Nat) (p : Nat × va_E), E[i]? = some p → p.1 < H.size := fun i p hi => (hE.1 i p hi).lt
  refine ⟨fun i p hi => ?_, fun i k p q hi hk h => ?_, fun i p hi => ?_⟩
  · cases i with
    | zero => cases hi; exact he
    | succ i => exact (hE.1 i p hi).kept (oq _ (lt i p hi))
  · cases i with
    | zero =>
      cases hi
      cases k with
      | zero => rfl
      | succ k =>
        have h1 := lt k q hk
        have h2 : a = q.1 := h
        omega
    | succ i =>
      cases k with
      | zero =>
        cases hk
        have h1 := lt i p hi
        have h2 : p.1 = a := h
        omega
      | succ k => rw [hE.nd (i := i) (j := k) hi hk h]
  · cases i with
    | zero => cases hi; exact ho
    | succ i => exact hE.o (i := i) hi
/-- the heap has changed elsewhere -/
theorem XE.keep {G : GG} {E : va_W} {H H1 : Heap} (hE : XE G E H) (oq : ∀ q : Nat, q < H.size → FrO G q → H1[q]? = H[q]?) : XE G E H1 := ⟨fun i p hi => (hE.1 i p hi).kept (oq _ (hE.1 i p hi).lt (hE.o hi)), hE.2⟩
/-- others of them, by their places (the tail stays) -/
theorem XE.tl {G : GG} {E : va_W} {H : Heap} {x : Nat × va_E} (hE : XE G (x :: E) H) : XE G E H :=
  ⟨fun i p hi => hE.1 (i + 1) p hi, fun i j p q hi hj h => Nat.succ.inj (hE.nd (i := i + 1) (j := j + 1) hi hj h), fun i p hi => hE.o (i := i + 1) hi⟩
theorem XE.sw {G : GG} {E : va_W} {H : Heap} {x y : Nat × va_E} (hE : XE G (x :: y :: E) H) : XE G (y :: x :: E) H := by
  have f : ∀ (i : Nat) (p : Nat × va_E), (y :: x :: E)[i]? = some p → (x :: y :: E)[if i = 0 then 1 else if i = 1 then 0 else i]? = some p := by
    intro i p hi
    match i with
    | 0 => exact hi
    | 1 => exact hi
    | i + 2 => simpa using hi
  refine ⟨fun i p hi => hE.1 _ p (f i p hi), fun i j p q hi hj h => ?_, fun i p hi => hE.o (f i p hi)⟩
  have h2 := hE.nd (f i p hi) (f j q hj) h
  revert h2
  split <;> split <;> (try split) <;> (try split) <;> omega
theorem XE.cons {G : GG} {E E2 : va_W} {H : Heap} {x : Nat × va_E} (hE : XE G (x :: E) H) (hs : XE G E H → XE G E2 H) (hm : ∀ p ∈ E2, p ∈ E) : XE G (x :: E2) H := by
  have h2 := hs hE.tl
  have hx : ∀ (j : Nat) (q : Nat × va_E), E2[j]? = some q → x.1 ≠ q.1 := by
    intro j q hj h
    obtain ⟨i, hi⟩ := List.getElem?_of_mem (hm q (List.mem_of_getElem? hj))
    have := hE.nd (i := 0) (j := i + 1) (p := x) (q := q) rfl hi h
    omega
  refine ⟨fun i p hi => ?_, fun i k p q hi hk h => ?_, fun i p hi => ?_⟩
  · cases i with
    | zero => cases hi; exact hE.1 0 x rfl
    | succ i => exact h2.1 i p hi
  · cases i with
    | zero =>
      cases hi
      cases k with
      | zero => rfl
      | succ k => exact absurd h (hx k q hk)
    | succ i =>
      cases k with
      | zero => cases hk; exact absurd h.symm (hx i p hi)
      | succ k => rw [h2.nd (i := i) (j := k) hi hk h]
  · cases i with
    | zero => cases hi; exact hE.o (i := 0) (p := x) rfl
    | succ i => exact h2.o (i := i) hi
theorem HP.keep {G : GG} {h : HM} {n : Nat} {H H1 : Heap} {a : Nat} (hp : HP G h n H) (ha : FrO G a) (hz : H1.size = H.size) (oq : ∀ q : Nat, q ≠ a → H1[q]? = H[q]?) : HP G h n H1 :=
  ⟨by rw [hz]; exact hp.1, fun k hk => (hp.2 k hk).kept (oq _ (ha.ne (Nat.lt_of_lt_of_le hk hp.nle)))⟩
theorem va_P1 {D : va_G} {cl : List vw_C} {q : Nat × va_E} {H : Heap} (h : va_at D cl q H) : va_P D cl [q] H := fun k p hk => by
  match k with
  | 0 => cases hk; exact h
  | k + 1 => cases hk
theorem SatX.blind {G : GG} {h : HM} {n : Nat} {E : va_W} {av : List Value} : FrameBlind (va_Pc av (SatX G h n E)) := fun a U g mk hp =>
  ⟨hp.1, hp.2.1, hp.2.2.1, hp.2.2.2.1.moved (Vm.Alike.refl U.vm), hp.2.2.2.2.1.at' (State.WarmedH.refl U) (fun _ _ _ => rfl), hp.2.2.2.2.2⟩
theorem FxX.of {l : Launch} {G : GG} {T : MT} {rm : Room} {h : HM} {n : Nat} {E : va_W} {p : Program} {e : Env} {s s₁ : State} {m : MethodId} {args : Array Value} {below : List Frame} {meth : Method} {c : Code} (B : BodyLoose p l T.1 (headSpec (wsT T) rm) T.2.1 T.2.2.1 T.2.2.2.1 e s m args below meth c s₁) (hml : c.maxLocals = T.2.2.1) (ht : c.exceptionTable.toList = tableOf T.2.2.2.2) (hs : SatX G h n E s) (hl : l.stackTraces = false) : FxX l G T p s m args meth c := by
  have hts := atoms_spec (ws := wsT T) B.pre
  exact ⟨B.exec, B.bytes, hml, findClass_of_methodNamed B.named, fun w hw => hts w (List.mem_cons_of_mem _ hw), B.returns, B.notSynchronized, fun hi => ((name_of_methodNamed B.named B.method).1).trans hi, hs.2.2.1, hs.2.2.2.1, hs.2.2.2.2, fun _ => ht, hl⟩
section CTX
variable {l : Launch} {G : GG} {T : MT} {d mc ms : Nat} {Q : PE} {h : HM} {n : Nat} {E : va_W} {av : List Value}
theorem CX.ofX (hy : plainName T.1.cls = true) (hh : T.2.2.2.2 = []) (hc : (av.all fun v => v.category == 1) = true) (hn : av.length ≤ T.2.2.1) (body : X l G T d mc ms Q 0 0 0 (L0 av T.2.2.1) [] h n E) : CX l G T d mc ms av h n E Q := by
  intro hst
  have hw : wsT T = Cond.code T.1 T.2.1 T.2.2.1 T.2.2.2.1 :: BW := by simp [wsT, hh]
  refine vx_ofW (cc := T.2.1) (maxL := T.2.2.1) (ret := T.2.2.2.1) hy hw ?_
  intro p e s m args below meth c s₁ B hml htab hv
  obtain ⟨rfl, hs⟩ := hv
  have ht : c.exceptionTable.toList = tableOf T.2.2.2.2 := by
    rw [hh]
    cases hx : c.exceptionTable.toList with
    | nil => rfl
    | cons a r => exact (htab a (by rw [hx]; exact List.mem_cons_self)).elim
  rw [lg_entry_eq]
  exact body p e s m _ below meth c s.heap [] _ (FxX.of B hml ht hs hst) (lvo_entry hc hn) hs.1 hs.2.1 va_S.rf
theorem SatX.start {s : State} {H : Heap} {locs : List Loc} {U : State} {p : Program} {m : MethodId} {args : Array Value} {meth : Method} {c : Code} (F : FxX l G T p s m args meth c) (hP : HP G h n H) (hE : XE G E H) (hS : va_S (FrX G) s.heap H locs) (hU : U.heap = H) (hW : s.WarmedH U.vm) : SatX G h n E U := by
  obtain ⟨-, -, -, -, -, -, -, -, hK, hV, hz, -⟩ := F
  exact ⟨by rw [hU]; exact hP, by rw [hU]; exact hE, hK.moved hW.alike, hV.at' hW (fun a ha hn => by rw [hU]; exact hS.2.1 a ha hn), by rw [hU]; exact Nat.le_trans hz (Nat.succ_le_succ hS.1)⟩
/-- the class's methods see their own places -/
theorem SatX.v {U : State} (hs : SatX G h n E U) : Sat G h n U := ⟨hs.1, hs.2.2.1, hs.2.2.2.1.narrow (fun _ z => z.x)⟩
/-- behind a call -/
theorem RunX.done {p : Program} {e : Env} {s : State} {m : MethodId} {args : Array Value} {below : List Frame} {meth : Method} {c : Code} {H : Heap} {locs : List Loc} {ls : Array Slot} {mc' ms' ce sl pc q : Nat} {st0 rest : List Value} {Q' : PE} {a : Array Value} {L : List (Option Value)}
    (F : FxX l G T p s m args meth c) (hl : lvo ls T.2.2.1 L) (hS : va_S (FrX G) s.heap H locs) (hq : pc + 3 = q)
    (hr : vx_Run p l e (rmV d mc ms) s m args below meth c H locs ce sl mc' ms' (F0 m pc ls st0) rest (QcX G Q' a) XcX (FrX G))
    (kr : ∀ (v : Option Value) (h2 : HM) (n2 : Nat) (E2 : va_W), Q' v h2 n2 E2 → X l G T d mc ms Q (ce + mc') (sl + ms') q L (v.toList ++ rest) h2 n2 E2) :
    W p l e (rmV d mc ms) s m args below meth c H locs ce sl (vx_MQ below (QcX G Q) XcX args s mc ms (FrX G)) (F0 m pc ls st0) := by
  subst hq
  intro T9 hT X9
  rcases hr T9 hT X9 with ⟨v, st₀, t, T', L9, h0, X', hL, e1, e2, ⟨⟨v2, h2, n2, E2, ho, hp2, hE2, hq2⟩, hF⟩, st⟩ | ⟨q, st₀, t, T', L9, E9, ce9, h0, X', hL, e1, e2, hx, -⟩
  · cases ho
    obtain ⟨-, -, k3⟩ := vx_keep h0 e1 hS (fun _ _ z => z) (fun _ z => z) hL hF
    obtain ⟨t2, a1, b1⟩ := kr v h2 n2 E2 hq2 p e s m args below meth c T'.heap (locs ++ L9) ls F hl (by rw [e1]; exact hp2) (by rw [e1]; exact hE2) k3 T' rfl X'
    exact ⟨t2, st t2 a1, b1⟩
  · exact hx.elim
/-- behind a call of a method of the class -/
theorem RunX.doneV {p : Program} {e : Env} {s : State} {m : MethodId} {args : Array Value} {below : List Frame} {meth : Method} {c : Code} {H : Heap} {locs : List Loc} {ls : Array Slot} {mc' ms' ce sl pc q : Nat} {st0 rest : List Value} {Q' : PQ} {a : Array Value} {L : List (Option Value)}
    (F : FxX l G T p s m args meth c) (hl : lvo ls T.2.2.1 L) (hE : XE G E H) (hS : va_S (FrX G) s.heap H locs) (hq : pc + 3 = q)
    (hr : vx_Run p l e (rmV d mc ms) s m args below meth c H locs ce sl mc' ms' (F0 m pc ls st0) rest (QcV G Q' a) (XcV G Q') (FrA G)) (hx : ∀ E9 h2 n2, ¬ Q' (.inr E9) h2 n2)
    (kr : ∀ (v : Option Value) (h2 : HM) (n2 : Nat), Q' (.inl v) h2 n2 → X l G T d mc ms Q (ce + mc') (sl + ms') q L (v.toList ++ rest) h2 n2 E) :
    W p l e (rmV d mc ms) s m args below meth c H locs ce sl (vx_MQ below (QcX G Q) XcX args s mc ms (FrX G)) (F0 m pc ls st0) := by
  subst hq
  intro T9 hT X9
  rcases hr T9 hT X9 with ⟨v, st₀, t, T', L9, h0, X', hL, e1, e2, ⟨⟨v2, h2, n2, ho, hp2, hq2⟩, hF⟩, st⟩ | ⟨q, st₀, t, T', L9, E9, ce9, h0, X', hL, e1, e2, ⟨⟨h2, n2, -, hq2⟩, -⟩, -⟩
  · cases ho
    obtain ⟨-, k2, k3⟩ := vx_keep h0 e1 hS (fun _ _ z => z.x) (fun _ z => z.x) hL hF
    obtain ⟨t2, a1, b1⟩ := kr v h2 n2 hq2 p e s m args below meth c T'.heap (locs ++ L9) ls F hl (by rw [e1]; exact hp2) (hE.keep (fun q hq ho => k2 q hq ho.na)) k3 T' rfl X'
    exact ⟨t2, st t2 a1, b1⟩
  · exact (hx _ _ _ hq2).elim
variable {ce sl pc q : Nat} {L : List (Option Value)} {st st0 : List Value}
theorem X.callV {T' : MT} {np d' mc' ms' idx : Nat} {Q' : PE} {As : List Value} {b : Nat} {r : vw_C} {ci : Nat} (hC : CX l G T' d' mc' ms' (.ref b :: As) h n E Q') (M : MWv T' np) (hw : Cond.methodLink T.1.cls idx T'.1 ∈ BW) (hd : decode T.2.1 pc = .ok (.invokevirtual idx, 3)) (hst : st0 = As.reverse ++ .ref b :: st) {j : Nat} {fs : List Value}
    (hj : E[j]? = some (b, .inr (ci, fs))) (hci : vwCl[ci]? = some r) (hr : r.1 = T'.1.cls) (hnp : As.length = np) (h8 : cat8 st = true) (hdd : d' + 1 ≤ d) (hm1 : ce + mc' ≤ mc) (hm2 : sl + ms' ≤ ms) (hq : pc + 3 = q)
    (kr : ∀ (v : Option Value) (h2 : HM) (n2 : Nat) (E2 : va_W), Q' v h2 n2 E2 → X l G T d mc ms Q (ce + mc') (sl + ms') q L (v.toList ++ st) h2 n2 E2) : X l G T d mc ms Q ce sl pc L st0 h n E := by
  intro p e s m args below meth c H locs ls F hl hP hE hS
  subst hst
  refine RunX.done F hl hS hq (vx_runV (As := As) (rest := st) (b := b) (C := T'.1.cls) ⟨F.1, F.2.1, F.2.2.1, F.2.2.2.1, F.2.2.2.2.1⟩ (hC F.2.2.2.2.2.2.2.2.2.2.2.2) ⟨M.1.call F.2.2.2.2.1 hdd hw, F.2.2.2.2.1 _ M.2.1, F.2.2.2.2.1 _ M.2.2⟩ ⟨SatX.blind, ?_, fun U hU hW => ⟨rfl, SatX.start F hP hE hS hU hW⟩⟩ rfl hnp hl.1 rfl (lv_room (of_decide_eq_true h8)) hd ⟨hm1, hm2⟩) kr
  have hKV : KV G s := F.2.2.2.2.2.2.2.2.1
  rw [← hr]
  exact va_recv hKV hE.1 (q0 := j) hci hj
theorem X.callS {T' : MT} {np d' mc' ms' idx : Nat} {Q' : PE} {As : List Value} (hC : CX l G T' d' mc' ms' As h n E Q') (M : MWs T' np) (hw : Cond.methodLink T.1.cls idx T'.1 ∈ BW) (hd : decode T.2.1 pc = .ok (.invokestatic idx, 3)) (hst : st0 = As.reverse ++ st)
    (hnp : As.length = np) (h8 : cat8 st = true) (hdd : d' + 1 ≤ d) (hm1 : ce + mc' ≤ mc) (hm2 : sl + ms' ≤ ms) (hq : pc + 3 = q)
    (kr : ∀ (v : Option Value) (h2 : HM) (n2 : Nat) (E2 : va_W), Q' v h2 n2 E2 → X l G T d mc ms Q (ce + mc') (sl + ms') q L (v.toList ++ st) h2 n2 E2) : X l G T d mc ms Q ce sl pc L st0 h n E := by
  intro p e s m args below meth c H locs ls F hl hP hE hS
  subst hst
  exact RunX.done F hl hS hq (vx_runS (As := As) (rest := st) ⟨F.1, F.2.1, F.2.2.1, F.2.2.2.1, F.2.2.2.2.1⟩ (hC F.2.2.2.2.2.2.2.2.2.2.2.2) ⟨M.1.call F.2.2.2.2.1 hdd hw, F.2.2.2.2.1 _ M.2⟩ ⟨SatX.blind, fun U hU hW => ⟨rfl, SatX.start F hP hE hS hU hW⟩⟩ rfl hnp hl.1 rfl (lv_room (of_decide_eq_true h8)) hd ⟨hm1, hm2⟩) kr
theorem X.callI {T' : MT} {np d' mc' ms' idx : Nat} {Q' : PE} {As : List Value} {b : Nat} (hC : CX l G T' d' mc' ms' (.ref b :: As) h n E Q') (M : MWi T' np) (hret : T'.2.2.2.1 = none) (hw : Cond.methodLink T.1.cls idx T'.1 ∈ BW) (hd : decode T.2.1 pc = .ok (.invokespecial idx, 3)) (hst : st0 = As.reverse ++ .ref b :: st)
    (hnp : As.length = np) (h8 : cat8 st = true) (hdd : d' + 1 ≤ d) (hm1 : ce + mc' ≤ mc) (hm2 : sl + ms' ≤ ms) (hq : pc + 3 = q)
    (kr : ∀ (v : Option Value) (h2 : HM) (n2 : Nat) (E2 : va_W), Q' v h2 n2 E2 → X l G T d mc ms Q (ce + mc') (sl + ms') q L (v.toList ++ st) h2 n2 E2) : X l G T d mc ms Q ce sl pc L st0 h n E := by
  intro p e s m args below meth c H locs ls F hl hP hE hS
  subst hst
  have hcb := M.1.call (d := d) (mc := mc) (ms := ms) (d' := d') (mc' := mc') (ms' := ms') F.2.2.2.2.1 hdd hw
  rw [hret] at hcb
  exact RunX.done F hl hS hq (vx_runI (As := As) (rest := st) (b := b) ⟨F.1, F.2.1, F.2.2.1, F.2.2.2.1, F.2.2.2.2.1⟩ (hC F.2.2.2.2.2.2.2.2.2.2.2.2) ⟨hcb, M.2.2, F.2.2.2.2.1 _ M.2.1⟩ ⟨SatX.blind, fun U hU hW => ⟨rfl, SatX.start F hP hE hS hU hW⟩⟩ rfl hnp hl.1 rfl (lv_room (of_decide_eq_true h8)) hd ⟨hm1, hm2⟩) kr
/-- a method of the class, called on the lift's place -/
theorem X.callVc {T' : MT} {np d' mc' ms' idx k : Nat} {Q' : PQ} {As : List Value} {ci : Nat} {fs : List Value} {TT : u_T} {N : Nat} (hC : Ct l G T' d' mc' ms' (.ref (gB G + k) :: As) h n Q') (M : MWv T' np) (hw : Cond.methodLink T.1.cls idx T'.1 ∈ BW) (hd : decode T.2.1 pc = .ok (.invokevirtual idx, 3)) (hst : st0 = As.reverse ++ .ref (gB G + k) :: st)
    (hk : h k = .inr (ci, fs)) (hkn : k < n) (hci : vwCl[ci]? = some (T'.1.cls, TT, N)) (hnp : As.length = np) (h8 : cat8 st = true) (hdd : d' + 1 ≤ d) (hm1 : ce + mc' ≤ mc) (hm2 : sl + ms' ≤ ms) (hq : pc + 3 = q) (hx : ∀ E9 h2 n2, ¬ Q' (.inr E9) h2 n2)
    (kr : ∀ (v : Option Value) (h2 : HM) (n2 : Nat), Q' (.inl v) h2 n2 → X l G T d mc ms Q (ce + mc') (sl + ms') q L (v.toList ++ st) h2 n2 E) : X l G T d mc ms Q ce sl pc L st0 h n E := by
  intro p e s m args below meth c H locs ls F hl hP hE hS
  subst hst
  refine RunX.doneV F hl hE hS hq (vx_runV (As := As) (rest := st) (b := gB G + k) (C := T'.1.cls) ⟨F.1, F.2.1, F.2.2.1, F.2.2.2.1, F.2.2.2.2.1⟩ (hC F.2.2.2.2.2.2.2.2.2.2.2.2) ⟨M.1.call F.2.2.2.2.1 hdd hw, F.2.2.2.2.1 _ M.2.1, F.2.2.2.2.1 _ M.2.2⟩ ⟨Sat.blind, ?_, fun U hU hW => ⟨rfl, (SatX.start F hP hE hS hU hW).v⟩⟩ rfl hnp hl.1 rfl (lv_room (of_decide_eq_true h8)) hd ⟨hm1, hm2⟩) hx kr
  have hKV : KV G s := F.2.2.2.2.2.2.2.2.1
  exact va_recv hKV hP.P (q0 := k) hci (by rw [wof_get hkn, hk])
theorem X.callIc {T' : MT} {np d' mc' ms' idx : Nat} {Q' : PQ} {As : List Value} {b : Nat} (hC : Ct l G T' d' mc' ms' (.ref b :: As) h n Q') (M : MWi T' np) (hret : T'.2.2.2.1 = none) (hw : Cond.methodLink T.1.cls idx T'.1 ∈ BW) (hd : decode T.2.1 pc = .ok (.invokespecial idx, 3)) (hst : st0 = As.reverse ++ .ref b :: st)
    (hnp : As.length = np) (h8 : cat8 st = true) (hdd : d' + 1 ≤ d) (hm1 : ce + mc' ≤ mc) (hm2 : sl + ms' ≤ ms) (hq : pc + 3 = q) (hx : ∀ E9 h2 n2, ¬ Q' (.inr E9) h2 n2)
    (kr : ∀ (v : Option Value) (h2 : HM) (n2 : Nat), Q' (.inl v) h2 n2 → X l G T d mc ms Q (ce + mc') (sl + ms') q L (v.toList ++ st) h2 n2 E) : X l G T d mc ms Q ce sl pc L st0 h n E := by
  intro p e s m args below meth c H locs ls F hl hP hE hS
  subst hst
  have hcb := M.1.call (d := d) (mc := mc) (ms := ms) (d' := d') (mc' := mc') (ms' := ms') F.2.2.2.2.1 hdd hw
  rw [hret] at hcb
  exact RunX.doneV F hl hE hS hq (vx_runI (As := As) (rest := st) (b := b) ⟨F.1, F.2.1, F.2.2.1, F.2.2.2.1, F.2.2.2.2.1⟩ (hC F.2.2.2.2.2.2.2.2.2.2.2.2) ⟨hcb, M.2.2, F.2.2.2.2.1 _ M.2.1⟩ ⟨Sat.blind, fun U hU hW => ⟨rfl, (SatX.start F hP hE hS hU hW).v⟩⟩ rfl hnp hl.1 rfl (lv_room (of_decide_eq_true h8)) hd ⟨hm1, hm2⟩) hx kr
end CTX
