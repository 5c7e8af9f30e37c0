/-! V: one method's frame at a pc, over a world whose cells lie at B, B+1, ..: 'h k' is what stands at B + k, for k < n and k < NC; what lies behind NC is forgotten. -/
abbrev GG : Type := va_G × Nat × (Nat → ClassId) × (Nat → Nat) × Nat × Nat × (Nat → Int32)
abbrev gD (G : GG) : va_G := G.1
abbrev gB (G : GG) : Nat := G.2.1
abbrev gC (G : GG) : Nat → ClassId := G.2.2.1
abbrev gA (G : GG) : Nat → Nat := G.2.2.2.1
abbrev gb (G : GG) : Nat := G.2.2.2.2.1
abbrev gL (G : GG) : Nat := G.2.2.2.2.2.1
abbrev gX (G : GG) : Nat → Int32 := G.2.2.2.2.2.2
abbrev HM : Type := Nat → va_E
abbrev Ans : Type := Option Value ⊕ String
abbrev MT : Type := MethodName × ByteArray × Nat × Option FieldType × List (Nat × Nat × Nat × Nat)
abbrev PQ : Type := Ans → HM → Nat → Prop
def NC : Nat := 94
/-- the places: what a method of the class may change of what stood before -/
def FrA (G : GG) : Nat → Prop := fun q => gB G ≤ q ∧ q < gB G + NC
def tysG (G : GG) : List (ClassId × FieldType) := [(gC G 0, .int), (gC G 1, .byte), (gC G 2, .boolean), (gC G 3, .int), (gC G 4, .object "LiftScheduler$Simulation"), (gC G 5, .object "LiftScheduler$Kind")]
def KV (G : GG) (U : State) : Prop := va_K (gD G) vwCl (tysG G) U
def HP (G : GG) (h : HM) (n : Nat) (H : Heap) : Prop := ((H.size = gB G + n ∧ n ≤ NC) ∨ (n = NC ∧ gB G + n ≤ H.size)) ∧ ∀ k, k < n → va_at (gD G) vwCl (gB G + k, h k) H
/-- what stands below B, and never changes: the script, the JDK's two statics, our statics, their objects' fields, classes and arrays -/
def EVr (A : Nat → Prop) (G : GG) (U : State) (H : Heap) : Prop :=
  (va_X (gb G) (gL G) (gX G) U H ∧ ¬ A (gb G)) ∧ vx_Zq Bundle.tN "UNASSIGNED_STACK" Bundle.steD A U H ∧ vx_Zq Bundle.tN "SUPPRESSED_SENTINEL" Bundle.listD A U H ∧
  (∀ q ∈ ev_st (gA G), va_Z q.1 q.2.1 q.2.2.1 q.2.2.2 A U H) ∧ (∀ q ∈ ev_of (gA G), va_OF q.1 q.2.1 q.2.2.1 q.2.2.2.1 q.2.2.2.2 A U H) ∧
  (∀ q ∈ ev_ob (gA G), va_O q.1 q.2 A U H) ∧ (∀ q ∈ ev_ta (gA G), va_T q.1 q.2.1 q.2.2.1 q.2.2.2 A U H) ∧ ev_sr (gA G) U ∧ va_Zq "jdk/internal/util/Preconditions" "SIOOBE_FORMATTER" "Ljava/util/function/BiFunction;" A U H
theorem KV.moved {G : GG} {u U : State} (hvm : u.vm.Alike U.vm) (h : KV G u) : KV G U := va_K.moved hvm h
def EV (G : GG) (U : State) (H : Heap) : Prop := EVr (FrA G) G U H
theorem EVr.at' {A : Nat → Prop} {G : GG} {u U : State} {H H1 : Heap} (hW : u.WarmedH U.vm) (h : EVr A G u H) (hq' : ∀ a : Nat, a < H.size → ¬ A a → H1[a]? = H[a]?) : EVr A G U H1 := by
  obtain ⟨⟨h1, h1b⟩, h2, h3, h4, h5, h6, h7, h8, h9⟩ := h
  have hvm := hW.alike
  have hlt : gb G < H.size := by
    obtain ⟨scr, hs, -⟩ := h1
    exact (Array.getElem?_eq_some_iff.mp hs).1
  exact ⟨⟨(va_X.moved hvm h1).kept (hq' _ hlt h1b), h1b⟩, (vx_Zq.moved hvm h2).kept hq', (vx_Zq.moved hvm h3).kept hq', fun q hm => (va_Z.moved hvm (h4 q hm)).kept hq', fun q hm => (va_OF.moved hvm (h5 q hm)).kept hq',
    fun q hm => (va_O.moved hvm (h6 q hm)).kept hq', fun q hm => (va_T.moved hvm (h7 q hm)).kept hq', ev_sr.warm hW h8, (va_Zq.moved hvm h9).kept hq'⟩
theorem EVr.narrow {A B : Nat → Prop} {G : GG} {U : State} {H : Heap} (h : EVr A G U H) (hAB : ∀ q, B q → A q) : EVr B G U H := by
  obtain ⟨⟨h1, h1b⟩, h2, h3, h4, h5, h6, h7, h8, h9⟩ := h
  exact ⟨⟨h1, fun z => h1b (hAB _ z)⟩, h2.narrow hAB, h3.narrow hAB, fun q hm => (h4 q hm).narrow hAB, fun q hm => (h5 q hm).narrow hAB, fun q hm => (h6 q hm).narrow hAB, fun q hm => (h7 q hm).narrow hAB, h8, h9.narrow hAB⟩
theorem EVr.lt {A : Nat → Prop} {G : GG} {U : State} {H : Heap} (h : EVr A G U H) : gb G < H.size := by
  obtain ⟨scr, hs, -⟩ := h.1.1
  exact (Array.getElem?_eq_some_iff.mp hs).1
/-- the world as the kit's list -/
def wof (G : GG) (h : HM) (n : Nat) : va_W := (List.range n).map fun k => (gB G + k, h k)
theorem wof_get {G : GG} {h : HM} {n k : Nat} (hk : k < n) : (wof G h n)[k]? = some (gB G + k, h k) := by
  simp only [wof, List.getElem?_map]
  rw [List.getElem?_range hk]
  rfl
theorem wof_mem {G : GG} {h : HM} {n k : Nat} {q : Nat × va_E} (hq : (wof G h n)[k]? = some q) : k < n ∧ q = (gB G + k, h k) := by
  have hl := (List.getElem?_eq_some_iff.mp hq).1
  simp only [wof, List.length_map, List.length_range] at hl
  exact ⟨hl, Option.some.inj (hq.symm.trans (wof_get hl))⟩
theorem HP.P {G : GG} {h : HM} {n : Nat} {H : Heap} (hp : HP G h n H) : va_P (gD G) vwCl (wof G h n) H := fun k q hq => by
  obtain ⟨h1, rfl⟩ := wof_mem hq
  exact hp.2 k h1
theorem wof_D {G : GG} {h : HM} {n : Nat} (hn : n ≤ NC) : va_D (FrA G) (wof G h n) := by
  refine ⟨fun i j p q hi hj e => ?_, fun k q hk => ?_⟩
  · obtain ⟨-, rfl⟩ := wof_mem hi
    obtain ⟨-, rfl⟩ := wof_mem hj
    exact Nat.add_left_cancel e
  · obtain ⟨h1, rfl⟩ := wof_mem hk
    exact ⟨Nat.le_add_right _ _, Nat.add_lt_add_left (Nat.lt_of_lt_of_le h1 hn) _⟩
theorem HP.nle {G : GG} {h : HM} {n : Nat} {H : Heap} (hp : HP G h n H) : n ≤ NC := by
  rcases hp.1 with ⟨-, e⟩ | ⟨e, -⟩
  · exact e
  · exact Nat.le_of_eq e
theorem HP.fr {G : GG} {h : HM} {n k : Nat} {H : Heap} (hp : HP G h n H) (hk : k < n) : FrA G (gB G + k) := ⟨Nat.le_add_right _ _, Nat.add_lt_add_left (Nat.lt_of_lt_of_le hk hp.nle) _⟩
theorem HP.le {G : GG} {h : HM} {n : Nat} {H : Heap} (hp : HP G h n H) : gB G + n ≤ H.size := by
  rcases hp.1 with ⟨e, -⟩ | ⟨-, e⟩ <;> omega
def hset (h : HM) (k : Nat) (e : va_E) : HM := fun j => if j = k then e else h j
theorem hset_same {h : HM} {k : Nat} {e : va_E} : hset h k e k = e := by simp [hset]
theorem hset_ne {h : HM} {k j : Nat} {e : va_E} (hj : j ≠ k) : hset h k e j = h j := by simp [hset, hj]
/-- one cell's new contents -/
theorem HP.set {G : GG} {h : HM} {n k : Nat} {e : va_E} {H H1 : Heap} (hp : HP G h n H) (he : va_at (gD G) vwCl (gB G + k, e) H1) (hz : H1.size = H.size) (oq : ∀ q : Nat, q ≠ gB G + k → H1[q]? = H[q]?) : HP G (hset h k e) n H1 := by
  refine ⟨by rw [hz]; exact hp.1, fun j h1 => ?_⟩
  by_cases hj : j = k
  · subst hj
    rw [hset_same]
    exact he
  · rw [hset_ne hj]
    exact (hp.2 j h1).kept (oq _ (fun z => hj (Nat.add_left_cancel z)))
/-- a new cell at the end -/
theorem HP.push {G : GG} {h : HM} {n : Nat} {e : va_E} {H H1 : Heap} (hp : HP G h n H) (hn : n < NC) (he : va_at (gD G) vwCl (gB G + n, e) H1) (hz : H1.size = H.size + 1) (oq : ∀ q : Nat, q < H.size → H1[q]? = H[q]?) : HP G (hset h n e) (n + 1) H1 := by
  have hs : H.size = gB G + n := by
    rcases hp.1 with ⟨e, -⟩ | ⟨e, -⟩
    · exact e
    · omega
  refine ⟨Or.inl ⟨by rw [hz, hs]; omega, hn⟩, fun j h1 => ?_⟩
  by_cases hj : j = n
  · subst hj
    rw [hset_same]
    exact he
  · rw [hset_ne hj]
    exact (hp.2 j (by omega)).kept (oq _ (by rw [hs]; show gB G + j < _; omega))
theorem HP.at_end {G : GG} {h : HM} {n : Nat} {H : Heap} (hp : HP G h n H) (hn : n < NC) : H.size = gB G + n := by
  rcases hp.1 with ⟨e, -⟩ | ⟨e, -⟩
  · exact e
  · omega
/-- the heap has grown, what was there is there -/
theorem HP.grow {G : GG} {h : HM} {n : Nat} {H H1 : Heap} (hp : HP G h n H) (hn : n = NC) (hz : H.size ≤ H1.size) (oq : ∀ q : Nat, q < H.size → H1[q]? = H[q]?) : HP G h n H1 := by
  have h2 := hp.le
  refine ⟨Or.inr ⟨hn, by omega⟩, fun j h1 => (hp.2 j h1).kept (oq _ (by show gB G + j < _; omega))⟩
/-- out of the kit's list again, when all is made -/
theorem HP.ofP {G : GG} {h : HM} {H : Heap} (hp : va_P (gD G) vwCl (wof G h NC) H) : HP G h NC H := by
  have h1 : ∀ k, k < NC → va_at (gD G) vwCl (gB G + k, h k) H := fun k hk => hp k _ (wof_get hk)
  have h2 := (h1 93 (by decide)).lt
  exact ⟨Or.inr ⟨rfl, by show gB G + 94 ≤ _; have h3 : gB G + 93 < H.size := h2; omega⟩, h1⟩
theorem wof_set {G : GG} {h : HM} {n k : Nat} {e : va_E} (hk : k < n) : (wof G h n).set k (gB G + k, e) = wof G (hset h k e) n := by
  apply List.ext_getElem?
  intro j
  by_cases hj : j = k
  · subst hj
    rw [List.getElem?_set_self (by simp [wof]; exact hk), wof_get hk, hset_same]
  · rw [List.getElem?_set_ne (fun z => hj z.symm)]
    by_cases hl : j < n
    · rw [wof_get hl, wof_get hl, hset_ne hj]
    · rw [List.getElem?_eq_none (by simp [wof]; omega), List.getElem?_eq_none (by simp [wof]; omega)]
/-! locals, by place -/
def lvo (ls : Array Slot) (nL : Nat) (L : List (Option Value)) : Prop := ls.size = nL ∧ lv_wf ls ∧ ∀ (i : Nat) (v : Value), L[i]? = some (some v) → ls[i]? = some (.val v)
def asc (L : List (Option Value)) : List (Nat × Value) := (List.range L.length).filterMap fun i => match L[i]? with
  | some (some v) => some (i, v)
  | _ => none
theorem asc_mem {L : List (Option Value)} {q : Nat × Value} : q ∈ asc L ↔ L[q.1]? = some (some q.2) := by
  obtain ⟨i, v⟩ := q
  simp only [asc, List.mem_filterMap, List.mem_range]
  constructor
  · rintro ⟨a, ha, h⟩
    split at h
    · cases h; assumption
    · cases h
  · intro h
    exact ⟨i, (List.getElem?_eq_some_iff.mp h).1, by rw [h]⟩
theorem lvo.has {ls : Array Slot} {nL : Nat} {L : List (Option Value)} (h : lvo ls nL L) : lv_has ls nL (asc L) := ⟨h.1, h.2.1, fun q hq => h.2.2 q.1 q.2 (asc_mem.mp hq)⟩
theorem lvo.get {ls : Array Slot} {nL : Nat} {L : List (Option Value)} {i : Nat} {v : Value} (h : lvo ls nL L) (hi : L[i]? = some (some v)) : ls[i]? = some (.val v) := h.2.2 i v hi
/-- no value of two slots ends at i -/
def c1 (L : List (Option Value)) : Nat → Bool
  | 0 => true
  | i + 1 => match L[i]? with
    | some (some v) => v.category == 1
    | _ => true
theorem c1_ne {L : List (Option Value)} {i j : Nat} {v : Value} (h : c1 L i = true) (hj : j + 1 = i) (hv : L[j]? = some (some v)) : ¬ v.category = 2 := by
  subst hj
  simp only [c1, hv, beq_iff_eq] at h
  omega
theorem lvo.set {ls' : Array Slot} {nL : Nat} {L : List (Option Value)} {i : Nat} {v : Value} (hc : c1 L i = true) (hh : lv_has ls' nL ((i, v) :: (asc L).filter (fun q => !(q.1 == i) && !(q.1 + 1 == i && q.2.category == 2)))) : lvo ls' nL (L.set i (some v)) := by
  refine ⟨hh.1, hh.2.1, fun j x hj => ?_⟩
  by_cases e : j = i
  · subst e
    have hl : j < L.length := by
      have := (List.getElem?_eq_some_iff.mp hj).1
      rwa [List.length_set] at this
    rw [List.getElem?_set_self hl] at hj
    cases hj
    exact hh.2.2 (j, v) List.mem_cons_self
  · rw [List.getElem?_set_ne (fun z => e z.symm)] at hj
    refine hh.2.2 (j, x) (List.mem_cons_of_mem _ (List.mem_filter.mpr ⟨asc_mem.mpr hj, ?_⟩))
    by_cases e2 : j + 1 = i
    · have h9 := c1_ne hc e2 hj
      simp [e, h9]
    · simp [e, e2]
theorem lvo.set2 {ls' : Array Slot} {nL : Nat} {L : List (Option Value)} {i : Nat} {v : Value} (hc : c1 L i = true) (hh : lv_has ls' nL ((i, v) :: (asc L).filter (fun q => !(q.1 == i) && (!(q.1 == i + 1) && !(q.1 + 1 == i && q.2.category == 2))))) : lvo ls' nL ((L.set i (some v)).set (i + 1) none) := by
  refine ⟨hh.1, hh.2.1, fun j x hj => ?_⟩
  by_cases e1 : j = i + 1
  · subst e1
    have hl : i + 1 < (L.set i (some v)).length := by
      have := (List.getElem?_eq_some_iff.mp hj).1
      rwa [List.length_set] at this
    rw [List.getElem?_set_self hl] at hj
    cases hj
  · rw [List.getElem?_set_ne (fun z => e1 z.symm)] at hj
    by_cases e : j = i
    · subst e
      have hl : j < L.length := by
        have := (List.getElem?_eq_some_iff.mp hj).1
        rwa [List.length_set] at this
      rw [List.getElem?_set_self hl] at hj
      cases hj
      exact hh.2.2 (j, v) List.mem_cons_self
    · rw [List.getElem?_set_ne (fun z => e z.symm)] at hj
      refine hh.2.2 (j, x) (List.mem_cons_of_mem _ (List.mem_filter.mpr ⟨asc_mem.mpr hj, ?_⟩))
      by_cases e2 : j + 1 = i
      · have h9 := c1_ne hc e2 hj
        simp [e, e1, h9]
      · simp [e, e1, e2]
/-- fewer known locals -/
def lle : List (Option Value) → List (Option Value) → Prop
  | [], [] => True
  | a :: r, b :: t => (a = none ∨ a = b) ∧ lle r t
  | _, _ => False
theorem lle.get : ∀ {A B : List (Option Value)}, lle A B → ∀ (i : Nat) (v : Value), A[i]? = some (some v) → B[i]? = some (some v)
  | [], [], _, i, v, h => by simp at h
  | a :: r, b :: t, hl, 0, v, h => by
    simp only [List.getElem?_cons_zero] at h ⊢
    cases h
    rcases hl.1 with q | q
    · cases q
    · rw [← q]
  | a :: r, b :: t, hl, i + 1, v, h => by
    simp only [List.getElem?_cons_succ] at h ⊢
    exact lle.get hl.2 i v h
  | [], _ :: _, hl, _, _, _ => hl.elim
  | _ :: _, [], hl, _, _, _ => hl.elim
theorem lvo.less {ls : Array Slot} {nL : Nat} {A B : List (Option Value)} (h : lvo ls nL B) (hl : lle A B) : lvo ls nL A := ⟨h.1, h.2.1, fun i v hi => h.2.2 i v (hl.get i v hi)⟩
/-! the judgement -/
/-- words that follow from the tables': a private method of AbstractStringBuilder is what a StringBuilder's call of it finds -/
def sxM : List MethodName := [⟨"java/lang/AbstractStringBuilder", "ensureCapacityInternal", "(I)V"⟩, ⟨"java/lang/AbstractStringBuilder", "newCapacity", "(I)I"⟩, ⟨"java/lang/AbstractStringBuilder", "putStringAt", "(ILjava/lang/String;)V"⟩, ⟨"java/lang/AbstractStringBuilder", "inflateIfNeededFor", "(Ljava/lang/String;)V"⟩]
def sxW : List Cond := sxM.map fun y => Cond.selects "java/lang/StringBuilder" y y
def BW : List Cond := (lw_tbl ++ sxW).filter goodWord
theorem bw_good : ∀ w ∈ BW, goodWord w = true := fun w h => (List.mem_filter.mp h).2
def wsT (T : MT) : List Cond := (if T.2.2.2.2.isEmpty then Cond.code T.1 T.2.1 T.2.2.1 T.2.2.2.1 else Cond.codeWith T.1 T.2.1 T.2.2.1 T.2.2.2.1 T.2.2.2.2) :: BW
def rmV (d mc ms : Nat) : Room := { frames := d, cells := mc, slots := ms, locals := 38 * d }
/-- the law stands with the mark [(0, 0, 0, 0)]: of its own table nothing is known, nor asked -/
def tabOk (T : MT) (c : Code) : Prop := T.2.2.2.2 ≠ [(0, 0, 0, 0)] → c.exceptionTable.toList = tableOf T.2.2.2.2
theorem tabOk.no {T : MT} {c : Code} (h : tabOk T c) (hh : T.2.2.2.2 = []) : c.exceptionTable.toList = tableOf T.2.2.2.2 := h (by rw [hh]; exact fun z => by cases z)
def Fx (l : Launch) (G : GG) (T : MT) (p : Program) (s : State) (m : MethodId) (args : Array Value) (meth : Method) (c : Code) : Prop :=
  p.tables.exec = Jvm.exec ∧ c.code = T.2.1 ∧ c.maxLocals = T.2.2.1 ∧ s.vm.findClass T.1.cls = some m.cls ∧ (∀ w ∈ BW, w.before args s = true) ∧ meth.sig.returnType = T.2.2.2.1 ∧ meth.locks = false ∧ (T.1.name = "<init>" → meth.name = "<init>") ∧ KV G s ∧ EV G s s.heap ∧ gB G ≤ s.heap.size ∧ tabOk T c ∧ l.stackTraces = false
def QcV (G : GG) (Q : PQ) : Array Value → State → Outcome → State → Prop := fun _ st o t => (∃ (v : Option Value) (h : HM) (n : Nat), o = .returned v ∧ HP G h n t.heap ∧ Q (.inl v) h n) ∧ va_F (FrA G) st t
def XcV (G : GG) (Q : PQ) : String → State → State → Prop := fun E st t => (∃ (h : HM) (n : Nat), HP G h n t.heap ∧ Q (.inr E) h n) ∧ va_F (FrA G) st t
def V (l : Launch) (G : GG) (T : MT) (d mc ms : Nat) (Q : PQ) (ce sl pc : Nat) (L : List (Option Value)) (st : List Value) (h : HM) (n : Nat) : Prop :=
  ∀ (p : Program) (e : Env) (s : State) (m : MethodId) (args : Array Value) (below : List Frame) (meth : Method) (c : Code) (H : Heap) (locs : List Loc) (ls : Array Slot),
    Fx l G T p s m args meth c → lvo ls T.2.2.1 L → HP G h n H → va_S (FrA G) s.heap H locs →
    W p l e (rmV d mc ms) s m args below meth c H locs ce sl (vx_MQ below (QcV G Q) (XcV G Q) args s mc ms (FrA G)) (F0 m pc ls st)
/-- thrown, the cell at q being of class E -/
def VX (l : Launch) (G : GG) (T : MT) (d mc ms : Nat) (Q : PQ) (ce sl pc : Nat) (L : List (Option Value)) (E : String) (h : HM) (n : Nat) : Prop :=
  ∀ (p : Program) (e : Env) (s : State) (m : MethodId) (args : Array Value) (below : List Frame) (meth : Method) (c : Code) (H : Heap) (locs : List Loc) (ls : Array Slot) (q : Addr) (ce9 : Cell) (rest : List Value),
    Fx l G T p s m args meth c → lvo ls T.2.2.1 L → HP G h n H → va_S (FrA G) s.heap H locs → H[q]? = some ce9 → ce9.vm = .none → s.vm.findClass E = some ce9.cls →
    vx_W p l e (rmV d mc ms) s m args below meth c H locs ce sl (vx_MQ below (QcV G Q) (XcV G Q) args s mc ms (FrA G)) (F0 m pc ls rest) q
/-- a method's start -/
def Sat (G : GG) (h : HM) (n : Nat) (U : State) : Prop := HP G h n U.heap ∧ KV G U ∧ EV G U U.heap
/-- a method's contract -/
def Ct (l : Launch) (G : GG) (T : MT) (d mc ms : Nat) (args : List Value) (h : HM) (n : Nat) (Q : PQ) : Prop :=
  l.stackTraces = false → vx_Met l T.1 (wsT T) (rmV d mc ms) (va_Pc args (Sat G h n)) (QcV G Q) (XcV G Q) mc ms (FrA G)

section VR
variable {l : Launch} {G : GG} {T : MT} {d mc ms ce sl : Nat} {Q : PQ} {pc q : Nat} {L : List (Option Value)} {st : List Value} {h : HM} {n : Nat}
theorem V.iconst {i : Int} {v : Int32} (hd : decode T.2.1 pc = .ok (.iconst i, 1)) (hv : Int32.ofInt i = v) (hq : pc + 1 = q) (k : V l G T d mc ms Q ce sl q L (.int v :: st) h n) : V l G T d mc ms Q ce sl pc L (st) h n := by
  intro p e s m args below meth c H locs ls F hl hP hS
  subst hq
  exact lv_iconst F.1 F.2.1 hd hv (k p e s m args below meth c H locs ls F hl hP hS)
theorem V.bipush {i : Int} {v : Int32} (hd : decode T.2.1 pc = .ok (.bipush i, 2)) (hv : (Int8.ofInt i).toInt32 = v) (hq : pc + 2 = q) (k : V l G T d mc ms Q ce sl q L (.int v :: st) h n) : V l G T d mc ms Q ce sl pc L (st) h n := by
  intro p e s m args below meth c H locs ls F hl hP hS
  subst hq
  exact lv_bipush F.1 F.2.1 hd hv (k p e s m args below meth c H locs ls F hl hP hS)
theorem V.sipush {i : Int} {v : Int32} (hd : decode T.2.1 pc = .ok (.sipush i, 3)) (hv : (Int16.ofInt i).toInt32 = v) (hq : pc + 3 = q) (k : V l G T d mc ms Q ce sl q L (.int v :: st) h n) : V l G T d mc ms Q ce sl pc L (st) h n := by
  intro p e s m args below meth c H locs ls F hl hP hS
  subst hq
  exact lv_sipush F.1 F.2.1 hd hv (k p e s m args below meth c H locs ls F hl hP hS)
theorem V.lconst {i : Fin 2} {v : Int64} (hd : decode T.2.1 pc = .ok (.lconst i, 1)) (hv : Int64.ofNat (i : Nat) = v) (hq : pc + 1 = q) (k : V l G T d mc ms Q ce sl q L (.long v :: st) h n) : V l G T d mc ms Q ce sl pc L (st) h n := by
  intro p e s m args below meth c H locs ls F hl hP hS
  subst hq
  exact lv_lconst F.1 F.2.1 hd hv (k p e s m args below meth c H locs ls F hl hP hS)
theorem V.iload_n {i : Fin 4} {x : Int32} (hd : decode T.2.1 pc = .ok (.iload_n i, 1)) (hx : L[(i : Nat)]? = some (some (.int x))) (hq : pc + 1 = q) (k : V l G T d mc ms Q ce sl q L (.int x :: st) h n) : V l G T d mc ms Q ce sl pc L (st) h n := by
  intro p e s m args below meth c H locs ls F hl hP hS
  subst hq
  exact lv_iload_n F.1 F.2.1 hd rfl (hl.get hx) (k p e s m args below meth c H locs ls F hl hP hS)
theorem V.iload {i : Nat} {x : Int32} (hd : decode T.2.1 pc = .ok (.iload i, 2)) (hx : L[i]? = some (some (.int x))) (hq : pc + 2 = q) (k : V l G T d mc ms Q ce sl q L (.int x :: st) h n) : V l G T d mc ms Q ce sl pc L (st) h n := by
  intro p e s m args below meth c H locs ls F hl hP hS
  subst hq
  exact lv_iload F.1 F.2.1 hd (hl.get hx) (k p e s m args below meth c H locs ls F hl hP hS)
theorem V.aload_n {i : Fin 4} {x : Nat} (hd : decode T.2.1 pc = .ok (.aload_n i, 1)) (hx : L[(i : Nat)]? = some (some (.ref x))) (hq : pc + 1 = q) (k : V l G T d mc ms Q ce sl q L (.ref x :: st) h n) : V l G T d mc ms Q ce sl pc L (st) h n := by
  intro p e s m args below meth c H locs ls F hl hP hS
  subst hq
  exact lv_aload_n F.1 F.2.1 hd rfl (hl.get hx) (k p e s m args below meth c H locs ls F hl hP hS)
theorem V.aload {i : Nat} {x : Nat} (hd : decode T.2.1 pc = .ok (.aload i, 2)) (hx : L[i]? = some (some (.ref x))) (hq : pc + 2 = q) (k : V l G T d mc ms Q ce sl q L (.ref x :: st) h n) : V l G T d mc ms Q ce sl pc L (st) h n := by
  intro p e s m args below meth c H locs ls F hl hP hS
  subst hq
  exact lv_aload F.1 F.2.1 hd (hl.get hx) (k p e s m args below meth c H locs ls F hl hP hS)
theorem V.dload_n {i : Fin 4} {x : UInt64} (hd : decode T.2.1 pc = .ok (.dload_n i, 1)) (hx : L[(i : Nat)]? = some (some (.double x))) (hq : pc + 1 = q) (k : V l G T d mc ms Q ce sl q L (.double x :: st) h n) : V l G T d mc ms Q ce sl pc L (st) h n := by
  intro p e s m args below meth c H locs ls F hl hP hS
  subst hq
  exact lv_dload_n F.1 F.2.1 hd rfl (hl.get hx) (k p e s m args below meth c H locs ls F hl hP hS)
theorem V.dload {i : Nat} {x : UInt64} (hd : decode T.2.1 pc = .ok (.dload i, 2)) (hx : L[i]? = some (some (.double x))) (hq : pc + 2 = q) (k : V l G T d mc ms Q ce sl q L (.double x :: st) h n) : V l G T d mc ms Q ce sl pc L (st) h n := by
  intro p e s m args below meth c H locs ls F hl hP hS
  subst hq
  exact lv_dload F.1 F.2.1 hd (hl.get hx) (k p e s m args below meth c H locs ls F hl hP hS)
theorem V.iadd {x y : Int32} (hd : decode T.2.1 pc = .ok (.iadd, 1)) (hq : pc + 1 = q) (k : V l G T d mc ms Q ce sl q L (.int (x + y) :: st) h n) : V l G T d mc ms Q ce sl pc L (.int y :: .int x :: st) h n := by
  intro p e s m args below meth c H locs ls F hl hP hS
  subst hq
  exact lv_iadd F.1 F.2.1 hd (k p e s m args below meth c H locs ls F hl hP hS)
theorem V.isub {x y : Int32} (hd : decode T.2.1 pc = .ok (.isub, 1)) (hq : pc + 1 = q) (k : V l G T d mc ms Q ce sl q L (.int (x - y) :: st) h n) : V l G T d mc ms Q ce sl pc L (.int y :: .int x :: st) h n := by
  intro p e s m args below meth c H locs ls F hl hP hS
  subst hq
  exact lv_isub F.1 F.2.1 hd (k p e s m args below meth c H locs ls F hl hP hS)
theorem V.imul {x y : Int32} (hd : decode T.2.1 pc = .ok (.imul, 1)) (hq : pc + 1 = q) (k : V l G T d mc ms Q ce sl q L (.int (x * y) :: st) h n) : V l G T d mc ms Q ce sl pc L (.int y :: .int x :: st) h n := by
  intro p e s m args below meth c H locs ls F hl hP hS
  subst hq
  exact lv_imul F.1 F.2.1 hd (k p e s m args below meth c H locs ls F hl hP hS)
theorem V.iand {x y : Int32} (hd : decode T.2.1 pc = .ok (.iand, 1)) (hq : pc + 1 = q) (k : V l G T d mc ms Q ce sl q L (.int (x &&& y) :: st) h n) : V l G T d mc ms Q ce sl pc L (.int y :: .int x :: st) h n := by
  intro p e s m args below meth c H locs ls F hl hP hS
  subst hq
  exact lv_iand F.1 F.2.1 hd (k p e s m args below meth c H locs ls F hl hP hS)
theorem V.ior {x y : Int32} (hd : decode T.2.1 pc = .ok (.ior, 1)) (hq : pc + 1 = q) (k : V l G T d mc ms Q ce sl q L (.int (x ||| y) :: st) h n) : V l G T d mc ms Q ce sl pc L (.int y :: .int x :: st) h n := by
  intro p e s m args below meth c H locs ls F hl hP hS
  subst hq
  exact lv_ior F.1 F.2.1 hd (k p e s m args below meth c H locs ls F hl hP hS)
theorem V.ishl {x y : Int32} (hd : decode T.2.1 pc = .ok (.ishl, 1)) (hq : pc + 1 = q) (k : V l G T d mc ms Q ce sl q L (.int (x <<< (y &&& 31)) :: st) h n) : V l G T d mc ms Q ce sl pc L (.int y :: .int x :: st) h n := by
  intro p e s m args below meth c H locs ls F hl hP hS
  subst hq
  exact lv_ishl F.1 F.2.1 hd (k p e s m args below meth c H locs ls F hl hP hS)
theorem V.ishr {x y : Int32} (hd : decode T.2.1 pc = .ok (.ishr, 1)) (hq : pc + 1 = q) (k : V l G T d mc ms Q ce sl q L (.int (x >>> (y &&& 31)) :: st) h n) : V l G T d mc ms Q ce sl pc L (.int y :: .int x :: st) h n := by
  intro p e s m args below meth c H locs ls F hl hP hS
  subst hq
  exact lv_ishr F.1 F.2.1 hd (k p e s m args below meth c H locs ls F hl hP hS)
theorem V.iushr {x y : Int32} (hd : decode T.2.1 pc = .ok (.iushr, 1)) (hq : pc + 1 = q) (k : V l G T d mc ms Q ce sl q L (.int (x.toUInt32 >>> (y.toUInt32 &&& Int32.toUInt32 31)).toInt32 :: st) h n) : V l G T d mc ms Q ce sl pc L (.int y :: .int x :: st) h n := by
  intro p e s m args below meth c H locs ls F hl hP hS
  subst hq
  exact lv_iushr F.1 F.2.1 hd rfl (k p e s m args below meth c H locs ls F hl hP hS)
theorem V.idiv {x y : Int32} (hd : decode T.2.1 pc = .ok (.idiv, 1)) (hne : ¬ y = 0) (hq : pc + 1 = q) (k : V l G T d mc ms Q ce sl q L (.int (x / y) :: st) h n) : V l G T d mc ms Q ce sl pc L (.int y :: .int x :: st) h n := by
  intro p e s m args below meth c H locs ls F hl hP hS
  subst hq
  exact lv_idiv F.1 F.2.1 hd hne (k p e s m args below meth c H locs ls F hl hP hS)
theorem V.irem {x y : Int32} (hd : decode T.2.1 pc = .ok (.irem, 1)) (hne : ¬ y = 0) (hq : pc + 1 = q) (k : V l G T d mc ms Q ce sl q L (.int (x - (x / y) * y) :: st) h n) : V l G T d mc ms Q ce sl pc L (.int y :: .int x :: st) h n := by
  intro p e s m args below meth c H locs ls F hl hP hS
  subst hq
  exact lv_irem F.1 F.2.1 hd hne (k p e s m args below meth c H locs ls F hl hP hS)
theorem V.ineg {x : Int32} (hd : decode T.2.1 pc = .ok (.ineg, 1)) (hq : pc + 1 = q) (k : V l G T d mc ms Q ce sl q L (.int (-x) :: st) h n) : V l G T d mc ms Q ce sl pc L (.int x :: st) h n := by
  intro p e s m args below meth c H locs ls F hl hP hS
  subst hq
  exact lv_ineg F.1 F.2.1 hd (k p e s m args below meth c H locs ls F hl hP hS)
theorem V.i2b {x : Int32} (hd : decode T.2.1 pc = .ok (.i2b, 1)) (hq : pc + 1 = q) (k : V l G T d mc ms Q ce sl q L (.int x.toInt8.toInt32 :: st) h n) : V l G T d mc ms Q ce sl pc L (.int x :: st) h n := by
  intro p e s m args below meth c H locs ls F hl hP hS
  subst hq
  exact lv_i2b F.1 F.2.1 hd rfl (k p e s m args below meth c H locs ls F hl hP hS)
theorem V.i2l {x : Int32} (hd : decode T.2.1 pc = .ok (.i2l, 1)) (hq : pc + 1 = q) (k : V l G T d mc ms Q ce sl q L (.long x.toInt64 :: st) h n) : V l G T d mc ms Q ce sl pc L (.int x :: st) h n := by
  intro p e s m args below meth c H locs ls F hl hP hS
  subst hq
  exact lv_i2l F.1 F.2.1 hd rfl (k p e s m args below meth c H locs ls F hl hP hS)
theorem V.lcmp {x y : Int64} (hd : decode T.2.1 pc = .ok (.lcmp, 1)) (hq : pc + 1 = q) (k : V l G T d mc ms Q ce sl q L (.int (lg_cmp x y) :: st) h n) : V l G T d mc ms Q ce sl pc L (.long y :: .long x :: st) h n := by
  intro p e s m args below meth c H locs ls F hl hP hS
  subst hq
  exact W.lcmp F.1 F.2.1 hd (k p e s m args below meth c H locs ls F hl hP hS)
theorem V.dup {x : Value} (hd : decode T.2.1 pc = .ok (.dup, 1)) (hx : x.category = 1) (hq : pc + 1 = q) (k : V l G T d mc ms Q ce sl q L (x :: x :: st) h n) : V l G T d mc ms Q ce sl pc L (x :: st) h n := by
  intro p e s m args below meth c H locs ls F hl hP hS
  subst hq
  exact lv_dup F.1 F.2.1 hd hx (k p e s m args below meth c H locs ls F hl hP hS)
theorem V.dup2 {x y : Value} (hd : decode T.2.1 pc = .ok (.dup2, 1)) (hx : x.category = 1) (hy : y.category = 1) (hq : pc + 1 = q) (k : V l G T d mc ms Q ce sl q L (x :: y :: x :: y :: st) h n) : V l G T d mc ms Q ce sl pc L (x :: y :: st) h n := by
  intro p e s m args below meth c H locs ls F hl hP hS
  subst hq
  exact lv_dup2_11 F.1 F.2.1 hd hx hy (k p e s m args below meth c H locs ls F hl hP hS)
theorem V.pop {x : Value} (hd : decode T.2.1 pc = .ok (.pop, 1)) (hx : x.category = 1) (hq : pc + 1 = q) (k : V l G T d mc ms Q ce sl q L (st) h n) : V l G T d mc ms Q ce sl pc L (x :: st) h n := by
  intro p e s m args below meth c H locs ls F hl hP hS
  subst hq
  exact lv_pop F.1 F.2.1 hd hx (k p e s m args below meth c H locs ls F hl hP hS)
theorem V.i2f {x : Int32} (hd : decode T.2.1 pc = .ok (.i2f, 1)) (hq : pc + 1 = q) (k : V l G T d mc ms Q ce sl q L (.float (FP.i2f x) :: st) h n) : V l G T d mc ms Q ce sl pc L (.int x :: st) h n := by
  intro p e s m args below meth c H locs ls F hl hP hS
  subst hq
  exact lv_i2f F.1 F.2.1 hd (k p e s m args below meth c H locs ls F hl hP hS)
theorem V.i2d {x : Int32} (hd : decode T.2.1 pc = .ok (.i2d, 1)) (hq : pc + 1 = q) (k : V l G T d mc ms Q ce sl q L (.double (FP.i2d x) :: st) h n) : V l G T d mc ms Q ce sl pc L (.int x :: st) h n := by
  intro p e s m args below meth c H locs ls F hl hP hS
  subst hq
  exact lv_i2d F.1 F.2.1 hd (k p e s m args below meth c H locs ls F hl hP hS)
theorem V.fdiv {x y : UInt32} (hd : decode T.2.1 pc = .ok (.fdiv, 1)) (hne : vf_n32 (FP.fdiv x y)) (hq : pc + 1 = q) (k : V l G T d mc ms Q ce sl q L (.float (FP.fdiv x y) :: st) h n) : V l G T d mc ms Q ce sl pc L (.float y :: .float x :: st) h n := by
  intro p e s m args below meth c H locs ls F hl hP hS
  subst hq
  exact lv_fdiv F.1 F.2.1 hd hne (k p e s m args below meth c H locs ls F hl hP hS)
theorem V.ddiv {x y : UInt64} (hd : decode T.2.1 pc = .ok (.ddiv, 1)) (hne : vf_n64 (FP.ddiv x y)) (hq : pc + 1 = q) (k : V l G T d mc ms Q ce sl q L (.double (FP.ddiv x y) :: st) h n) : V l G T d mc ms Q ce sl pc L (.double y :: .double x :: st) h n := by
  intro p e s m args below meth c H locs ls F hl hP hS
  subst hq
  exact lv_ddiv F.1 F.2.1 hd hne (k p e s m args below meth c H locs ls F hl hP hS)
theorem V.f2d {x : UInt32} (hd : decode T.2.1 pc = .ok (.f2d, 1)) (hne : vf_n64 (FP.f2d x)) (hq : pc + 1 = q) (k : V l G T d mc ms Q ce sl q L (.double (FP.f2d x) :: st) h n) : V l G T d mc ms Q ce sl pc L (.float x :: st) h n := by
  intro p e s m args below meth c H locs ls F hl hP hS
  subst hq
  exact lv_f2d F.1 F.2.1 hd hne (k p e s m args below meth c H locs ls F hl hP hS)
theorem V.dcmp {x y : UInt64} {op : CmpOp} (hd : decode T.2.1 pc = .ok (.dcmp op, 1)) (hq : pc + 1 = q) (k : V l G T d mc ms Q ce sl q L (.int (Op.cmpValue (FP.dcmp x y) op) :: st) h n) : V l G T d mc ms Q ce sl pc L (.double y :: .double x :: st) h n := by
  intro p e s m args below meth c H locs ls F hl hP hS
  subst hq
  exact lv_dcmp F.1 F.2.1 hd (k p e s m args below meth c H locs ls F hl hP hS)
theorem V.fconst0  (hd : decode T.2.1 pc = .ok (.fconst 0, 1)) (hq : pc + 1 = q) (k : V l G T d mc ms Q ce sl q L (.float 0 :: st) h n) : V l G T d mc ms Q ce sl pc L (st) h n := by
  intro p e s m args below meth c H locs ls F hl hP hS
  subst hq
  exact lv_fconst0 F.1 F.2.1 hd (k p e s m args below meth c H locs ls F hl hP hS)
theorem V.dconst0  (hd : decode T.2.1 pc = .ok (.dconst 0, 1)) (hq : pc + 1 = q) (k : V l G T d mc ms Q ce sl q L (.double 0 :: st) h n) : V l G T d mc ms Q ce sl pc L (st) h n := by
  intro p e s m args below meth c H locs ls F hl hP hS
  subst hq
  exact lv_dconst0 F.1 F.2.1 hd (k p e s m args below meth c H locs ls F hl hP hS)
theorem V.ldc {i : Nat} {v : Int32} (hd : decode T.2.1 pc = .ok (.ldc i, 2)) (hw : Cond.constant T.1.cls i v ∈ BW) (hq : pc + 2 = q) (k : V l G T d mc ms Q ce sl q L (.int v :: st) h n) : V l G T d mc ms Q ce sl pc L (st) h n := by
  intro p e s m args below meth c H locs ls F hl hP hS
  subst hq
  exact lv_ldc F.1 F.2.1 F.2.2.2.1 (F.2.2.2.2.1 _ hw) hd (k p e s m args below meth c H locs ls F hl hP hS)
theorem V.istore {i : Nat} {x : Int32} (hd : decode T.2.1 pc = .ok (.istore i, 2)) (hn : decide (i < T.2.2.1) = true) (hc : c1 L i = true) (hq : pc + 2 = q) (k : V l G T d mc ms Q ce sl q (L.set i (some (.int x))) st h n) : V l G T d mc ms Q ce sl pc L (.int x :: st) h n := by
  intro p e s m args below meth c H locs ls F hl hP hS
  subst hq
  exact lv_istore F.1 F.2.1 hd hl.has (of_decide_eq_true hn) rfl (fun ls2 hh => k p e s m args below meth c H locs ls2 F (lvo.set hc hh) hP hS)
theorem V.astore {i : Nat} {x : Nat} (hd : decode T.2.1 pc = .ok (.astore i, 2)) (hn : decide (i < T.2.2.1) = true) (hc : c1 L i = true) (hq : pc + 2 = q) (k : V l G T d mc ms Q ce sl q (L.set i (some (.ref x))) st h n) : V l G T d mc ms Q ce sl pc L (.ref x :: st) h n := by
  intro p e s m args below meth c H locs ls F hl hP hS
  subst hq
  exact lv_astore F.1 F.2.1 hd hl.has (of_decide_eq_true hn) rfl (fun ls2 hh => k p e s m args below meth c H locs ls2 F (lvo.set hc hh) hP hS)
theorem V.dstore {i : Nat} {x : UInt64} (hd : decode T.2.1 pc = .ok (.dstore i, 2)) (hn : decide (i + 1 < T.2.2.1) = true) (hc : c1 L i = true) (hq : pc + 2 = q) (k : V l G T d mc ms Q ce sl q ((L.set i (some (.double x))).set (i + 1) none) st h n) : V l G T d mc ms Q ce sl pc L (.double x :: st) h n := by
  intro p e s m args below meth c H locs ls F hl hP hS
  subst hq
  exact lv_dstore F.1 F.2.1 hd hl.has (of_decide_eq_true hn) rfl (fun ls2 hh => k p e s m args below meth c H locs ls2 F (lvo.set2 hc hh) hP hS)
theorem V.istore_n {i : Nat} {x : Int32} {f : Fin 4} (hd : decode T.2.1 pc = .ok (.istore_n f, 1)) (hf : (f : Nat) = i) (hn : decide (i < T.2.2.1) = true) (hc : c1 L i = true) (hq : pc + 1 = q) (k : V l G T d mc ms Q ce sl q (L.set i (some (.int x))) st h n) : V l G T d mc ms Q ce sl pc L (.int x :: st) h n := by
  intro p e s m args below meth c H locs ls F hl hP hS
  subst hq
  exact lv_istore_n F.1 F.2.1 hd hf hl.has (of_decide_eq_true hn) rfl (fun ls2 hh => k p e s m args below meth c H locs ls2 F (lvo.set hc hh) hP hS)
theorem V.astore_n {i : Nat} {x : Nat} {f : Fin 4} (hd : decode T.2.1 pc = .ok (.astore_n f, 1)) (hf : (f : Nat) = i) (hn : decide (i < T.2.2.1) = true) (hc : c1 L i = true) (hq : pc + 1 = q) (k : V l G T d mc ms Q ce sl q (L.set i (some (.ref x))) st h n) : V l G T d mc ms Q ce sl pc L (.ref x :: st) h n := by
  intro p e s m args below meth c H locs ls F hl hP hS
  subst hq
  exact lv_astore_n F.1 F.2.1 hd hf hl.has (of_decide_eq_true hn) rfl (fun ls2 hh => k p e s m args below meth c H locs ls2 F (lvo.set hc hh) hP hS)
theorem V.iinc {i : Nat} {a : Int} {x v : Int32} (hd : decode T.2.1 pc = .ok (.iinc i a, 3)) (hx : L[i]? = some (some (.int x))) (hv : x + Int32.ofInt a = v) (hn : decide (i < T.2.2.1) = true) (hc : c1 L i = true) (hq : pc + 3 = q) (k : V l G T d mc ms Q ce sl q (L.set i (some (.int v))) st h n) : V l G T d mc ms Q ce sl pc L st h n := by
  intro p e s m args below meth c H locs ls F hl hP hS
  subst hq
  obtain ⟨j, hj⟩ := List.getElem?_of_mem (asc_mem (q := (i, Value.int x)).mpr hx)
  exact lv_iinc F.1 F.2.1 hd hl.has hj hv (of_decide_eq_true hn) rfl (fun ls2 hh => k p e s m args below meth c H locs ls2 F (lvo.set hc hh) hP hS)
theorem V.if_eq {x : Int32} {off : Int} {tgt : Nat} (hd : decode T.2.1 pc = .ok (.ifCond .eq off, 3)) (ht : (pc : Int) + off = (tgt : Int)) (hq : pc + 3 = q) (kt : x = 0 → V l G T d mc ms Q ce sl tgt L st h n) (kf : ¬ x = 0 → V l G T d mc ms Q ce sl q L st h n) : V l G T d mc ms Q ce sl pc L (.int x :: st) h n := by
  intro p e s m args below meth c H locs ls F hl hP hS
  subst hq
  exact lv_if_eq F.1 F.2.1 hd ht (fun z => kt z p e s m args below meth c H locs ls F hl hP hS) (fun z => kf z p e s m args below meth c H locs ls F hl hP hS)
theorem V.icmp_eq {x y : Int32} {off : Int} {tgt : Nat} (hd : decode T.2.1 pc = .ok (.if_icmp .eq off, 3)) (ht : (pc : Int) + off = (tgt : Int)) (hq : pc + 3 = q) (kt : x = y → V l G T d mc ms Q ce sl tgt L st h n) (kf : ¬ x = y → V l G T d mc ms Q ce sl q L st h n) : V l G T d mc ms Q ce sl pc L (.int y :: .int x :: st) h n := by
  intro p e s m args below meth c H locs ls F hl hP hS
  subst hq
  exact lv_icmp_eq F.1 F.2.1 hd ht (fun z => kt z p e s m args below meth c H locs ls F hl hP hS) (fun z => kf z p e s m args below meth c H locs ls F hl hP hS)
theorem V.if_ne {x : Int32} {off : Int} {tgt : Nat} (hd : decode T.2.1 pc = .ok (.ifCond .ne off, 3)) (ht : (pc : Int) + off = (tgt : Int)) (hq : pc + 3 = q) (kt : ¬ x = 0 → V l G T d mc ms Q ce sl tgt L st h n) (kf : x = 0 → V l G T d mc ms Q ce sl q L st h n) : V l G T d mc ms Q ce sl pc L (.int x :: st) h n := by
  intro p e s m args below meth c H locs ls F hl hP hS
  subst hq
  exact lv_if_ne F.1 F.2.1 hd ht (fun z => kt z p e s m args below meth c H locs ls F hl hP hS) (fun z => kf z p e s m args below meth c H locs ls F hl hP hS)
theorem V.icmp_ne {x y : Int32} {off : Int} {tgt : Nat} (hd : decode T.2.1 pc = .ok (.if_icmp .ne off, 3)) (ht : (pc : Int) + off = (tgt : Int)) (hq : pc + 3 = q) (kt : ¬ x = y → V l G T d mc ms Q ce sl tgt L st h n) (kf : x = y → V l G T d mc ms Q ce sl q L st h n) : V l G T d mc ms Q ce sl pc L (.int y :: .int x :: st) h n := by
  intro p e s m args below meth c H locs ls F hl hP hS
  subst hq
  exact lv_icmp_ne F.1 F.2.1 hd ht (fun z => kt z p e s m args below meth c H locs ls F hl hP hS) (fun z => kf z p e s m args below meth c H locs ls F hl hP hS)
theorem V.if_lt {x : Int32} {off : Int} {tgt : Nat} (hd : decode T.2.1 pc = .ok (.ifCond .lt off, 3)) (ht : (pc : Int) + off = (tgt : Int)) (hq : pc + 3 = q) (kt : x < 0 → V l G T d mc ms Q ce sl tgt L st h n) (kf : ¬ x < 0 → V l G T d mc ms Q ce sl q L st h n) : V l G T d mc ms Q ce sl pc L (.int x :: st) h n := by
  intro p e s m args below meth c H locs ls F hl hP hS
  subst hq
  exact lv_if_lt F.1 F.2.1 hd ht (fun z => kt z p e s m args below meth c H locs ls F hl hP hS) (fun z => kf z p e s m args below meth c H locs ls F hl hP hS)
theorem V.icmp_lt {x y : Int32} {off : Int} {tgt : Nat} (hd : decode T.2.1 pc = .ok (.if_icmp .lt off, 3)) (ht : (pc : Int) + off = (tgt : Int)) (hq : pc + 3 = q) (kt : x < y → V l G T d mc ms Q ce sl tgt L st h n) (kf : ¬ x < y → V l G T d mc ms Q ce sl q L st h n) : V l G T d mc ms Q ce sl pc L (.int y :: .int x :: st) h n := by
  intro p e s m args below meth c H locs ls F hl hP hS
  subst hq
  exact lv_icmp_lt F.1 F.2.1 hd ht (fun z => kt z p e s m args below meth c H locs ls F hl hP hS) (fun z => kf z p e s m args below meth c H locs ls F hl hP hS)
theorem V.if_ge {x : Int32} {off : Int} {tgt : Nat} (hd : decode T.2.1 pc = .ok (.ifCond .ge off, 3)) (ht : (pc : Int) + off = (tgt : Int)) (hq : pc + 3 = q) (kt : 0 ≤ x → V l G T d mc ms Q ce sl tgt L st h n) (kf : ¬ 0 ≤ x → V l G T d mc ms Q ce sl q L st h n) : V l G T d mc ms Q ce sl pc L (.int x :: st) h n := by
  intro p e s m args below meth c H locs ls F hl hP hS
  subst hq
  exact lv_if_ge F.1 F.2.1 hd ht (fun z => kt z p e s m args below meth c H locs ls F hl hP hS) (fun z => kf z p e s m args below meth c H locs ls F hl hP hS)
theorem V.icmp_ge {x y : Int32} {off : Int} {tgt : Nat} (hd : decode T.2.1 pc = .ok (.if_icmp .ge off, 3)) (ht : (pc : Int) + off = (tgt : Int)) (hq : pc + 3 = q) (kt : y ≤ x → V l G T d mc ms Q ce sl tgt L st h n) (kf : ¬ y ≤ x → V l G T d mc ms Q ce sl q L st h n) : V l G T d mc ms Q ce sl pc L (.int y :: .int x :: st) h n := by
  intro p e s m args below meth c H locs ls F hl hP hS
  subst hq
  exact lv_icmp_ge F.1 F.2.1 hd ht (fun z => kt z p e s m args below meth c H locs ls F hl hP hS) (fun z => kf z p e s m args below meth c H locs ls F hl hP hS)
theorem V.if_gt {x : Int32} {off : Int} {tgt : Nat} (hd : decode T.2.1 pc = .ok (.ifCond .gt off, 3)) (ht : (pc : Int) + off = (tgt : Int)) (hq : pc + 3 = q) (kt : 0 < x → V l G T d mc ms Q ce sl tgt L st h n) (kf : ¬ 0 < x → V l G T d mc ms Q ce sl q L st h n) : V l G T d mc ms Q ce sl pc L (.int x :: st) h n := by
  intro p e s m args below meth c H locs ls F hl hP hS
  subst hq
  exact lv_if_gt F.1 F.2.1 hd ht (fun z => kt z p e s m args below meth c H locs ls F hl hP hS) (fun z => kf z p e s m args below meth c H locs ls F hl hP hS)
theorem V.icmp_gt {x y : Int32} {off : Int} {tgt : Nat} (hd : decode T.2.1 pc = .ok (.if_icmp .gt off, 3)) (ht : (pc : Int) + off = (tgt : Int)) (hq : pc + 3 = q) (kt : y < x → V l G T d mc ms Q ce sl tgt L st h n) (kf : ¬ y < x → V l G T d mc ms Q ce sl q L st h n) : V l G T d mc ms Q ce sl pc L (.int y :: .int x :: st) h n := by
  intro p e s m args below meth c H locs ls F hl hP hS
  subst hq
  exact lv_icmp_gt F.1 F.2.1 hd ht (fun z => kt z p e s m args below meth c H locs ls F hl hP hS) (fun z => kf z p e s m args below meth c H locs ls F hl hP hS)
theorem V.if_le {x : Int32} {off : Int} {tgt : Nat} (hd : decode T.2.1 pc = .ok (.ifCond .le off, 3)) (ht : (pc : Int) + off = (tgt : Int)) (hq : pc + 3 = q) (kt : x ≤ 0 → V l G T d mc ms Q ce sl tgt L st h n) (kf : ¬ x ≤ 0 → V l G T d mc ms Q ce sl q L st h n) : V l G T d mc ms Q ce sl pc L (.int x :: st) h n := by
  intro p e s m args below meth c H locs ls F hl hP hS
  subst hq
  exact lv_if_le F.1 F.2.1 hd ht (fun z => kt z p e s m args below meth c H locs ls F hl hP hS) (fun z => kf z p e s m args below meth c H locs ls F hl hP hS)
theorem V.icmp_le {x y : Int32} {off : Int} {tgt : Nat} (hd : decode T.2.1 pc = .ok (.if_icmp .le off, 3)) (ht : (pc : Int) + off = (tgt : Int)) (hq : pc + 3 = q) (kt : x ≤ y → V l G T d mc ms Q ce sl tgt L st h n) (kf : ¬ x ≤ y → V l G T d mc ms Q ce sl q L st h n) : V l G T d mc ms Q ce sl pc L (.int y :: .int x :: st) h n := by
  intro p e s m args below meth c H locs ls F hl hP hS
  subst hq
  exact lv_icmp_le F.1 F.2.1 hd ht (fun z => kt z p e s m args below meth c H locs ls F hl hP hS) (fun z => kf z p e s m args below meth c H locs ls F hl hP hS)
theorem V.goto {off : Int} {tgt : Nat} (hd : decode T.2.1 pc = .ok (.goto off, 3)) (ht : (pc : Int) + off = (tgt : Int)) (k : V l G T d mc ms Q ce sl tgt L st h n) : V l G T d mc ms Q ce sl pc L st h n := by
  intro p e s m args below meth c H locs ls F hl hP hS
  exact lv_goto F.1 F.2.1 hd ht (k p e s m args below meth c H locs ls F hl hP hS)
theorem V.acmp_eq {x y : Nat} {off : Int} {tgt : Nat} (hd : decode T.2.1 pc = .ok (.if_acmp .eq off, 3)) (ht : (pc : Int) + off = (tgt : Int)) (hq : pc + 3 = q) (kt : x = y → V l G T d mc ms Q ce sl tgt L st h n) (kf : ¬ x = y → V l G T d mc ms Q ce sl q L st h n) : V l G T d mc ms Q ce sl pc L (.ref y :: .ref x :: st) h n := by
  intro p e s m args below meth c H locs ls F hl hP hS
  subst hq
  exact lv_acmp_eq (rx := some x) (ry := some y) F.1 F.2.1 hd ht (fun z => kt (Option.some.inj z) p e s m args below meth c H locs ls F hl hP hS) (fun z => kf (fun w => z (by rw [w])) p e s m args below meth c H locs ls F hl hP hS)
theorem V.acmp_ne {x y : Nat} {off : Int} {tgt : Nat} (hd : decode T.2.1 pc = .ok (.if_acmp .ne off, 3)) (ht : (pc : Int) + off = (tgt : Int)) (hq : pc + 3 = q) (kt : ¬ x = y → V l G T d mc ms Q ce sl tgt L st h n) (kf : x = y → V l G T d mc ms Q ce sl q L st h n) : V l G T d mc ms Q ce sl pc L (.ref y :: .ref x :: st) h n := by
  intro p e s m args below meth c H locs ls F hl hP hS
  subst hq
  exact lv_acmp_ne (rx := some x) (ry := some y) F.1 F.2.1 hd ht (fun z => kt (fun w => z (by rw [w])) p e s m args below meth c H locs ls F hl hP hS) (fun z => kf (Option.some.inj z) p e s m args below meth c H locs ls F hl hP hS)
theorem V.tableOut {dflt lo hi : Int} {offs : Array Int} {len : Nat} {x : Int32} {tgt : Nat} (hd : decode T.2.1 pc = .ok (.tableswitch dflt lo hi offs, len)) (hx : x.toInt < lo ∨ hi < x.toInt) (ht : (pc : Int) + dflt = (tgt : Int)) (k : V l G T d mc ms Q ce sl tgt L st h n) : V l G T d mc ms Q ce sl pc L (.int x :: st) h n := by
  intro p e s m args below meth c H locs ls F hl hP hS
  exact lv_tableOut F.1 F.2.1 hd hx ht (k p e s m args below meth c H locs ls F hl hP hS)
theorem V.tableIn {dflt lo hi off : Int} {offs : Array Int} {len : Nat} {x : Int32} {tgt : Nat} (hd : decode T.2.1 pc = .ok (.tableswitch dflt lo hi offs, len)) (h1 : ¬ x.toInt < lo) (h2 : ¬ hi < x.toInt) (ho : offs[(x.toInt - lo).toNat]? = some off) (ht : (pc : Int) + off = (tgt : Int)) (k : V l G T d mc ms Q ce sl tgt L st h n) : V l G T d mc ms Q ce sl pc L (.int x :: st) h n := by
  intro p e s m args below meth c H locs ls F hl hP hS
  exact lv_tableIn F.1 F.2.1 hd h1 h2 ho ht (k p e s m args below meth c H locs ls F hl hP hS)
/-- fewer known locals -/
theorem V.less {L2 : List (Option Value)} (hl2 : lle L2 L) (k : V l G T d mc ms Q ce sl pc L2 st h n) : V l G T d mc ms Q ce sl pc L st h n := by
  intro p e s m args below meth c H locs ls F hl hP hS
  exact k p e s m args below meth c H locs ls F (hl.less hl2) hP hS
/-- another name for what stands there -/
theorem V.to {L2 : List (Option Value)} {st2 : List Value} {h2 : HM} {n2 : Nat} (e1 : L = L2) (e2 : st = st2) (e3 : h = h2) (e4 : n = n2) (k : V l G T d mc ms Q ce sl pc L2 st2 h2 n2) : V l G T d mc ms Q ce sl pc L st h n := by
  subst e1; subst e2; subst e3; subst e4; exact k
theorem V.wide {ce2 sl2 : Nat} (h1 : ce ≤ ce2) (h2 : sl ≤ sl2) (k : V l G T d mc ms Q ce2 sl2 pc L st h n) : V l G T d mc ms Q ce sl pc L st h n := by
  intro p e s m args below meth c H locs ls F hl hP hS
  exact W.widen h1 h2 (k p e s m args below meth c H locs ls F hl hP hS)

theorem V.iret {x : Int32} (hd : decode T.2.1 pc = .ok (.ireturn, 1)) (hr : T.2.2.2.1 = some .int) (hQ : Q (.inl (some (.int x))) h n) (hc : ce ≤ mc := by omega) (hs : sl ≤ ms := by omega) : V l G T d mc ms Q ce sl pc L [.int x] h n := by
  intro p e s m args below meth c H locs ls F hl hP hS
  refine W.widen hc hs (vx_ret ?_)
  refine W.iret F.1 F.2.1 (F.2.2.2.2.2.1.trans hr) ?_ hS.2.2 hd F.2.2.2.2.2.2.1
  intro t ht hW
  exact ⟨⟨_, h, n, rfl, by rw [ht]; exact hP, hQ⟩, hS.F ht⟩
theorem V.zret {ty : FieldType} {x : Int32} (hn : narrow ty (.int x) = .int x) (hd : decode T.2.1 pc = .ok (.ireturn, 1)) (hr : T.2.2.2.1 = some ty) (hQ : Q (.inl (some (.int x))) h n) (hc : ce ≤ mc := by omega) (hs : sl ≤ ms := by omega) : V l G T d mc ms Q ce sl pc L [.int x] h n := by
  intro p e s m args below meth c H locs ls F hl hP hS
  refine W.widen hc hs (vx_ret ?_)
  refine W.zret F.1 F.2.1 (F.2.2.2.2.2.1.trans hr) hn ?_ hS.2.2 hd F.2.2.2.2.2.2.1
  intro t ht hW
  exact ⟨⟨_, h, n, rfl, by rw [ht]; exact hP, hQ⟩, hS.F ht⟩
theorem V.vret  (hd : decode T.2.1 pc = .ok (.return_, 1)) (hr : T.2.2.2.1 = none) (hQ : Q (.inl none) h n) (hc : ce ≤ mc := by omega) (hs : sl ≤ ms := by omega) : V l G T d mc ms Q ce sl pc L [] h n := by
  intro p e s m args below meth c H locs ls F hl hP hS
  refine W.widen hc hs (vx_ret ?_)
  refine W.vret F.1 F.2.1 (F.2.2.2.2.2.1.trans hr) ?_ hS.2.2 hd F.2.2.2.2.2.2.1
  intro t ht hW
  exact ⟨⟨_, h, n, rfl, by rw [ht]; exact hP, hQ⟩, hS.F ht⟩
theorem V.fret {x : UInt32} (hd : decode T.2.1 pc = .ok (.freturn, 1)) (hr : T.2.2.2.1 = some .float) (hQ : Q (.inl (some (.float x))) h n) (hc : ce ≤ mc := by omega) (hs : sl ≤ ms := by omega) : V l G T d mc ms Q ce sl pc L [.float x] h n := by
  intro p e s m args below meth c H locs ls F hl hP hS
  refine W.widen hc hs (vx_ret ?_)
  refine W.fret F.1 F.2.1 (F.2.2.2.2.2.1.trans hr) ?_ hS.2.2 hd F.2.2.2.2.2.2.1
  intro t ht hW
  exact ⟨⟨_, h, n, rfl, by rw [ht]; exact hP, hQ⟩, hS.F ht⟩
theorem V.dret {x : UInt64} (hd : decode T.2.1 pc = .ok (.dreturn, 1)) (hr : T.2.2.2.1 = some .double) (hQ : Q (.inl (some (.double x))) h n) (hc : ce ≤ mc := by omega) (hs : sl ≤ ms := by omega) : V l G T d mc ms Q ce sl pc L [.double x] h n := by
  intro p e s m args below meth c H locs ls F hl hP hS
  refine W.widen hc hs (vx_ret ?_)
  refine W.dret F.1 F.2.1 (F.2.2.2.2.2.1.trans hr) ?_ hS.2.2 hd F.2.2.2.2.2.2.1
  intro t ht hW
  exact ⟨⟨_, h, n, rfl, by rw [ht]; exact hP, hQ⟩, hS.F ht⟩
theorem V.aret {x : Nat} {C : String} (hd : decode T.2.1 pc = .ok (.areturn, 1)) (hr : T.2.2.2.1 = some (.object C)) (hQ : Q (.inl (some (.ref x))) h n) (hc : ce ≤ mc := by omega) (hs : sl ≤ ms := by omega) : V l G T d mc ms Q ce sl pc L [.ref x] h n := by
  intro p e s m args below meth c H locs ls F hl hP hS
  refine W.widen hc hs (vx_ret ?_)
  refine W.aret F.1 F.2.1 (F.2.2.2.2.2.1.trans hr) (Or.inl ⟨C, rfl⟩) (Or.inr ⟨x, rfl⟩) ?_ hS.2.2 hd F.2.2.2.2.2.2.1
  intro t ht hW
  exact ⟨⟨_, h, n, rfl, by rw [ht]; exact hP, hQ⟩, hS.F ht⟩
end VR
