section
-- ===== PART A: goes FIRST, ahead of the names: the tables' words, and 'selects' of the private methods out of them =====
/-- a private method of a class that the tables say can be made, by its rows of tables_1 -/
def lw_okq (q : MethodName × Nat) : Prop := (q.1.cls ≠ "java/lang/invoke/MethodHandle" ∧ q.1.cls ≠ "java/lang/invoke/VarHandle") ∧ Cond.instantiable q.1.cls q.2 ∈ tables_1 ∧ Cond.privateMethod q.1 ∈ tables_1 ∧ Cond.instanceMethod q.1 ∈ tables_1
theorem lw_p0 : lw_okq (⟨"LiftScheduler", "requirePolicy", "(I)V"⟩, 12) := ⟨⟨by decide +kernel, by decide +kernel⟩, List.mem_of_getElem? (i := 26) (by decide +kernel), List.mem_of_getElem? (i := 238) (by decide +kernel), List.mem_of_getElem? (i := 239) (by decide +kernel)⟩
theorem lw_p1 : lw_okq (⟨"java/lang/Throwable", "fillInStackTrace", "(I)Ljava/lang/Throwable;"⟩, 6) := ⟨⟨by decide +kernel, by decide +kernel⟩, List.mem_of_getElem? (i := 280) (by decide +kernel), List.mem_of_getElem? (i := 278) (by decide +kernel), List.mem_of_getElem? (i := 279) (by decide +kernel)⟩
theorem lw_p2 : lw_okq (⟨"LiftScheduler$Simulation", "findFirstRiding", "()I"⟩, 19) := ⟨⟨by decide +kernel, by decide +kernel⟩, List.mem_of_getElem? (i := 34) (by decide +kernel), List.mem_of_getElem? (i := 314) (by decide +kernel), List.mem_of_getElem? (i := 315) (by decide +kernel)⟩
theorem lw_p3 : lw_okq (⟨"LiftScheduler$Simulation", "findStopBelow", "(I)I"⟩, 19) := ⟨⟨by decide +kernel, by decide +kernel⟩, List.mem_of_getElem? (i := 34) (by decide +kernel), List.mem_of_getElem? (i := 322) (by decide +kernel), List.mem_of_getElem? (i := 323) (by decide +kernel)⟩
theorem lw_p4 : lw_okq (⟨"LiftScheduler$Simulation", "findStopAbove", "(I)I"⟩, 19) := ⟨⟨by decide +kernel, by decide +kernel⟩, List.mem_of_getElem? (i := 34) (by decide +kernel), List.mem_of_getElem? (i := 326) (by decide +kernel), List.mem_of_getElem? (i := 327) (by decide +kernel)⟩
theorem lw_p5 : lw_okq (⟨"LiftScheduler", "requirePassenger", "(I)V"⟩, 12) := ⟨⟨by decide +kernel, by decide +kernel⟩, List.mem_of_getElem? (i := 26) (by decide +kernel), List.mem_of_getElem? (i := 346) (by decide +kernel), List.mem_of_getElem? (i := 347) (by decide +kernel)⟩
theorem lw_p6 : lw_okq (⟨"LiftScheduler", "requireFloor", "(I)V"⟩, 12) := ⟨⟨by decide +kernel, by decide +kernel⟩, List.mem_of_getElem? (i := 26) (by decide +kernel), List.mem_of_getElem? (i := 427) (by decide +kernel), List.mem_of_getElem? (i := 428) (by decide +kernel)⟩
theorem lw_p7 : lw_okq (⟨"LiftScheduler", "rememberState", "()V"⟩, 12) := ⟨⟨by decide +kernel, by decide +kernel⟩, List.mem_of_getElem? (i := 26) (by decide +kernel), List.mem_of_getElem? (i := 486) (by decide +kernel), List.mem_of_getElem? (i := 487) (by decide +kernel)⟩
theorem lw_p8 : lw_okq (⟨"LiftScheduler$Simulation", "openDoors", "()V"⟩, 19) := ⟨⟨by decide +kernel, by decide +kernel⟩, List.mem_of_getElem? (i := 34) (by decide +kernel), List.mem_of_getElem? (i := 505) (by decide +kernel), List.mem_of_getElem? (i := 506) (by decide +kernel)⟩
theorem lw_p9 : lw_okq (⟨"LiftScheduler$Simulation", "moveTowards", "(I)V"⟩, 19) := ⟨⟨by decide +kernel, by decide +kernel⟩, List.mem_of_getElem? (i := 34) (by decide +kernel), List.mem_of_getElem? (i := 509) (by decide +kernel), List.mem_of_getElem? (i := 510) (by decide +kernel)⟩
theorem lw_p10 : lw_okq (⟨"LiftScheduler", "requireCapacity", "(I)V"⟩, 12) := ⟨⟨by decide +kernel, by decide +kernel⟩, List.mem_of_getElem? (i := 26) (by decide +kernel), List.mem_of_getElem? (i := 517) (by decide +kernel), List.mem_of_getElem? (i := 518) (by decide +kernel)⟩
theorem lw_p11 : lw_okq (⟨"LiftScheduler", "appendFour", "(I)V"⟩, 12) := ⟨⟨by decide +kernel, by decide +kernel⟩, List.mem_of_getElem? (i := 26) (by decide +kernel), List.mem_of_getElem? (i := 790) (by decide +kernel), List.mem_of_getElem? (i := 791) (by decide +kernel)⟩
theorem lw_p12 : lw_okq (⟨"LiftScheduler$Script", "addToken", "(LLiftScheduler$Kind;II)V"⟩, 9) := ⟨⟨by decide +kernel, by decide +kernel⟩, List.mem_of_getElem? (i := 130) (by decide +kernel), List.mem_of_getElem? (i := 819) (by decide +kernel), List.mem_of_getElem? (i := 820) (by decide +kernel)⟩
theorem lw_p13 : lw_okq (⟨"LiftScheduler$Script", "take", "(LLiftScheduler$Kind;)Z"⟩, 9) := ⟨⟨by decide +kernel, by decide +kernel⟩, List.mem_of_getElem? (i := 130) (by decide +kernel), List.mem_of_getElem? (i := 858) (by decide +kernel), List.mem_of_getElem? (i := 859) (by decide +kernel)⟩
theorem lw_p14 : lw_okq (⟨"LiftScheduler$Script", "nextKind", "()LLiftScheduler$Kind;"⟩, 9) := ⟨⟨by decide +kernel, by decide +kernel⟩, List.mem_of_getElem? (i := 130) (by decide +kernel), List.mem_of_getElem? (i := 862) (by decide +kernel), List.mem_of_getElem? (i := 863) (by decide +kernel)⟩
theorem lw_p15 : lw_okq (⟨"LiftScheduler$Script", "fail", "(II)Z"⟩, 9) := ⟨⟨by decide +kernel, by decide +kernel⟩, List.mem_of_getElem? (i := 130) (by decide +kernel), List.mem_of_getElem? (i := 866) (by decide +kernel), List.mem_of_getElem? (i := 867) (by decide +kernel)⟩
def lw_privs_1 : List (MethodName × Nat) := [(⟨"LiftScheduler", "requirePolicy", "(I)V"⟩, 12), (⟨"java/lang/Throwable", "fillInStackTrace", "(I)Ljava/lang/Throwable;"⟩, 6), (⟨"LiftScheduler$Simulation", "findFirstRiding", "()I"⟩, 19), (⟨"LiftScheduler$Simulation", "findStopBelow", "(I)I"⟩, 19), (⟨"LiftScheduler$Simulation", "findStopAbove", "(I)I"⟩, 19), (⟨"LiftScheduler", "requirePassenger", "(I)V"⟩, 12), (⟨"LiftScheduler", "requireFloor", "(I)V"⟩, 12), (⟨"LiftScheduler", "rememberState", "()V"⟩, 12), (⟨"LiftScheduler$Simulation", "openDoors", "()V"⟩, 19), (⟨"LiftScheduler$Simulation", "moveTowards", "(I)V"⟩, 19), (⟨"LiftScheduler", "requireCapacity", "(I)V"⟩, 12), (⟨"LiftScheduler", "appendFour", "(I)V"⟩, 12), (⟨"LiftScheduler$Script", "addToken", "(LLiftScheduler$Kind;II)V"⟩, 9), (⟨"LiftScheduler$Script", "take", "(LLiftScheduler$Kind;)Z"⟩, 9), (⟨"LiftScheduler$Script", "nextKind", "()LLiftScheduler$Kind;"⟩, 9), (⟨"LiftScheduler$Script", "fail", "(II)Z"⟩, 9)]
theorem lw_r1 : ∀ q ∈ lw_privs_1, lw_okq q := List.forall_mem_cons.mpr ⟨lw_p0, List.forall_mem_cons.mpr ⟨lw_p1, List.forall_mem_cons.mpr ⟨lw_p2, List.forall_mem_cons.mpr ⟨lw_p3, List.forall_mem_cons.mpr ⟨lw_p4, List.forall_mem_cons.mpr ⟨lw_p5, List.forall_mem_cons.mpr ⟨lw_p6, List.forall_mem_cons.mpr ⟨lw_p7, List.forall_mem_cons.mpr ⟨lw_p8, List.forall_mem_cons.mpr ⟨lw_p9, List.forall_mem_cons.mpr ⟨lw_p10, List.forall_mem_cons.mpr ⟨lw_p11, List.forall_mem_cons.mpr ⟨lw_p12, List.forall_mem_cons.mpr ⟨lw_p13, List.forall_mem_cons.mpr ⟨lw_p14, List.forall_mem_cons.mpr ⟨lw_p15, fun _ h => absurd h List.not_mem_nil⟩⟩⟩⟩⟩⟩⟩⟩⟩⟩⟩⟩⟩⟩⟩⟩
theorem lw_p16 : lw_okq (⟨"LiftScheduler$Script", "takeNumber", "(II)I"⟩, 9) := ⟨⟨by decide +kernel, by decide +kernel⟩, List.mem_of_getElem? (i := 130) (by decide +kernel), List.mem_of_getElem? (i := 870) (by decide +kernel), List.mem_of_getElem? (i := 871) (by decide +kernel)⟩
theorem lw_p17 : lw_okq (⟨"LiftScheduler$Script", "takePolicy", "()I"⟩, 9) := ⟨⟨by decide +kernel, by decide +kernel⟩, List.mem_of_getElem? (i := 130) (by decide +kernel), List.mem_of_getElem? (i := 874) (by decide +kernel), List.mem_of_getElem? (i := 875) (by decide +kernel)⟩
theorem lw_p18 : lw_okq (⟨"LiftScheduler$Script", "performRepeat", "()Z"⟩, 9) := ⟨⟨by decide +kernel, by decide +kernel⟩, List.mem_of_getElem? (i := 130) (by decide +kernel), List.mem_of_getElem? (i := 895) (by decide +kernel), List.mem_of_getElem? (i := 896) (by decide +kernel)⟩
theorem lw_p19 : lw_okq (⟨"LiftScheduler$Script", "performSimple", "()Z"⟩, 9) := ⟨⟨by decide +kernel, by decide +kernel⟩, List.mem_of_getElem? (i := 130) (by decide +kernel), List.mem_of_getElem? (i := 903) (by decide +kernel), List.mem_of_getElem? (i := 904) (by decide +kernel)⟩
theorem lw_p20 : lw_okq (⟨"LiftScheduler$Script", "performCall", "()Z"⟩, 9) := ⟨⟨by decide +kernel, by decide +kernel⟩, List.mem_of_getElem? (i := 130) (by decide +kernel), List.mem_of_getElem? (i := 907) (by decide +kernel), List.mem_of_getElem? (i := 908) (by decide +kernel)⟩
theorem lw_p21 : lw_okq (⟨"LiftScheduler$Script", "performRun", "()Z"⟩, 9) := ⟨⟨by decide +kernel, by decide +kernel⟩, List.mem_of_getElem? (i := 130) (by decide +kernel), List.mem_of_getElem? (i := 917) (by decide +kernel), List.mem_of_getElem? (i := 918) (by decide +kernel)⟩
theorem lw_p22 : lw_okq (⟨"LiftScheduler$Script", "performUntil", "()Z"⟩, 9) := ⟨⟨by decide +kernel, by decide +kernel⟩, List.mem_of_getElem? (i := 130) (by decide +kernel), List.mem_of_getElem? (i := 928) (by decide +kernel), List.mem_of_getElem? (i := 929) (by decide +kernel)⟩
theorem lw_p23 : lw_okq (⟨"LiftScheduler$Script", "takeCounterAndValue", "()I"⟩, 9) := ⟨⟨by decide +kernel, by decide +kernel⟩, List.mem_of_getElem? (i := 130) (by decide +kernel), List.mem_of_getElem? (i := 932) (by decide +kernel), List.mem_of_getElem? (i := 933) (by decide +kernel)⟩
theorem lw_p24 : lw_okq (⟨"LiftScheduler$Script", "count", "(LLiftScheduler$Kind;)I"⟩, 9) := ⟨⟨by decide +kernel, by decide +kernel⟩, List.mem_of_getElem? (i := 130) (by decide +kernel), List.mem_of_getElem? (i := 952) (by decide +kernel), List.mem_of_getElem? (i := 953) (by decide +kernel)⟩
theorem lw_p25 : lw_okq (⟨"LiftScheduler$Script", "performPolicy", "()Z"⟩, 9) := ⟨⟨by decide +kernel, by decide +kernel⟩, List.mem_of_getElem? (i := 130) (by decide +kernel), List.mem_of_getElem? (i := 957) (by decide +kernel), List.mem_of_getElem? (i := 958) (by decide +kernel)⟩
theorem lw_p26 : lw_okq (⟨"LiftScheduler$Script", "performCapacity", "()Z"⟩, 9) := ⟨⟨by decide +kernel, by decide +kernel⟩, List.mem_of_getElem? (i := 130) (by decide +kernel), List.mem_of_getElem? (i := 961) (by decide +kernel), List.mem_of_getElem? (i := 962) (by decide +kernel)⟩
theorem lw_p27 : lw_okq (⟨"LiftScheduler$Script", "performExpect", "()Z"⟩, 9) := ⟨⟨by decide +kernel, by decide +kernel⟩, List.mem_of_getElem? (i := 130) (by decide +kernel), List.mem_of_getElem? (i := 965) (by decide +kernel), List.mem_of_getElem? (i := 966) (by decide +kernel)⟩
def lw_privs_2 : List (MethodName × Nat) := [(⟨"LiftScheduler$Script", "takeNumber", "(II)I"⟩, 9), (⟨"LiftScheduler$Script", "takePolicy", "()I"⟩, 9), (⟨"LiftScheduler$Script", "performRepeat", "()Z"⟩, 9), (⟨"LiftScheduler$Script", "performSimple", "()Z"⟩, 9), (⟨"LiftScheduler$Script", "performCall", "()Z"⟩, 9), (⟨"LiftScheduler$Script", "performRun", "()Z"⟩, 9), (⟨"LiftScheduler$Script", "performUntil", "()Z"⟩, 9), (⟨"LiftScheduler$Script", "takeCounterAndValue", "()I"⟩, 9), (⟨"LiftScheduler$Script", "count", "(LLiftScheduler$Kind;)I"⟩, 9), (⟨"LiftScheduler$Script", "performPolicy", "()Z"⟩, 9), (⟨"LiftScheduler$Script", "performCapacity", "()Z"⟩, 9), (⟨"LiftScheduler$Script", "performExpect", "()Z"⟩, 9)]
theorem lw_r2 : ∀ q ∈ lw_privs_2, lw_okq q := List.forall_mem_cons.mpr ⟨lw_p16, List.forall_mem_cons.mpr ⟨lw_p17, List.forall_mem_cons.mpr ⟨lw_p18, List.forall_mem_cons.mpr ⟨lw_p19, List.forall_mem_cons.mpr ⟨lw_p20, List.forall_mem_cons.mpr ⟨lw_p21, List.forall_mem_cons.mpr ⟨lw_p22, List.forall_mem_cons.mpr ⟨lw_p23, List.forall_mem_cons.mpr ⟨lw_p24, List.forall_mem_cons.mpr ⟨lw_p25, List.forall_mem_cons.mpr ⟨lw_p26, List.forall_mem_cons.mpr ⟨lw_p27, fun _ h => absurd h List.not_mem_nil⟩⟩⟩⟩⟩⟩⟩⟩⟩⟩⟩⟩
def lw_privs : List (MethodName × Nat) := lw_privs_1 ++ (lw_privs_2)
def lw_tbl : List Cond := k2_sels lw_privs ++ tables_1
theorem lw_privs_ok : ∀ q ∈ lw_privs, lw_okq q := by
  show ∀ q ∈ lw_privs_1 ++ (lw_privs_2), lw_okq q
  exact List.forall_mem_append.mpr ⟨lw_r1, lw_r2⟩

/-! ===== BEGIN words of one list among another's, by their places ===== -/
theorem goodIn_r {big : List Cond} (ws : List Cond) (ps : List Nat) (hp : ws = ps.filterMap (fun i => big[i]?)) (h : ws.all goodWord = true) : GoodIn big ws := by
  intro w hw
  have h1 := List.all_eq_true.mp h w hw
  rw [hp] at hw
  obtain ⟨i, -, hi⟩ := List.mem_filterMap.mp hw
  have hm : w ∈ big := by first | exact List.mem_of_getElem? hi | exact List.getElem?_mem hi
  exact ⟨hm, good_of_word h1⟩
theorem goodIn_app {big a b : List Cond} (ha : GoodIn big a) (hb : GoodIn big b) : GoodIn big (a ++ b) := fun w h => (List.mem_append.mp h).elim (ha w) (hb w)
theorem goodIn_ca {big a b : List Cond} {c : Cond} (ha : GoodIn big (c :: a)) (hb : GoodIn big b) : GoodIn big (c :: (a ++ b)) := fun w h => (List.mem_cons.mp h).elim (fun e => ha w (List.mem_cons.mpr (Or.inl e))) (fun h => (List.mem_append.mp h).elim (fun h => ha w (List.mem_cons.mpr (Or.inr h))) (hb w))
theorem goodIn_sub {big ws : List Cond} (hm : ∀ w ∈ ws, w ∈ big) (h : ws.all goodWord = true) : GoodIn big ws := fun w hw => ⟨hm w hw, good_of_word (List.all_eq_true.mp h w hw)⟩
/-! ===== END ===== -/

/-! ===== BEGIN exceptions that leave a method, and their catching by the caller (launches without stack traces) ===== -/
section VXA
/-! The laws vx_back, vx_callV, vx_callS, vx_callSW, vx_throw0, vx_throwS follow proofs of the library, with one case more: JvmDerived/Free/Laws.lean (Back.of_free), Shelf42/LK1.lean (callV, callS), Shelf/KitTraced.lean (throwNew0V, throwNewS). -/
/-- where a method has thrown q: the class by its name, the cell, what was written, the world -/
def vx_T (XC : String → State → State → Prop) (st : State) (q : Addr) (t : State) (mc ms : Nat) (free : Addr → Prop) : Prop :=
  ∃ (E : String) (ce : Cell) (L : List Loc), XC E st t ∧ t.heap[q]? = some ce ∧ ce.vm = .none ∧ st.vm.findClass E = some ce.cls ∧ st.WarmedH t.vm ∧ st.sameButNew ({ t with vm := st.vm } : State) L mc ms ∧ ∀ z ∈ L, free z.base
def vx_Q (Qc : Array Value → State → Outcome → State → Prop) (XC : String → State → State → Prop) (mc ms : Nat) (free : Addr → Prop) : Array Value → State → Outcome → State → Prop := fun a st o t =>
  (Qc a st o t ∧ ∃ L, FrameEnd st o t L mc ms ∧ ∀ q ∈ L, free q.base) ∨ ∃ q, o = .threw q ∧ vx_T XC st q t mc ms free
/-- a callee that returns or throws -/
def vx_Met (l : Launch) (y : MethodName) (ws : List Cond) (rm : Room) (Pc : Array Value → State → Prop) (Qc : Array Value → State → Outcome → State → Prop) (XC : String → State → State → Prop) (mc ms : Nat) (free : Addr → Prop) : Prop :=
  MetFree l y (headSpec ws rm) Pc (fun _ _ _ _ _ => True) (vx_Q Qc XC mc ms free)
def vx_Post (XC : String → State → State → Prop) (mc ms : Nat) (free : Addr → Prop) : Pt → Array Value → Addr → Pt → Prop := fun A a q B =>
  ∃ (g : JFrame) (mk : MethodId) (t : State) (L : List Loc) (E : String) (ce : Cell), B.U.heap = t.heap ∧ B.U.vm = t.vm ∧ XC E (A.U.calling g mk a) t ∧ t.heap[q]? = some ce ∧ ce.vm = .none ∧ A.U.vm.findClass E = some ce.cls ∧ B.locs = A.locs ++ L ∧ (∀ z ∈ L, free z.base) ∧ B.cells = A.cells + mc ∧ B.slots = A.slots + ms
def vx_Back (l : Launch) (R : Room) (p : Program) (e : Env) (below : List Frame) (s : State) (sargs : Array Value) (y : MethodName) (len W9 : Nat)
    (Pre : Pt → Array Value → Prop) (Post : Pt → Array Value → Option Value → Pt → Prop) (PostX : Pt → Array Value → Addr → Pt → Prop) : Prop :=
  ∀ (m : MethodId) (meth : Method) (c : Code) (A : Pt) (g : JFrame) (ig : Instr) (mk : MethodId) (a : Array Value),
    Stand p l e R s m sargs below meth c A.U A.locs A.cells A.slots → g.method = m → g.locals.size = c.maxLocals → decode c.code g.pc = .ok (ig, len) →
    2 * g.monitorRoom + (g.stack.map fun v => v.category).sum ≤ W9 → A.U.methodNamed? y = some mk → Pre A a →
    (∃ (v : Option Value) (B : Pt), Stand p l e R s m sargs below meth c B.U B.locs B.cells B.slots ∧ Post A a v B ∧
      Steps p.tables e below (doInvoke e (A.U.setTop g) [] mk a).1 (B.U.setTop { g with pc := g.pc + len, stack := v.toList ++ g.stack })) ∨
    (∃ (q : Addr) (B : Pt), Stand p l e R s m sargs below meth c B.U B.locs B.cells B.slots ∧ PostX A a q B ∧
      Steps p.tables e below (doInvoke e (A.U.setTop g) [] mk a).1 ((B.U.setTop g).pushFrame (.throwing q)))
section Payer
variable {l : Launch} {R : Room} {p : Program} {e : Env} {below : List Frame} {s : State} {sargs : Array Value} {y : MethodName} {len W9 : Nat}
theorem vx_back {ws : List Cond} {rm : Room} {Pc : Array Value → State → Prop} {Qc : Array Value → State → Outcome → State → Prop} {XC : String → State → State → Prop} {mc ms : Nat} {free : Addr → Prop} {bytes : ByteArray} {maxL : Nat} {ret : Option FieldType}
    (hM : vx_Met l y ws rm Pc Qc XC mc ms free) (hblind : FrameBlind Pc) (hrc : rm.cells = mc) (hrs : rm.slots = ms)
    (hframes : rm.frames + 1 ≤ R.frames) (hlocals : W9 + (maxL + 11) + rm.locals ≤ R.locals)
    (hws : ∀ w ∈ ws, ∀ a' U, s.WarmedH U.vm → w.before a' U = true) (hcode : Cond.code y bytes maxL ret ∈ ws) (hinit : ∀ a' U, s.WarmedH U.vm → (Cond.initialized y.cls).before a' U = true) :
    vx_Back l R p e below s sargs y len W9 (PreOf R mc ms Pc) (PostOf Qc mc ms free) (vx_Post XC mc ms free) := by
  intro m meth c A g ig mk a X hg hsize hdg hW hn hp
  have h1 : (headSpec ws rm).pre.before a A.U = true := atoms_intro fun w hw => hws w hw _ _ X.warmed
  have h2 : (Cond.code y bytes maxL ret).before a A.U = true := hws _ hcode _ _ X.warmed
  have h3 : (Cond.initialized y.cls).before a A.U = true := hinit _ _ X.warmed
  have h4 : A.cells + (headSpec ws rm).room.cells ≤ R.cells := by rw [show (headSpec ws rm).room.cells = mc from hrc]; exact hp.1
  have h5 : A.slots + (headSpec ws rm).room.slots ≤ R.slots := by rw [show (headSpec ws rm).room.slots = ms from hrs]; exact hp.2.1
  have hPc : Pc a (A.U.calling g mk a) := hblind _ _ _ _ hp.2.2
  obtain ⟨U, Ls, c0, s0⟩ := A
  dsimp only [Pt.U, Pt.locs, Pt.cells, Pt.slots] at h1 h2 h3 h4 h5 X hn hPc ⊢
  obtain ⟨methY, cY, hmY, hcY, -, hlY, -, -, -, -⟩ := Cond.code_spec hn h2
  obtain ⟨kY, hkY, -⟩ := className_of_methodNamed hn
  have hinitY : kY.init = .initialized := Cond.initialized_spec (findClass_of_methodNamed hn) hkY h3
  have h : At U g.method c below := by rw [hg]; exact X.here
  have hlocals9 : W9 + (maxL + 11) + (headSpec ws rm).room.locals ≤ R.locals := hlocals
  have happ : (headSpec ws rm).appliesLoose y e.platform (U.calling g mk a) = true :=
    Spec.appliesLoose_calling (g := g) h hdg hn hkY hinitY
      (X.room_calling (g := g) (R' := (headSpec ws rm).room) hsize hmY hcY hframes (by rw [hlY]; omega) h4 h5) h1
  obtain ⟨mid, hmid⟩ := h.above
  have hfr : (U.setTop g).frames = (.java g :: mid) ++ below := by rw [State.frames_setTop' g h.top, hmid]; rfl
  obtain ⟨o, s₂, hsteps, -, hend, hq⟩ := Steps.callFree hM p X.admits X.cas X.clock (acts := []) hfr happ hPc trivial
  have hq' : vx_Q Qc XC mc ms free a (U.calling g mk a) o s₂ := hq
  rw [State.frames_setTop' g h.top] at hend
  obtain ⟨g₀, hg0⟩ := Option.isSome_iff_exists.mp h.top
  obtain ⟨r, hr⟩ := State.topJava?_eq_some.mp hg0
  have hr' : (({ U with heap := s₂.heap, slotsUsed := s₂.slotsUsed } : State).setVm s₂.vm).frames = .java g₀ :: r := hr
  rcases hq' with ⟨hqc, L, hfe, hL⟩ | ⟨q, rfl, E, ce, L, hx, hce, hcv, hcl, hW₂, hsm, hL⟩
  · obtain ⟨⟨v, rfl⟩, hW₂, e2, q2, q3, q4, q5, q6⟩ := id hfe
    have e3 : s₂ = ({ (U.calling g mk a).setFrames s₂.frames with heap := s₂.heap, slotsUsed := s₂.slotsUsed } : State).setVm s₂.vm := by
      have : s₂ = ({ s₂ with vm := (U.calling g mk a).vm } : State).setVm s₂.vm := rfl
      rw [e2] at this
      exact this
    obtain ⟨c₂, i₂, len₂, hc₂, hd₂, hf₂⟩ := hend
    have hW' : U.WarmedH s₂.vm := hW₂
    have hcc : c₂ = c := by
      have h1 : s₂.code? g.method = U.code? g.method := by
        rw [State.code?_eq, State.code?_eq, hW'.alike.method?]
      exact Option.some.inj (hc₂.symm.trans (h1.trans h.code))
    subst hcc
    have hlen : len₂ = len := by rw [hdg] at hd₂; cases hd₂; rfl
    subst hlen
    have hs₂ : s₂ = (({ U with heap := s₂.heap, slotsUsed := s₂.slotsUsed } : State).setVm s₂.vm).setTop { g with pc := g.pc + len₂, stack := v.toList ++ g.stack } := by
      refine e3.trans ?_
      rw [hf₂, State.calling_eq h.top, State.setFrames_setFrames, State.setTop_of_frames _ hr', hr]
      rfl
    have hsame : U.sameButNew ({ U with heap := s₂.heap, slotsUsed := s₂.slotsUsed } : State) L mc ms := by
      refine ⟨?_, q2, q3, q4, q5, q6⟩
      obtain ⟨t, ht, -⟩ := State.frames_cons hr
      show ({ U with heap := s₂.heap, slotsUsed := s₂.slotsUsed } : State) = { U.setFrames U.frames with heap := s₂.heap, slotsUsed := s₂.slotsUsed }
      rw [State.setFrames_self ht]
    subst hg
    refine Or.inl ⟨v, ⟨(({ U with heap := s₂.heap, slotsUsed := s₂.slotsUsed } : State).setVm s₂.vm), Ls ++ L, c0 + mc, s0 + ms⟩,
      ⟨X.admits, X.cas, X.clock, X.frames, X.room, X.hears, X.method, X.code, (X.here.setHeapUsed s₂.heap s₂.slotsUsed).setVm hW'.alike, X.tail, State.WarmedH.trans X.warmed hW', X.limits, X.bytes, X.same.trans (hsame.setVm s.vm)⟩,
      ⟨g, mk, s₂, L, rfl, rfl, hqc, rfl, hL, rfl, rfl⟩, ?_⟩
    show Steps p.tables e below _ ((({ U with heap := s₂.heap, slotsUsed := s₂.slotsUsed } : State).setVm s₂.vm).setTop { g with pc := g.pc + len₂, stack := v.toList ++ g.stack })
    rw [← hs₂]
    exact hsteps
  · obtain ⟨e2, q2, q3, q4, q5, q6⟩ := id hsm
    have e3 : s₂ = ({ (U.calling g mk a).setFrames s₂.frames with heap := s₂.heap, slotsUsed := s₂.slotsUsed } : State).setVm s₂.vm := by
      have : s₂ = ({ s₂ with vm := (U.calling g mk a).vm } : State).setVm s₂.vm := rfl
      rw [e2] at this
      exact this
    have hf₂ : s₂.frames = .throwing q :: .java g :: U.frames.tail := hend
    have hW' : U.WarmedH s₂.vm := hW₂
    have hs₂ : s₂ = ((({ U with heap := s₂.heap, slotsUsed := s₂.slotsUsed } : State).setVm s₂.vm).setTop g).pushFrame (.throwing q) := by
      refine e3.trans ?_
      rw [hf₂, State.calling_eq h.top, State.setFrames_setFrames, State.pushFrame, State.frames_setTop _ hr', State.setTop_of_frames _ hr', State.setFrames_setFrames, hr]
      rfl
    have hsame : U.sameButNew ({ U with heap := s₂.heap, slotsUsed := s₂.slotsUsed } : State) L mc ms := by
      refine ⟨?_, q2, q3, q4, q5, q6⟩
      obtain ⟨t, ht, -⟩ := State.frames_cons hr
      show ({ U with heap := s₂.heap, slotsUsed := s₂.slotsUsed } : State) = { U.setFrames U.frames with heap := s₂.heap, slotsUsed := s₂.slotsUsed }
      rw [State.setFrames_self ht]
    subst hg
    refine Or.inr ⟨q, ⟨(({ U with heap := s₂.heap, slotsUsed := s₂.slotsUsed } : State).setVm s₂.vm), Ls ++ L, c0 + mc, s0 + ms⟩,
      ⟨X.admits, X.cas, X.clock, X.frames, X.room, X.hears, X.method, X.code, (X.here.setHeapUsed s₂.heap s₂.slotsUsed).setVm hW'.alike, X.tail, State.WarmedH.trans X.warmed hW', X.limits, X.bytes, X.same.trans (hsame.setVm s.vm)⟩,
      ⟨g, mk, s₂, L, E, ce, rfl, rfl, hx, hce, hcv, hcl, rfl, hL, rfl, rfl⟩, ?_⟩
    show Steps p.tables e below _ (((({ U with heap := s₂.heap, slotsUsed := s₂.slotsUsed } : State).setVm s₂.vm).setTop g).pushFrame (.throwing q))
    rw [← hs₂]
    exact hsteps
end Payer
section Calls
variable {p : Program} {l : Launch} {e : Env} {R : Room} {s : State} {m : MethodId} {args : Array Value} {below : List Frame} {meth : Method} {c : Code} {T : State} {locs : List Loc} {cells slots : Nat}
theorem vx_callV (X : Stand p l e R s m args below meth c T locs cells slots) (hexec : p.tables.exec = Jvm.exec) {own C : String} {index : Nat} {y : MethodName} {bytes : ByteArray} {maxL : Nat} {ret : Option FieldType}
    (hown : s.vm.findClass own = some m.cls) (hlink : (Cond.methodLink own index y).before args s = true) (hinst : (Cond.instanceMethod y).before args s = true) (hsel : (Cond.selects C y y).before args s = true)
    (hcode : (Cond.code y bytes maxL ret).before args s = true) (hy : y.cls ≠ "java/lang/invoke/MethodHandle" ∧ y.cls ≠ "java/lang/invoke/VarHandle")
    {W9 : Nat} {Pre : Pt → Array Value → Prop} {Post : Pt → Array Value → Option Value → Pt → Prop} {PostX : Pt → Array Value → Addr → Pt → Prop} (hK : vx_Back l R p e below s args y 3 W9 Pre Post PostX)
    {b : Addr} {cellB : Cell} (hcell : T.heap[b]? = some cellB) (hobj : cellB.vm.isStatics = false) (hcls : s.vm.findClass C = some cellB.cls)
    {g : JFrame} (hg : g.method = m) (hsize : g.locals.size = c.maxLocals) {argsL rest : List Value} (hlen : ∀ sig, parseMethodDescriptor y.desc = some sig → argsL.length = sig.parameters.length)
    (hstack : g.stack = argsL.reverse ++ .ref b :: rest) (hW : 2 * g.monitorRoom + (rest.map fun v => v.category).sum ≤ W9) (hdg : decode c.code g.pc = .ok (.invokevirtual index, 3))
    (hpre : ∀ vm₁, s.WarmedH vm₁ → Pre ⟨T.setVm vm₁, locs, cells, slots⟩ (Value.ref b :: argsL).toArray) :
    (∃ (v : Option Value) (vm₁ : Vm) (B : Pt), s.WarmedH vm₁ ∧ Stand p l e R s m args below meth c B.U B.locs B.cells B.slots ∧ Post ⟨T.setVm vm₁, locs, cells, slots⟩ (Value.ref b :: argsL).toArray v B ∧
      ∀ target, Steps p.tables e below (B.U.setTop { g with pc := g.pc + 3, stack := v.toList ++ rest }) target → Steps p.tables e below (T.setTop g) target) ∨
    (∃ (q : Addr) (vm₁ : Vm) (B : Pt), s.WarmedH vm₁ ∧ Stand p l e R s m args below meth c B.U B.locs B.cells B.slots ∧ PostX ⟨T.setVm vm₁, locs, cells, slots⟩ (Value.ref b :: argsL).toArray q B ∧
      Steps p.tables e below (T.setTop g) ((B.U.setTop { g with stack := rest }).pushFrame (.throwing q))) := by
  obtain ⟨mk, methM, hnamed, hmethM, hstM, habM⟩ := Cond.instanceMethod_spec hinst
  obtain ⟨methM', cM, hmethM', -, -, -, -, -, -, hsigM⟩ := Cond.code_spec hnamed hcode
  cases hmethM.symm.trans hmethM'
  obtain ⟨c2, r2, m2, q1, q2, q3, q4, kP, hkP, hkPi⟩ := Cond.selects_spec hsel
  cases hcls.symm.trans q1
  cases (State.methodFound?_of_named hnamed hy).symm.trans q2
  cases hnamed.symm.trans q3
  have hselP : selectMethod e.platform s.vm cellB.cls mk = .method mk := by rw [Launch.admits_selectMethod X.admits]; exact q4
  obtain ⟨vm₁, X₁, hstep₁⟩ := X.invokevirtual hexec hown hlink hnamed hmethM hstM hkP hkPi hy (a := b) (cell := cellB) hcell
    (fun z h => by rw [h] at hobj; cases hobj) hselP hmethM habM hkP hkPi (g := g) hg (argsL := argsL) (rest := rest) (hlen _ hsigM) hstack hdg
  rcases hK m meth c ⟨T.setVm vm₁, locs, cells, slots⟩ { g with stack := rest } (.invokevirtual index) mk (Value.ref b :: argsL).toArray X₁ hg hsize hdg hW (X₁.named hnamed) (hpre vm₁ X₁.warmed) with ⟨v, B, X', hpost, hsteps⟩ | ⟨q, B, X', hpost, hsteps⟩
  · exact Or.inl ⟨v, vm₁, B, X₁.warmed, X', hpost, fun target h => hstep₁ _ fun acts => by rw [doInvoke_state]; exact hsteps.trans h⟩
  · exact Or.inr ⟨q, vm₁, B, X₁.warmed, X', hpost, hstep₁ _ fun acts => by rw [doInvoke_state]; exact hsteps⟩
theorem vx_callS (X : Stand p l e R s m args below meth c T locs cells slots) (hexec : p.tables.exec = Jvm.exec) {own : String} {index : Nat} {y : MethodName} {bytes : ByteArray} {maxL : Nat} {ret : Option FieldType}
    (hown : s.vm.findClass own = some m.cls) (hlink : (Cond.methodLink own index y).before args s = true) (hstat : (Cond.static y).before args s = true) (hinit : (Cond.initialized y.cls).before args s = true)
    (hcode : (Cond.code y bytes maxL ret).before args s = true) (hy : y.cls ≠ "java/lang/invoke/MethodHandle" ∧ y.cls ≠ "java/lang/invoke/VarHandle")
    {W9 : Nat} {Pre : Pt → Array Value → Prop} {Post : Pt → Array Value → Option Value → Pt → Prop} {PostX : Pt → Array Value → Addr → Pt → Prop} (hK : vx_Back l R p e below s args y 3 W9 Pre Post PostX)
    {g : JFrame} (hg : g.method = m) (hsize : g.locals.size = c.maxLocals) {argsL rest : List Value} (hlen : ∀ sig, parseMethodDescriptor y.desc = some sig → argsL.length = sig.parameters.length)
    (hstack : g.stack = argsL.reverse ++ rest) (hW : 2 * g.monitorRoom + (rest.map fun v => v.category).sum ≤ W9) (hdg : decode c.code g.pc = .ok (.invokestatic index, 3))
    (hpre : ∀ vm₁, s.WarmedH vm₁ → Pre ⟨T.setVm vm₁, locs, cells, slots⟩ argsL.toArray) :
    (∃ (v : Option Value) (vm₁ : Vm) (B : Pt), s.WarmedH vm₁ ∧ Stand p l e R s m args below meth c B.U B.locs B.cells B.slots ∧ Post ⟨T.setVm vm₁, locs, cells, slots⟩ argsL.toArray v B ∧
      ∀ target, Steps p.tables e below (B.U.setTop { g with pc := g.pc + 3, stack := v.toList ++ rest }) target → Steps p.tables e below (T.setTop g) target) ∨
    (∃ (q : Addr) (vm₁ : Vm) (B : Pt), s.WarmedH vm₁ ∧ Stand p l e R s m args below meth c B.U B.locs B.cells B.slots ∧ PostX ⟨T.setVm vm₁, locs, cells, slots⟩ argsL.toArray q B ∧
      Steps p.tables e below (T.setTop g) ((B.U.setTop { g with stack := rest }).pushFrame (.throwing q))) := by
  obtain ⟨mk, hnamed⟩ := Cond.code_named hcode
  obtain ⟨methM, cM, hmethM, -, -, -, -, -, -, hsigM⟩ := Cond.code_spec hnamed hcode
  have hstatic : methM.isStatic = true := Cond.static_spec hnamed hmethM hstat
  obtain ⟨kP, hkP, -⟩ := className_of_methodNamed hnamed
  have hinitP : kP.init = .initialized := Cond.initialized_spec (findClass_of_methodNamed hnamed) hkP hinit
  obtain ⟨vm₁, X₁, hstep₁⟩ := X.invokestatic hexec hown hlink hnamed hmethM hstatic hkP hinitP hy (g := g) hg (argsL := argsL) (rest := rest) (hlen _ hsigM) hstack hdg
  rcases hK m meth c ⟨T.setVm vm₁, locs, cells, slots⟩ { g with stack := rest } (.invokestatic index) mk argsL.toArray X₁ hg hsize hdg hW (X₁.named hnamed) (hpre vm₁ X₁.warmed) with ⟨v, B, X', hpost, hsteps⟩ | ⟨q, B, X', hpost, hsteps⟩
  · exact Or.inl ⟨v, vm₁, B, X₁.warmed, X', hpost, fun target h => hstep₁ _ fun acts => by rw [doInvoke_state]; exact hsteps.trans h⟩
  · exact Or.inr ⟨q, vm₁, B, X₁.warmed, X', hpost, hstep₁ _ fun acts => by rw [doInvoke_state]; exact hsteps⟩
end Calls
theorem vx_cls {s : State} {T : State} {vm₁ : Vm} {E : String} {k : ClassId} (hW : s.WarmedH vm₁) (h : (T.setVm vm₁).vm.findClass E = some k) : s.vm.findClass E = some k := by
  have h1 : vm₁.findClass E = some k := h
  rw [hW.alike.findClass] at h1
  exact h1
/-- the method's frame g, with q thrown over it -/
def vx_W (p : Program) (l : Launch) (e : Env) (R : Room) (s : State) (m : MethodId) (args : Array Value) (below : List Frame) (meth : Method) (c : Code) (H : Heap) (locs : List Loc) (cells slots : Nat) (Q : State → Prop) (g : JFrame) (q : Addr) : Prop :=
  ∀ T : State, T.heap = H → Stand p l e R s m args below meth c T locs cells slots → ∃ t, Steps p.tables e below ((T.setTop g).pushFrame (.throwing q)) t ∧ Q t
def vx_Run (p : Program) (l : Launch) (e : Env) (R : Room) (s : State) (m : MethodId) (args : Array Value) (below : List Frame) (meth : Method) (c : Code) (H : Heap) (locs : List Loc) (cells slots mc ms : Nat) (g : JFrame) (rest : List Value) (Qa : State → Outcome → State → Prop) (XC : String → State → State → Prop) (free : Addr → Prop) : Prop :=
  ∀ T : State, T.heap = H → Stand p l e R s m args below meth c T locs cells slots →
    (∃ (v : Option Value) (st₀ t T' : State) (L : List Loc), st₀.heap = H ∧ Stand p l e R s m args below meth c T' (locs ++ L) (cells + mc) (slots + ms) ∧ (∀ q ∈ L, free q.base) ∧ T'.heap = t.heap ∧ T'.vm = t.vm ∧ Qa st₀ (.returned v) t ∧
      Goes p e below T g T' { g with pc := g.pc + 3, stack := v.toList ++ rest }) ∨
    (∃ (q : Addr) (st₀ t T' : State) (L : List Loc) (E : String) (ce : Cell), st₀.heap = H ∧ Stand p l e R s m args below meth c T' (locs ++ L) (cells + mc) (slots + ms) ∧ (∀ z ∈ L, free z.base) ∧ T'.heap = t.heap ∧ T'.vm = t.vm ∧ XC E st₀ t ∧ t.heap[q]? = some ce ∧ ce.vm = .none ∧ s.vm.findClass E = some ce.cls ∧
      Steps p.tables e below (T.setTop g) ((T'.setTop { g with stack := rest }).pushFrame (.throwing q)))
def vx_X {S : Type} (px : S → Prop) (B : String → S → State → Prop) (A : Nat → Prop) : String → State → State → Prop := fun E st t => ∃ u : S, px u ∧ B E u t ∧ va_F A st t
section Runs
variable {p : Program} {l : Launch} {e : Env} {R : Room} {s : State} {m : MethodId} {args : Array Value} {below : List Frame} {meth : Method} {c : Code} {H : Heap} {locs : List Loc} {cells slots : Nat}
variable {y : MethodName} {bytes cc : ByteArray} {maxL nL mc ms n index : Nat} {ret : Option FieldType} {ws : List Cond} {rm : Room} {Pc : Array Value → State → Prop} {Qc : Array Value → State → Outcome → State → Prop} {XC : String → State → State → Prop} {free : Addr → Prop} {Ts : List Cond} {own C : String} {b : Addr} {As rest : List Value} {g : JFrame}
theorem vx_callBack (cb : CallB R s args own index y bytes maxL ret ws rm mc ms n) (hM : vx_Met l y ws rm Pc Qc XC mc ms free) (hbl : FrameBlind Pc) : vx_Back l R p e below s args y 3 8 (PreOf R mc ms Pc) (PostOf Qc mc ms free) (vx_Post XC mc ms free) := by
  obtain ⟨hrc, hrs, hfr, hlo, hws, hcw, -, hini, -⟩ := cb
  exact vx_back (bytes := bytes) (maxL := maxL) (ret := ret) hM hbl hrc hrs hfr hlo hws hcw (fun a' U hW => word_at hW (Or.inl (by first | rfl | simp [Cond.onTables, Cond.keeps, Cond.steady])) hini)
theorem vx_runV (S : CallFix p m c cc nL s args Ts own) (hM : vx_Met l y ws rm Pc Qc XC mc ms free) (cw : CallW R s args own C index y bytes maxL ret ws rm mc ms n) (hp : PreV s H C b Pc As)
    (hg : g.method = m) (hn : As.length = n) (hsize : g.locals.size = nL) (hstack : g.stack = As.reverse ++ .ref b :: rest) (hW : 2 * g.monitorRoom + (rest.map fun v => v.category).sum ≤ 8) (hdg : decode cc g.pc = .ok (.invokevirtual index, 3)) (hf : cells + mc ≤ R.cells ∧ slots + ms ≤ R.slots) :
    vx_Run p l e R s m args below meth c H locs cells slots mc ms g rest (Qc (Value.ref b :: As).toArray) XC free := by
  have hK : vx_Back l R p e below s args y 3 8 (PreOf R mc ms Pc) (PostOf Qc mc ms free) (vx_Post XC mc ms free) := vx_callBack cw.1 hM hp.1
  obtain ⟨⟨-, -, -, -, -, -, hcode, -, hy, hlen, hl⟩, hin, hse⟩ := cw
  obtain ⟨hx, hb, hml, ho, -⟩ := S
  obtain ⟨-, ⟨cellB, hcB, hoB, hclB⟩, hPc⟩ := hp
  intro T hT X
  rcases vx_callV X hx (C := C) (bytes := bytes) (maxL := maxL) (ret := ret) ho hl hin hse hcode hy hK (by rw [hT]; exact hcB) hoB hclB hg (hsize.trans hml.symm) (argsL := As) (rest := rest) (fun sig h => hn.trans (hlen sig h)) hstack hW (by rw [hb]; exact hdg)
    (fun vm₁ hW₁ => ⟨hf.1, hf.2, hPc (T.setVm vm₁) hT hW₁⟩) with ⟨v, vm₁, ⟨U', l2, c2, s2⟩, hW₁, X', ⟨g', mk, t, L, e1, e2, hq, h1, hL, h2, h3⟩, st⟩ | ⟨q, vm₁, ⟨U', l2, c2, s2⟩, hW₁, X', ⟨g', mk, t, L, E, ce, e1, e2, hq, hce, hcv, hcl, h1, hL, h2, h3⟩, st⟩
  · dsimp only [Pt.U, Pt.locs, Pt.cells, Pt.slots] at X' e1 e2 h1 h2 h3 st
    subst h1; subst h2; subst h3
    exact Or.inl ⟨v, (T.setVm vm₁).calling g' mk (Value.ref b :: As).toArray, t, U', L, hT, X', hL, e1, e2, hq, st⟩
  · dsimp only [Pt.U, Pt.locs, Pt.cells, Pt.slots] at X' e1 e2 h1 h2 h3 st hcl
    subst h1; subst h2; subst h3
    exact Or.inr ⟨q, (T.setVm vm₁).calling g' mk (Value.ref b :: As).toArray, t, U', L, E, ce, hT, X', hL, e1, e2, hq, hce, hcv, vx_cls hW₁ hcl, st⟩
theorem vx_runS (S : CallFix p m c cc nL s args Ts own) (hM : vx_Met l y ws rm Pc Qc XC mc ms free) (cw : CallB R s args own index y bytes maxL ret ws rm mc ms n ∧ (Cond.static y).before args s = true) (hp : PreS s H Pc As)
    (hg : g.method = m) (hn : As.length = n) (hsize : g.locals.size = nL) (hstack : g.stack = As.reverse ++ rest) (hW : 2 * g.monitorRoom + (rest.map fun v => v.category).sum ≤ 8) (hdg : decode cc g.pc = .ok (.invokestatic index, 3)) (hf : cells + mc ≤ R.cells ∧ slots + ms ≤ R.slots) :
    vx_Run p l e R s m args below meth c H locs cells slots mc ms g rest (Qc As.toArray) XC free := by
  have hK : vx_Back l R p e below s args y 3 8 (PreOf R mc ms Pc) (PostOf Qc mc ms free) (vx_Post XC mc ms free) := vx_callBack cw.1 hM hp.1
  obtain ⟨⟨-, -, -, -, -, -, hcode, hini, hy, hlen, hl⟩, hstt⟩ := cw
  obtain ⟨hx, hb, hml, ho, -⟩ := S
  intro T hT X
  rcases vx_callS X hx (bytes := bytes) (maxL := maxL) (ret := ret) ho hl hstt hini hcode hy hK hg (hsize.trans hml.symm) (argsL := As) (rest := rest) (fun sig h => hn.trans (hlen sig h)) hstack hW (by rw [hb]; exact hdg)
    (fun vm₁ hW₁ => ⟨hf.1, hf.2, hp.2 (T.setVm vm₁) hT hW₁⟩) with ⟨v, vm₁, ⟨U', l2, c2, s2⟩, hW₁, X', ⟨g', mk, t, L, e1, e2, hq, h1, hL, h2, h3⟩, st⟩ | ⟨q, vm₁, ⟨U', l2, c2, s2⟩, hW₁, X', ⟨g', mk, t, L, E, ce, e1, e2, hq, hce, hcv, hcl, h1, hL, h2, h3⟩, st⟩
  · dsimp only [Pt.U, Pt.locs, Pt.cells, Pt.slots] at X' e1 e2 h1 h2 h3 st
    subst h1; subst h2; subst h3
    exact Or.inl ⟨v, (T.setVm vm₁).calling g' mk As.toArray, t, U', L, hT, X', hL, e1, e2, hq, st⟩
  · dsimp only [Pt.U, Pt.locs, Pt.cells, Pt.slots] at X' e1 e2 h1 h2 h3 st hcl
    subst h1; subst h2; subst h3
    exact Or.inr ⟨q, (T.setVm vm₁).calling g' mk As.toArray, t, U', L, E, ce, hT, X', hL, e1, e2, hq, hce, hcv, vx_cls hW₁ hcl, st⟩
end Runs
section Rows
variable {p : Program} {l : Launch} {e : Env} {R : Room} {s : State} {m : MethodId} {args : Array Value} {below : List Frame} {meth : Method} {c : Code} {H : Heap} {locs : List Loc} {cells slots : Nat} {Q : State → Prop}
variable {mc ms : Nat} {free : Addr → Prop} {A0 A1 : Nat → Prop} {H0 : Heap} {a : Array Value} {pc : Nat} {ls : Array Slot} {st0 rest : List Value}
theorem vx_keep {st₀ t T' : State} {L : List Loc} (h0 : st₀.heap = H) (e1 : T'.heap = t.heap) (hS : va_S A0 H0 H locs) (hA : ∀ q, q < H.size → A1 q → A0 q) (hf : ∀ q, free q → A0 q) (hL : ∀ q ∈ L, free q.base) (hF : va_F A1 st₀ t) :
    H.size ≤ T'.heap.size ∧ (∀ q : Nat, q < H.size → ¬ A1 q → T'.heap[q]? = H[q]?) ∧ va_S A0 H0 T'.heap (locs ++ L) := by
  obtain ⟨hz, hk⟩ := hF
  rw [h0] at hz hk
  exact ⟨by rw [e1]; exact hz, fun q h1 h2 => by rw [e1]; exact hk q h1 h2,
    ⟨Nat.le_trans hS.1 (by rw [e1]; exact hz), fun q h1 h2 => by rw [e1, hk q (Nat.lt_of_lt_of_le h1 hS.1) (fun z => h2 (hA q (Nat.lt_of_lt_of_le h1 hS.1) z))]; exact hS.2.1 q h1 h2, fun q hq => by
      rcases List.mem_append.mp hq with h | h
      · exact hS.2.2 q h
      · exact hf _ (hL q h)⟩⟩
theorem vx_calli {S SX : Type} {post : Int32 → S → Prop} {px : SX → Prop} {B : S → State → Prop} {BX : String → SX → State → Prop} {AX : Nat → Prop} (hr : vx_Run p l e R s m args below meth c H locs cells slots mc ms (F0 m pc ls st0) rest (va_Qi post B A1 a) (vx_X px BX AX) free) (hS : va_S A0 H0 H locs) (hA : ∀ q, q < H.size → A1 q → A0 q) (hf : ∀ q, free q → A0 q) (hAX : ∀ q, q < H.size → AX q → A0 q)
    (kx : ∀ (E : String) (ce : Cell) (q9 : Addr) (u : SX) (t : State) (H1 : Heap) (locs1 : List Loc), t.heap = H1 → s.vm.Alike t.vm → px u → BX E u t → H.size ≤ H1.size → (∀ q : Nat, q < H.size → ¬ AX q → H1[q]? = H[q]?) → va_S A0 H0 H1 locs1 → H1[q9]? = some ce → ce.vm = .none → s.vm.findClass E = some ce.cls → vx_W p l e R s m args below meth c H1 locs1 (cells + mc) (slots + ms) Q (F0 m pc ls rest) q9)
    (kk : ∀ (r : Int32) (u : S) (t : State) (H1 : Heap) (locs1 : List Loc), t.heap = H1 → s.vm.Alike t.vm → post r u → B u t → H.size ≤ H1.size → (∀ q : Nat, q < H.size → ¬ A1 q → H1[q]? = H[q]?) → va_S A0 H0 H1 locs1 → W p l e R s m args below meth c H1 locs1 (cells + mc) (slots + ms) Q (F0 m (pc + 3) ls (.int r :: rest))) : W p l e R s m args below meth c H locs cells slots Q (F0 m pc ls st0) := by
  intro T hT X
  rcases hr T hT X with ⟨v, st₀, t, T', L, h0, X', hL, e1, e2, ⟨⟨r, u, hv, hp, hb⟩, hF⟩, st⟩ | ⟨q, st₀, t, T', L, E, ce, h0, X', hL, e1, e2, ⟨u, hp, hb, hF⟩, hce, hcv, hcl, st⟩
  · cases hv
    obtain ⟨k1, k2, k3⟩ := vx_keep h0 e1 hS hA hf hL hF
    obtain ⟨t2, a1, b1⟩ := kk r u t T'.heap (locs ++ L) e1.symm (by rw [← e2]; exact X'.warmed.alike) hp hb k1 k2 k3 T' rfl X'
    exact ⟨t2, st t2 a1, b1⟩
  · obtain ⟨k1, k2, k3⟩ := vx_keep h0 e1 hS hAX hf hL hF
    obtain ⟨t2, a1, b1⟩ := kx E ce q u t T'.heap (locs ++ L) e1.symm (by rw [← e2]; exact X'.warmed.alike) hp hb k1 k2 k3 (by rw [e1]; exact hce) hcv hcl T' rfl X'
    exact ⟨t2, st.trans a1, b1⟩
theorem vx_calll {S SX : Type} {post : Int64 → S → Prop} {px : SX → Prop} {B : S → State → Prop} {BX : String → SX → State → Prop} {AX : Nat → Prop} (hr : vx_Run p l e R s m args below meth c H locs cells slots mc ms (F0 m pc ls st0) rest (va_Ql post B A1 a) (vx_X px BX AX) free) (hS : va_S A0 H0 H locs) (hA : ∀ q, q < H.size → A1 q → A0 q) (hf : ∀ q, free q → A0 q) (hAX : ∀ q, q < H.size → AX q → A0 q)
    (kx : ∀ (E : String) (ce : Cell) (q9 : Addr) (u : SX) (t : State) (H1 : Heap) (locs1 : List Loc), t.heap = H1 → s.vm.Alike t.vm → px u → BX E u t → H.size ≤ H1.size → (∀ q : Nat, q < H.size → ¬ AX q → H1[q]? = H[q]?) → va_S A0 H0 H1 locs1 → H1[q9]? = some ce → ce.vm = .none → s.vm.findClass E = some ce.cls → vx_W p l e R s m args below meth c H1 locs1 (cells + mc) (slots + ms) Q (F0 m pc ls rest) q9)
    (kk : ∀ (r : Int64) (u : S) (t : State) (H1 : Heap) (locs1 : List Loc), t.heap = H1 → s.vm.Alike t.vm → post r u → B u t → H.size ≤ H1.size → (∀ q : Nat, q < H.size → ¬ A1 q → H1[q]? = H[q]?) → va_S A0 H0 H1 locs1 → W p l e R s m args below meth c H1 locs1 (cells + mc) (slots + ms) Q (F0 m (pc + 3) ls (.long r :: rest))) : W p l e R s m args below meth c H locs cells slots Q (F0 m pc ls st0) := by
  intro T hT X
  rcases hr T hT X with ⟨v, st₀, t, T', L, h0, X', hL, e1, e2, ⟨⟨r, u, hv, hp, hb⟩, hF⟩, st⟩ | ⟨q, st₀, t, T', L, E, ce, h0, X', hL, e1, e2, ⟨u, hp, hb, hF⟩, hce, hcv, hcl, st⟩
  · cases hv
    obtain ⟨k1, k2, k3⟩ := vx_keep h0 e1 hS hA hf hL hF
    obtain ⟨t2, a1, b1⟩ := kk r u t T'.heap (locs ++ L) e1.symm (by rw [← e2]; exact X'.warmed.alike) hp hb k1 k2 k3 T' rfl X'
    exact ⟨t2, st t2 a1, b1⟩
  · obtain ⟨k1, k2, k3⟩ := vx_keep h0 e1 hS hAX hf hL hF
    obtain ⟨t2, a1, b1⟩ := kx E ce q u t T'.heap (locs ++ L) e1.symm (by rw [← e2]; exact X'.warmed.alike) hp hb k1 k2 k3 (by rw [e1]; exact hce) hcv hcl T' rfl X'
    exact ⟨t2, st.trans a1, b1⟩
theorem vx_callf {S SX : Type} {post : UInt32 → S → Prop} {px : SX → Prop} {B : S → State → Prop} {BX : String → SX → State → Prop} {AX : Nat → Prop} (hr : vx_Run p l e R s m args below meth c H locs cells slots mc ms (F0 m pc ls st0) rest (va_Qf post B A1 a) (vx_X px BX AX) free) (hS : va_S A0 H0 H locs) (hA : ∀ q, q < H.size → A1 q → A0 q) (hf : ∀ q, free q → A0 q) (hAX : ∀ q, q < H.size → AX q → A0 q)
    (kx : ∀ (E : String) (ce : Cell) (q9 : Addr) (u : SX) (t : State) (H1 : Heap) (locs1 : List Loc), t.heap = H1 → s.vm.Alike t.vm → px u → BX E u t → H.size ≤ H1.size → (∀ q : Nat, q < H.size → ¬ AX q → H1[q]? = H[q]?) → va_S A0 H0 H1 locs1 → H1[q9]? = some ce → ce.vm = .none → s.vm.findClass E = some ce.cls → vx_W p l e R s m args below meth c H1 locs1 (cells + mc) (slots + ms) Q (F0 m pc ls rest) q9)
    (kk : ∀ (r : UInt32) (u : S) (t : State) (H1 : Heap) (locs1 : List Loc), t.heap = H1 → s.vm.Alike t.vm → post r u → B u t → H.size ≤ H1.size → (∀ q : Nat, q < H.size → ¬ A1 q → H1[q]? = H[q]?) → va_S A0 H0 H1 locs1 → W p l e R s m args below meth c H1 locs1 (cells + mc) (slots + ms) Q (F0 m (pc + 3) ls (.float r :: rest))) : W p l e R s m args below meth c H locs cells slots Q (F0 m pc ls st0) := by
  intro T hT X
  rcases hr T hT X with ⟨v, st₀, t, T', L, h0, X', hL, e1, e2, ⟨⟨r, u, hv, hp, hb⟩, hF⟩, st⟩ | ⟨q, st₀, t, T', L, E, ce, h0, X', hL, e1, e2, ⟨u, hp, hb, hF⟩, hce, hcv, hcl, st⟩
  · cases hv
    obtain ⟨k1, k2, k3⟩ := vx_keep h0 e1 hS hA hf hL hF
    obtain ⟨t2, a1, b1⟩ := kk r u t T'.heap (locs ++ L) e1.symm (by rw [← e2]; exact X'.warmed.alike) hp hb k1 k2 k3 T' rfl X'
    exact ⟨t2, st t2 a1, b1⟩
  · obtain ⟨k1, k2, k3⟩ := vx_keep h0 e1 hS hAX hf hL hF
    obtain ⟨t2, a1, b1⟩ := kx E ce q u t T'.heap (locs ++ L) e1.symm (by rw [← e2]; exact X'.warmed.alike) hp hb k1 k2 k3 (by rw [e1]; exact hce) hcv hcl T' rfl X'
    exact ⟨t2, st.trans a1, b1⟩
theorem vx_calld {S SX : Type} {post : UInt64 → S → Prop} {px : SX → Prop} {B : S → State → Prop} {BX : String → SX → State → Prop} {AX : Nat → Prop} (hr : vx_Run p l e R s m args below meth c H locs cells slots mc ms (F0 m pc ls st0) rest (va_Qd post B A1 a) (vx_X px BX AX) free) (hS : va_S A0 H0 H locs) (hA : ∀ q, q < H.size → A1 q → A0 q) (hf : ∀ q, free q → A0 q) (hAX : ∀ q, q < H.size → AX q → A0 q)
    (kx : ∀ (E : String) (ce : Cell) (q9 : Addr) (u : SX) (t : State) (H1 : Heap) (locs1 : List Loc), t.heap = H1 → s.vm.Alike t.vm → px u → BX E u t → H.size ≤ H1.size → (∀ q : Nat, q < H.size → ¬ AX q → H1[q]? = H[q]?) → va_S A0 H0 H1 locs1 → H1[q9]? = some ce → ce.vm = .none → s.vm.findClass E = some ce.cls → vx_W p l e R s m args below meth c H1 locs1 (cells + mc) (slots + ms) Q (F0 m pc ls rest) q9)
    (kk : ∀ (r : UInt64) (u : S) (t : State) (H1 : Heap) (locs1 : List Loc), t.heap = H1 → s.vm.Alike t.vm → post r u → B u t → H.size ≤ H1.size → (∀ q : Nat, q < H.size → ¬ A1 q → H1[q]? = H[q]?) → va_S A0 H0 H1 locs1 → W p l e R s m args below meth c H1 locs1 (cells + mc) (slots + ms) Q (F0 m (pc + 3) ls (.double r :: rest))) : W p l e R s m args below meth c H locs cells slots Q (F0 m pc ls st0) := by
  intro T hT X
  rcases hr T hT X with ⟨v, st₀, t, T', L, h0, X', hL, e1, e2, ⟨⟨r, u, hv, hp, hb⟩, hF⟩, st⟩ | ⟨q, st₀, t, T', L, E, ce, h0, X', hL, e1, e2, ⟨u, hp, hb, hF⟩, hce, hcv, hcl, st⟩
  · cases hv
    obtain ⟨k1, k2, k3⟩ := vx_keep h0 e1 hS hA hf hL hF
    obtain ⟨t2, a1, b1⟩ := kk r u t T'.heap (locs ++ L) e1.symm (by rw [← e2]; exact X'.warmed.alike) hp hb k1 k2 k3 T' rfl X'
    exact ⟨t2, st t2 a1, b1⟩
  · obtain ⟨k1, k2, k3⟩ := vx_keep h0 e1 hS hAX hf hL hF
    obtain ⟨t2, a1, b1⟩ := kx E ce q u t T'.heap (locs ++ L) e1.symm (by rw [← e2]; exact X'.warmed.alike) hp hb k1 k2 k3 (by rw [e1]; exact hce) hcv hcl T' rfl X'
    exact ⟨t2, st.trans a1, b1⟩
theorem vx_callv {S SX : Type} {post : S → Prop} {px : SX → Prop} {B : S → State → Prop} {BX : String → SX → State → Prop} {AX : Nat → Prop} (hr : vx_Run p l e R s m args below meth c H locs cells slots mc ms (F0 m pc ls st0) rest (va_Qv post B A1 a) (vx_X px BX AX) free) (hS : va_S A0 H0 H locs) (hA : ∀ q, q < H.size → A1 q → A0 q) (hf : ∀ q, free q → A0 q) (hAX : ∀ q, q < H.size → AX q → A0 q)
    (kx : ∀ (E : String) (ce : Cell) (q9 : Addr) (u : SX) (t : State) (H1 : Heap) (locs1 : List Loc), t.heap = H1 → s.vm.Alike t.vm → px u → BX E u t → H.size ≤ H1.size → (∀ q : Nat, q < H.size → ¬ AX q → H1[q]? = H[q]?) → va_S A0 H0 H1 locs1 → H1[q9]? = some ce → ce.vm = .none → s.vm.findClass E = some ce.cls → vx_W p l e R s m args below meth c H1 locs1 (cells + mc) (slots + ms) Q (F0 m pc ls rest) q9)
    (kk : ∀ (u : S) (t : State) (H1 : Heap) (locs1 : List Loc), t.heap = H1 → s.vm.Alike t.vm → post u → B u t → H.size ≤ H1.size → (∀ q : Nat, q < H.size → ¬ A1 q → H1[q]? = H[q]?) → va_S A0 H0 H1 locs1 → W p l e R s m args below meth c H1 locs1 (cells + mc) (slots + ms) Q (F0 m (pc + 3) ls (rest))) : W p l e R s m args below meth c H locs cells slots Q (F0 m pc ls st0) := by
  intro T hT X
  rcases hr T hT X with ⟨v, st₀, t, T', L, h0, X', hL, e1, e2, ⟨⟨u, hv, hp, hb⟩, hF⟩, st⟩ | ⟨q, st₀, t, T', L, E, ce, h0, X', hL, e1, e2, ⟨u, hp, hb, hF⟩, hce, hcv, hcl, st⟩
  · cases hv
    obtain ⟨k1, k2, k3⟩ := vx_keep h0 e1 hS hA hf hL hF
    obtain ⟨t2, a1, b1⟩ := kk u t T'.heap (locs ++ L) e1.symm (by rw [← e2]; exact X'.warmed.alike) hp hb k1 k2 k3 T' rfl X'
    exact ⟨t2, st t2 a1, b1⟩
  · obtain ⟨k1, k2, k3⟩ := vx_keep h0 e1 hS hAX hf hL hF
    obtain ⟨t2, a1, b1⟩ := kx E ce q u t T'.heap (locs ++ L) e1.symm (by rw [← e2]; exact X'.warmed.alike) hp hb k1 k2 k3 (by rw [e1]; exact hce) hcv hcl T' rfl X'
    exact ⟨t2, st.trans a1, b1⟩
/-- caught by the row x of this method's table; the rows ahead don't take it -/
theorem vx_catch {own name : String} {E : String} {ce : Cell} {q : Addr} (hown : s.vm.findClass own = some m.cls) (pre : List ExceptionTableEntry) (x : ExceptionTableEntry) (suf : List ExceptionTableEntry) (hsplit : c.exceptionTable.toList = pre ++ x :: suf)
    (hpass : ∀ z ∈ pre, covers z pc = false ∨ (z.catchType ≠ 0 ∧ ∃ nm : String, (Cond.classLink own z.catchType nm).before args s = true ∧ va_Nc E nm s)) (hx : covers x pc = true) (h0 : x.catchType ≠ 0)
    (hlink : (Cond.classLink own x.catchType name).before args s = true) (hcast : (Cond.castable E name).before args s = true) (hcell : H[q]? = some ce) (hv : ce.vm = .none) (hcl : s.vm.findClass E = some ce.cls)
    (kk : W p l e R s m args below meth c H locs cells slots Q (F0 m x.handlerPc ls [.ref q])) : vx_W p l e R s m args below meth c H locs cells slots Q (F0 m pc ls rest) q := by
  intro T hT X
  have hpl : e.platform.magicAccessors = ({} : Platform).magicAccessors := by rw [X.admits.platform]
  obtain ⟨c3, c4, hc3, hc4, hasg⟩ := Cond.castable_spec hcast
  cases Option.some.inj (hc3.symm.trans hcl)
  obtain ⟨c5, hc5, hcl5⟩ := Cond.classLink_spec hown hlink e.platform hpl
  cases Option.some.inj (hc4.symm.trans hc5)
  obtain ⟨vm', X', st⟩ := X.thenCaughtThrough q (g := F0 m pc ls rest) rfl (Steps.refl _) (by rw [hT]; exact hcell) (by rw [hv]; rfl) (by obtain ⟨k9, h9, -⟩ := Vm.findClass_spec hcl; exact ⟨k9, h9⟩) pre x suf hsplit
    (fun z hz => by
      rcases hpass z hz with h | ⟨hz0, nm, hl1, hn1⟩
      · exact Or.inl h
      · obtain ⟨c6, hc6, hcl6⟩ := Cond.classLink_spec hown hl1 e.platform hpl
        obtain ⟨a8, b8, h1, h2, h3⟩ := hn1
        cases Option.some.inj (h1.symm.trans hcl)
        cases Option.some.inj (h2.symm.trans hc6)
        exact Or.inr ⟨hz0, _, hcl6, h3⟩) hx (Or.inr ⟨h0, c4, hcl5, hasg⟩)
  obtain ⟨t, a1, b1⟩ := kk (T.setVm vm') hT X'
  exact ⟨t, st.trans a1, b1⟩
end Rows
section Ends
variable {p : Program} {l : Launch} {e : Env} {R : Room} {s : State} {m : MethodId} {args : Array Value} {below : List Frame} {meth : Method} {c : Code} {H : Heap} {locs : List Loc} {cells slots : Nat} {Q : State → Prop}
variable {mc ms : Nat} {free : Addr → Prop} {A0 A1 : Nat → Prop} {H0 : Heap} {a : Array Value} {ls : Array Slot} {st0 rest : List Value}
variable {Qc : Array Value → State → Outcome → State → Prop} {XC : String → State → State → Prop}
/-- what a body that may throw owes at its end -/
def vx_MQ (below : List Frame) (Qc : Array Value → State → Outcome → State → Prop) (XC : String → State → State → Prop) (a : Array Value) (s : State) (mc ms : Nat) (free : Addr → Prop) : State → Prop := fun t =>
  ∃ o, t.status = .running ∧ Ended t below o ∧ vx_Q Qc XC mc ms free a s o t
theorem vx_ret {g : JFrame} {mc ms : Nat} (k : W p l e R s m args below meth c H locs cells slots (MQ below Qc args s mc ms free) g) : W p l e R s m args below meth c H locs cells slots (vx_MQ below Qc XC args s mc ms free) g := by
  intro T hT X
  obtain ⟨t, a1, o, b1, b2, b3, b4⟩ := k T hT X
  exact ⟨t, a1, o, b1, b2, Or.inl ⟨b3, b4⟩⟩
/-- not caught here: it goes on to the caller -/
theorem vx_widen {g : JFrame} {q : Addr} {k n : Nat} (h1 : cells ≤ k) (h2 : slots ≤ n) (kk : vx_W p l e R s m args below meth c H locs k n Q g q) : vx_W p l e R s m args below meth c H locs cells slots Q g q := fun T hT X => kk T hT (stand_widen X h1 h2)
theorem vx_out {pc : Nat} {E : String} {ce : Cell} {q : Addr} {mc ms : Nat} (hout : ∀ x ∈ c.exceptionTable.toList, covers x pc = false) (hlocks : meth.locks = false) (hcell : H[q]? = some ce) (hv : ce.vm = .none) (hcl : s.vm.findClass E = some ce.cls)
    (hx : ∀ t : State, t.heap = H → s.vm.Alike t.vm → XC E s t) (hf : ∀ z ∈ locs, free z.base) (hc : cells ≤ mc) (hs : slots ≤ ms) :
    vx_W p l e R s m args below meth c H locs cells slots (vx_MQ below Qc XC args s mc ms free) (F0 m pc ls rest) q := by
  intro T hT X
  obtain ⟨st1, hrun, hend, hW, hsm⟩ := X.leaveThrown q (g := F0 m pc ls rest) rfl rfl rfl hout hlocks
  have hcell9 : (T.setFrames (.throwing q :: below)).heap[q]? = some ce := by
    show T.heap[q]? = some ce
    rw [hT]; exact hcell
  exact ⟨_, st1, .threw q, hrun, hend, Or.inr ⟨q, rfl, E, ce, locs, hx _ hT hW.alike, hcell9, hv, hcl, hW, hsm.mono hc hs, hf⟩⟩
theorem vx_frame {U : State} {k n : Nat} (h : s.sameButNew ({ U with vm := s.vm } : State) locs k n) : s.heap.size ≤ U.heap.size ∧ ∀ q : Nat, q < s.heap.size → (∀ z ∈ locs, z.base ≠ q) → U.heap[q]? = s.heap[q]? := by
  obtain ⟨-, h2, -, -, -, h6⟩ := h
  refine ⟨h2, fun q hq hz => ?_⟩
  obtain ⟨c9, e1, e2, e3, e4⟩ := h6 q _ (Array.getElem?_eq_getElem hq)
  have hs : c9.slots = (s.heap[q]).slots := Array.ext_getElem? fun i => e4 i fun hm => hz _ hm rfl
  have h9 : c9 = s.heap[q] := by
    rw [hs] at e2
    exact e2
  have e5 : U.heap[q]? = some c9 := e1
  rw [e5, h9, Array.getElem?_eq_getElem hq]
/-- the words of a throw but the four that speak of the heap -/
def vx_no (w : Cond) : Bool := decide (w ≠ .isRef (.static Bundle.tN "UNASSIGNED_STACK" Bundle.steD)) && decide (w ≠ .isRef (.static Bundle.tN "SUPPRESSED_SENTINEL" Bundle.listD)) && decide (w ≠ .laysStatic Bundle.tN "UNASSIGNED_STACK" Bundle.steD) && decide (w ≠ .laysStatic Bundle.tN "SUPPRESSED_SENTINEL" Bundle.listD)
def vx_at0 (own : String) (ic : Nat) (X : String) (names : List String) : List Cond := (Bundle.ownAtoms0 own ic X names).filter vx_no
def vx_atS (own : String) (ic : Nat) (X : String) (names : List String) : List Cond := (Bundle.ownAtoms own ic X names).filter vx_no
/-- a word that the tables alone decide, or a good one -/
def vx_ot (w : Cond) : Bool := w.onTables || goodWord w
theorem vx_ot_at {args a' : Array Value} {s U : State} {w : Cond} (hW : s.WarmedH U.vm) (hvm : s.vm = U.vm) (hg : vx_ot w = true) (h : w.before args s = true) : w.before a' U = true := by
  simp only [vx_ot, Bool.or_eq_true] at hg
  rcases hg with hg | hg
  · exact va_tabs hg hvm h
  · exact word_at hW (good_of_word hg) h
/-- a list's words: the good ones out of the method's own list, the others by premises of their own -/
theorem vx_hat {args : Array Value} {s : State} {L B : List Cond} (h1 : ∀ w ∈ L.filter goodWord, w.before args s = true) (h2 : ∀ w ∈ L.filter (fun w => !goodWord w), w ∈ B) (h3 : ∀ w ∈ B, w.before args s = true) : ∀ w ∈ L, w.before args s = true := by
  intro w hw
  by_cases g : goodWord w = true
  · exact h1 w (List.mem_filter.mpr ⟨hw, g⟩)
  · refine h3 w (h2 w (List.mem_filter.mpr ⟨hw, ?_⟩))
    show (!goodWord w) = true
    cases hgw : goodWord w
    · rfl
    · exact absurd hgw g
theorem vx_c {args : Array Value} {s : State} {w : Cond} {B : List Cond} (h : w.before args s = true) (t : ∀ w ∈ B, w.before args s = true) : ∀ w' ∈ w :: B, w'.before args s = true := fun w' h' => (List.mem_cons.mp h').elim (fun e => by rw [e]; exact h) (t w')
theorem vx_n {args : Array Value} {s : State} : ∀ w ∈ ([] : List Cond), w.before args s = true := fun _ h => nomatch h
theorem vx_own {args : Array Value} {s : State} {L : List Cond} (h1 : ∀ w ∈ L.filter vx_no, w.before args s = true)
    (hU : (Cond.isRef (.static Bundle.tN "UNASSIGNED_STACK" Bundle.steD)).before args s = true) (hN : (Cond.isRef (.static Bundle.tN "SUPPRESSED_SENTINEL" Bundle.listD)).before args s = true)
    (lU : (Cond.laysStatic Bundle.tN "UNASSIGNED_STACK" Bundle.steD).before args s = true) (lN : (Cond.laysStatic Bundle.tN "SUPPRESSED_SENTINEL" Bundle.listD).before args s = true) : ∀ w ∈ L, w.before args s = true := by
  intro w hw
  by_cases e1 : w = .isRef (.static Bundle.tN "UNASSIGNED_STACK" Bundle.steD)
  · rw [e1]; exact hU
  · by_cases e2 : w = .isRef (.static Bundle.tN "SUPPRESSED_SENTINEL" Bundle.listD)
    · rw [e2]; exact hN
    · by_cases e3 : w = .laysStatic Bundle.tN "UNASSIGNED_STACK" Bundle.steD
      · rw [e3]; exact lU
      · by_cases e4 : w = .laysStatic Bundle.tN "SUPPRESSED_SENTINEL" Bundle.listD
        · rw [e4]; exact lN
        · exact h1 w (List.mem_filter.mpr ⟨hw, by unfold vx_no; rw [decide_eq_true e1, decide_eq_true e2, decide_eq_true e3, decide_eq_true e4]; rfl⟩)
/-- where a static field lies, its class's statics cell in H -/
def vx_L (C n d : String) (A : Nat → Prop) (U : State) (H : Heap) : Prop := ∃ (c : ClassId) (k : Class) (i : Nat) (f : Field) (a : Nat) (cell : Cell), U.vm.findClass C = some c ∧ U.fieldFound? C n d = some (c, k, i, f) ∧ f.isStatic = true ∧ k.statics = some a ∧ H[a]? = some cell ∧ cell.vm.isStatics = true ∧ cell.cls = c ∧ f.slot < cell.slots.size ∧ k.staticTypes[f.slot]? = some f.type ∧ ¬ A a
theorem vx_L.moved {C n d : String} {A : Nat → Prop} {u U : State} {H : Heap} (hvm : u.vm.Alike U.vm) (h : vx_L C n d A u H) : vx_L C n d A U H := by
  obtain ⟨c, k, i, f, a, cell, h1, h2, h3, h4, h5, h6, h7, h8, h9, h10⟩ := h
  obtain ⟨k', hi', he⟩ := State.fieldFound?_setVm hvm h2
  exact ⟨c, k', i, f, a, cell, by rw [hvm.findClass]; exact h1, hi', h3, by rw [he]; exact h4, h5, h6, h7, h8, by rw [he]; exact h9, h10⟩
theorem vx_L.kept {C n d : String} {A : Nat → Prop} {U : State} {H H1 : Heap} (h : vx_L C n d A U H) (hq : ∀ a : Nat, a < H.size → ¬ A a → H1[a]? = H[a]?) : vx_L C n d A U H1 := by
  obtain ⟨c, k, i, f, a, cell, h1, h2, h3, h4, h5, h6, h7, h8, h9, h10⟩ := h
  exact ⟨c, k, i, f, a, cell, h1, h2, h3, h4, by rw [hq a (Array.getElem?_eq_some_iff.mp h5).1 h10]; exact h5, h6, h7, h8, h9, h10⟩
theorem vx_L.narrow {C n d : String} {A B : Nat → Prop} {U : State} {H : Heap} (h : vx_L C n d A U H) (hAB : ∀ q, B q → A q) : vx_L C n d B U H := by
  obtain ⟨c, k, i, f, a, cell, h1, h2, h3, h4, h5, h6, h7, h8, h9, h10⟩ := h
  exact ⟨c, k, i, f, a, cell, h1, h2, h3, h4, h5, h6, h7, h8, h9, fun z => h10 (hAB _ z)⟩
theorem vx_L.word {C n d : String} {A : Nat → Prop} {s : State} {args : Array Value} (h : vx_L C n d A s s.heap) : (Cond.laysStatic C n d).before args s = true := by
  obtain ⟨c, k, i, f, a, cell, h1, h2, h3, h4, h5, h6, h7, h8, h9, -⟩ := h
  show (Cond.laysStatic C n d).holds args s none s [] = true
  exact Cond.laysStatic_of h1 h2 h3 h4 h5 h6 h7 h8 h9
/-- .. and what it holds: null or some reference -/
def vx_Zq (C n d : String) (A : Nat → Prop) (U : State) (H : Heap) : Prop := va_Zq C n d A U H ∧ vx_L C n d A U H
theorem vx_Zq.moved {C n d : String} {A : Nat → Prop} {u U : State} {H : Heap} (hvm : u.vm.Alike U.vm) (h : vx_Zq C n d A u H) : vx_Zq C n d A U H := ⟨va_Zq.moved hvm h.1, vx_L.moved hvm h.2⟩
theorem vx_Zq.kept {C n d : String} {A : Nat → Prop} {U : State} {H H1 : Heap} (h : vx_Zq C n d A U H) (hq : ∀ a : Nat, a < H.size → ¬ A a → H1[a]? = H[a]?) : vx_Zq C n d A U H1 := ⟨va_Zq.kept h.1 hq, vx_L.kept h.2 hq⟩
theorem vx_Zq.narrow {C n d : String} {A B : Nat → Prop} {U : State} {H : Heap} (h : vx_Zq C n d A U H) (hAB : ∀ q, B q → A q) : vx_Zq C n d B U H := ⟨va_Zq.narrow h.1 hAB, vx_L.narrow h.2 hAB⟩
theorem vx_Zqof {args : Array Value} {s : State} {C n d : String} {A : Nat → Prop} (hl : (Cond.laysStatic C n d).before args s = true) (hini : (Cond.initialized C).before args s = true) (h : (Cond.isRef (.static C n d)).before args s = true) (hA : ∀ a : Nat, a < s.heap.size → ¬ A a) : vx_Zq C n d A s s.heap := by
  refine ⟨va_Zqof hl hini h hA, ?_⟩
  obtain ⟨c, k, i, f, a, cell, h1, h2, h3, h4, h5, h6, h7, h8, h9⟩ := Cond.laysStatic_spec hl
  exact ⟨c, k, i, f, a, cell, h1, h2, h3, h4, h5, h6, h7, h8, h9, hA a (Array.getElem?_eq_some_iff.mp h5).1⟩
theorem vx_isRef {C n d : String} {v : Value} {A : Nat → Prop} {s : State} {args : Array Value} (h : va_Z C n d v A s s.heap) (hv : v.isRef = true) : (Cond.isRef (.static C n d)).before args s = true := by
  obtain ⟨cf, kf, fi, f, a, cell, h1, h2, h3, h4, h5, h6, h7, -⟩ := h
  have he : (Term.static C n d).eval args s none [] s = some v := by
    simp [Term.eval, State.fieldNamed?, h1, h2, h4, h5, h6, h7]
  simp only [Cond.before, Cond.holds, Cond.value, he]
  cases v <;> simp_all [Value.isRef]
theorem vx_isRefq {C n d : String} {A : Nat → Prop} {s : State} {args : Array Value} (h : va_Zq C n d A s s.heap) : (Cond.isRef (.static C n d)).before args s = true := by
  rcases h with h | ⟨t, h⟩
  · exact vx_isRef h rfl
  · exact vx_isRef h rfl
/-- the same frame, seen from here: as if the method were called anew in this heap -/
theorem vx_rebase {T : State} (X : Stand p l e R s m args below meth c T locs cells slots) {R' : Room} (hf : R'.frames ≤ R.frames) (hl : R'.locals ≤ R.locals) (hc : cells + R'.cells ≤ R.cells) (hs : slots + R'.slots ≤ R.slots) :
    Stand p l e R' ((T.setVm s.vm).setFrames (.invoking m args :: below)) m args below meth c T [] 0 0 := by
  have htop : (T.setVm s.vm).topJava?.isSome := X.here.top
  have hF : ((T.setVm s.vm).setFrames (.invoking m args :: below)).frames = .invoking m args :: below := State.frames_setFrames _ (State.cur_lt_of_top htop)
  obtain ⟨g₀, hg0⟩ := Option.isSome_iff_exists.mp htop
  obtain ⟨r, hr⟩ := State.topJava?_eq_some.mp hg0
  have hl9 : e.platform.stackLimits (T.setVm s.vm).me = e.platform.stackLimits s.me := X.limits
  have hb9 : (T.setVm s.vm).me.stackBytes = s.me.stackBytes := X.bytes
  refine ⟨X.admits, X.cas, X.clock, hF, ?_, X.hears, X.method, X.code, X.here, X.tail, X.warmed, ?_, ?_, ?_⟩
  · have h := X.room
    have hU : ((T.setVm s.vm).setFrames (.invoking m args :: below)).localsInUse = s.localsInUse := by
      rw [State.localsInUse_invoking hF (meth := meth) (c := c) X.method X.code, State.localsInUse_invoking X.frames X.method X.code]
    simp only [State.hasRoom, Bool.and_eq_true, decide_eq_true_eq] at h ⊢
    obtain ⟨⟨⟨⟨h1, h2, h3, h4, h5, h6⟩, h7⟩, h8⟩, h9⟩ := h
    rw [X.frames, List.length_cons] at h2 h3
    have q1 := X.heapSize
    have q2 := X.used
    simp only [hF, hU, List.length_cons, State.stackLimits_setFrames, State.stackBytes_setFrames, hl9, hb9]
    refine ⟨⟨⟨⟨by omega, by omega, by omega, by omega, by omega, h6⟩, ?_⟩, ?_⟩, X.book⟩
    · show T.heap.size + R'.cells ≤ e.platform.maxCells
      omega
    · show T.slotsUsed + R'.slots ≤ e.platform.maxSlots
      omega
  · rw [State.stackLimits_setFrames]; rfl
  · rw [State.stackBytes_setFrames]; rfl
  · refine ⟨?_, Nat.le_refl _, Nat.le_refl _, ?_, ?_, fun a c9 h9 => ⟨c9, h9, rfl, rfl, fun _ _ => rfl⟩⟩
    · obtain ⟨t, ht, -⟩ := State.frames_cons hr
      show T.setVm s.vm = { ((T.setVm s.vm).setFrames (.invoking m args :: below)).setFrames (T.setVm s.vm).frames with heap := T.heap, slotsUsed := T.slotsUsed }
      rw [State.setFrames_setFrames, State.setFrames_self ht]
      rfl
    · show T.slotsUsed = T.slotsUsed + ((T.heap.toList.drop T.heap.size).map (·.slots.size)).sum
      rw [List.drop_eq_nil_of_le (Nat.le_of_eq Array.length_toList)]
      rfl
    · show ((T.heap.toList.drop T.heap.size).map (·.slots.size)).sum ≤ 0
      rw [List.drop_eq_nil_of_le (Nat.le_of_eq Array.length_toList)]
      exact Nat.le_refl _
/-- 'throw new E()': new; dup; invokespecial; athrow -/
theorem vx_throw0 {cc : ByteArray} {pc : Nat} (hexec : p.tables.exec = Jvm.exec) (hb : c.code = cc) (hl : l.stackTraces = false) {own cls : String} {names : List String} {ik ic mc ms : Nat} {A : Nat → Prop}
    (hown : s.vm.findClass own = some m.cls) (hcls : Bundle.fit cls = true) (hnames : ∀ n ∈ names, Bundle.fit n = true)
    (hk : (Cond.classLink own ik cls).before args s = true) (hini : (Cond.initialized cls).before args s = true) (hat : ∀ w ∈ vx_at0 own ic cls names, w.before args s = true)
    (hgood : ∀ w ∈ Cond.classLink own ik cls :: Cond.initialized cls :: vx_at0 own ic cls names, vx_ot w = true)
    (hU : vx_Zq Bundle.tN "UNASSIGNED_STACK" Bundle.steD A s s.heap) (hN : vx_Zq Bundle.tN "SUPPRESSED_SENTINEL" Bundle.listD A s s.heap) (hS : va_S A s.heap H locs) (hsize : ls.size = c.maxLocals)
    (d0 : decode cc pc = .ok (.new ik, 3)) (d3 : decode cc (pc + 3) = .ok (.dup, 1)) (d4 : decode cc (pc + 4) = .ok (.invokespecial ic, 3)) (d7 : decode cc (pc + 7) = .ok (.athrow, 1))
    (hout : ∀ x ∈ c.exceptionTable.toList, covers x (pc + 7) = false)
    (hRframes : names.length + 3 < R.frames) (hRlocals : (rest.map fun v => v.category).sum + (13 * (names.length + 1) + 42) ≤ R.locals) (hRcells : cells + 1 ≤ R.cells) (hRslots : slots + 6 ≤ R.slots) (hlocks : meth.locks = false)
    (hx : ∀ t : State, s.vm.Alike t.vm → H.size ≤ t.heap.size → (∀ q : Nat, q < H.size → t.heap[q]? = H[q]?) → XC cls s t)
    (hf : ∀ z ∈ locs, free z.base) (hc : cells + 1 ≤ mc) (hs : slots + 6 ≤ ms) :
    W p l e R s m args below meth c H locs cells slots (vx_MQ below Qc XC args s mc ms free) (F0 m pc ls rest) := by
  intro T hT X
  have htr : e.platform.stackTraces = false := (show e.platform.stackTraces = l.stackTraces by rw [X.admits.platform]).trans hl
  have Y := vx_rebase X (R' := { frames := R.frames, locals := R.locals, cells := 1, slots := 6 }) (Nat.le_refl _) (Nat.le_refl _) hRcells hRslots
  obtain ⟨s', hA⟩ : ∃ z, z = (T.setVm s.vm).setFrames (.invoking m args :: below) := ⟨_, rfl⟩
  rw [← hA] at Y
  have hvm : s'.vm = s.vm := by rw [hA]; rfl
  have hhp : s'.heap = H := by rw [hA]; exact hT
  have hW0 : s.WarmedH s'.vm := by rw [hvm]; exact State.WarmedH.refl s
  have hat' : ∀ w ∈ vx_at0 own ic cls names, w.before args s' = true := fun w hw => vx_ot_at hW0 hvm.symm (hgood w (List.mem_cons_of_mem _ (List.mem_cons_of_mem _ hw))) (hat w hw)
  have hk' : (Cond.classLink own ik cls).before args s' = true := vx_ot_at hW0 hvm.symm (hgood _ List.mem_cons_self) hk
  have hini' : (Cond.initialized cls).before args s' = true := vx_ot_at hW0 hvm.symm (hgood _ (List.mem_cons_of_mem _ List.mem_cons_self)) hini
  have hU' : vx_Zq Bundle.tN "UNASSIGNED_STACK" Bundle.steD A s' s'.heap := by rw [hhp]; exact vx_Zq.moved hW0.alike (hU.kept hS.2.1)
  have hN' : vx_Zq Bundle.tN "SUPPRESSED_SENTINEL" Bundle.listD A s' s'.heap := by rw [hhp]; exact vx_Zq.moved hW0.alike (hN.kept hS.2.1)
  have h : ∀ w ∈ Bundle.ownAtoms0 own ic cls names, w.before args s' = true := vx_own hat' (vx_isRefq hU'.1) (vx_isRefq hN'.1) hU'.2.word hN'.2.word
  have hown' : s'.vm.findClass own = some m.cls := by rw [hvm]; exact hown
  have hins : (Cond.instantiable cls 6).before args s' = true := h _ (by simp [Bundle.ownAtoms0])
  obtain ⟨vm₁, cX, kX, hfX, hkX, -, -, X₁, st1⟩ := Y.newCold hexec (own := own) (C := cls) (index := ik) (n := 6) hown' hk' hins hini'
    (g := F0 m pc ls rest) rfl (by rw [hb]; exact d0) (Nat.le_refl _) (Nat.le_refl _)
  generalize hT1 : (T.setVm vm₁).pushCell { cls := cX, slots := kX.instanceTypes.map defaultValue, vm := .none } = T1 at X₁ st1
  have hcat : (Value.ref T.heap.size).category = 1 := rfl
  have hcellA : T1.heap[T.heap.size]? = some (freshCell cX kX) := by rw [← hT1]; exact State.heap_pushCell_size _ _
  have d3' : decode c.code (pc + 3) = .ok (.dup, 1) := by rw [hb]; exact d3
  obtain ⟨U, hsteps, hrun, hend, hW, hsame, ce, hce, hO⟩ := X₁.ctorThrow0 hexec htr (own := own) (cls := cls) (names := names) (ic := ic) hown' hcls hnames h (fun x hx => nomatch hx) hfX hkX hcellA (by rw [hhp, hT]; exact Nat.le_refl _)
    (g := { method := m, pc := pc + 4, locals := ls, stack := .ref T.heap.size :: .ref T.heap.size :: rest, locked := none }) rfl hsize rfl rfl (rest := rest) rfl
    (by rw [hb]; exact d4) (by rw [hb]; exact d7) hout hRframes (by simp only [List.map_cons, List.sum_cons, hcat]; omega) hlocks
  obtain ⟨f1, f2⟩ := vx_frame hsame
  rw [hhp] at f1 f2
  have hWs : s.WarmedH U.vm := State.WarmedH.trans hW0 hW
  have hcl : s.vm.findClass cls = some ce.cls := by
    have h9 := hO.cls
    rw [hvm] at h9
    exact h9
  have hall : s.sameButNew ({ U with vm := s.vm } : State) locs mc ms := by
    subst hA
    obtain ⟨e1, e2⟩ := hsame
    rw [State.setFrames_setFrames] at e1
    have h2 : (T.setVm s.vm).sameButNew ({ U with vm := s.vm } : State) [] (0 + 1) (0 + 6) := ⟨e1, e2⟩
    have h3 := X.same.trans h2
    rw [List.append_nil] at h3
    exact h3.mono hc hs
  refine ⟨U, ?_, .threw T.heap.size, hrun, hend, Or.inr ⟨T.heap.size, rfl, cls, ce, locs, hx U hWs.alike f1 (fun q hq => f2 q hq (fun z hz => nomatch hz)), hce, hO.vm, hcl, hWs, hall, hf⟩⟩
  refine st1 _ ?_
  show Steps p.tables e below (T1.setTop { method := m, pc := pc + 3, locals := ls, stack := .ref T.heap.size :: rest, locked := none }) _
  jvm_step X₁.here [X₁.here.top, hexec, d3', Value.category]
  exact hsteps
/-- 'throw new E("text")': new; dup; ldc; invokespecial; athrow -/
theorem vx_throwS {cc : ByteArray} {pc : Nat} (hexec : p.tables.exec = Jvm.exec) (hb : c.code = cc) (hl : l.stackTraces = false) {own cls text : String} {names : List String} {ik is ic mc ms sa : Nat} {A : Nat → Prop}
    (hown : s.vm.findClass own = some m.cls) (hcls : Bundle.fit cls = true) (hnames : ∀ n ∈ names, Bundle.fit n = true)
    (hk : (Cond.classLink own ik cls).before args s = true) (hini : (Cond.initialized cls).before args s = true) (hstr : vk_R own is text sa s) (hat : ∀ w ∈ vx_atS own ic cls names, w.before args s = true)
    (hgood : ∀ w ∈ Cond.classLink own ik cls :: Cond.initialized cls :: vx_atS own ic cls names, vx_ot w = true)
    (hU : vx_Zq Bundle.tN "UNASSIGNED_STACK" Bundle.steD A s s.heap) (hN : vx_Zq Bundle.tN "SUPPRESSED_SENTINEL" Bundle.listD A s s.heap) (hS : va_S A s.heap H locs) (hsize : ls.size = c.maxLocals)
    (d0 : decode cc pc = .ok (.new ik, 3)) (d3 : decode cc (pc + 3) = .ok (.dup, 1)) (d4 : decode cc (pc + 4) = .ok (.ldc is, 2)) (d6 : decode cc (pc + 6) = .ok (.invokespecial ic, 3)) (d9 : decode cc (pc + 9) = .ok (.athrow, 1))
    (hout : ∀ x ∈ c.exceptionTable.toList, covers x (pc + 9) = false)
    (hRframes : names.length + 3 < R.frames) (hRlocals : (rest.map fun v => v.category).sum + (13 * (names.length + 1) + 43) ≤ R.locals) (hRcells : cells + 1 ≤ R.cells) (hRslots : slots + 6 ≤ R.slots) (hlocks : meth.locks = false)
    (hx : ∀ t : State, s.vm.Alike t.vm → H.size ≤ t.heap.size → (∀ q : Nat, q < H.size → t.heap[q]? = H[q]?) → XC cls s t)
    (hf : ∀ z ∈ locs, free z.base) (hc : cells + 1 ≤ mc) (hs : slots + 6 ≤ ms) :
    W p l e R s m args below meth c H locs cells slots (vx_MQ below Qc XC args s mc ms free) (F0 m pc ls rest) := by
  intro T hT X
  have htr : e.platform.stackTraces = false := (show e.platform.stackTraces = l.stackTraces by rw [X.admits.platform]).trans hl
  have Y := vx_rebase X (R' := { frames := R.frames, locals := R.locals, cells := 1, slots := 6 }) (Nat.le_refl _) (Nat.le_refl _) hRcells hRslots
  obtain ⟨s', hA⟩ : ∃ z, z = (T.setVm s.vm).setFrames (.invoking m args :: below) := ⟨_, rfl⟩
  rw [← hA] at Y
  have hvm : s'.vm = s.vm := by rw [hA]; rfl
  have hhp : s'.heap = H := by rw [hA]; exact hT
  have hW0 : s.WarmedH s'.vm := by rw [hvm]; exact State.WarmedH.refl s
  have hat' : ∀ w ∈ vx_atS own ic cls names, w.before args s' = true := fun w hw => vx_ot_at hW0 hvm.symm (hgood w (List.mem_cons_of_mem _ (List.mem_cons_of_mem _ hw))) (hat w hw)
  have hk' : (Cond.classLink own ik cls).before args s' = true := vx_ot_at hW0 hvm.symm (hgood _ List.mem_cons_self) hk
  have hini' : (Cond.initialized cls).before args s' = true := vx_ot_at hW0 hvm.symm (hgood _ (List.mem_cons_of_mem _ List.mem_cons_self)) hini
  have hU' : vx_Zq Bundle.tN "UNASSIGNED_STACK" Bundle.steD A s' s'.heap := by rw [hhp]; exact vx_Zq.moved hW0.alike (hU.kept hS.2.1)
  have hN' : vx_Zq Bundle.tN "SUPPRESSED_SENTINEL" Bundle.listD A s' s'.heap := by rw [hhp]; exact vx_Zq.moved hW0.alike (hN.kept hS.2.1)
  have h : ∀ w ∈ Bundle.ownAtoms own ic cls names, w.before args s' = true := vx_own hat' (vx_isRefq hU'.1) (vx_isRefq hN'.1) hU'.2.word hN'.2.word
  have hown' : s'.vm.findClass own = some m.cls := by rw [hvm]; exact hown
  have hins : (Cond.instantiable cls 6).before args s' = true := h _ (by simp [Bundle.ownAtoms])
  obtain ⟨vm₁, cX, kX, hfX, hkX, -, -, X₁, st1⟩ := Y.newCold hexec (own := own) (C := cls) (index := ik) (n := 6) hown' hk' hins hini'
    (g := F0 m pc ls rest) rfl (by rw [hb]; exact d0) (Nat.le_refl _) (Nat.le_refl _)
  generalize hT1 : (T.setVm vm₁).pushCell { cls := cX, slots := kX.instanceTypes.map defaultValue, vm := .none } = T1 at X₁ st1
  have hcat : (Value.ref T.heap.size).category = 1 := rfl
  have hcellA : T1.heap[T.heap.size]? = some (freshCell cX kX) := by rw [← hT1]; exact State.heap_pushCell_size _ _
  have d3' : decode c.code (pc + 3) = .ok (.dup, 1) := by rw [hb]; exact d3
  have d4' : decode c.code (pc + 4) = .ok (.ldc is, 2) := by rw [hb]; exact d4
  have hstr' : vk_R own is text sa s' := vk_R.warm hW0 hstr
  obtain ⟨U, hsteps, hrun, hend, hW, hsame, ce, hce, hO⟩ := X₁.ctorThrowS hexec htr (own := own) (cls := cls) (names := names) (ic := ic) hown' hcls hnames h (fun x hx => nomatch hx) hfX hkX hcellA (by rw [hhp, hT]; exact Nat.le_refl _) (msg := .ref sa) rfl
    (g := { method := m, pc := pc + 6, locals := ls, stack := .ref sa :: .ref T.heap.size :: .ref T.heap.size :: rest, locked := none }) rfl hsize rfl rfl (rest := rest) rfl
    (by rw [hb]; exact d6) (by rw [hb]; exact d9) hout hRframes (by simp only [List.map_cons, List.sum_cons, hcat]; omega) hlocks
  obtain ⟨f1, f2⟩ := vx_frame hsame
  rw [hhp] at f1 f2
  have hWs : s.WarmedH U.vm := State.WarmedH.trans hW0 hW
  have hcl : s.vm.findClass cls = some ce.cls := by
    have h9 := hO.cls
    rw [hvm] at h9
    exact h9
  have hall : s.sameButNew ({ U with vm := s.vm } : State) locs mc ms := by
    subst hA
    obtain ⟨e1, e2⟩ := hsame
    rw [State.setFrames_setFrames] at e1
    have h2 : (T.setVm s.vm).sameButNew ({ U with vm := s.vm } : State) [] (0 + 1) (0 + 6) := ⟨e1, e2⟩
    have h3 := X.same.trans h2
    rw [List.append_nil] at h3
    exact h3.mono hc hs
  refine ⟨U, ?_, .threw T.heap.size, hrun, hend, Or.inr ⟨T.heap.size, rfl, cls, ce, locs, hx U hWs.alike f1 (fun q hq => f2 q hq (fun z hz => nomatch hz)), hce, hO.vm, hcl, hWs, hall, hf⟩⟩
  refine st1 _ ?_
  show Steps p.tables e below (T1.setTop { method := m, pc := pc + 3, locals := ls, stack := .ref T.heap.size :: rest, locked := none }) _
  jvm_step X₁.here [X₁.here.top, hexec, d3', Value.category]
  exact X₁.ldcString hexec (own := own) (text := text) (index := is) (a := sa) hown' hstr'.1 hstr'.2
    (g := { method := m, pc := pc + 4, locals := ls, stack := .ref T.heap.size :: .ref T.heap.size :: rest, locked := none }) rfl d4' _ hsteps
/-- 'throw new E("text")', the text by a wide index -/
theorem vx_throwSW {cc : ByteArray} {pc : Nat} (hexec : p.tables.exec = Jvm.exec) (hb : c.code = cc) (hl : l.stackTraces = false) {own cls text : String} {names : List String} {ik is ic mc ms sa : Nat} {A : Nat → Prop}
    (hown : s.vm.findClass own = some m.cls) (hcls : Bundle.fit cls = true) (hnames : ∀ n ∈ names, Bundle.fit n = true)
    (hk : (Cond.classLink own ik cls).before args s = true) (hini : (Cond.initialized cls).before args s = true) (hstr : vk_R own is text sa s) (hat : ∀ w ∈ vx_atS own ic cls names, w.before args s = true)
    (hgood : ∀ w ∈ Cond.classLink own ik cls :: Cond.initialized cls :: vx_atS own ic cls names, vx_ot w = true)
    (hU : vx_Zq Bundle.tN "UNASSIGNED_STACK" Bundle.steD A s s.heap) (hN : vx_Zq Bundle.tN "SUPPRESSED_SENTINEL" Bundle.listD A s s.heap) (hS : va_S A s.heap H locs) (hsize : ls.size = c.maxLocals)
    (d0 : decode cc pc = .ok (.new ik, 3)) (d3 : decode cc (pc + 3) = .ok (.dup, 1)) (d4 : decode cc (pc + 4) = .ok (.ldc_w is, 3)) (d7 : decode cc (pc + 7) = .ok (.invokespecial ic, 3)) (d10 : decode cc (pc + 10) = .ok (.athrow, 1))
    (hout : ∀ x ∈ c.exceptionTable.toList, covers x (pc + 10) = false)
    (hRframes : names.length + 3 < R.frames) (hRlocals : (rest.map fun v => v.category).sum + (13 * (names.length + 1) + 43) ≤ R.locals) (hRcells : cells + 1 ≤ R.cells) (hRslots : slots + 6 ≤ R.slots) (hlocks : meth.locks = false)
    (hx : ∀ t : State, s.vm.Alike t.vm → H.size ≤ t.heap.size → (∀ q : Nat, q < H.size → t.heap[q]? = H[q]?) → XC cls s t)
    (hf : ∀ z ∈ locs, free z.base) (hc : cells + 1 ≤ mc) (hs : slots + 6 ≤ ms) :
    W p l e R s m args below meth c H locs cells slots (vx_MQ below Qc XC args s mc ms free) (F0 m pc ls rest) := by
  intro T hT X
  have htr : e.platform.stackTraces = false := (show e.platform.stackTraces = l.stackTraces by rw [X.admits.platform]).trans hl
  have Y := vx_rebase X (R' := { frames := R.frames, locals := R.locals, cells := 1, slots := 6 }) (Nat.le_refl _) (Nat.le_refl _) hRcells hRslots
  obtain ⟨s', hA⟩ : ∃ z, z = (T.setVm s.vm).setFrames (.invoking m args :: below) := ⟨_, rfl⟩
  rw [← hA] at Y
  have hvm : s'.vm = s.vm := by rw [hA]; rfl
  have hhp : s'.heap = H := by rw [hA]; exact hT
  have hW0 : s.WarmedH s'.vm := by rw [hvm]; exact State.WarmedH.refl s
  have hat' : ∀ w ∈ vx_atS own ic cls names, w.before args s' = true := fun w hw => vx_ot_at hW0 hvm.symm (hgood w (List.mem_cons_of_mem _ (List.mem_cons_of_mem _ hw))) (hat w hw)
  have hk' : (Cond.classLink own ik cls).before args s' = true := vx_ot_at hW0 hvm.symm (hgood _ List.mem_cons_self) hk
  have hini' : (Cond.initialized cls).before args s' = true := vx_ot_at hW0 hvm.symm (hgood _ (List.mem_cons_of_mem _ List.mem_cons_self)) hini
  have hU' : vx_Zq Bundle.tN "UNASSIGNED_STACK" Bundle.steD A s' s'.heap := by rw [hhp]; exact vx_Zq.moved hW0.alike (hU.kept hS.2.1)
  have hN' : vx_Zq Bundle.tN "SUPPRESSED_SENTINEL" Bundle.listD A s' s'.heap := by rw [hhp]; exact vx_Zq.moved hW0.alike (hN.kept hS.2.1)
  have h : ∀ w ∈ Bundle.ownAtoms own ic cls names, w.before args s' = true := vx_own hat' (vx_isRefq hU'.1) (vx_isRefq hN'.1) hU'.2.word hN'.2.word
  have hown' : s'.vm.findClass own = some m.cls := by rw [hvm]; exact hown
  have hins : (Cond.instantiable cls 6).before args s' = true := h _ (by simp [Bundle.ownAtoms])
  obtain ⟨vm₁, cX, kX, hfX, hkX, -, -, X₁, st1⟩ := Y.newCold hexec (own := own) (C := cls) (index := ik) (n := 6) hown' hk' hins hini'
    (g := F0 m pc ls rest) rfl (by rw [hb]; exact d0) (Nat.le_refl _) (Nat.le_refl _)
  generalize hT1 : (T.setVm vm₁).pushCell { cls := cX, slots := kX.instanceTypes.map defaultValue, vm := .none } = T1 at X₁ st1
  have hcat : (Value.ref T.heap.size).category = 1 := rfl
  have hcellA : T1.heap[T.heap.size]? = some (freshCell cX kX) := by rw [← hT1]; exact State.heap_pushCell_size _ _
  have d3' : decode c.code (pc + 3) = .ok (.dup, 1) := by rw [hb]; exact d3
  have d4' : decode c.code (pc + 4) = .ok (.ldc_w is, 3) := by rw [hb]; exact d4
  have hstr' : vk_R own is text sa s' := vk_R.warm hW0 hstr
  obtain ⟨U, hsteps, hrun, hend, hW, hsame, ce, hce, hO⟩ := X₁.ctorThrowS hexec htr (own := own) (cls := cls) (names := names) (ic := ic) hown' hcls hnames h (fun x hx => nomatch hx) hfX hkX hcellA (by rw [hhp, hT]; exact Nat.le_refl _) (msg := .ref sa) rfl
    (g := { method := m, pc := pc + 7, locals := ls, stack := .ref sa :: .ref T.heap.size :: .ref T.heap.size :: rest, locked := none }) rfl hsize rfl rfl (rest := rest) rfl
    (by rw [hb]; exact d7) (by rw [hb]; exact d10) hout hRframes (by simp only [List.map_cons, List.sum_cons, hcat]; omega) hlocks
  obtain ⟨f1, f2⟩ := vx_frame hsame
  rw [hhp] at f1 f2
  have hWs : s.WarmedH U.vm := State.WarmedH.trans hW0 hW
  have hcl : s.vm.findClass cls = some ce.cls := by
    have h9 := hO.cls
    rw [hvm] at h9
    exact h9
  have hall : s.sameButNew ({ U with vm := s.vm } : State) locs mc ms := by
    subst hA
    obtain ⟨e1, e2⟩ := hsame
    rw [State.setFrames_setFrames] at e1
    have h2 : (T.setVm s.vm).sameButNew ({ U with vm := s.vm } : State) [] (0 + 1) (0 + 6) := ⟨e1, e2⟩
    have h3 := X.same.trans h2
    rw [List.append_nil] at h3
    exact h3.mono hc hs
  refine ⟨U, ?_, .threw T.heap.size, hrun, hend, Or.inr ⟨T.heap.size, rfl, cls, ce, locs, hx U hWs.alike f1 (fun q hq => f2 q hq (fun z hz => nomatch hz)), hce, hO.vm, hcl, hWs, hall, hf⟩⟩
  refine st1 _ ?_
  show Steps p.tables e below (T1.setTop { method := m, pc := pc + 3, locals := ls, stack := .ref T.heap.size :: rest, locked := none }) _
  jvm_step X₁.here [X₁.here.top, hexec, d3', Value.category]
  exact X₁.ldcStringW hexec (own := own) (text := text) (index := is) (a := sa) hown' hstr'.1 hstr'.2
    (g := { method := m, pc := pc + 4, locals := ls, stack := .ref T.heap.size :: .ref T.heap.size :: rest, locked := none }) rfl d4' _ hsteps
end Ends
section Bodies
variable {l : Launch}
theorem vx_ofW {y : MethodName} {ws ws' : List Cond} {rm : Room} {Pc : Array Value → State → Prop} {Qc : Array Value → State → Outcome → State → Prop} {XC : String → State → State → Prop} {mc ms : Nat} {free : Addr → Prop} {cc : ByteArray} {maxL : Nat} {ret : Option FieldType}
    (hy : plainName y.cls = true) (hw : ws = Cond.code y cc maxL ret :: ws')
    (body : ∀ p e s m args below meth c s₁, BodyLoose p l y (headSpec ws rm) cc maxL ret e s m args below meth c s₁ → c.maxLocals = maxL → (∀ x ∈ c.exceptionTable.toList, False) → Pc args s →
      W p l e (headSpec ws rm).room s m args below meth c s.heap [] 0 0 (vx_MQ below Qc XC args s mc ms free) (entryFrame m args maxL)) : vx_Met l y ws rm Pc Qc XC mc ms free := by
  refine MetFree.of_bodyS (code := cc) (maxLocals := maxL) (ret := ret) hy ?_ ?_
  · intro args s m h hn
    obtain ⟨meth, c, h1, h2, h3, h4, h5, h6, -, -⟩ := Cond.code_spec hn (atoms_spec (ws := ws) h _ (by rw [hw]; exact List.mem_cons_self))
    exact ⟨meth, c, h1, h2, h3, h4, h5, h6⟩
  · intro p e s m args below meth c s₁ B hml hP _
    have hh0 : s₁.heap = s.heap := by rw [B.state]; rfl
    have ht : ∀ x ∈ c.exceptionTable.toList, False := by
      obtain ⟨meth9, c9, h1, h2, -, -, -, -, h7, -⟩ := Cond.code_spec B.named (atoms_spec (ws := ws) B.pre _ (by rw [hw]; exact List.mem_cons_self))
      cases Option.some.inj (h1.symm.trans B.method)
      cases Option.some.inj (h2.symm.trans (Stand.of_body B).code)
      intro x hx
      rw [Array.isEmpty_iff.mp h7] at hx
      cases hx
    obtain ⟨t, a1, o, b1, b2, b3⟩ := body p e s m args below meth c s₁ B hml ht hP s₁ hh0 (Stand.of_body B)
    exact ⟨t, o, a1, b1, b2, b3⟩
/-- the table of a body with handlers -/
theorem vx_table {p : Program} {x y : MethodName} {S : Spec} {cc bytes : ByteArray} {maxL maxL' : Nat} {ret ret' : Option FieldType} {e : Env} {s s₁ : State} {m : MethodId} {args : Array Value} {below : List Frame} {meth : Method} {c : Code} {hh : List (Nat × Nat × Nat × Nat)}
    (B : BodyLoose p l y S cc maxL ret e s m args below meth c s₁) (h : (Cond.codeWith y bytes maxL' ret' hh).before args s = true) : c.exceptionTable.toList = tableOf hh := by
  obtain ⟨m9, meth9, c9, hn9, h1, h2, -, -, h6, -⟩ := Cond.codeWith_spec h
  cases Option.some.inj (hn9.symm.trans B.named)
  cases Option.some.inj (h1.symm.trans B.method)
  cases Option.some.inj (h2.symm.trans (Stand.of_body B).code)
  rw [← h6, table_eq]
end Bodies
end VXA
/-! ===== END ===== -/
/-! ===== BEGIN a static call of a method with an exception table ===== -/
section VXS
variable {p : Program} {l : Launch} {e : Env} {R : Room} {s : State} {m : MethodId} {args : Array Value} {below : List Frame} {meth : Method} {c : Code} {T : State} {H : Heap} {locs : List Loc} {cells slots : Nat}
abbrev vx_CSW (R : Room) (s : State) (args : Array Value) (own : String) (index : Nat) (y : MethodName) (bytes : ByteArray) (maxL : Nat) (ret : Option FieldType) (hh : List (Nat × Nat × Nat × Nat)) (ws : List Cond) (rm : Room) (mc ms n : Nat) : Prop :=
  (rm.cells = mc ∧ rm.slots = ms ∧ rm.frames + 1 ≤ R.frames ∧ 8 + (maxL + 11) + rm.locals ≤ R.locals ∧ (∀ w ∈ ws, ∀ (a' : Array Value) (U : State), s.WarmedH U.vm → w.before a' U = true) ∧ Cond.codeWith y bytes maxL ret hh ∈ ws) ∧
  (Cond.codeWith y bytes maxL ret hh).before args s = true ∧ (Cond.initialized y.cls).before args s = true ∧ (y.cls ≠ "java/lang/invoke/MethodHandle" ∧ y.cls ≠ "java/lang/invoke/VarHandle") ∧
  (∀ sig, parseMethodDescriptor y.desc = some sig → n = sig.parameters.length) ∧ (Cond.methodLink own index y).before args s = true ∧ (Cond.static y).before args s = true
theorem vx_cwSW {own : String} {index maxL mc ms : Nat} {y : MethodName} {bytes : ByteArray} {ret : Option FieldType} {hh : List (Nat × Nat × Nat × Nat)} {Ts ws ws' : List Cond} {rm : Room} (n : Nat) (ht : ∀ w ∈ Ts, w.before args s = true) (hT : GoodIn Ts (va_wsS own index y ws)) (hw : ws = Cond.codeWith y bytes maxL ret hh :: ws') (hrc : rm.cells = mc) (hrs : rm.slots = ms)
    (hd : y.cls ≠ "java/lang/invoke/MethodHandle" ∧ y.cls ≠ "java/lang/invoke/VarHandle" ∧ (parseMethodDescriptor y.desc).map (fun d => d.parameters.length) = some n) (hR : rm.frames + 1 ≤ R.frames ∧ 8 + (maxL + 11) + rm.locals ≤ R.locals) :
    vx_CSW R s args own index y bytes maxL ret hh ws rm mc ms n := by
  have ok : ∀ w ∈ va_wsS own index y ws, w.before args s = true := fun w h => ht w (hT w h).1
  have hG : GoodIn Ts ws := fun w h => hT w (by unfold va_wsS; exact List.mem_append_right _ h)
  have hc : Cond.codeWith y bytes maxL ret hh ∈ ws := by rw [hw]; exact List.mem_cons_self
  refine ⟨⟨hrc, hrs, hR.1, hR.2, pay_in ht hG, hc⟩, ht _ (hG _ hc).1, ok _ (by simp [va_wsS]), ⟨hd.1, hd.2.1⟩, fun sig h => ?_, ok _ (by simp [va_wsS]), ok _ (by simp [va_wsS])⟩
  have h2 := hd.2.2
  rw [h] at h2
  exact (Option.some.inj h2).symm
theorem vx_callSW (X : Stand p l e R s m args below meth c T locs cells slots) (hexec : p.tables.exec = Jvm.exec) {own : String} {index : Nat} {y : MethodName} {bytes : ByteArray} {maxL : Nat} {ret : Option FieldType} {hh : List (Nat × Nat × Nat × Nat)}
    (hown : s.vm.findClass own = some m.cls) (hlink : (Cond.methodLink own index y).before args s = true) (hstat : (Cond.static y).before args s = true) (hinit : (Cond.initialized y.cls).before args s = true)
    (hcode : (Cond.codeWith y bytes maxL ret hh).before args s = true) (hy : y.cls ≠ "java/lang/invoke/MethodHandle" ∧ y.cls ≠ "java/lang/invoke/VarHandle")
    {W9 : Nat} {Pre : Pt → Array Value → Prop} {Post : Pt → Array Value → Option Value → Pt → Prop} (hK : Back l R p e below s args y 3 W9 Pre Post)
    {g : JFrame} (hg : g.method = m) (hsize : g.locals.size = c.maxLocals) {argsL rest : List Value} (hlen : ∀ sig, parseMethodDescriptor y.desc = some sig → argsL.length = sig.parameters.length)
    (hstack : g.stack = argsL.reverse ++ rest) (hW : 2 * g.monitorRoom + (rest.map fun v => v.category).sum ≤ W9) (hdg : decode c.code g.pc = .ok (.invokestatic index, 3))
    (hpre : ∀ vm₁, s.WarmedH vm₁ → Pre ⟨T.setVm vm₁, locs, cells, slots⟩ argsL.toArray) :
    ∃ (v : Option Value) (vm₁ : Vm) (B : Pt), s.WarmedH vm₁ ∧ Stand p l e R s m args below meth c B.U B.locs B.cells B.slots ∧ Post ⟨T.setVm vm₁, locs, cells, slots⟩ argsL.toArray v B ∧
      ∀ target, Steps p.tables e below (B.U.setTop { g with pc := g.pc + 3, stack := v.toList ++ rest }) target → Steps p.tables e below (T.setTop g) target := by
  obtain ⟨mk, methM, cM, hnamed, hmethM, -, -, -, -, -, -, hsigM⟩ := Cond.codeWith_spec hcode
  have hstatic : methM.isStatic = true := Cond.static_spec hnamed hmethM hstat
  obtain ⟨kP, hkP, -⟩ := className_of_methodNamed hnamed
  have hinitP : kP.init = .initialized := Cond.initialized_spec (findClass_of_methodNamed hnamed) hkP hinit
  obtain ⟨vm₁, X₁, hstep₁⟩ := X.invokestatic hexec hown hlink hnamed hmethM hstatic hkP hinitP hy (g := g) hg (argsL := argsL) (rest := rest) (hlen _ hsigM) hstack hdg
  obtain ⟨v, B, X', hpost, hsteps⟩ := hK m meth c ⟨T.setVm vm₁, locs, cells, slots⟩ { g with stack := rest } (.invokestatic index) mk argsL.toArray X₁ hg hsize hdg hW (X₁.named hnamed) (hpre vm₁ X₁.warmed)
  exact ⟨v, vm₁, B, X₁.warmed, X', hpost, fun target h => hstep₁ _ fun acts => by rw [doInvoke_state]; exact hsteps.trans h⟩
theorem vx_runSW {y : MethodName} {bytes cc : ByteArray} {maxL nL mc ms n index : Nat} {ret : Option FieldType} {hh : List (Nat × Nat × Nat × Nat)} {ws : List Cond} {rm : Room} {Pc : Array Value → State → Prop} {Qc : Array Value → State → Outcome → State → Prop} {free : Addr → Prop} {Ts : List Cond} {own : String} {As rest : List Value} {g : JFrame}
    (S : CallFix p m c cc nL s args Ts own) (hM : Met l y ws rm Pc Qc mc ms free) (cw : vx_CSW R s args own index y bytes maxL ret hh ws rm mc ms n) (hp : PreS s H Pc As)
    (hg : g.method = m) (hn : As.length = n) (hsize : g.locals.size = nL) (hstack : g.stack = As.reverse ++ rest) (hW : 2 * g.monitorRoom + (rest.map fun v => v.category).sum ≤ 8) (hdg : decode cc g.pc = .ok (.invokestatic index, 3)) (hf : cells + mc ≤ R.cells ∧ slots + ms ≤ R.slots) :
    va_Run p l e R s m args below meth c H locs cells slots mc ms g rest (Qc As.toArray) (free) := by
  obtain ⟨⟨hrc, hrs, hfr, hlo, hws, hcw⟩, hcode, hini, hy, hlen, hl, hstt⟩ := cw
  have hK : Back l R p e below s args y 3 8 (PreOf R mc ms Pc) (PostOf Qc mc ms free) := va_backW (hh := hh) (bytes := bytes) (maxL := maxL) (ret := ret) hM hp.1 hrc hrs hfr hlo hws hcw (fun a' U hW => word_at hW (Or.inl (by first | rfl | simp [Cond.onTables, Cond.keeps, Cond.steady])) hini)
  obtain ⟨hx, hb, hml, ho, -⟩ := S
  intro T hT X
  obtain ⟨v, vm₁, ⟨U', l2, c2, s2⟩, hW₁, X', ⟨g', mk, t, L, e1, e2, hq, h1, hL, h2, h3⟩, st⟩ := vx_callSW X hx (hh := hh) (bytes := bytes) (maxL := maxL) (ret := ret) ho hl hstt hini hcode hy hK hg (hsize.trans hml.symm) (argsL := As) (rest := rest) (fun sig h => hn.trans (hlen sig h)) hstack hW (by rw [hb]; exact hdg)
    (fun vm₁ hW₁ => ⟨hf.1, hf.2, hp.2 (T.setVm vm₁) hT hW₁⟩)
  dsimp only [Pt.U, Pt.locs, Pt.cells, Pt.slots] at X' e1 e2 h1 h2 h3 st
  subst h1; subst h2; subst h3
  exact ⟨v, (T.setVm vm₁).calling g' mk As.toArray, t, U', L, hT, X', hL, e1, e2, hq, st⟩
/-- not caught here, past rows that name other classes: it goes on to the caller -/
theorem vx_outP {p : Program} {l : Launch} {e : Env} {R : Room} {s : State} {m : MethodId} {args : Array Value} {below : List Frame} {meth : Method} {c : Code} {H : Heap} {locs : List Loc} {cells slots : Nat} {free : Addr → Prop} {ls : Array Slot} {rest : List Value} {Qc : Array Value → State → Outcome → State → Prop} {XC : String → State → State → Prop}
    {pc : Nat} {own E : String} {ce : Cell} {q : Addr} {mc ms : Nat} (hown : s.vm.findClass own = some m.cls) (hlocks : meth.locks = false)
    (hpass : ∀ z ∈ c.exceptionTable.toList, covers z pc = false ∨ (z.catchType ≠ 0 ∧ ∃ nm : String, (Cond.classLink own z.catchType nm).before args s = true ∧ va_Nc E nm s)) (hcell : H[q]? = some ce) (hv : ce.vm = .none) (hcl : s.vm.findClass E = some ce.cls)
    (hx : ∀ t : State, t.heap = H → s.vm.Alike t.vm → XC E s t) (hf : ∀ z ∈ locs, free z.base) (hc : cells ≤ mc) (hs : slots ≤ ms) :
    vx_W p l e R s m args below meth c H locs cells slots (vx_MQ below Qc XC args s mc ms free) (F0 m pc ls rest) q := by
  intro T hT X
  have hpl : e.platform.magicAccessors = ({} : Platform).magicAccessors := by rw [X.admits.platform]
  obtain ⟨vm', hW', X', st⟩ := X.outThrough hlocks q (g := F0 m pc ls rest) rfl rfl rfl (cell := ce) (by rw [hT]; exact hcell) (by rw [hv]; rfl)
    (by obtain ⟨k9, h9, -⟩ := Vm.findClass_spec hcl; exact ⟨k9, h9⟩) (fun z hz => by
      rcases hpass z hz with h | ⟨hz0, nm, hl1, hn1⟩
      · exact Or.inl h
      · obtain ⟨c6, hc6, hcl6⟩ := Cond.classLink_spec hown hl1 e.platform hpl
        obtain ⟨a8, b8, h1, h2, h3⟩ := hn1
        cases Option.some.inj (h1.symm.trans hcl)
        cases Option.some.inj (h2.symm.trans hc6)
        exact Or.inr ⟨hz0, _, hcl6, h3⟩)
  obtain ⟨g₀, hfr⟩ := X'.frames_eq
  have hcell9 : ((T.setVm vm').setFrames (.throwing q :: below)).heap[q]? = some ce := by
    show T.heap[q]? = some ce
    rw [hT]; exact hcell
  have hend : Ended ((T.setVm vm').setFrames (.throwing q :: below)) below (.threw q) := State.frames_setFrames _ (State.cur_lt_of_frames hfr)
  refine ⟨(T.setVm vm').setFrames (.throwing q :: below), ?_, .threw q, X'.here.running, hend, Or.inr ⟨q, rfl, E, ce, locs, hx _ hT (X'.ends _).1.alike, hcell9, hv, hcl, (X'.ends _).1, (X'.ends _).2.mono hc hs, hf⟩⟩
  rw [X.pushThrowing_eq]
  exact st
/-- a thing of a world lies in the heap -/
theorem vx_lt {D : va_G} {cl : List vw_C} {ws : va_W} {H1 : Heap} (h : va_P D cl ws H1) {k : Nat} {q : Nat × va_E} (hk : ws[k]? = some q) : q.1 < H1.size := (h k q hk).lt
end VXS
/-! ===== END ===== -/
/-! ===== BEGIN methods with a table of their own: called by a name, returning or throwing ===== -/
section VXH
/-! vx_backW, vx_callVX, vx_callSX, vx_callVW, vx_runVW, vx_runVX, vx_runSX, vx_ofWH follow the same proofs as their sisters above (Free/Laws.lean, Shelf42/LK1.lean); vx_outP calls Shelf42/NT130.lean (outThrough). -/
section
variable {l : Launch} {R : Room} {p : Program} {e : Env} {below : List Frame} {s : State} {sargs : Array Value} {y : MethodName} {len W9 : Nat}
theorem vx_backW {ws : List Cond} {rm : Room} {Pc : Array Value → State → Prop} {Qc : Array Value → State → Outcome → State → Prop} {XC : String → State → State → Prop} {mc ms : Nat} {free : Addr → Prop} {bytes : ByteArray} {maxL : Nat} {ret : Option FieldType} {hh : List (Nat × Nat × Nat × Nat)}
    (hM : vx_Met l y ws rm Pc Qc XC mc ms free) (hblind : FrameBlind Pc) (hrc : rm.cells = mc) (hrs : rm.slots = ms)
    (hframes : rm.frames + 1 ≤ R.frames) (hlocals : W9 + (maxL + 11) + rm.locals ≤ R.locals)
    (hws : ∀ w ∈ ws, ∀ a' U, s.WarmedH U.vm → w.before a' U = true) (hcode : Cond.codeWith y bytes maxL ret hh ∈ ws) (hinit : ∀ a' U, s.WarmedH U.vm → (Cond.initialized y.cls).before a' U = true) :
    vx_Back l R p e below s sargs y len W9 (PreOf R mc ms Pc) (PostOf Qc mc ms free) (vx_Post XC mc ms free) := by
  intro m meth c A g ig mk a X hg hsize hdg hW hn hp
  have h1 : (headSpec ws rm).pre.before a A.U = true := atoms_intro fun w hw => hws w hw _ _ X.warmed
  have h2 : (Cond.codeWith y bytes maxL ret hh).before a A.U = true := hws _ hcode _ _ X.warmed
  have h3 : (Cond.initialized y.cls).before a A.U = true := hinit _ _ X.warmed
  have h4 : A.cells + (headSpec ws rm).room.cells ≤ R.cells := by rw [show (headSpec ws rm).room.cells = mc from hrc]; exact hp.1
  have h5 : A.slots + (headSpec ws rm).room.slots ≤ R.slots := by rw [show (headSpec ws rm).room.slots = ms from hrs]; exact hp.2.1
  have hPc : Pc a (A.U.calling g mk a) := hblind _ _ _ _ hp.2.2
  obtain ⟨U, Ls, c0, s0⟩ := A
  dsimp only [Pt.U, Pt.locs, Pt.cells, Pt.slots] at h1 h2 h3 h4 h5 X hn hPc ⊢
  obtain ⟨m9, methY, cY, hn9, hmY, hcY, -, hlY, -⟩ := Cond.codeWith_spec h2
  cases Option.some.inj (hn9.symm.trans hn)
  obtain ⟨kY, hkY, -⟩ := className_of_methodNamed hn
  have hinitY : kY.init = .initialized := Cond.initialized_spec (findClass_of_methodNamed hn) hkY h3
  have h : At U g.method c below := by rw [hg]; exact X.here
  have hlocals9 : W9 + (maxL + 11) + (headSpec ws rm).room.locals ≤ R.locals := hlocals
  have happ : (headSpec ws rm).appliesLoose y e.platform (U.calling g mk a) = true :=
    Spec.appliesLoose_calling (g := g) h hdg hn hkY hinitY
      (X.room_calling (g := g) (R' := (headSpec ws rm).room) hsize hmY hcY hframes (by rw [hlY]; omega) h4 h5) h1
  obtain ⟨mid, hmid⟩ := h.above
  have hfr : (U.setTop g).frames = (.java g :: mid) ++ below := by rw [State.frames_setTop' g h.top, hmid]; rfl
  obtain ⟨o, s₂, hsteps, -, hend, hq⟩ := Steps.callFree hM p X.admits X.cas X.clock (acts := []) hfr happ hPc trivial
  have hq' : vx_Q Qc XC mc ms free a (U.calling g mk a) o s₂ := hq
  rw [State.frames_setTop' g h.top] at hend
  obtain ⟨g₀, hg0⟩ := Option.isSome_iff_exists.mp h.top
  obtain ⟨r, hr⟩ := State.topJava?_eq_some.mp hg0
  have hr' : (({ U with heap := s₂.heap, slotsUsed := s₂.slotsUsed } : State).setVm s₂.vm).frames = .java g₀ :: r := hr
  rcases hq' with ⟨hqc, L, hfe, hL⟩ | ⟨q, rfl, E, ce, L, hx, hce, hcv, hcl, hW₂, hsm, hL⟩
  · obtain ⟨⟨v, rfl⟩, hW₂, e2, q2, q3, q4, q5, q6⟩ := id hfe
    have e3 : s₂ = ({ (U.calling g mk a).setFrames s₂.frames with heap := s₂.heap, slotsUsed := s₂.slotsUsed } : State).setVm s₂.vm := by
      have : s₂ = ({ s₂ with vm := (U.calling g mk a).vm } : State).setVm s₂.vm := rfl
      rw [e2] at this
      exact this
    obtain ⟨c₂, i₂, len₂, hc₂, hd₂, hf₂⟩ := hend
    have hW' : U.WarmedH s₂.vm := hW₂
    have hcc : c₂ = c := by
      have h1 : s₂.code? g.method = U.code? g.method := by
        rw [State.code?_eq, State.code?_eq, hW'.alike.method?]
      exact Option.some.inj (hc₂.symm.trans (h1.trans h.code))
    subst hcc
    have hlen : len₂ = len := by rw [hdg] at hd₂; cases hd₂; rfl
    subst hlen
    have hs₂ : s₂ = (({ U with heap := s₂.heap, slotsUsed := s₂.slotsUsed } : State).setVm s₂.vm).setTop { g with pc := g.pc + len₂, stack := v.toList ++ g.stack } := by
      refine e3.trans ?_
      rw [hf₂, State.calling_eq h.top, State.setFrames_setFrames, State.setTop_of_frames _ hr', hr]
      rfl
    have hsame : U.sameButNew ({ U with heap := s₂.heap, slotsUsed := s₂.slotsUsed } : State) L mc ms := by
      refine ⟨?_, q2, q3, q4, q5, q6⟩
      obtain ⟨t, ht, -⟩ := State.frames_cons hr
      show ({ U with heap := s₂.heap, slotsUsed := s₂.slotsUsed } : State) = { U.setFrames U.frames with heap := s₂.heap, slotsUsed := s₂.slotsUsed }
      rw [State.setFrames_self ht]
    subst hg
    refine Or.inl ⟨v, ⟨(({ U with heap := s₂.heap, slotsUsed := s₂.slotsUsed } : State).setVm s₂.vm), Ls ++ L, c0 + mc, s0 + ms⟩,
      ⟨X.admits, X.cas, X.clock, X.frames, X.room, X.hears, X.method, X.code, (X.here.setHeapUsed s₂.heap s₂.slotsUsed).setVm hW'.alike, X.tail, State.WarmedH.trans X.warmed hW', X.limits, X.bytes, X.same.trans (hsame.setVm s.vm)⟩,
      ⟨g, mk, s₂, L, rfl, rfl, hqc, rfl, hL, rfl, rfl⟩, ?_⟩
    show Steps p.tables e below _ ((({ U with heap := s₂.heap, slotsUsed := s₂.slotsUsed } : State).setVm s₂.vm).setTop { g with pc := g.pc + len₂, stack := v.toList ++ g.stack })
    rw [← hs₂]
    exact hsteps
  · obtain ⟨e2, q2, q3, q4, q5, q6⟩ := id hsm
    have e3 : s₂ = ({ (U.calling g mk a).setFrames s₂.frames with heap := s₂.heap, slotsUsed := s₂.slotsUsed } : State).setVm s₂.vm := by
      have : s₂ = ({ s₂ with vm := (U.calling g mk a).vm } : State).setVm s₂.vm := rfl
      rw [e2] at this
      exact this
    have hf₂ : s₂.frames = .throwing q :: .java g :: U.frames.tail := hend
    have hW' : U.WarmedH s₂.vm := hW₂
    have hs₂ : s₂ = ((({ U with heap := s₂.heap, slotsUsed := s₂.slotsUsed } : State).setVm s₂.vm).setTop g).pushFrame (.throwing q) := by
      refine e3.trans ?_
      rw [hf₂, State.calling_eq h.top, State.setFrames_setFrames, State.pushFrame, State.frames_setTop _ hr', State.setTop_of_frames _ hr', State.setFrames_setFrames, hr]
      rfl
    have hsame : U.sameButNew ({ U with heap := s₂.heap, slotsUsed := s₂.slotsUsed } : State) L mc ms := by
      refine ⟨?_, q2, q3, q4, q5, q6⟩
      obtain ⟨t, ht, -⟩ := State.frames_cons hr
      show ({ U with heap := s₂.heap, slotsUsed := s₂.slotsUsed } : State) = { U.setFrames U.frames with heap := s₂.heap, slotsUsed := s₂.slotsUsed }
      rw [State.setFrames_self ht]
    subst hg
    refine Or.inr ⟨q, ⟨(({ U with heap := s₂.heap, slotsUsed := s₂.slotsUsed } : State).setVm s₂.vm), Ls ++ L, c0 + mc, s0 + ms⟩,
      ⟨X.admits, X.cas, X.clock, X.frames, X.room, X.hears, X.method, X.code, (X.here.setHeapUsed s₂.heap s₂.slotsUsed).setVm hW'.alike, X.tail, State.WarmedH.trans X.warmed hW', X.limits, X.bytes, X.same.trans (hsame.setVm s.vm)⟩,
      ⟨g, mk, s₂, L, E, ce, rfl, rfl, hx, hce, hcv, hcl, rfl, hL, rfl, rfl⟩, ?_⟩
    show Steps p.tables e below _ (((({ U with heap := s₂.heap, slotsUsed := s₂.slotsUsed } : State).setVm s₂.vm).setTop g).pushFrame (.throwing q))
    rw [← hs₂]
    exact hsteps
end
variable {p : Program} {l : Launch} {e : Env} {R : Room} {s : State} {m : MethodId} {args : Array Value} {below : List Frame} {meth : Method} {c : Code} {T : State} {H : Heap} {locs : List Loc} {cells slots : Nat}
theorem vx_callVX (X : Stand p l e R s m args below meth c T locs cells slots) (hexec : p.tables.exec = Jvm.exec) {own C : String} {index : Nat} {y : MethodName} {bytes : ByteArray} {maxL : Nat} {ret : Option FieldType} {hh : List (Nat × Nat × Nat × Nat)}
    (hown : s.vm.findClass own = some m.cls) (hlink : (Cond.methodLink own index y).before args s = true) (hinst : (Cond.instanceMethod y).before args s = true) (hsel : (Cond.selects C y y).before args s = true)
    (hcode : (Cond.codeWith y bytes maxL ret hh).before args s = true) (hy : y.cls ≠ "java/lang/invoke/MethodHandle" ∧ y.cls ≠ "java/lang/invoke/VarHandle")
    {W9 : Nat} {Pre : Pt → Array Value → Prop} {Post : Pt → Array Value → Option Value → Pt → Prop} {PostX : Pt → Array Value → Addr → Pt → Prop} (hK : vx_Back l R p e below s args y 3 W9 Pre Post PostX)
    {b : Addr} {cellB : Cell} (hcell : T.heap[b]? = some cellB) (hobj : cellB.vm.isStatics = false) (hcls : s.vm.findClass C = some cellB.cls)
    {g : JFrame} (hg : g.method = m) (hsize : g.locals.size = c.maxLocals) {argsL rest : List Value} (hlen : ∀ sig, parseMethodDescriptor y.desc = some sig → argsL.length = sig.parameters.length)
    (hstack : g.stack = argsL.reverse ++ .ref b :: rest) (hW : 2 * g.monitorRoom + (rest.map fun v => v.category).sum ≤ W9) (hdg : decode c.code g.pc = .ok (.invokevirtual index, 3))
    (hpre : ∀ vm₁, s.WarmedH vm₁ → Pre ⟨T.setVm vm₁, locs, cells, slots⟩ (Value.ref b :: argsL).toArray) :
    (∃ (v : Option Value) (vm₁ : Vm) (B : Pt), s.WarmedH vm₁ ∧ Stand p l e R s m args below meth c B.U B.locs B.cells B.slots ∧ Post ⟨T.setVm vm₁, locs, cells, slots⟩ (Value.ref b :: argsL).toArray v B ∧
      ∀ target, Steps p.tables e below (B.U.setTop { g with pc := g.pc + 3, stack := v.toList ++ rest }) target → Steps p.tables e below (T.setTop g) target) ∨
    (∃ (q : Addr) (vm₁ : Vm) (B : Pt), s.WarmedH vm₁ ∧ Stand p l e R s m args below meth c B.U B.locs B.cells B.slots ∧ PostX ⟨T.setVm vm₁, locs, cells, slots⟩ (Value.ref b :: argsL).toArray q B ∧
      Steps p.tables e below (T.setTop g) ((B.U.setTop { g with stack := rest }).pushFrame (.throwing q))) := by
  obtain ⟨mk, methM, hnamed, hmethM, hstM, habM⟩ := Cond.instanceMethod_spec hinst
  obtain ⟨m8, methM', cM, hn8, hmethM', -, -, -, -, -, -, hsigM⟩ := Cond.codeWith_spec hcode
  cases Option.some.inj (hn8.symm.trans hnamed)
  cases hmethM.symm.trans hmethM'
  obtain ⟨c2, r2, m2, q1, q2, q3, q4, kP, hkP, hkPi⟩ := Cond.selects_spec hsel
  cases hcls.symm.trans q1
  cases (State.methodFound?_of_named hnamed hy).symm.trans q2
  cases hnamed.symm.trans q3
  have hselP : selectMethod e.platform s.vm cellB.cls mk = .method mk := by rw [Launch.admits_selectMethod X.admits]; exact q4
  obtain ⟨vm₁, X₁, hstep₁⟩ := X.invokevirtual hexec hown hlink hnamed hmethM hstM hkP hkPi hy (a := b) (cell := cellB) hcell
    (fun z h => by rw [h] at hobj; cases hobj) hselP hmethM habM hkP hkPi (g := g) hg (argsL := argsL) (rest := rest) (hlen _ hsigM) hstack hdg
  rcases hK m meth c ⟨T.setVm vm₁, locs, cells, slots⟩ { g with stack := rest } (.invokevirtual index) mk (Value.ref b :: argsL).toArray X₁ hg hsize hdg hW (X₁.named hnamed) (hpre vm₁ X₁.warmed) with ⟨v, B, X', hpost, hsteps⟩ | ⟨q, B, X', hpost, hsteps⟩
  · exact Or.inl ⟨v, vm₁, B, X₁.warmed, X', hpost, fun target h => hstep₁ _ fun acts => by rw [doInvoke_state]; exact hsteps.trans h⟩
  · exact Or.inr ⟨q, vm₁, B, X₁.warmed, X', hpost, hstep₁ _ fun acts => by rw [doInvoke_state]; exact hsteps⟩
theorem vx_callSX (X : Stand p l e R s m args below meth c T locs cells slots) (hexec : p.tables.exec = Jvm.exec) {own : String} {index : Nat} {y : MethodName} {bytes : ByteArray} {maxL : Nat} {ret : Option FieldType} {hh : List (Nat × Nat × Nat × Nat)}
    (hown : s.vm.findClass own = some m.cls) (hlink : (Cond.methodLink own index y).before args s = true) (hstat : (Cond.static y).before args s = true) (hinit : (Cond.initialized y.cls).before args s = true)
    (hcode : (Cond.codeWith y bytes maxL ret hh).before args s = true) (hy : y.cls ≠ "java/lang/invoke/MethodHandle" ∧ y.cls ≠ "java/lang/invoke/VarHandle")
    {W9 : Nat} {Pre : Pt → Array Value → Prop} {Post : Pt → Array Value → Option Value → Pt → Prop} {PostX : Pt → Array Value → Addr → Pt → Prop} (hK : vx_Back l R p e below s args y 3 W9 Pre Post PostX)
    {g : JFrame} (hg : g.method = m) (hsize : g.locals.size = c.maxLocals) {argsL rest : List Value} (hlen : ∀ sig, parseMethodDescriptor y.desc = some sig → argsL.length = sig.parameters.length)
    (hstack : g.stack = argsL.reverse ++ rest) (hW : 2 * g.monitorRoom + (rest.map fun v => v.category).sum ≤ W9) (hdg : decode c.code g.pc = .ok (.invokestatic index, 3))
    (hpre : ∀ vm₁, s.WarmedH vm₁ → Pre ⟨T.setVm vm₁, locs, cells, slots⟩ argsL.toArray) :
    (∃ (v : Option Value) (vm₁ : Vm) (B : Pt), s.WarmedH vm₁ ∧ Stand p l e R s m args below meth c B.U B.locs B.cells B.slots ∧ Post ⟨T.setVm vm₁, locs, cells, slots⟩ argsL.toArray v B ∧
      ∀ target, Steps p.tables e below (B.U.setTop { g with pc := g.pc + 3, stack := v.toList ++ rest }) target → Steps p.tables e below (T.setTop g) target) ∨
    (∃ (q : Addr) (vm₁ : Vm) (B : Pt), s.WarmedH vm₁ ∧ Stand p l e R s m args below meth c B.U B.locs B.cells B.slots ∧ PostX ⟨T.setVm vm₁, locs, cells, slots⟩ argsL.toArray q B ∧
      Steps p.tables e below (T.setTop g) ((B.U.setTop { g with stack := rest }).pushFrame (.throwing q))) := by
  obtain ⟨mk, methM, cM, hnamed, hmethM, -, -, -, -, -, -, hsigM⟩ := Cond.codeWith_spec hcode
  have hstatic : methM.isStatic = true := Cond.static_spec hnamed hmethM hstat
  obtain ⟨kP, hkP, -⟩ := className_of_methodNamed hnamed
  have hinitP : kP.init = .initialized := Cond.initialized_spec (findClass_of_methodNamed hnamed) hkP hinit
  obtain ⟨vm₁, X₁, hstep₁⟩ := X.invokestatic hexec hown hlink hnamed hmethM hstatic hkP hinitP hy (g := g) hg (argsL := argsL) (rest := rest) (hlen _ hsigM) hstack hdg
  rcases hK m meth c ⟨T.setVm vm₁, locs, cells, slots⟩ { g with stack := rest } (.invokestatic index) mk argsL.toArray X₁ hg hsize hdg hW (X₁.named hnamed) (hpre vm₁ X₁.warmed) with ⟨v, B, X', hpost, hsteps⟩ | ⟨q, B, X', hpost, hsteps⟩
  · exact Or.inl ⟨v, vm₁, B, X₁.warmed, X', hpost, fun target h => hstep₁ _ fun acts => by rw [doInvoke_state]; exact hsteps.trans h⟩
  · exact Or.inr ⟨q, vm₁, B, X₁.warmed, X', hpost, hstep₁ _ fun acts => by rw [doInvoke_state]; exact hsteps⟩
theorem vx_callVW (X : Stand p l e R s m args below meth c T locs cells slots) (hexec : p.tables.exec = Jvm.exec) {own C : String} {index : Nat} {y : MethodName} {bytes : ByteArray} {maxL : Nat} {ret : Option FieldType} {hh : List (Nat × Nat × Nat × Nat)}
    (hown : s.vm.findClass own = some m.cls) (hlink : (Cond.methodLink own index y).before args s = true) (hinst : (Cond.instanceMethod y).before args s = true) (hsel : (Cond.selects C y y).before args s = true)
    (hcode : (Cond.codeWith y bytes maxL ret hh).before args s = true) (hy : y.cls ≠ "java/lang/invoke/MethodHandle" ∧ y.cls ≠ "java/lang/invoke/VarHandle")
    {W9 : Nat} {Pre : Pt → Array Value → Prop} {Post : Pt → Array Value → Option Value → Pt → Prop} (hK : Back l R p e below s args y 3 W9 Pre Post)
    {b : Addr} {cellB : Cell} (hcell : T.heap[b]? = some cellB) (hobj : cellB.vm.isStatics = false) (hcls : s.vm.findClass C = some cellB.cls)
    {g : JFrame} (hg : g.method = m) (hsize : g.locals.size = c.maxLocals) {argsL rest : List Value} (hlen : ∀ sig, parseMethodDescriptor y.desc = some sig → argsL.length = sig.parameters.length)
    (hstack : g.stack = argsL.reverse ++ .ref b :: rest) (hW : 2 * g.monitorRoom + (rest.map fun v => v.category).sum ≤ W9) (hdg : decode c.code g.pc = .ok (.invokevirtual index, 3))
    (hpre : ∀ vm₁, s.WarmedH vm₁ → Pre ⟨T.setVm vm₁, locs, cells, slots⟩ (Value.ref b :: argsL).toArray) :
    ∃ (v : Option Value) (vm₁ : Vm) (B : Pt), s.WarmedH vm₁ ∧ Stand p l e R s m args below meth c B.U B.locs B.cells B.slots ∧ Post ⟨T.setVm vm₁, locs, cells, slots⟩ (Value.ref b :: argsL).toArray v B ∧
      ∀ target, Steps p.tables e below (B.U.setTop { g with pc := g.pc + 3, stack := v.toList ++ rest }) target → Steps p.tables e below (T.setTop g) target := by
  obtain ⟨mk, methM, hnamed, hmethM, hstM, habM⟩ := Cond.instanceMethod_spec hinst
  obtain ⟨m8, methM', cM, hn8, hmethM', -, -, -, -, -, -, hsigM⟩ := Cond.codeWith_spec hcode
  cases Option.some.inj (hn8.symm.trans hnamed)
  cases hmethM.symm.trans hmethM'
  obtain ⟨c2, r2, m2, q1, q2, q3, q4, kP, hkP, hkPi⟩ := Cond.selects_spec hsel
  cases hcls.symm.trans q1
  cases (State.methodFound?_of_named hnamed hy).symm.trans q2
  cases hnamed.symm.trans q3
  have hselP : selectMethod e.platform s.vm cellB.cls mk = .method mk := by rw [Launch.admits_selectMethod X.admits]; exact q4
  obtain ⟨vm₁, X₁, hstep₁⟩ := X.invokevirtual hexec hown hlink hnamed hmethM hstM hkP hkPi hy (a := b) (cell := cellB) hcell
    (fun z h => by rw [h] at hobj; cases hobj) hselP hmethM habM hkP hkPi (g := g) hg (argsL := argsL) (rest := rest) (hlen _ hsigM) hstack hdg
  obtain ⟨v, B, X', hpost, hsteps⟩ := hK m meth c ⟨T.setVm vm₁, locs, cells, slots⟩ { g with stack := rest } (.invokevirtual index) mk (Value.ref b :: argsL).toArray X₁ hg hsize hdg hW (X₁.named hnamed) (hpre vm₁ X₁.warmed)
  exact ⟨v, vm₁, B, X₁.warmed, X', hpost, fun target h => hstep₁ _ fun acts => by rw [doInvoke_state]; exact hsteps.trans h⟩
abbrev vx_CVW (R : Room) (s : State) (args : Array Value) (own C : String) (index : Nat) (y : MethodName) (bytes : ByteArray) (maxL : Nat) (ret : Option FieldType) (hh : List (Nat × Nat × Nat × Nat)) (ws : List Cond) (rm : Room) (mc ms n : Nat) : Prop :=
  (rm.cells = mc ∧ rm.slots = ms ∧ rm.frames + 1 ≤ R.frames ∧ 8 + (maxL + 11) + rm.locals ≤ R.locals ∧ (∀ w ∈ ws, ∀ (a' : Array Value) (U : State), s.WarmedH U.vm → w.before a' U = true) ∧ Cond.codeWith y bytes maxL ret hh ∈ ws) ∧
  (Cond.codeWith y bytes maxL ret hh).before args s = true ∧ (Cond.initialized y.cls).before args s = true ∧ (y.cls ≠ "java/lang/invoke/MethodHandle" ∧ y.cls ≠ "java/lang/invoke/VarHandle") ∧
  (∀ sig, parseMethodDescriptor y.desc = some sig → n = sig.parameters.length) ∧ (Cond.methodLink own index y).before args s = true ∧ (Cond.instanceMethod y).before args s = true ∧ (Cond.selects C y y).before args s = true
theorem vx_cwVW {own C : String} {index maxL mc ms : Nat} {y : MethodName} {bytes : ByteArray} {ret : Option FieldType} {hh : List (Nat × Nat × Nat × Nat)} {Ts ws ws' : List Cond} {rm : Room} (n : Nat) (ht : ∀ w ∈ Ts, w.before args s = true) (hT : GoodIn Ts (wsV own index C y ws)) (hw : ws = Cond.codeWith y bytes maxL ret hh :: ws') (hrc : rm.cells = mc) (hrs : rm.slots = ms)
    (hd : y.cls = C ∧ y.cls ≠ "java/lang/invoke/MethodHandle" ∧ y.cls ≠ "java/lang/invoke/VarHandle" ∧ (parseMethodDescriptor y.desc).map (fun d => d.parameters.length) = some n) (hR : rm.frames + 1 ≤ R.frames ∧ 8 + (maxL + 11) + rm.locals ≤ R.locals) :
    vx_CVW R s args own C index y bytes maxL ret hh ws rm mc ms n := by
  obtain ⟨hC, hd⟩ := hd
  subst hC
  have ok : ∀ w ∈ wsV own index y.cls y ws, w.before args s = true := fun w h => ht w (hT w h).1
  have hG : GoodIn Ts ws := fun w h => hT w (by unfold wsV; exact List.mem_append_right _ h)
  have hc : Cond.codeWith y bytes maxL ret hh ∈ ws := by rw [hw]; exact List.mem_cons_self
  refine ⟨⟨hrc, hrs, hR.1, hR.2, pay_in ht hG, hc⟩, ht _ (hG _ hc).1, ok _ (by simp [wsV]), ⟨hd.1, hd.2.1⟩, fun sig h => ?_, ok _ (by simp [wsV]), ok _ (by simp [wsV]), ok _ (by simp [wsV])⟩
  have h2 := hd.2.2
  rw [h] at h2
  exact (Option.some.inj h2).symm
theorem vx_runVW {y : MethodName} {bytes cc : ByteArray} {maxL nL mc ms n index : Nat} {ret : Option FieldType} {hh : List (Nat × Nat × Nat × Nat)} {ws : List Cond} {rm : Room} {Pc : Array Value → State → Prop} {Qc : Array Value → State → Outcome → State → Prop} {free : Addr → Prop} {Ts : List Cond} {own C : String} {b : Addr} {As rest : List Value} {g : JFrame}
    (S : CallFix p m c cc nL s args Ts own) (hM : Met l y ws rm Pc Qc mc ms free) (cw : vx_CVW R s args own C index y bytes maxL ret hh ws rm mc ms n) (hp : PreV s H C b Pc As)
    (hg : g.method = m) (hn : As.length = n) (hsize : g.locals.size = nL) (hstack : g.stack = As.reverse ++ .ref b :: rest) (hW : 2 * g.monitorRoom + (rest.map fun v => v.category).sum ≤ 8) (hdg : decode cc g.pc = .ok (.invokevirtual index, 3)) (hf : cells + mc ≤ R.cells ∧ slots + ms ≤ R.slots) :
    va_Run p l e R s m args below meth c H locs cells slots mc ms g rest (Qc (Value.ref b :: As).toArray) free := by
  obtain ⟨⟨hrc, hrs, hfr, hlo, hws, hcw⟩, hcode, hini, hy, hlen, hl, hin, hse⟩ := cw
  have hK : Back l R p e below s args y 3 8 (PreOf R mc ms Pc) (PostOf Qc mc ms free) := va_backW (hh := hh) (bytes := bytes) (maxL := maxL) (ret := ret) hM hp.1 hrc hrs hfr hlo hws hcw (fun a' U hW => word_at hW (Or.inl (by first | rfl | simp [Cond.onTables, Cond.keeps, Cond.steady])) hini)
  obtain ⟨hx, hb, hml, ho, -⟩ := S
  obtain ⟨-, ⟨cellB, hcB, hoB, hclB⟩, hPc⟩ := hp
  intro T hT X
  obtain ⟨v, vm₁, ⟨U', l2, c2, s2⟩, hW₁, X', ⟨g', mk, t, L, e1, e2, hq, h1, hL, h2, h3⟩, st⟩ := vx_callVW X hx (C := C) (hh := hh) (bytes := bytes) (maxL := maxL) (ret := ret) ho hl hin hse hcode hy hK (by rw [hT]; exact hcB) hoB hclB hg (hsize.trans hml.symm) (argsL := As) (rest := rest) (fun sig h => hn.trans (hlen sig h)) hstack hW (by rw [hb]; exact hdg)
    (fun vm₁ hW₁ => ⟨hf.1, hf.2, hPc (T.setVm vm₁) hT hW₁⟩)
  dsimp only [Pt.U, Pt.locs, Pt.cells, Pt.slots] at X' e1 e2 h1 h2 h3 st
  subst h1; subst h2; subst h3
  exact ⟨v, (T.setVm vm₁).calling g' mk (Value.ref b :: As).toArray, t, U', L, hT, X', hL, e1, e2, hq, st⟩
section
variable {y : MethodName} {bytes cc : ByteArray} {maxL nL mc ms n index : Nat} {ret : Option FieldType} {ws : List Cond} {rm : Room} {Pc : Array Value → State → Prop} {Qc : Array Value → State → Outcome → State → Prop} {XC : String → State → State → Prop} {free : Addr → Prop} {Ts : List Cond} {own C : String} {b : Addr} {As rest : List Value} {g : JFrame}
theorem vx_runVX {hh : List (Nat × Nat × Nat × Nat)} (S : CallFix p m c cc nL s args Ts own) (hM : vx_Met l y ws rm Pc Qc XC mc ms free) (cw : vx_CVW R s args own C index y bytes maxL ret hh ws rm mc ms n) (hp : PreV s H C b Pc As)
    (hg : g.method = m) (hn : As.length = n) (hsize : g.locals.size = nL) (hstack : g.stack = As.reverse ++ .ref b :: rest) (hW : 2 * g.monitorRoom + (rest.map fun v => v.category).sum ≤ 8) (hdg : decode cc g.pc = .ok (.invokevirtual index, 3)) (hf : cells + mc ≤ R.cells ∧ slots + ms ≤ R.slots) :
    vx_Run p l e R s m args below meth c H locs cells slots mc ms g rest (Qc (Value.ref b :: As).toArray) XC free := by
  obtain ⟨⟨hrc, hrs, hfr, hlo, hws, hcw⟩, hcode, hini, hy, hlen, hl, hin, hse⟩ := cw
  have hK : vx_Back l R p e below s args y 3 8 (PreOf R mc ms Pc) (PostOf Qc mc ms free) (vx_Post XC mc ms free) := vx_backW (hh := hh) (bytes := bytes) (maxL := maxL) (ret := ret) hM hp.1 hrc hrs hfr hlo hws hcw (fun a' U hW => word_at hW (Or.inl (by first | rfl | simp [Cond.onTables, Cond.keeps, Cond.steady])) hini)
  obtain ⟨hx, hb, hml, ho, -⟩ := S
  obtain ⟨-, ⟨cellB, hcB, hoB, hclB⟩, hPc⟩ := hp
  intro T hT X
  rcases vx_callVX X hx (C := C) (hh := hh) (bytes := bytes) (maxL := maxL) (ret := ret) ho hl hin hse hcode hy hK (by rw [hT]; exact hcB) hoB hclB hg (hsize.trans hml.symm) (argsL := As) (rest := rest) (fun sig h => hn.trans (hlen sig h)) hstack hW (by rw [hb]; exact hdg)
    (fun vm₁ hW₁ => ⟨hf.1, hf.2, hPc (T.setVm vm₁) hT hW₁⟩) with ⟨v, vm₁, ⟨U', l2, c2, s2⟩, hW₁, X', ⟨g', mk, t, L, e1, e2, hq, h1, hL, h2, h3⟩, st⟩ | ⟨q, vm₁, ⟨U', l2, c2, s2⟩, hW₁, X', ⟨g', mk, t, L, E, ce, e1, e2, hq, hce, hcv, hcl, h1, hL, h2, h3⟩, st⟩
  · dsimp only [Pt.U, Pt.locs, Pt.cells, Pt.slots] at X' e1 e2 h1 h2 h3 st
    subst h1; subst h2; subst h3
    exact Or.inl ⟨v, (T.setVm vm₁).calling g' mk (Value.ref b :: As).toArray, t, U', L, hT, X', hL, e1, e2, hq, st⟩
  · dsimp only [Pt.U, Pt.locs, Pt.cells, Pt.slots] at X' e1 e2 h1 h2 h3 st hcl
    subst h1; subst h2; subst h3
    exact Or.inr ⟨q, (T.setVm vm₁).calling g' mk (Value.ref b :: As).toArray, t, U', L, E, ce, hT, X', hL, e1, e2, hq, hce, hcv, vx_cls hW₁ hcl, st⟩
theorem vx_runSX {hh : List (Nat × Nat × Nat × Nat)} (S : CallFix p m c cc nL s args Ts own) (hM : vx_Met l y ws rm Pc Qc XC mc ms free) (cw : vx_CSW R s args own index y bytes maxL ret hh ws rm mc ms n) (hp : PreS s H Pc As)
    (hg : g.method = m) (hn : As.length = n) (hsize : g.locals.size = nL) (hstack : g.stack = As.reverse ++ rest) (hW : 2 * g.monitorRoom + (rest.map fun v => v.category).sum ≤ 8) (hdg : decode cc g.pc = .ok (.invokestatic index, 3)) (hf : cells + mc ≤ R.cells ∧ slots + ms ≤ R.slots) :
    vx_Run p l e R s m args below meth c H locs cells slots mc ms g rest (Qc As.toArray) XC free := by
  obtain ⟨⟨hrc, hrs, hfr, hlo, hws, hcw⟩, hcode, hini, hy, hlen, hl, hstt⟩ := cw
  have hK : vx_Back l R p e below s args y 3 8 (PreOf R mc ms Pc) (PostOf Qc mc ms free) (vx_Post XC mc ms free) := vx_backW (hh := hh) (bytes := bytes) (maxL := maxL) (ret := ret) hM hp.1 hrc hrs hfr hlo hws hcw (fun a' U hW => word_at hW (Or.inl (by first | rfl | simp [Cond.onTables, Cond.keeps, Cond.steady])) hini)
  obtain ⟨hx, hb, hml, ho, -⟩ := S
  intro T hT X
  rcases vx_callSX X hx (hh := hh) (bytes := bytes) (maxL := maxL) (ret := ret) ho hl hstt hini hcode hy hK hg (hsize.trans hml.symm) (argsL := As) (rest := rest) (fun sig h => hn.trans (hlen sig h)) hstack hW (by rw [hb]; exact hdg)
    (fun vm₁ hW₁ => ⟨hf.1, hf.2, hp.2 (T.setVm vm₁) hT hW₁⟩) with ⟨v, vm₁, ⟨U', l2, c2, s2⟩, hW₁, X', ⟨g', mk, t, L, e1, e2, hq, h1, hL, h2, h3⟩, st⟩ | ⟨q, vm₁, ⟨U', l2, c2, s2⟩, hW₁, X', ⟨g', mk, t, L, E, ce, e1, e2, hq, hce, hcv, hcl, h1, hL, h2, h3⟩, st⟩
  · dsimp only [Pt.U, Pt.locs, Pt.cells, Pt.slots] at X' e1 e2 h1 h2 h3 st
    subst h1; subst h2; subst h3
    exact Or.inl ⟨v, (T.setVm vm₁).calling g' mk As.toArray, t, U', L, hT, X', hL, e1, e2, hq, st⟩
  · dsimp only [Pt.U, Pt.locs, Pt.cells, Pt.slots] at X' e1 e2 h1 h2 h3 st hcl
    subst h1; subst h2; subst h3
    exact Or.inr ⟨q, (T.setVm vm₁).calling g' mk As.toArray, t, U', L, E, ce, hT, X', hL, e1, e2, hq, hce, hcv, vx_cls hW₁ hcl, st⟩
end
end VXH
theorem vx_ofWH {l : Launch} {y : MethodName} {ws ws' : List Cond} {rm : Room} {Pc : Array Value → State → Prop} {Qc : Array Value → State → Outcome → State → Prop} {XC : String → State → State → Prop} {mc ms : Nat} {free : Addr → Prop} {cc : ByteArray} {maxL : Nat} {ret : Option FieldType} {hh : List (Nat × Nat × Nat × Nat)}
    (hy : plainName y.cls = true) (hw : ws = Cond.codeWith y cc maxL ret hh :: ws')
    (body : ∀ p e s m args below meth c s₁, BodyLoose p l y (headSpec ws rm) cc maxL ret e s m args below meth c s₁ → c.maxLocals = maxL → Pc args s →
      W p l e (headSpec ws rm).room s m args below meth c s.heap [] 0 0 (vx_MQ below Qc XC args s mc ms free) (entryFrame m args maxL)) : vx_Met l y ws rm Pc Qc XC mc ms free := by
  refine MetFree.of_bodyS (code := cc) (maxLocals := maxL) (ret := ret) hy ?_ ?_
  · intro args s m h hn
    obtain ⟨m9, meth, c, hn9, h1, h2, h3, h4, -, h5, h6, -⟩ := Cond.codeWith_spec (atoms_spec (ws := ws) h _ (by rw [hw]; exact List.mem_cons_self))
    cases hn.symm.trans hn9
    exact ⟨meth, c, h1, h2, h3, h4, h5, h6⟩
  · intro p e s m args below meth c s₁ B hml hP _
    have hh0 : s₁.heap = s.heap := by rw [B.state]; rfl
    obtain ⟨t, a1, o, b1, b2, b3⟩ := body p e s m args below meth c s₁ B hml hP s₁ hh0 (Stand.of_body B)
    exact ⟨t, o, a1, b1, b2, b3⟩
/-! ===== END ===== -/
end
section
def RX0 : String := "LiftScheduler$1"
def TX0 : u_T := fun k => match k with
  | _ => ("", "", "", false)
def tyX0 : Nat → FieldType := fun k => match k with
  | _ => .int
abbrev wsX00 : List Cond := u_ws RX0 TX0 0
theorem nmX0 : ∀ a, a < 0 → ∀ b, b < 0 → a ≠ b → (TX0 a).2.1 ≠ (TX0 b).2.1 := by decide +kernel
theorem tyX0_ok : ∀ k, k < 0 → parseFieldDescriptor (TX0 k).2.2.1 = some (tyX0 k) := by decide +kernel
def RX1 : String := "LiftScheduler$Kind"
def TX1 : u_T := fun k => match k with
  | _ => ("", "", "", false)
def tyX1 : Nat → FieldType := fun k => match k with
  | _ => .int
abbrev wsX10 : List Cond := u_ws RX1 TX1 0
theorem nmX1 : ∀ a, a < 0 → ∀ b, b < 0 → a ≠ b → (TX1 a).2.1 ≠ (TX1 b).2.1 := by decide +kernel
theorem tyX1_ok : ∀ k, k < 0 → parseFieldDescriptor (TX1 k).2.2.1 = some (tyX1 k) := by decide +kernel
abbrev cX1_isCounter : ByteArray := prog_3_method_4_code
def yX1_isCounter : MethodName := ⟨RX1, "isCounter", "()Z"⟩
def RX2 : String := "LiftScheduler$Script"
def TX2 : u_T := fun k => match k with
  | 0 => ("LiftScheduler$Script", "kinds", "[LLiftScheduler$Kind;", true)
  | 1 => ("LiftScheduler$Script", "starts", "[I", true)
  | 2 => ("LiftScheduler$Script", "values", "[I", true)
  | 3 => ("LiftScheduler$Script", "tokens", "I", false)
  | 4 => ("LiftScheduler$Script", "at", "I", false)
  | 5 => ("LiftScheduler$Script", "simulation", "LLiftScheduler$Simulation;", false)
  | 6 => ("LiftScheduler$Script", "executed", "I", false)
  | 7 => ("LiftScheduler$Script", "errorCode", "I", false)
  | _ => ("LiftScheduler$Script", "errorPosition", "I", false)
def tyX2 : Nat → FieldType := fun k => match k with
  | 0 => .array (.object "LiftScheduler$Kind")
  | 1 => .array .int
  | 2 => .array .int
  | 3 => .int
  | 4 => .int
  | 5 => .object "LiftScheduler$Simulation"
  | 6 => .int
  | 7 => .int
  | _ => .int
abbrev wsX20 : List Cond := u_ws RX2 TX2 9
theorem nmX2 : ∀ a, a < 9 → ∀ b, b < 9 → a ≠ b → (TX2 a).2.1 ≠ (TX2 b).2.1 := by decide +kernel
theorem tyX2_ok : ∀ k, k < 9 → parseFieldDescriptor (TX2 k).2.2.1 = some (tyX2 k) := by decide +kernel
abbrev cX2_init : ByteArray := prog_4_method_1_code
def yX2_init : MethodName := ⟨RX2, "<init>", "()V"⟩
abbrev cX2_readTokens : ByteArray := prog_4_method_2_code
def yX2_readTokens : MethodName := ⟨RX2, "readTokens", "([BI)V"⟩
abbrev cX2_addToken : ByteArray := prog_4_method_3_code
def yX2_addToken : MethodName := ⟨RX2, "addToken", "(LLiftScheduler$Kind;II)V"⟩
abbrev cX2_isSpace : ByteArray := prog_4_method_4_code
def yX2_isSpace : MethodName := ⟨RX2, "isSpace", "(I)Z"⟩
abbrev cX2_isDigit : ByteArray := prog_4_method_5_code
def yX2_isDigit : MethodName := ⟨RX2, "isDigit", "(I)Z"⟩
abbrev cX2_isLetter : ByteArray := prog_4_method_6_code
def yX2_isLetter : MethodName := ⟨RX2, "isLetter", "(I)Z"⟩
abbrev cX2_belongTogether : ByteArray := prog_4_method_7_code
def yX2_belongTogether : MethodName := ⟨RX2, "belongTogether", "(II)Z"⟩
abbrev cX2_numberOf : ByteArray := prog_4_method_8_code
def yX2_numberOf : MethodName := ⟨RX2, "numberOf", "([BII)I"⟩
abbrev cX2_kindOf : ByteArray := prog_4_method_9_code
def yX2_kindOf : MethodName := ⟨RX2, "kindOf", "([BII)LLiftScheduler$Kind;"⟩
abbrev cX2_isText : ByteArray := prog_4_method_10_code
def yX2_isText : MethodName := ⟨RX2, "isText", "(Ljava/lang/String;[BII)Z"⟩
abbrev cX2_performHeader : ByteArray := prog_4_method_11_code
def yX2_performHeader : MethodName := ⟨RX2, "performHeader", "(LLiftScheduler$Simulation;)Z"⟩
abbrev cX2_performCommands : ByteArray := prog_4_method_12_code
def yX2_performCommands : MethodName := ⟨RX2, "performCommands", "(LLiftScheduler$Simulation;)Z"⟩
abbrev cX2_performRepeat : ByteArray := prog_4_method_13_code
def yX2_performRepeat : MethodName := ⟨RX2, "performRepeat", "()Z"⟩
abbrev cX2_performSimple : ByteArray := prog_4_method_14_code
def yX2_performSimple : MethodName := ⟨RX2, "performSimple", "()Z"⟩
abbrev cX2_performCall : ByteArray := prog_4_method_15_code
def yX2_performCall : MethodName := ⟨RX2, "performCall", "()Z"⟩
abbrev cX2_performRun : ByteArray := prog_4_method_16_code
def yX2_performRun : MethodName := ⟨RX2, "performRun", "()Z"⟩
abbrev cX2_performUntil : ByteArray := prog_4_method_17_code
def yX2_performUntil : MethodName := ⟨RX2, "performUntil", "()Z"⟩
abbrev cX2_performPolicy : ByteArray := prog_4_method_18_code
def yX2_performPolicy : MethodName := ⟨RX2, "performPolicy", "()Z"⟩
abbrev cX2_performCapacity : ByteArray := prog_4_method_19_code
def yX2_performCapacity : MethodName := ⟨RX2, "performCapacity", "()Z"⟩
abbrev cX2_performExpect : ByteArray := prog_4_method_20_code
def yX2_performExpect : MethodName := ⟨RX2, "performExpect", "()Z"⟩
abbrev cX2_count : ByteArray := prog_4_method_21_code
def yX2_count : MethodName := ⟨RX2, "count", "(LLiftScheduler$Kind;)I"⟩
abbrev cX2_nextKind : ByteArray := prog_4_method_22_code
def yX2_nextKind : MethodName := ⟨RX2, "nextKind", "()LLiftScheduler$Kind;"⟩
abbrev cX2_take : ByteArray := prog_4_method_23_code
def yX2_take : MethodName := ⟨RX2, "take", "(LLiftScheduler$Kind;)Z"⟩
abbrev cX2_takeNumber : ByteArray := prog_4_method_24_code
def yX2_takeNumber : MethodName := ⟨RX2, "takeNumber", "(II)I"⟩
abbrev cX2_takePolicy : ByteArray := prog_4_method_25_code
def yX2_takePolicy : MethodName := ⟨RX2, "takePolicy", "()I"⟩
abbrev cX2_takeCounterAndValue : ByteArray := prog_4_method_26_code
def yX2_takeCounterAndValue : MethodName := ⟨RX2, "takeCounterAndValue", "()I"⟩
abbrev cX2_fail : ByteArray := prog_4_method_27_code
def yX2_fail : MethodName := ⟨RX2, "fail", "(II)Z"⟩
def RX3 : String := "LiftScheduler$Simulation"
def TX3 : u_T := fun k => match k with
  | 0 => ("LiftScheduler$Simulation", "floors", "I", false)
  | 1 => ("LiftScheduler$Simulation", "capacity", "I", false)
  | 2 => ("LiftScheduler$Simulation", "policy", "I", false)
  | 3 => ("LiftScheduler$Simulation", "time", "I", false)
  | 4 => ("LiftScheduler$Simulation", "floor", "I", false)
  | 5 => ("LiftScheduler$Simulation", "upward", "Z", false)
  | 6 => ("LiftScheduler$Simulation", "distance", "I", false)
  | 7 => ("LiftScheduler$Simulation", "doorTicks", "I", false)
  | 8 => ("LiftScheduler$Simulation", "idleTicks", "I", false)
  | 9 => ("LiftScheduler$Simulation", "reversals", "I", false)
  | 10 => ("LiftScheduler$Simulation", "count", "I", false)
  | 11 => ("LiftScheduler$Simulation", "riding", "I", false)
  | 12 => ("LiftScheduler$Simulation", "done", "I", false)
  | 13 => ("LiftScheduler$Simulation", "origin", "[I", true)
  | 14 => ("LiftScheduler$Simulation", "destination", "[I", true)
  | 15 => ("LiftScheduler$Simulation", "arrival", "[I", true)
  | 16 => ("LiftScheduler$Simulation", "boarded", "[I", true)
  | 17 => ("LiftScheduler$Simulation", "left", "[I", true)
  | _ => ("LiftScheduler$Simulation", "queue", "[I", true)
def tyX3 : Nat → FieldType := fun k => match k with
  | 0 => .int
  | 1 => .int
  | 2 => .int
  | 3 => .int
  | 4 => .int
  | 5 => .boolean
  | 6 => .int
  | 7 => .int
  | 8 => .int
  | 9 => .int
  | 10 => .int
  | 11 => .int
  | 12 => .int
  | 13 => .array .int
  | 14 => .array .int
  | 15 => .array .int
  | 16 => .array .int
  | 17 => .array .int
  | _ => .array .int
abbrev wsX30 : List Cond := u_ws RX3 TX3 19
theorem nmX3 : ∀ a, a < 19 → ∀ b, b < 19 → a ≠ b → (TX3 a).2.1 ≠ (TX3 b).2.1 := by decide +kernel
theorem tyX3_ok : ∀ k, k < 19 → parseFieldDescriptor (TX3 k).2.2.1 = some (tyX3 k) := by decide +kernel
abbrev cX3_init : ByteArray := prog_5_method_1_code
def yX3_init : MethodName := ⟨RX3, "<init>", "()V"⟩
abbrev cX3_begin : ByteArray := prog_5_method_2_code
def yX3_begin : MethodName := ⟨RX3, "begin", "(III)V"⟩
abbrev cX3_copyFrom : ByteArray := prog_5_method_3_code
def yX3_copyFrom : MethodName := ⟨RX3, "copyFrom", "(LLiftScheduler$Simulation;)V"⟩
abbrev cX3_addArrival : ByteArray := prog_5_method_4_code
def yX3_addArrival : MethodName := ⟨RX3, "addArrival", "(III)V"⟩
abbrev cX3_findStatus : ByteArray := prog_5_method_5_code
def yX3_findStatus : MethodName := ⟨RX3, "findStatus", "(I)I"⟩
abbrev cX3_findWait : ByteArray := prog_5_method_6_code
def yX3_findWait : MethodName := ⟨RX3, "findWait", "(I)I"⟩
abbrev cX3_findRide : ByteArray := prog_5_method_7_code
def yX3_findRide : MethodName := ⟨RX3, "findRide", "(I)I"⟩
abbrev cX3_countWith : ByteArray := prog_5_method_8_code
def yX3_countWith : MethodName := ⟨RX3, "countWith", "(I)I"⟩
abbrev cX3_countWaiting : ByteArray := prog_5_method_9_code
def yX3_countWaiting : MethodName := ⟨RX3, "countWaiting", "(I)I"⟩
abbrev cX3_findFirstWaiting : ByteArray := prog_5_method_10_code
def yX3_findFirstWaiting : MethodName := ⟨RX3, "findFirstWaiting", "()I"⟩
abbrev cX3_sumWaits : ByteArray := prog_5_method_11_code
def yX3_sumWaits : MethodName := ⟨RX3, "sumWaits", "()I"⟩
abbrev cX3_isOver : ByteArray := prog_5_method_13_code
def yX3_isOver : MethodName := ⟨RX3, "isOver", "()Z"⟩
abbrev cX3_findStops : ByteArray := prog_5_method_14_code
def yX3_findStops : MethodName := ⟨RX3, "findStops", "()I"⟩
abbrev cX3_findTarget : ByteArray := prog_5_method_15_code
def yX3_findTarget : MethodName := ⟨RX3, "findTarget", "(I)I"⟩
abbrev cX3_findFirstRiding : ByteArray := prog_5_method_16_code
def yX3_findFirstRiding : MethodName := ⟨RX3, "findFirstRiding", "()I"⟩
abbrev cX3_findStopBelow : ByteArray := prog_5_method_17_code
def yX3_findStopBelow : MethodName := ⟨RX3, "findStopBelow", "(I)I"⟩
abbrev cX3_findStopAbove : ByteArray := prog_5_method_18_code
def yX3_findStopAbove : MethodName := ⟨RX3, "findStopAbove", "(I)I"⟩
abbrev cX3_tick : ByteArray := prog_5_method_19_code
def yX3_tick : MethodName := ⟨RX3, "tick", "()V"⟩
abbrev cX3_tickToEnd : ByteArray := prog_5_method_20_code
def yX3_tickToEnd : MethodName := ⟨RX3, "tickToEnd", "(I)I"⟩
abbrev cX3_openDoors : ByteArray := prog_5_method_21_code
def yX3_openDoors : MethodName := ⟨RX3, "openDoors", "()V"⟩
abbrev cX3_moveTowards : ByteArray := prog_5_method_22_code
def yX3_moveTowards : MethodName := ⟨RX3, "moveTowards", "(I)V"⟩
def RX4 : String := "LiftScheduler"
def TX4 : u_T := fun k => match k with
  | 0 => ("LiftScheduler", "now", "LLiftScheduler$Simulation;", true)
  | 1 => ("LiftScheduler", "trial", "LLiftScheduler$Simulation;", true)
  | 2 => ("LiftScheduler", "past", "[LLiftScheduler$Simulation;", true)
  | 3 => ("LiftScheduler", "nextPast", "I", false)
  | 4 => ("LiftScheduler", "changes", "I", false)
  | 5 => ("LiftScheduler", "slots", "[LLiftScheduler$Simulation;", true)
  | 6 => ("LiftScheduler", "slotFilled", "[Z", true)
  | 7 => ("LiftScheduler", "input", "[B", true)
  | 8 => ("LiftScheduler", "inputLength", "I", false)
  | 9 => ("LiftScheduler", "script", "LLiftScheduler$Script;", true)
  | 10 => ("LiftScheduler", "output", "[B", true)
  | _ => ("LiftScheduler", "outputLength", "I", false)
def tyX4 : Nat → FieldType := fun k => match k with
  | 0 => .object "LiftScheduler$Simulation"
  | 1 => .object "LiftScheduler$Simulation"
  | 2 => .array (.object "LiftScheduler$Simulation")
  | 3 => .int
  | 4 => .int
  | 5 => .array (.object "LiftScheduler$Simulation")
  | 6 => .array .boolean
  | 7 => .array .byte
  | 8 => .int
  | 9 => .object "LiftScheduler$Script"
  | 10 => .array .byte
  | _ => .int
abbrev wsX40 : List Cond := u_ws RX4 TX4 12
theorem nmX4 : ∀ a, a < 12 → ∀ b, b < 12 → a ≠ b → (TX4 a).2.1 ≠ (TX4 b).2.1 := by decide +kernel
theorem tyX4_ok : ∀ k, k < 12 → parseFieldDescriptor (TX4 k).2.2.1 = some (tyX4 k) := by decide +kernel
abbrev cX4_init : ByteArray := prog_1_method_1_code
def yX4_init : MethodName := ⟨RX4, "<init>", "()V"⟩
abbrev cX4_append : ByteArray := prog_1_method_2_code
def yX4_append : MethodName := ⟨RX4, "append", "(IIIII)I"⟩
abbrev cX4_appendFour : ByteArray := prog_1_method_3_code
def yX4_appendFour : MethodName := ⟨RX4, "appendFour", "(I)V"⟩
abbrev cX4_truncate : ByteArray := prog_1_method_4_code
def yX4_truncate : MethodName := ⟨RX4, "truncate", "(I)Z"⟩
abbrev cX4_load : ByteArray := prog_1_method_5_code
def yX4_load : MethodName := ⟨RX4, "load", "()I"⟩
abbrev cX4_parseError : ByteArray := prog_1_method_7_code
def yX4_parseError : MethodName := ⟨RX4, "parseError", "()I"⟩
abbrev cX4_floorCount : ByteArray := prog_1_method_9_code
def yX4_floorCount : MethodName := ⟨RX4, "floorCount", "()I"⟩
abbrev cX4_capacity : ByteArray := prog_1_method_10_code
def yX4_capacity : MethodName := ⟨RX4, "capacity", "()I"⟩
abbrev cX4_policy : ByteArray := prog_1_method_11_code
def yX4_policy : MethodName := ⟨RX4, "policy", "()I"⟩
abbrev cX4_time : ByteArray := prog_1_method_12_code
def yX4_time : MethodName := ⟨RX4, "time", "()I"⟩
abbrev cX4_floor : ByteArray := prog_1_method_13_code
def yX4_floor : MethodName := ⟨RX4, "floor", "()I"⟩
abbrev cX4_isFull : ByteArray := prog_1_method_15_code
def yX4_isFull : MethodName := ⟨RX4, "isFull", "()Z"⟩
abbrev cX4_stopMask : ByteArray := prog_1_method_16_code
def yX4_stopMask : MethodName := ⟨RX4, "stopMask", "()I"⟩
abbrev cX4_targetBy : ByteArray := prog_1_method_17_code
def yX4_targetBy : MethodName := ⟨RX4, "targetBy", "(I)I"⟩
abbrev cX4_distance : ByteArray := prog_1_method_18_code
def yX4_distance : MethodName := ⟨RX4, "distance", "()I"⟩
abbrev cX4_doorTicks : ByteArray := prog_1_method_19_code
def yX4_doorTicks : MethodName := ⟨RX4, "doorTicks", "()I"⟩
abbrev cX4_idleTicks : ByteArray := prog_1_method_20_code
def yX4_idleTicks : MethodName := ⟨RX4, "idleTicks", "()I"⟩
abbrev cX4_statusOf : ByteArray := prog_1_method_23_code
def yX4_statusOf : MethodName := ⟨RX4, "statusOf", "(I)I"⟩
abbrev cX4_originOf : ByteArray := prog_1_method_24_code
def yX4_originOf : MethodName := ⟨RX4, "originOf", "(I)I"⟩
abbrev cX4_destinationOf : ByteArray := prog_1_method_25_code
def yX4_destinationOf : MethodName := ⟨RX4, "destinationOf", "(I)I"⟩
abbrev cX4_arrivalOf : ByteArray := prog_1_method_26_code
def yX4_arrivalOf : MethodName := ⟨RX4, "arrivalOf", "(I)I"⟩
abbrev cX4_boardedAt : ByteArray := prog_1_method_27_code
def yX4_boardedAt : MethodName := ⟨RX4, "boardedAt", "(I)I"⟩
abbrev cX4_leftAt : ByteArray := prog_1_method_28_code
def yX4_leftAt : MethodName := ⟨RX4, "leftAt", "(I)I"⟩
abbrev cX4_waitOf : ByteArray := prog_1_method_29_code
def yX4_waitOf : MethodName := ⟨RX4, "waitOf", "(I)I"⟩
abbrev cX4_rideOf : ByteArray := prog_1_method_30_code
def yX4_rideOf : MethodName := ⟨RX4, "rideOf", "(I)I"⟩
abbrev cX4_detourOf : ByteArray := prog_1_method_31_code
def yX4_detourOf : MethodName := ⟨RX4, "detourOf", "(I)I"⟩
abbrev cX4_countStatus : ByteArray := prog_1_method_32_code
def yX4_countStatus : MethodName := ⟨RX4, "countStatus", "(I)I"⟩
abbrev cX4_waitingAt : ByteArray := prog_1_method_33_code
def yX4_waitingAt : MethodName := ⟨RX4, "waitingAt", "(I)I"⟩
abbrev cX4_queueAt : ByteArray := prog_1_method_34_code
def yX4_queueAt : MethodName := ⟨RX4, "queueAt", "(II)I"⟩
abbrev cX4_firstWaiting : ByteArray := prog_1_method_35_code
def yX4_firstWaiting : MethodName := ⟨RX4, "firstWaiting", "()I"⟩
abbrev cX4_totalWait : ByteArray := prog_1_method_44_code
def yX4_totalWait : MethodName := ⟨RX4, "totalWait", "()I"⟩
abbrev cX4_isFinished : ByteArray := prog_1_method_47_code
def yX4_isFinished : MethodName := ⟨RX4, "isFinished", "()Z"⟩
abbrev cX4_run : ByteArray := prog_1_method_58_code
def yX4_run : MethodName := ⟨RX4, "run", "(I)I"⟩
abbrev cX4_setCapacity : ByteArray := prog_1_method_61_code
def yX4_setCapacity : MethodName := ⟨RX4, "setCapacity", "(I)I"⟩
abbrev cX4_rememberState : ByteArray := prog_1_method_64_code
def yX4_rememberState : MethodName := ⟨RX4, "rememberState", "()V"⟩
abbrev cX4_requirePassenger : ByteArray := prog_1_method_73_code
def yX4_requirePassenger : MethodName := ⟨RX4, "requirePassenger", "(I)V"⟩
abbrev cX4_requireFloor : ByteArray := prog_1_method_74_code
def yX4_requireFloor : MethodName := ⟨RX4, "requireFloor", "(I)V"⟩
abbrev cX4_requirePolicy : ByteArray := prog_1_method_75_code
def yX4_requirePolicy : MethodName := ⟨RX4, "requirePolicy", "(I)V"⟩
abbrev cX4_requireCapacity : ByteArray := prog_1_method_76_code
def yX4_requireCapacity : MethodName := ⟨RX4, "requireCapacity", "(I)V"⟩
def RX5 : String := "LiftSchedulerLaw$Random"
def TX5 : u_T := fun k => match k with
  | _ => ("LiftSchedulerLaw$Random", "v", "I", false)
def tyX5 : Nat → FieldType := fun k => match k with
  | _ => .int
abbrev wsX50 : List Cond := u_ws RX5 TX5 1
theorem nmX5 : ∀ a, a < 1 → ∀ b, b < 1 → a ≠ b → (TX5 a).2.1 ≠ (TX5 b).2.1 := by decide +kernel
theorem tyX5_ok : ∀ k, k < 1 → parseFieldDescriptor (TX5 k).2.2.1 = some (tyX5 k) := by decide +kernel
abbrev cX5_init : ByteArray := prog_7_method_1_code
def yX5_init : MethodName := ⟨RX5, "<init>", "(I)V"⟩
abbrev cX5_next : ByteArray := prog_7_method_2_code
def yX5_next : MethodName := ⟨RX5, "next", "(I)I"⟩
def RX6 : String := "LiftSchedulerModel"
def TX6 : u_T := fun k => match k with
  | _ => ("", "", "", false)
def tyX6 : Nat → FieldType := fun k => match k with
  | _ => .int
abbrev wsX60 : List Cond := u_ws RX6 TX6 0
theorem nmX6 : ∀ a, a < 0 → ∀ b, b < 0 → a ≠ b → (TX6 a).2.1 ≠ (TX6 b).2.1 := by decide +kernel
theorem tyX6_ok : ∀ k, k < 0 → parseFieldDescriptor (TX6 k).2.2.1 = some (tyX6 k) := by decide +kernel
def RJx145de : String := "java/io/Serializable"
def TJx145de : u_T := fun k => match k with
  | _ => ("", "", "", false)
def tyJx145de : Nat → FieldType := fun k => match k with
  | _ => .int
abbrev wsJx145de0 : List Cond := u_ws RJx145de TJx145de 0
theorem nmJx145de : ∀ a, a < 0 → ∀ b, b < 0 → a ≠ b → (TJx145de a).2.1 ≠ (TJx145de b).2.1 := by decide +kernel
theorem tyJx145de_ok : ∀ k, k < 0 → parseFieldDescriptor (TJx145de k).2.2.1 = some (tyJx145de k) := by decide +kernel
def RJ5 : String := "java/lang/AbstractStringBuilder"
def TJ5 : u_T := fun k => match k with
  | _ => ("", "", "", false)
def tyJ5 : Nat → FieldType := fun k => match k with
  | _ => .int
abbrev wsJ50 : List Cond := u_ws RJ5 TJ5 0
theorem nmJ5 : ∀ a, a < 0 → ∀ b, b < 0 → a ≠ b → (TJ5 a).2.1 ≠ (TJ5 b).2.1 := by decide +kernel
theorem tyJ5_ok : ∀ k, k < 0 → parseFieldDescriptor (TJ5 k).2.2.1 = some (tyJ5 k) := by decide +kernel
abbrev cJ5_init_a7421 : ByteArray := prog_9_method_3_code
def yJ5_init_a7421 : MethodName := ⟨RJ5, "<init>", "(Ljava/lang/String;)V"⟩
abbrev cJ5_length_8abf5 : ByteArray := prog_9_method_6_code
def yJ5_length_8abf5 : MethodName := ⟨RJ5, "length", "()I"⟩
abbrev cJ5_ensureCapacityInternal_d00df : ByteArray := prog_9_method_9_code
def yJ5_ensureCapacityInternal_d00df : MethodName := ⟨RJ5, "ensureCapacityInternal", "(I)V"⟩
abbrev cJ5_newCapacity_0f7a4 : ByteArray := prog_9_method_10_code
def yJ5_newCapacity_0f7a4 : MethodName := ⟨RJ5, "newCapacity", "(I)I"⟩
abbrev cJ5_inflate_da8c8 : ByteArray := prog_9_method_11_code
def yJ5_inflate_da8c8 : MethodName := ⟨RJ5, "inflate", "()V"⟩
abbrev cJ5_charAt_5068e : ByteArray := prog_9_method_14_code
def yJ5_charAt_5068e : MethodName := ⟨RJ5, "charAt", "(I)C"⟩
abbrev cJ5_append_cf1ce : ByteArray := prog_9_method_22_code
def yJ5_append_cf1ce : MethodName := ⟨RJ5, "append", "(Ljava/lang/String;)Ljava/lang/AbstractStringBuilder;"⟩
abbrev cJ5_appendNull_278bc : ByteArray := prog_9_method_26_code
def yJ5_appendNull_278bc : MethodName := ⟨RJ5, "appendNull", "()Ljava/lang/AbstractStringBuilder;"⟩
abbrev cJ5_append_3fe6f : ByteArray := prog_9_method_31_code
def yJ5_append_3fe6f : MethodName := ⟨RJ5, "append", "(C)Ljava/lang/AbstractStringBuilder;"⟩
abbrev cJ5_append_c97b9 : ByteArray := prog_9_method_32_code
def yJ5_append_c97b9 : MethodName := ⟨RJ5, "append", "(I)Ljava/lang/AbstractStringBuilder;"⟩
abbrev cJ5_isLatin1_aae02 : ByteArray := prog_9_method_68_code
def yJ5_isLatin1_aae02 : MethodName := ⟨RJ5, "isLatin1", "()Z"⟩
abbrev cJ5_inflateIfNeededFor_a7421 : ByteArray := prog_9_method_71_code
def yJ5_inflateIfNeededFor_a7421 : MethodName := ⟨RJ5, "inflateIfNeededFor", "(Ljava/lang/String;)V"⟩
abbrev cJ5_putStringAt_47b60 : ByteArray := prog_9_method_73_code
def yJ5_putStringAt_47b60 : MethodName := ⟨RJ5, "putStringAt", "(ILjava/lang/String;)V"⟩
def RJx9f9b0 : String := "java/lang/CharSequence"
def TJx9f9b0 : u_T := fun k => match k with
  | _ => ("", "", "", false)
def tyJx9f9b0 : Nat → FieldType := fun k => match k with
  | _ => .int
abbrev wsJx9f9b00 : List Cond := u_ws RJx9f9b0 TJx9f9b0 0
theorem nmJx9f9b0 : ∀ a, a < 0 → ∀ b, b < 0 → a ≠ b → (TJx9f9b0 a).2.1 ≠ (TJx9f9b0 b).2.1 := by decide +kernel
theorem tyJx9f9b0_ok : ∀ k, k < 0 → parseFieldDescriptor (TJx9f9b0 k).2.2.1 = some (tyJx9f9b0 k) := by decide +kernel
def RJx8e188 : String := "java/lang/Cloneable"
def TJx8e188 : u_T := fun k => match k with
  | _ => ("", "", "", false)
def tyJx8e188 : Nat → FieldType := fun k => match k with
  | _ => .int
abbrev wsJx8e1880 : List Cond := u_ws RJx8e188 TJx8e188 0
theorem nmJx8e188 : ∀ a, a < 0 → ∀ b, b < 0 → a ≠ b → (TJx8e188 a).2.1 ≠ (TJx8e188 b).2.1 := by decide +kernel
theorem tyJx8e188_ok : ∀ k, k < 0 → parseFieldDescriptor (TJx8e188 k).2.2.1 = some (tyJx8e188 k) := by decide +kernel
def RJxb160c : String := "java/lang/Comparable"
def TJxb160c : u_T := fun k => match k with
  | _ => ("", "", "", false)
def tyJxb160c : Nat → FieldType := fun k => match k with
  | _ => .int
abbrev wsJxb160c0 : List Cond := u_ws RJxb160c TJxb160c 0
theorem nmJxb160c : ∀ a, a < 0 → ∀ b, b < 0 → a ≠ b → (TJxb160c a).2.1 ≠ (TJxb160c b).2.1 := by decide +kernel
theorem tyJxb160c_ok : ∀ k, k < 0 → parseFieldDescriptor (TJxb160c k).2.2.1 = some (tyJxb160c k) := by decide +kernel
def RJx29ce0 : String := "java/lang/Enum"
def TJx29ce0 : u_T := fun k => match k with
  | _ => ("", "", "", false)
def tyJx29ce0 : Nat → FieldType := fun k => match k with
  | _ => .int
abbrev wsJx29ce00 : List Cond := u_ws RJx29ce0 TJx29ce0 0
theorem nmJx29ce0 : ∀ a, a < 0 → ∀ b, b < 0 → a ≠ b → (TJx29ce0 a).2.1 ≠ (TJx29ce0 b).2.1 := by decide +kernel
theorem tyJx29ce0_ok : ∀ k, k < 0 → parseFieldDescriptor (TJx29ce0 k).2.2.1 = some (tyJx29ce0 k) := by decide +kernel
abbrev cJx29ce0_ordinal_8abf5 : ByteArray := prog_12_method_2_code
def yJx29ce0_ordinal_8abf5 : MethodName := ⟨RJx29ce0, "ordinal", "()I"⟩
def RJ6 : String := "java/lang/Integer"
def TJ6 : u_T := fun k => match k with
  | _ => ("", "", "", false)
def tyJ6 : Nat → FieldType := fun k => match k with
  | _ => .int
abbrev wsJ60 : List Cond := u_ws RJ6 TJ6 0
theorem nmJ6 : ∀ a, a < 0 → ∀ b, b < 0 → a ≠ b → (TJ6 a).2.1 ≠ (TJ6 b).2.1 := by decide +kernel
theorem tyJ6_ok : ∀ k, k < 0 → parseFieldDescriptor (TJ6 k).2.2.1 = some (tyJ6 k) := by decide +kernel
abbrev cJ6_getChars_ba4f3 : ByteArray := prog_17_method_12_code
def yJ6_getChars_ba4f3 : MethodName := ⟨RJ6, "getChars", "(II[B)I"⟩
abbrev cJ6_stringSize_0f7a4 : ByteArray := prog_17_method_13_code
def yJ6_stringSize_0f7a4 : MethodName := ⟨RJ6, "stringSize", "(I)I"⟩
def RJ9 : String := "java/lang/Math"
def TJ9 : u_T := fun k => match k with
  | _ => ("", "", "", false)
def tyJ9 : Nat → FieldType := fun k => match k with
  | _ => .int
abbrev wsJ90 : List Cond := u_ws RJ9 TJ9 0
theorem nmJ9 : ∀ a, a < 0 → ∀ b, b < 0 → a ≠ b → (TJ9 a).2.1 ≠ (TJ9 b).2.1 := by decide +kernel
theorem tyJ9_ok : ∀ k, k < 0 → parseFieldDescriptor (TJ9 k).2.2.1 = some (tyJ9 k) := by decide +kernel
abbrev cJ9_abs_0f7a4 : ByteArray := prog_18_method_59_code
def yJ9_abs_0f7a4 : MethodName := ⟨RJ9, "abs", "(I)I"⟩
abbrev cJ9_max_7cf53 : ByteArray := prog_18_method_65_code
def yJ9_max_7cf53 : MethodName := ⟨RJ9, "max", "(II)I"⟩
abbrev cJ9_min_7cf53 : ByteArray := prog_18_method_69_code
def yJ9_min_7cf53 : MethodName := ⟨RJ9, "min", "(II)I"⟩
def RJ0 : String := "java/lang/String"
def TJ0 : u_T := fun k => match k with
  | _ => ("", "", "", false)
def tyJ0 : Nat → FieldType := fun k => match k with
  | _ => .int
abbrev wsJ00 : List Cond := u_ws RJ0 TJ0 0
theorem nmJ0 : ∀ a, a < 0 → ∀ b, b < 0 → a ≠ b → (TJ0 a).2.1 ≠ (TJ0 b).2.1 := by decide +kernel
theorem tyJ0_ok : ∀ k, k < 0 → parseFieldDescriptor (TJ0 k).2.2.1 = some (tyJ0 k) := by decide +kernel
abbrev cJ0_length_8abf5 : ByteArray := prog_20_method_54_code
def yJ0_length_8abf5 : MethodName := ⟨RJ0, "length", "()I"⟩
abbrev cJ0_charAt_5068e : ByteArray := prog_20_method_56_code
def yJ0_charAt_5068e : MethodName := ⟨RJ0, "charAt", "(I)C"⟩
abbrev cJ0_getBytes_840e7 : ByteArray := prog_20_method_147_code
def yJ0_getBytes_840e7 : MethodName := ⟨RJ0, "getBytes", "([BIB)V"⟩
abbrev cJ0_coder_7d493 : ByteArray := prog_20_method_152_code
def yJ0_coder_7d493 : MethodName := ⟨RJ0, "coder", "()B"⟩
abbrev cJ0_isLatin1_aae02 : ByteArray := prog_20_method_154_code
def yJ0_isLatin1_aae02 : MethodName := ⟨RJ0, "isLatin1", "()Z"⟩
abbrev cJ0_checkIndex_df160 : ByteArray := prog_20_method_155_code
def yJ0_checkIndex_df160 : MethodName := ⟨RJ0, "checkIndex", "(II)V"⟩
abbrev cJ0_checkBoundsOffCount_cabcc : ByteArray := prog_20_method_157_code
def yJ0_checkBoundsOffCount_cabcc : MethodName := ⟨RJ0, "checkBoundsOffCount", "(III)I"⟩
abbrev cJ0_checkBoundsBeginEnd_23922 : ByteArray := prog_20_method_158_code
def yJ0_checkBoundsBeginEnd_23922 : MethodName := ⟨RJ0, "checkBoundsBeginEnd", "(III)V"⟩
def RJ4 : String := "java/lang/StringBuilder"
def TJ4 : u_T := fun k => match k with
  | 0 => ("java/lang/AbstractStringBuilder", "value", "[B", false)
  | 1 => ("java/lang/AbstractStringBuilder", "coder", "B", false)
  | 2 => ("java/lang/AbstractStringBuilder", "maybeLatin1", "Z", false)
  | _ => ("java/lang/AbstractStringBuilder", "count", "I", false)
def tyJ4 : Nat → FieldType := fun k => match k with
  | 0 => .array .byte
  | 1 => .byte
  | 2 => .boolean
  | _ => .int
abbrev wsJ40 : List Cond := u_ws RJ4 TJ4 4
theorem nmJ4 : ∀ a, a < 4 → ∀ b, b < 4 → a ≠ b → (TJ4 a).2.1 ≠ (TJ4 b).2.1 := by decide +kernel
theorem tyJ4_ok : ∀ k, k < 4 → parseFieldDescriptor (TJ4 k).2.2.1 = some (tyJ4 k) := by decide +kernel
abbrev cJ4_init_a7421 : ByteArray := prog_21_method_3_code
def yJ4_init_a7421 : MethodName := ⟨RJ4, "<init>", "(Ljava/lang/String;)V"⟩
abbrev cJ4_append_15ec4 : ByteArray := prog_21_method_7_code
def yJ4_append_15ec4 : MethodName := ⟨RJ4, "append", "(Ljava/lang/String;)Ljava/lang/StringBuilder;"⟩
abbrev cJ4_append_cf468 : ByteArray := prog_21_method_14_code
def yJ4_append_cf468 : MethodName := ⟨RJ4, "append", "(C)Ljava/lang/StringBuilder;"⟩
abbrev cJ4_append_bf812 : ByteArray := prog_21_method_15_code
def yJ4_append_bf812 : MethodName := ⟨RJ4, "append", "(I)Ljava/lang/StringBuilder;"⟩
abbrev cJ4_append_cf1ce : ByteArray := prog_21_method_80_code
def yJ4_append_cf1ce : MethodName := ⟨RJ4, "append", "(Ljava/lang/String;)Ljava/lang/AbstractStringBuilder;"⟩
abbrev cJ4_charAt_5068e : ByteArray := prog_21_method_88_code
def yJ4_charAt_5068e : MethodName := ⟨RJ4, "charAt", "(I)C"⟩
abbrev cJ4_length_8abf5 : ByteArray := prog_21_method_93_code
def yJ4_length_8abf5 : MethodName := ⟨RJ4, "length", "()I"⟩
def RJ1 : String := "java/lang/StringLatin1"
def TJ1 : u_T := fun k => match k with
  | _ => ("", "", "", false)
def tyJ1 : Nat → FieldType := fun k => match k with
  | _ => .int
abbrev wsJ10 : List Cond := u_ws RJ1 TJ1 0
theorem nmJ1 : ∀ a, a < 0 → ∀ b, b < 0 → a ≠ b → (TJ1 a).2.1 ≠ (TJ1 b).2.1 := by decide +kernel
theorem tyJ1_ok : ∀ k, k < 0 → parseFieldDescriptor (TJ1 k).2.2.1 = some (tyJ1 k) := by decide +kernel
abbrev cJ1_charAt_3b067 : ByteArray := prog_22_method_2_code
def yJ1_charAt_3b067 : MethodName := ⟨RJ1, "charAt", "([BI)C"⟩
abbrev cJ1_canEncode_fc78d : ByteArray := prog_22_method_3_code
def yJ1_canEncode_fc78d : MethodName := ⟨RJ1, "canEncode", "(C)Z"⟩
abbrev cJ1_inflate_0e8fd : ByteArray := prog_22_method_50_code
def yJ1_inflate_0e8fd : MethodName := ⟨RJ1, "inflate", "([BI[BII)V"⟩
def RJ2 : String := "java/lang/StringUTF16"
def TJ2 : u_T := fun k => match k with
  | _ => ("", "", "", false)
def tyJ2 : Nat → FieldType := fun k => match k with
  | _ => .int
abbrev wsJ20 : List Cond := u_ws RJ2 TJ2 0
theorem nmJ2 : ∀ a, a < 0 → ∀ b, b < 0 → a ≠ b → (TJ2 a).2.1 ≠ (TJ2 b).2.1 := by decide +kernel
theorem tyJ2_ok : ∀ k, k < 0 → parseFieldDescriptor (TJ2 k).2.2.1 = some (tyJ2 k) := by decide +kernel
abbrev cJ2_newBytesFor_77867 : ByteArray := prog_23_method_2_code
def yJ2_newBytesFor_77867 : MethodName := ⟨RJ2, "newBytesFor", "(I)[B"⟩
abbrev cJ2_newBytesLength_0f7a4 : ByteArray := prog_23_method_3_code
def yJ2_newBytesLength_0f7a4 : MethodName := ⟨RJ2, "newBytesLength", "(I)I"⟩
abbrev cJ2_putChar_b72d1 : ByteArray := prog_23_method_4_code
def yJ2_putChar_b72d1 : MethodName := ⟨RJ2, "putChar", "([BII)V"⟩
abbrev cJ2_getChar_3b067 : ByteArray := prog_23_method_5_code
def yJ2_getChar_3b067 : MethodName := ⟨RJ2, "getChar", "([BI)C"⟩
abbrev cJ2_length_9d52b : ByteArray := prog_23_method_6_code
def yJ2_length_9d52b : MethodName := ⟨RJ2, "length", "([B)I"⟩
abbrev cJ2_putCharSB_b72d1 : ByteArray := prog_23_method_71_code
def yJ2_putCharSB_b72d1 : MethodName := ⟨RJ2, "putCharSB", "([BII)V"⟩
abbrev cJ2_getChars_46870 : ByteArray := prog_23_method_77_code
def yJ2_getChars_46870 : MethodName := ⟨RJ2, "getChars", "(III[B)I"⟩
abbrev cJ2_putCharsAt_cd4e5 : ByteArray := prog_23_method_81_code
def yJ2_putCharsAt_cd4e5 : MethodName := ⟨RJ2, "putCharsAt", "([BICCCC)I"⟩
abbrev cJ2_charAt_3b067 : ByteArray := prog_23_method_83_code
def yJ2_charAt_3b067 : MethodName := ⟨RJ2, "charAt", "([BI)C"⟩
abbrev cJ2_inflate_0e8fd : ByteArray := prog_23_method_86_code
def yJ2_inflate_0e8fd : MethodName := ⟨RJ2, "inflate", "([BI[BII)V"⟩
abbrev cJ2_getChars_ba4f3 : ByteArray := prog_23_method_89_code
def yJ2_getChars_ba4f3 : MethodName := ⟨RJ2, "getChars", "(II[B)I"⟩
abbrev cJ2_checkIndex_2214a : ByteArray := prog_23_method_91_code
def yJ2_checkIndex_2214a : MethodName := ⟨RJ2, "checkIndex", "(I[B)V"⟩
abbrev cJ2_checkBoundsBeginEnd_d044e : ByteArray := prog_23_method_93_code
def yJ2_checkBoundsBeginEnd_d044e : MethodName := ⟨RJ2, "checkBoundsBeginEnd", "(II[B)V"⟩
abbrev cJ2_checkBoundsOffCount_d044e : ByteArray := prog_23_method_94_code
def yJ2_checkBoundsOffCount_d044e : MethodName := ⟨RJ2, "checkBoundsOffCount", "(II[B)V"⟩
def RJ10 : String := "java/lang/System"
def TJ10 : u_T := fun k => match k with
  | _ => ("", "", "", false)
def tyJ10 : Nat → FieldType := fun k => match k with
  | _ => .int
abbrev wsJ100 : List Cond := u_ws RJ10 TJ10 0
theorem nmJ10 : ∀ a, a < 0 → ∀ b, b < 0 → a ≠ b → (TJ10 a).2.1 ≠ (TJ10 b).2.1 := by decide +kernel
theorem tyJ10_ok : ∀ k, k < 0 → parseFieldDescriptor (TJ10 k).2.2.1 = some (tyJ10 k) := by decide +kernel
def RJxfd54e : String := "java/lang/constant/Constable"
def TJxfd54e : u_T := fun k => match k with
  | _ => ("", "", "", false)
def tyJxfd54e : Nat → FieldType := fun k => match k with
  | _ => .int
abbrev wsJxfd54e0 : List Cond := u_ws RJxfd54e TJxfd54e 0
theorem nmJxfd54e : ∀ a, a < 0 → ∀ b, b < 0 → a ≠ b → (TJxfd54e a).2.1 ≠ (TJxfd54e b).2.1 := by decide +kernel
theorem tyJxfd54e_ok : ∀ k, k < 0 → parseFieldDescriptor (TJxfd54e k).2.2.1 = some (tyJxfd54e k) := by decide +kernel
def RJx3cf43 : String := "java/lang/constant/ConstantDesc"
def TJx3cf43 : u_T := fun k => match k with
  | _ => ("", "", "", false)
def tyJx3cf43 : Nat → FieldType := fun k => match k with
  | _ => .int
abbrev wsJx3cf430 : List Cond := u_ws RJx3cf43 TJx3cf43 0
theorem nmJx3cf43 : ∀ a, a < 0 → ∀ b, b < 0 → a ≠ b → (TJx3cf43 a).2.1 ≠ (TJx3cf43 b).2.1 := by decide +kernel
theorem tyJx3cf43_ok : ∀ k, k < 0 → parseFieldDescriptor (TJx3cf43 k).2.2.1 = some (tyJx3cf43 k) := by decide +kernel
def RJ7 : String := "java/util/Arrays"
def TJ7 : u_T := fun k => match k with
  | _ => ("", "", "", false)
def tyJ7 : Nat → FieldType := fun k => match k with
  | _ => .int
abbrev wsJ70 : List Cond := u_ws RJ7 TJ7 0
theorem nmJ7 : ∀ a, a < 0 → ∀ b, b < 0 → a ≠ b → (TJ7 a).2.1 ≠ (TJ7 b).2.1 := by decide +kernel
theorem tyJ7_ok : ∀ k, k < 0 → parseFieldDescriptor (TJ7 k).2.2.1 = some (tyJ7 k) := by decide +kernel
abbrev cJ7_copyOf_9075b : ByteArray := prog_26_method_121_code
def yJ7_copyOf_9075b : MethodName := ⟨RJ7, "copyOf", "([BI)[B"⟩
def RJ8 : String := "jdk/internal/util/ArraysSupport"
def TJ8 : u_T := fun k => match k with
  | _ => ("", "", "", false)
def tyJ8 : Nat → FieldType := fun k => match k with
  | _ => .int
abbrev wsJ80 : List Cond := u_ws RJ8 TJ8 0
theorem nmJ8 : ∀ a, a < 0 → ∀ b, b < 0 → a ≠ b → (TJ8 a).2.1 ≠ (TJ8 b).2.1 := by decide +kernel
theorem tyJ8_ok : ∀ k, k < 0 → parseFieldDescriptor (TJ8 k).2.2.1 = some (tyJ8 k) := by decide +kernel
abbrev cJ8_newLength_cabcc : ByteArray := prog_27_method_27_code
def yJ8_newLength_cabcc : MethodName := ⟨RJ8, "newLength", "(III)I"⟩
abbrev cJ8_hugeLength_7cf53 : ByteArray := prog_27_method_28_code
def yJ8_hugeLength_7cf53 : MethodName := ⟨RJ8, "hugeLength", "(II)I"⟩
def RJ3 : String := "jdk/internal/util/Preconditions"
def TJ3 : u_T := fun k => match k with
  | _ => ("", "", "", false)
def tyJ3 : Nat → FieldType := fun k => match k with
  | _ => .int
abbrev wsJ30 : List Cond := u_ws RJ3 TJ3 0
theorem nmJ3 : ∀ a, a < 0 → ∀ b, b < 0 → a ≠ b → (TJ3 a).2.1 ≠ (TJ3 b).2.1 := by decide +kernel
theorem tyJ3_ok : ∀ k, k < 0 → parseFieldDescriptor (TJ3 k).2.2.1 = some (tyJ3 k) := by decide +kernel
abbrev cJ3_checkIndex_8e157 : ByteArray := prog_28_method_11_code
def yJ3_checkIndex_8e157 : MethodName := ⟨RJ3, "checkIndex", "(IILjava/util/function/BiFunction;)I"⟩
abbrev cJ3_checkFromToIndex_8c36e : ByteArray := prog_28_method_12_code
def yJ3_checkFromToIndex_8c36e : MethodName := ⟨RJ3, "checkFromToIndex", "(IIILjava/util/function/BiFunction;)I"⟩
abbrev cJ3_checkFromIndexSize_8c36e : ByteArray := prog_28_method_13_code
def yJ3_checkFromIndexSize_8c36e : MethodName := ⟨RJ3, "checkFromIndexSize", "(IIILjava/util/function/BiFunction;)I"⟩
def RL : String := "LiftSchedulerLaw"
abbrev cL_draw : ByteArray := method_2_code
def yL_draw : MethodName := ⟨RL, "draw", "([II)I"⟩
abbrev cL_lays : ByteArray := method_3_code
def yL_lays : MethodName := ⟨RL, "lays", "(LLiftScheduler;Ljava/lang/CharSequence;)Z"⟩
abbrev cL_loads : ByteArray := method_4_code
def yL_loads : MethodName := ⟨RL, "loads", "(LLiftScheduler;LLiftSchedulerLaw$Random;II)Z"⟩
abbrev cL_law : ByteArray := code
def yL_law : MethodName := ⟨RL, "law", "([I)Z"⟩
abbrev vwCl : List vw_C := [(RX2, TX2, 9), (RX3, TX3, 19), (RX4, TX4, 12), (RX5, TX5, 1), (RJ4, TJ4, 4)]
end
section
theorem dX1_isCounter_0 : decode cX1_isCounter 0 = .ok (.aload_n 0, 1) := by decide +kernel
theorem dX1_isCounter_1 : decode cX1_isCounter 1 = .ok (.getstatic 46, 3) := by decide +kernel
theorem dX1_isCounter_4 : decode cX1_isCounter 4 = .ok (.if_acmp .eq 38, 3) := by decide +kernel
theorem dX1_isCounter_7 : decode cX1_isCounter 7 = .ok (.aload_n 0, 1) := by decide +kernel
theorem dX1_isCounter_8 : decode cX1_isCounter 8 = .ok (.getstatic 49, 3) := by decide +kernel
theorem dX1_isCounter_11 : decode cX1_isCounter 11 = .ok (.if_acmp .eq 31, 3) := by decide +kernel
theorem dX1_isCounter_14 : decode cX1_isCounter 14 = .ok (.aload_n 0, 1) := by decide +kernel
theorem dX1_isCounter_15 : decode cX1_isCounter 15 = .ok (.getstatic 52, 3) := by decide +kernel
theorem dX1_isCounter_18 : decode cX1_isCounter 18 = .ok (.if_acmp .eq 24, 3) := by decide +kernel
theorem dX1_isCounter_21 : decode cX1_isCounter 21 = .ok (.aload_n 0, 1) := by decide +kernel
theorem dX1_isCounter_22 : decode cX1_isCounter 22 = .ok (.getstatic 55, 3) := by decide +kernel
theorem dX1_isCounter_25 : decode cX1_isCounter 25 = .ok (.if_acmp .eq 17, 3) := by decide +kernel
theorem dX1_isCounter_28 : decode cX1_isCounter 28 = .ok (.aload_n 0, 1) := by decide +kernel
theorem dX1_isCounter_29 : decode cX1_isCounter 29 = .ok (.getstatic 58, 3) := by decide +kernel
theorem dX1_isCounter_32 : decode cX1_isCounter 32 = .ok (.if_acmp .eq 10, 3) := by decide +kernel
theorem dX1_isCounter_35 : decode cX1_isCounter 35 = .ok (.aload_n 0, 1) := by decide +kernel
theorem dX1_isCounter_36 : decode cX1_isCounter 36 = .ok (.getstatic 61, 3) := by decide +kernel
theorem dX1_isCounter_39 : decode cX1_isCounter 39 = .ok (.if_acmp .ne 7, 3) := by decide +kernel
theorem dX1_isCounter_42 : decode cX1_isCounter 42 = .ok (.iconst 1, 1) := by decide +kernel
theorem dX1_isCounter_43 : decode cX1_isCounter 43 = .ok (.goto 4, 3) := by decide +kernel
theorem dX1_isCounter_46 : decode cX1_isCounter 46 = .ok (.iconst 0, 1) := by decide +kernel
theorem dX1_isCounter_47 : decode cX1_isCounter 47 = .ok (.ireturn, 1) := by decide +kernel
theorem dX2_init_0 : decode cX2_init 0 = .ok (.aload_n 0, 1) := by decide +kernel
theorem dX2_init_1 : decode cX2_init 1 = .ok (.invokespecial 3, 3) := by decide +kernel
theorem dX2_init_4 : decode cX2_init 4 = .ok (.aload_n 0, 1) := by decide +kernel
theorem dX2_init_5 : decode cX2_init 5 = .ok (.sipush 501, 3) := by decide +kernel
theorem dX2_init_8 : decode cX2_init 8 = .ok (.anewarray 11, 3) := by decide +kernel
theorem dX2_init_11 : decode cX2_init 11 = .ok (.putfield 13, 3) := by decide +kernel
theorem dX2_init_14 : decode cX2_init 14 = .ok (.aload_n 0, 1) := by decide +kernel
theorem dX2_init_15 : decode cX2_init 15 = .ok (.sipush 501, 3) := by decide +kernel
theorem dX2_init_18 : decode cX2_init 18 = .ok (.newarray .int, 2) := by decide +kernel
theorem dX2_init_20 : decode cX2_init 20 = .ok (.putfield 17, 3) := by decide +kernel
theorem dX2_init_23 : decode cX2_init 23 = .ok (.aload_n 0, 1) := by decide +kernel
theorem dX2_init_24 : decode cX2_init 24 = .ok (.sipush 501, 3) := by decide +kernel
theorem dX2_init_27 : decode cX2_init 27 = .ok (.newarray .int, 2) := by decide +kernel
theorem dX2_init_29 : decode cX2_init 29 = .ok (.putfield 21, 3) := by decide +kernel
theorem dX2_init_32 : decode cX2_init 32 = .ok (.aload_n 0, 1) := by decide +kernel
theorem dX2_init_33 : decode cX2_init 33 = .ok (.iconst 0, 1) := by decide +kernel
theorem dX2_init_34 : decode cX2_init 34 = .ok (.putfield 24, 3) := by decide +kernel
theorem dX2_init_37 : decode cX2_init 37 = .ok (.aload_n 0, 1) := by decide +kernel
theorem dX2_init_38 : decode cX2_init 38 = .ok (.iconst 0, 1) := by decide +kernel
theorem dX2_init_39 : decode cX2_init 39 = .ok (.putfield 28, 3) := by decide +kernel
theorem dX2_init_42 : decode cX2_init 42 = .ok (.aload_n 0, 1) := by decide +kernel
theorem dX2_init_43 : decode cX2_init 43 = .ok (.iconst 0, 1) := by decide +kernel
theorem dX2_init_44 : decode cX2_init 44 = .ok (.putfield 31, 3) := by decide +kernel
theorem dX2_init_47 : decode cX2_init 47 = .ok (.aload_n 0, 1) := by decide +kernel
theorem dX2_init_48 : decode cX2_init 48 = .ok (.iconst 0, 1) := by decide +kernel
theorem dX2_init_49 : decode cX2_init 49 = .ok (.putfield 34, 3) := by decide +kernel
theorem dX2_init_52 : decode cX2_init 52 = .ok (.aload_n 0, 1) := by decide +kernel
theorem dX2_init_53 : decode cX2_init 53 = .ok (.iconst (-1), 1) := by decide +kernel
theorem dX2_init_54 : decode cX2_init 54 = .ok (.putfield 37, 3) := by decide +kernel
theorem dX2_init_57 : decode cX2_init 57 = .ok (.return_, 1) := by decide +kernel
theorem dX2_readTokens_0 : decode cX2_readTokens 0 = .ok (.aload_n 0, 1) := by decide +kernel
theorem dX2_readTokens_1 : decode cX2_readTokens 1 = .ok (.iconst 0, 1) := by decide +kernel
theorem dX2_readTokens_2 : decode cX2_readTokens 2 = .ok (.putfield 24, 3) := by decide +kernel
theorem dX2_readTokens_5 : decode cX2_readTokens 5 = .ok (.iconst 0, 1) := by decide +kernel
theorem dX2_readTokens_6 : decode cX2_readTokens 6 = .ok (.istore_n 3, 1) := by decide +kernel
theorem dX2_readTokens_7 : decode cX2_readTokens 7 = .ok (.iload_n 3, 1) := by decide +kernel
theorem dX2_readTokens_8 : decode cX2_readTokens 8 = .ok (.iload_n 2, 1) := by decide +kernel
theorem dX2_readTokens_9 : decode cX2_readTokens 9 = .ok (.if_icmp .ge 92, 3) := by decide +kernel
theorem dX2_readTokens_12 : decode cX2_readTokens 12 = .ok (.iload_n 3, 1) := by decide +kernel
theorem dX2_readTokens_13 : decode cX2_readTokens 13 = .ok (.istore 4, 2) := by decide +kernel
theorem dX2_readTokens_15 : decode cX2_readTokens 15 = .ok (.iinc 3 1, 3) := by decide +kernel
theorem dX2_readTokens_18 : decode cX2_readTokens 18 = .ok (.aload_n 1, 1) := by decide +kernel
theorem dX2_readTokens_19 : decode cX2_readTokens 19 = .ok (.iload 4, 2) := by decide +kernel
theorem dX2_readTokens_21 : decode cX2_readTokens 21 = .ok (.baload, 1) := by decide +kernel
theorem dX2_readTokens_22 : decode cX2_readTokens 22 = .ok (.invokestatic 40, 3) := by decide +kernel
theorem dX2_readTokens_25 : decode cX2_readTokens 25 = .ok (.ifCond .eq 6, 3) := by decide +kernel
theorem dX2_readTokens_28 : decode cX2_readTokens 28 = .ok (.goto (-21), 3) := by decide +kernel
theorem dX2_readTokens_31 : decode cX2_readTokens 31 = .ok (.iload_n 3, 1) := by decide +kernel
theorem dX2_readTokens_32 : decode cX2_readTokens 32 = .ok (.iload_n 2, 1) := by decide +kernel
theorem dX2_readTokens_33 : decode cX2_readTokens 33 = .ok (.if_icmp .ge 22, 3) := by decide +kernel
theorem dX2_readTokens_36 : decode cX2_readTokens 36 = .ok (.aload_n 1, 1) := by decide +kernel
theorem dX2_readTokens_37 : decode cX2_readTokens 37 = .ok (.iload 4, 2) := by decide +kernel
theorem dX2_readTokens_39 : decode cX2_readTokens 39 = .ok (.baload, 1) := by decide +kernel
theorem dX2_readTokens_40 : decode cX2_readTokens 40 = .ok (.aload_n 1, 1) := by decide +kernel
theorem dX2_readTokens_41 : decode cX2_readTokens 41 = .ok (.iload_n 3, 1) := by decide +kernel
theorem dX2_readTokens_42 : decode cX2_readTokens 42 = .ok (.baload, 1) := by decide +kernel
theorem dX2_readTokens_43 : decode cX2_readTokens 43 = .ok (.invokestatic 44, 3) := by decide +kernel
theorem dX2_readTokens_46 : decode cX2_readTokens 46 = .ok (.ifCond .eq 9, 3) := by decide +kernel
theorem dX2_readTokens_49 : decode cX2_readTokens 49 = .ok (.iinc 3 1, 3) := by decide +kernel
theorem dX2_readTokens_52 : decode cX2_readTokens 52 = .ok (.goto (-21), 3) := by decide +kernel
theorem dX2_readTokens_55 : decode cX2_readTokens 55 = .ok (.aload_n 1, 1) := by decide +kernel
theorem dX2_readTokens_56 : decode cX2_readTokens 56 = .ok (.iload 4, 2) := by decide +kernel
theorem dX2_readTokens_58 : decode cX2_readTokens 58 = .ok (.baload, 1) := by decide +kernel
theorem dX2_readTokens_59 : decode cX2_readTokens 59 = .ok (.invokestatic 48, 3) := by decide +kernel
theorem dX2_readTokens_62 : decode cX2_readTokens 62 = .ok (.ifCond .eq 22, 3) := by decide +kernel
theorem dX2_readTokens_65 : decode cX2_readTokens 65 = .ok (.aload_n 0, 1) := by decide +kernel
theorem dX2_readTokens_66 : decode cX2_readTokens 66 = .ok (.getstatic 51, 3) := by decide +kernel
theorem dX2_readTokens_69 : decode cX2_readTokens 69 = .ok (.iload 4, 2) := by decide +kernel
theorem dX2_readTokens_71 : decode cX2_readTokens 71 = .ok (.aload_n 1, 1) := by decide +kernel
theorem dX2_readTokens_72 : decode cX2_readTokens 72 = .ok (.iload 4, 2) := by decide +kernel
theorem dX2_readTokens_74 : decode cX2_readTokens 74 = .ok (.iload_n 3, 1) := by decide +kernel
theorem dX2_readTokens_75 : decode cX2_readTokens 75 = .ok (.invokestatic 55, 3) := by decide +kernel
theorem dX2_readTokens_78 : decode cX2_readTokens 78 = .ok (.invokevirtual 59, 3) := by decide +kernel
theorem dX2_readTokens_81 : decode cX2_readTokens 81 = .ok (.goto 17, 3) := by decide +kernel
theorem dX2_readTokens_84 : decode cX2_readTokens 84 = .ok (.aload_n 0, 1) := by decide +kernel
theorem dX2_readTokens_85 : decode cX2_readTokens 85 = .ok (.aload_n 1, 1) := by decide +kernel
theorem dX2_readTokens_86 : decode cX2_readTokens 86 = .ok (.iload 4, 2) := by decide +kernel
theorem dX2_readTokens_88 : decode cX2_readTokens 88 = .ok (.iload_n 3, 1) := by decide +kernel
theorem dX2_readTokens_89 : decode cX2_readTokens 89 = .ok (.invokestatic 63, 3) := by decide +kernel
theorem dX2_readTokens_92 : decode cX2_readTokens 92 = .ok (.iload 4, 2) := by decide +kernel
theorem dX2_readTokens_94 : decode cX2_readTokens 94 = .ok (.iconst 0, 1) := by decide +kernel
theorem dX2_readTokens_95 : decode cX2_readTokens 95 = .ok (.invokevirtual 59, 3) := by decide +kernel
theorem dX2_readTokens_98 : decode cX2_readTokens 98 = .ok (.goto (-91), 3) := by decide +kernel
theorem dX2_readTokens_101 : decode cX2_readTokens 101 = .ok (.aload_n 0, 1) := by decide +kernel
theorem dX2_readTokens_102 : decode cX2_readTokens 102 = .ok (.getstatic 67, 3) := by decide +kernel
theorem dX2_readTokens_105 : decode cX2_readTokens 105 = .ok (.iload_n 2, 1) := by decide +kernel
theorem dX2_readTokens_106 : decode cX2_readTokens 106 = .ok (.iconst 0, 1) := by decide +kernel
theorem dX2_readTokens_107 : decode cX2_readTokens 107 = .ok (.invokevirtual 59, 3) := by decide +kernel
theorem dX2_readTokens_110 : decode cX2_readTokens 110 = .ok (.aload_n 0, 1) := by decide +kernel
theorem dX2_readTokens_111 : decode cX2_readTokens 111 = .ok (.iconst 0, 1) := by decide +kernel
theorem dX2_readTokens_112 : decode cX2_readTokens 112 = .ok (.putfield 28, 3) := by decide +kernel
theorem dX2_readTokens_115 : decode cX2_readTokens 115 = .ok (.aload_n 0, 1) := by decide +kernel
theorem dX2_readTokens_116 : decode cX2_readTokens 116 = .ok (.iconst 0, 1) := by decide +kernel
theorem dX2_readTokens_117 : decode cX2_readTokens 117 = .ok (.putfield 31, 3) := by decide +kernel
theorem dX2_readTokens_120 : decode cX2_readTokens 120 = .ok (.aload_n 0, 1) := by decide +kernel
theorem dX2_readTokens_121 : decode cX2_readTokens 121 = .ok (.iconst 0, 1) := by decide +kernel
theorem dX2_readTokens_122 : decode cX2_readTokens 122 = .ok (.putfield 34, 3) := by decide +kernel
theorem dX2_readTokens_125 : decode cX2_readTokens 125 = .ok (.aload_n 0, 1) := by decide +kernel
theorem dX2_readTokens_126 : decode cX2_readTokens 126 = .ok (.iconst (-1), 1) := by decide +kernel
theorem dX2_readTokens_127 : decode cX2_readTokens 127 = .ok (.putfield 37, 3) := by decide +kernel
theorem dX2_readTokens_130 : decode cX2_readTokens 130 = .ok (.return_, 1) := by decide +kernel
theorem dX2_addToken_0 : decode cX2_addToken 0 = .ok (.aload_n 0, 1) := by decide +kernel
theorem dX2_addToken_1 : decode cX2_addToken 1 = .ok (.getfield 24, 3) := by decide +kernel
theorem dX2_addToken_4 : decode cX2_addToken 4 = .ok (.sipush 501, 3) := by decide +kernel
theorem dX2_addToken_7 : decode cX2_addToken 7 = .ok (.if_icmp .ge 43, 3) := by decide +kernel
theorem dX2_addToken_10 : decode cX2_addToken 10 = .ok (.aload_n 0, 1) := by decide +kernel
theorem dX2_addToken_11 : decode cX2_addToken 11 = .ok (.getfield 13, 3) := by decide +kernel
theorem dX2_addToken_14 : decode cX2_addToken 14 = .ok (.aload_n 0, 1) := by decide +kernel
theorem dX2_addToken_15 : decode cX2_addToken 15 = .ok (.getfield 24, 3) := by decide +kernel
theorem dX2_addToken_18 : decode cX2_addToken 18 = .ok (.aload_n 1, 1) := by decide +kernel
theorem dX2_addToken_19 : decode cX2_addToken 19 = .ok (.aastore, 1) := by decide +kernel
theorem dX2_addToken_20 : decode cX2_addToken 20 = .ok (.aload_n 0, 1) := by decide +kernel
theorem dX2_addToken_21 : decode cX2_addToken 21 = .ok (.getfield 17, 3) := by decide +kernel
theorem dX2_addToken_24 : decode cX2_addToken 24 = .ok (.aload_n 0, 1) := by decide +kernel
theorem dX2_addToken_25 : decode cX2_addToken 25 = .ok (.getfield 24, 3) := by decide +kernel
theorem dX2_addToken_28 : decode cX2_addToken 28 = .ok (.iload_n 2, 1) := by decide +kernel
theorem dX2_addToken_29 : decode cX2_addToken 29 = .ok (.iastore, 1) := by decide +kernel
theorem dX2_addToken_30 : decode cX2_addToken 30 = .ok (.aload_n 0, 1) := by decide +kernel
theorem dX2_addToken_31 : decode cX2_addToken 31 = .ok (.getfield 21, 3) := by decide +kernel
theorem dX2_addToken_34 : decode cX2_addToken 34 = .ok (.aload_n 0, 1) := by decide +kernel
theorem dX2_addToken_35 : decode cX2_addToken 35 = .ok (.getfield 24, 3) := by decide +kernel
theorem dX2_addToken_38 : decode cX2_addToken 38 = .ok (.iload_n 3, 1) := by decide +kernel
theorem dX2_addToken_39 : decode cX2_addToken 39 = .ok (.iastore, 1) := by decide +kernel
theorem dX2_addToken_40 : decode cX2_addToken 40 = .ok (.aload_n 0, 1) := by decide +kernel
theorem dX2_addToken_41 : decode cX2_addToken 41 = .ok (.dup, 1) := by decide +kernel
theorem dX2_addToken_42 : decode cX2_addToken 42 = .ok (.getfield 24, 3) := by decide +kernel
theorem dX2_addToken_45 : decode cX2_addToken 45 = .ok (.iconst 1, 1) := by decide +kernel
theorem dX2_addToken_46 : decode cX2_addToken 46 = .ok (.iadd, 1) := by decide +kernel
theorem dX2_addToken_47 : decode cX2_addToken 47 = .ok (.putfield 24, 3) := by decide +kernel
theorem dX2_addToken_50 : decode cX2_addToken 50 = .ok (.return_, 1) := by decide +kernel
theorem dX2_isSpace_0 : decode cX2_isSpace 0 = .ok (.iload_n 0, 1) := by decide +kernel
theorem dX2_isSpace_1 : decode cX2_isSpace 1 = .ok (.bipush 32, 2) := by decide +kernel
theorem dX2_isSpace_3 : decode cX2_isSpace 3 = .ok (.if_icmp .eq 15, 3) := by decide +kernel
theorem dX2_isSpace_6 : decode cX2_isSpace 6 = .ok (.iload_n 0, 1) := by decide +kernel
theorem dX2_isSpace_7 : decode cX2_isSpace 7 = .ok (.bipush 9, 2) := by decide +kernel
theorem dX2_isSpace_9 : decode cX2_isSpace 9 = .ok (.if_icmp .eq 9, 3) := by decide +kernel
theorem dX2_isSpace_12 : decode cX2_isSpace 12 = .ok (.iload_n 0, 1) := by decide +kernel
theorem dX2_isSpace_13 : decode cX2_isSpace 13 = .ok (.bipush 10, 2) := by decide +kernel
theorem dX2_isSpace_15 : decode cX2_isSpace 15 = .ok (.if_icmp .ne 7, 3) := by decide +kernel
theorem dX2_isSpace_18 : decode cX2_isSpace 18 = .ok (.iconst 1, 1) := by decide +kernel
theorem dX2_isSpace_19 : decode cX2_isSpace 19 = .ok (.goto 4, 3) := by decide +kernel
theorem dX2_isSpace_22 : decode cX2_isSpace 22 = .ok (.iconst 0, 1) := by decide +kernel
theorem dX2_isSpace_23 : decode cX2_isSpace 23 = .ok (.ireturn, 1) := by decide +kernel
theorem dX2_isDigit_0 : decode cX2_isDigit 0 = .ok (.iload_n 0, 1) := by decide +kernel
theorem dX2_isDigit_1 : decode cX2_isDigit 1 = .ok (.bipush 48, 2) := by decide +kernel
theorem dX2_isDigit_3 : decode cX2_isDigit 3 = .ok (.if_icmp .lt 13, 3) := by decide +kernel
theorem dX2_isDigit_6 : decode cX2_isDigit 6 = .ok (.iload_n 0, 1) := by decide +kernel
theorem dX2_isDigit_7 : decode cX2_isDigit 7 = .ok (.bipush 57, 2) := by decide +kernel
theorem dX2_isDigit_9 : decode cX2_isDigit 9 = .ok (.if_icmp .gt 7, 3) := by decide +kernel
theorem dX2_isDigit_12 : decode cX2_isDigit 12 = .ok (.iconst 1, 1) := by decide +kernel
theorem dX2_isDigit_13 : decode cX2_isDigit 13 = .ok (.goto 4, 3) := by decide +kernel
theorem dX2_isDigit_16 : decode cX2_isDigit 16 = .ok (.iconst 0, 1) := by decide +kernel
theorem dX2_isDigit_17 : decode cX2_isDigit 17 = .ok (.ireturn, 1) := by decide +kernel
theorem dX2_isLetter_0 : decode cX2_isLetter 0 = .ok (.iload_n 0, 1) := by decide +kernel
theorem dX2_isLetter_1 : decode cX2_isLetter 1 = .ok (.bipush 97, 2) := by decide +kernel
theorem dX2_isLetter_3 : decode cX2_isLetter 3 = .ok (.if_icmp .lt 13, 3) := by decide +kernel
theorem dX2_isLetter_6 : decode cX2_isLetter 6 = .ok (.iload_n 0, 1) := by decide +kernel
theorem dX2_isLetter_7 : decode cX2_isLetter 7 = .ok (.bipush 122, 2) := by decide +kernel
theorem dX2_isLetter_9 : decode cX2_isLetter 9 = .ok (.if_icmp .gt 7, 3) := by decide +kernel
theorem dX2_isLetter_12 : decode cX2_isLetter 12 = .ok (.iconst 1, 1) := by decide +kernel
theorem dX2_isLetter_13 : decode cX2_isLetter 13 = .ok (.goto 4, 3) := by decide +kernel
theorem dX2_isLetter_16 : decode cX2_isLetter 16 = .ok (.iconst 0, 1) := by decide +kernel
theorem dX2_isLetter_17 : decode cX2_isLetter 17 = .ok (.ireturn, 1) := by decide +kernel
theorem dX2_belongTogether_0 : decode cX2_belongTogether 0 = .ok (.iload_n 0, 1) := by decide +kernel
theorem dX2_belongTogether_1 : decode cX2_belongTogether 1 = .ok (.invokestatic 70, 3) := by decide +kernel
theorem dX2_belongTogether_4 : decode cX2_belongTogether 4 = .ok (.ifCond .eq 10, 3) := by decide +kernel
theorem dX2_belongTogether_7 : decode cX2_belongTogether 7 = .ok (.iload_n 1, 1) := by decide +kernel
theorem dX2_belongTogether_8 : decode cX2_belongTogether 8 = .ok (.invokestatic 70, 3) := by decide +kernel
theorem dX2_belongTogether_11 : decode cX2_belongTogether 11 = .ok (.ifCond .ne 17, 3) := by decide +kernel
theorem dX2_belongTogether_14 : decode cX2_belongTogether 14 = .ok (.iload_n 0, 1) := by decide +kernel
theorem dX2_belongTogether_15 : decode cX2_belongTogether 15 = .ok (.invokestatic 48, 3) := by decide +kernel
theorem dX2_belongTogether_18 : decode cX2_belongTogether 18 = .ok (.ifCond .eq 14, 3) := by decide +kernel
theorem dX2_belongTogether_21 : decode cX2_belongTogether 21 = .ok (.iload_n 1, 1) := by decide +kernel
theorem dX2_belongTogether_22 : decode cX2_belongTogether 22 = .ok (.invokestatic 48, 3) := by decide +kernel
theorem dX2_belongTogether_25 : decode cX2_belongTogether 25 = .ok (.ifCond .eq 7, 3) := by decide +kernel
theorem dX2_belongTogether_28 : decode cX2_belongTogether 28 = .ok (.iconst 1, 1) := by decide +kernel
theorem dX2_belongTogether_29 : decode cX2_belongTogether 29 = .ok (.goto 4, 3) := by decide +kernel
theorem dX2_belongTogether_32 : decode cX2_belongTogether 32 = .ok (.iconst 0, 1) := by decide +kernel
theorem dX2_belongTogether_33 : decode cX2_belongTogether 33 = .ok (.ireturn, 1) := by decide +kernel
theorem dX2_numberOf_0 : decode cX2_numberOf 0 = .ok (.iload_n 2, 1) := by decide +kernel
theorem dX2_numberOf_1 : decode cX2_numberOf 1 = .ok (.iload_n 1, 1) := by decide +kernel
theorem dX2_numberOf_2 : decode cX2_numberOf 2 = .ok (.isub, 1) := by decide +kernel
theorem dX2_numberOf_3 : decode cX2_numberOf 3 = .ok (.iconst 3, 1) := by decide +kernel
theorem dX2_numberOf_4 : decode cX2_numberOf 4 = .ok (.if_icmp .le 7, 3) := by decide +kernel
theorem dX2_numberOf_7 : decode cX2_numberOf 7 = .ok (.sipush 1000, 3) := by decide +kernel
theorem dX2_numberOf_10 : decode cX2_numberOf 10 = .ok (.ireturn, 1) := by decide +kernel
theorem dX2_numberOf_11 : decode cX2_numberOf 11 = .ok (.iconst 0, 1) := by decide +kernel
theorem dX2_numberOf_12 : decode cX2_numberOf 12 = .ok (.istore_n 3, 1) := by decide +kernel
theorem dX2_numberOf_13 : decode cX2_numberOf 13 = .ok (.iload_n 1, 1) := by decide +kernel
theorem dX2_numberOf_14 : decode cX2_numberOf 14 = .ok (.istore 4, 2) := by decide +kernel
theorem dX2_numberOf_16 : decode cX2_numberOf 16 = .ok (.iload 4, 2) := by decide +kernel
theorem dX2_numberOf_18 : decode cX2_numberOf 18 = .ok (.iload_n 2, 1) := by decide +kernel
theorem dX2_numberOf_19 : decode cX2_numberOf 19 = .ok (.if_icmp .ge 22, 3) := by decide +kernel
theorem dX2_numberOf_22 : decode cX2_numberOf 22 = .ok (.iload_n 3, 1) := by decide +kernel
theorem dX2_numberOf_23 : decode cX2_numberOf 23 = .ok (.bipush 10, 2) := by decide +kernel
theorem dX2_numberOf_25 : decode cX2_numberOf 25 = .ok (.imul, 1) := by decide +kernel
theorem dX2_numberOf_26 : decode cX2_numberOf 26 = .ok (.aload_n 0, 1) := by decide +kernel
theorem dX2_numberOf_27 : decode cX2_numberOf 27 = .ok (.iload 4, 2) := by decide +kernel
theorem dX2_numberOf_29 : decode cX2_numberOf 29 = .ok (.baload, 1) := by decide +kernel
theorem dX2_numberOf_30 : decode cX2_numberOf 30 = .ok (.iadd, 1) := by decide +kernel
theorem dX2_numberOf_31 : decode cX2_numberOf 31 = .ok (.bipush 48, 2) := by decide +kernel
theorem dX2_numberOf_33 : decode cX2_numberOf 33 = .ok (.isub, 1) := by decide +kernel
theorem dX2_numberOf_34 : decode cX2_numberOf 34 = .ok (.istore_n 3, 1) := by decide +kernel
theorem dX2_numberOf_35 : decode cX2_numberOf 35 = .ok (.iinc 4 1, 3) := by decide +kernel
theorem dX2_numberOf_38 : decode cX2_numberOf 38 = .ok (.goto (-22), 3) := by decide +kernel
theorem dX2_numberOf_41 : decode cX2_numberOf 41 = .ok (.iload_n 3, 1) := by decide +kernel
theorem dX2_numberOf_42 : decode cX2_numberOf 42 = .ok (.ireturn, 1) := by decide +kernel
theorem dX2_kindOf_0 : decode cX2_kindOf 0 = .ok (.getstatic 73, 3) := by decide +kernel
theorem dX2_kindOf_3 : decode cX2_kindOf 3 = .ok (.astore_n 3, 1) := by decide +kernel
theorem dX2_kindOf_4 : decode cX2_kindOf 4 = .ok (.aload_n 3, 1) := by decide +kernel
theorem dX2_kindOf_5 : decode cX2_kindOf 5 = .ok (.arraylength, 1) := by decide +kernel
theorem dX2_kindOf_6 : decode cX2_kindOf 6 = .ok (.istore 4, 2) := by decide +kernel
theorem dX2_kindOf_8 : decode cX2_kindOf 8 = .ok (.iconst 0, 1) := by decide +kernel
theorem dX2_kindOf_9 : decode cX2_kindOf 9 = .ok (.istore 5, 2) := by decide +kernel
theorem dX2_kindOf_11 : decode cX2_kindOf 11 = .ok (.iload 5, 2) := by decide +kernel
theorem dX2_kindOf_13 : decode cX2_kindOf 13 = .ok (.iload 4, 2) := by decide +kernel
theorem dX2_kindOf_15 : decode cX2_kindOf 15 = .ok (.if_icmp .ge 32, 3) := by decide +kernel
theorem dX2_kindOf_18 : decode cX2_kindOf 18 = .ok (.aload_n 3, 1) := by decide +kernel
theorem dX2_kindOf_19 : decode cX2_kindOf 19 = .ok (.iload 5, 2) := by decide +kernel
theorem dX2_kindOf_21 : decode cX2_kindOf 21 = .ok (.aaload, 1) := by decide +kernel
theorem dX2_kindOf_22 : decode cX2_kindOf 22 = .ok (.astore 6, 2) := by decide +kernel
theorem dX2_kindOf_24 : decode cX2_kindOf 24 = .ok (.aload 6, 2) := by decide +kernel
theorem dX2_kindOf_26 : decode cX2_kindOf 26 = .ok (.getfield 76, 3) := by decide +kernel
theorem dX2_kindOf_29 : decode cX2_kindOf 29 = .ok (.aload_n 0, 1) := by decide +kernel
theorem dX2_kindOf_30 : decode cX2_kindOf 30 = .ok (.iload_n 1, 1) := by decide +kernel
theorem dX2_kindOf_31 : decode cX2_kindOf 31 = .ok (.iload_n 2, 1) := by decide +kernel
theorem dX2_kindOf_32 : decode cX2_kindOf 32 = .ok (.invokestatic 80, 3) := by decide +kernel
theorem dX2_kindOf_35 : decode cX2_kindOf 35 = .ok (.ifCond .eq 6, 3) := by decide +kernel
theorem dX2_kindOf_38 : decode cX2_kindOf 38 = .ok (.aload 6, 2) := by decide +kernel
theorem dX2_kindOf_40 : decode cX2_kindOf 40 = .ok (.areturn, 1) := by decide +kernel
theorem dX2_kindOf_41 : decode cX2_kindOf 41 = .ok (.iinc 5 1, 3) := by decide +kernel
theorem dX2_kindOf_44 : decode cX2_kindOf 44 = .ok (.goto (-33), 3) := by decide +kernel
theorem dX2_kindOf_47 : decode cX2_kindOf 47 = .ok (.getstatic 84, 3) := by decide +kernel
theorem dX2_kindOf_50 : decode cX2_kindOf 50 = .ok (.areturn, 1) := by decide +kernel
theorem dX2_isText_0 : decode cX2_isText 0 = .ok (.aload_n 0, 1) := by decide +kernel
theorem dX2_isText_1 : decode cX2_isText 1 = .ok (.invokevirtual 87, 3) := by decide +kernel
theorem dX2_isText_4 : decode cX2_isText 4 = .ok (.iload_n 3, 1) := by decide +kernel
theorem dX2_isText_5 : decode cX2_isText 5 = .ok (.iload_n 2, 1) := by decide +kernel
theorem dX2_isText_6 : decode cX2_isText 6 = .ok (.isub, 1) := by decide +kernel
theorem dX2_isText_7 : decode cX2_isText 7 = .ok (.if_icmp .eq 5, 3) := by decide +kernel
theorem dX2_isText_10 : decode cX2_isText 10 = .ok (.iconst 0, 1) := by decide +kernel
theorem dX2_isText_11 : decode cX2_isText 11 = .ok (.ireturn, 1) := by decide +kernel
theorem dX2_isText_12 : decode cX2_isText 12 = .ok (.iload_n 2, 1) := by decide +kernel
theorem dX2_isText_13 : decode cX2_isText 13 = .ok (.istore 4, 2) := by decide +kernel
theorem dX2_isText_15 : decode cX2_isText 15 = .ok (.iload 4, 2) := by decide +kernel
theorem dX2_isText_17 : decode cX2_isText 17 = .ok (.iload_n 3, 1) := by decide +kernel
theorem dX2_isText_18 : decode cX2_isText 18 = .ok (.if_icmp .ge 26, 3) := by decide +kernel
theorem dX2_isText_21 : decode cX2_isText 21 = .ok (.aload_n 0, 1) := by decide +kernel
theorem dX2_isText_22 : decode cX2_isText 22 = .ok (.iload 4, 2) := by decide +kernel
theorem dX2_isText_24 : decode cX2_isText 24 = .ok (.iload_n 2, 1) := by decide +kernel
theorem dX2_isText_25 : decode cX2_isText 25 = .ok (.isub, 1) := by decide +kernel
theorem dX2_isText_26 : decode cX2_isText 26 = .ok (.invokevirtual 93, 3) := by decide +kernel
theorem dX2_isText_29 : decode cX2_isText 29 = .ok (.aload_n 1, 1) := by decide +kernel
theorem dX2_isText_30 : decode cX2_isText 30 = .ok (.iload 4, 2) := by decide +kernel
theorem dX2_isText_32 : decode cX2_isText 32 = .ok (.baload, 1) := by decide +kernel
theorem dX2_isText_33 : decode cX2_isText 33 = .ok (.if_icmp .eq 5, 3) := by decide +kernel
theorem dX2_isText_36 : decode cX2_isText 36 = .ok (.iconst 0, 1) := by decide +kernel
theorem dX2_isText_37 : decode cX2_isText 37 = .ok (.ireturn, 1) := by decide +kernel
theorem dX2_isText_38 : decode cX2_isText 38 = .ok (.iinc 4 1, 3) := by decide +kernel
theorem dX2_isText_41 : decode cX2_isText 41 = .ok (.goto (-26), 3) := by decide +kernel
theorem dX2_isText_44 : decode cX2_isText 44 = .ok (.iconst 1, 1) := by decide +kernel
theorem dX2_isText_45 : decode cX2_isText 45 = .ok (.ireturn, 1) := by decide +kernel
theorem dX2_performHeader_0 : decode cX2_performHeader 0 = .ok (.aload_n 0, 1) := by decide +kernel
theorem dX2_performHeader_1 : decode cX2_performHeader 1 = .ok (.getstatic 97, 3) := by decide +kernel
theorem dX2_performHeader_4 : decode cX2_performHeader 4 = .ok (.invokevirtual 100, 3) := by decide +kernel
theorem dX2_performHeader_7 : decode cX2_performHeader 7 = .ok (.ifCond .ne 5, 3) := by decide +kernel
theorem dX2_performHeader_10 : decode cX2_performHeader 10 = .ok (.iconst 0, 1) := by decide +kernel
theorem dX2_performHeader_11 : decode cX2_performHeader 11 = .ok (.ireturn, 1) := by decide +kernel
theorem dX2_performHeader_12 : decode cX2_performHeader 12 = .ok (.aload_n 0, 1) := by decide +kernel
theorem dX2_performHeader_13 : decode cX2_performHeader 13 = .ok (.iconst 2, 1) := by decide +kernel
theorem dX2_performHeader_14 : decode cX2_performHeader 14 = .ok (.bipush 20, 2) := by decide +kernel
theorem dX2_performHeader_16 : decode cX2_performHeader 16 = .ok (.invokevirtual 104, 3) := by decide +kernel
theorem dX2_performHeader_19 : decode cX2_performHeader 19 = .ok (.istore_n 2, 1) := by decide +kernel
theorem dX2_performHeader_20 : decode cX2_performHeader 20 = .ok (.iload_n 2, 1) := by decide +kernel
theorem dX2_performHeader_21 : decode cX2_performHeader 21 = .ok (.iconst (-1), 1) := by decide +kernel
theorem dX2_performHeader_22 : decode cX2_performHeader 22 = .ok (.if_icmp .ne 5, 3) := by decide +kernel
theorem dX2_performHeader_25 : decode cX2_performHeader 25 = .ok (.iconst 0, 1) := by decide +kernel
theorem dX2_performHeader_26 : decode cX2_performHeader 26 = .ok (.ireturn, 1) := by decide +kernel
theorem dX2_performHeader_27 : decode cX2_performHeader 27 = .ok (.aload_n 0, 1) := by decide +kernel
theorem dX2_performHeader_28 : decode cX2_performHeader 28 = .ok (.iconst 1, 1) := by decide +kernel
theorem dX2_performHeader_29 : decode cX2_performHeader 29 = .ok (.bipush 8, 2) := by decide +kernel
theorem dX2_performHeader_31 : decode cX2_performHeader 31 = .ok (.invokevirtual 104, 3) := by decide +kernel
theorem dX2_performHeader_34 : decode cX2_performHeader 34 = .ok (.istore_n 3, 1) := by decide +kernel
theorem dX2_performHeader_35 : decode cX2_performHeader 35 = .ok (.iload_n 3, 1) := by decide +kernel
theorem dX2_performHeader_36 : decode cX2_performHeader 36 = .ok (.iconst (-1), 1) := by decide +kernel
theorem dX2_performHeader_37 : decode cX2_performHeader 37 = .ok (.if_icmp .ne 5, 3) := by decide +kernel
theorem dX2_performHeader_40 : decode cX2_performHeader 40 = .ok (.iconst 0, 1) := by decide +kernel
theorem dX2_performHeader_41 : decode cX2_performHeader 41 = .ok (.ireturn, 1) := by decide +kernel
theorem dX2_performHeader_42 : decode cX2_performHeader 42 = .ok (.aload_n 0, 1) := by decide +kernel
theorem dX2_performHeader_43 : decode cX2_performHeader 43 = .ok (.invokevirtual 108, 3) := by decide +kernel
theorem dX2_performHeader_46 : decode cX2_performHeader 46 = .ok (.istore 4, 2) := by decide +kernel
theorem dX2_performHeader_48 : decode cX2_performHeader 48 = .ok (.iload 4, 2) := by decide +kernel
theorem dX2_performHeader_50 : decode cX2_performHeader 50 = .ok (.iconst (-1), 1) := by decide +kernel
theorem dX2_performHeader_51 : decode cX2_performHeader 51 = .ok (.if_icmp .ne 5, 3) := by decide +kernel
theorem dX2_performHeader_54 : decode cX2_performHeader 54 = .ok (.iconst 0, 1) := by decide +kernel
theorem dX2_performHeader_55 : decode cX2_performHeader 55 = .ok (.ireturn, 1) := by decide +kernel
theorem dX2_performHeader_56 : decode cX2_performHeader 56 = .ok (.aload_n 1, 1) := by decide +kernel
theorem dX2_performHeader_57 : decode cX2_performHeader 57 = .ok (.iload_n 2, 1) := by decide +kernel
theorem dX2_performHeader_58 : decode cX2_performHeader 58 = .ok (.iload_n 3, 1) := by decide +kernel
theorem dX2_performHeader_59 : decode cX2_performHeader 59 = .ok (.iload 4, 2) := by decide +kernel
theorem dX2_performHeader_61 : decode cX2_performHeader 61 = .ok (.invokevirtual 111, 3) := by decide +kernel
theorem dX2_performHeader_64 : decode cX2_performHeader 64 = .ok (.aload_n 0, 1) := by decide +kernel
theorem dX2_performHeader_65 : decode cX2_performHeader 65 = .ok (.getstatic 117, 3) := by decide +kernel
theorem dX2_performHeader_68 : decode cX2_performHeader 68 = .ok (.invokevirtual 100, 3) := by decide +kernel
theorem dX2_performHeader_71 : decode cX2_performHeader 71 = .ok (.ireturn, 1) := by decide +kernel
theorem dX2_performCommands_0 : decode cX2_performCommands 0 = .ok (.aload_n 0, 1) := by decide +kernel
theorem dX2_performCommands_1 : decode cX2_performCommands 1 = .ok (.aload_n 1, 1) := by decide +kernel
theorem dX2_performCommands_2 : decode cX2_performCommands 2 = .ok (.putfield 120, 3) := by decide +kernel
theorem dX2_performCommands_5 : decode cX2_performCommands 5 = .ok (.iconst 0, 1) := by decide +kernel
theorem dX2_performCommands_6 : decode cX2_performCommands 6 = .ok (.istore_n 2, 1) := by decide +kernel
theorem dX2_performCommands_7 : decode cX2_performCommands 7 = .ok (.iload_n 2, 1) := by decide +kernel
theorem dX2_performCommands_8 : decode cX2_performCommands 8 = .ok (.sipush 501, 3) := by decide +kernel
theorem dX2_performCommands_11 : decode cX2_performCommands 11 = .ok (.if_icmp .ge 57, 3) := by decide +kernel
theorem dX2_performCommands_14 : decode cX2_performCommands 14 = .ok (.aload_n 0, 1) := by decide +kernel
theorem dX2_performCommands_15 : decode cX2_performCommands 15 = .ok (.invokevirtual 124, 3) := by decide +kernel
theorem dX2_performCommands_18 : decode cX2_performCommands 18 = .ok (.getstatic 67, 3) := by decide +kernel
theorem dX2_performCommands_21 : decode cX2_performCommands 21 = .ok (.if_acmp .eq 47, 3) := by decide +kernel
theorem dX2_performCommands_24 : decode cX2_performCommands 24 = .ok (.aload_n 0, 1) := by decide +kernel
theorem dX2_performCommands_25 : decode cX2_performCommands 25 = .ok (.invokevirtual 124, 3) := by decide +kernel
theorem dX2_performCommands_28 : decode cX2_performCommands 28 = .ok (.getstatic 128, 3) := by decide +kernel
theorem dX2_performCommands_31 : decode cX2_performCommands 31 = .ok (.if_acmp .ne 10, 3) := by decide +kernel
theorem dX2_performCommands_34 : decode cX2_performCommands 34 = .ok (.aload_n 0, 1) := by decide +kernel
theorem dX2_performCommands_35 : decode cX2_performCommands 35 = .ok (.invokevirtual 131, 3) := by decide +kernel
theorem dX2_performCommands_38 : decode cX2_performCommands 38 = .ok (.goto 7, 3) := by decide +kernel
theorem dX2_performCommands_41 : decode cX2_performCommands 41 = .ok (.aload_n 0, 1) := by decide +kernel
theorem dX2_performCommands_42 : decode cX2_performCommands 42 = .ok (.invokevirtual 135, 3) := by decide +kernel
theorem dX2_performCommands_45 : decode cX2_performCommands 45 = .ok (.istore_n 3, 1) := by decide +kernel
theorem dX2_performCommands_46 : decode cX2_performCommands 46 = .ok (.iload_n 3, 1) := by decide +kernel
theorem dX2_performCommands_47 : decode cX2_performCommands 47 = .ok (.ifCond .eq 13, 3) := by decide +kernel
theorem dX2_performCommands_50 : decode cX2_performCommands 50 = .ok (.aload_n 0, 1) := by decide +kernel
theorem dX2_performCommands_51 : decode cX2_performCommands 51 = .ok (.getstatic 117, 3) := by decide +kernel
theorem dX2_performCommands_54 : decode cX2_performCommands 54 = .ok (.invokevirtual 100, 3) := by decide +kernel
theorem dX2_performCommands_57 : decode cX2_performCommands 57 = .ok (.ifCond .ne 5, 3) := by decide +kernel
theorem dX2_performCommands_60 : decode cX2_performCommands 60 = .ok (.iconst 0, 1) := by decide +kernel
theorem dX2_performCommands_61 : decode cX2_performCommands 61 = .ok (.ireturn, 1) := by decide +kernel
theorem dX2_performCommands_62 : decode cX2_performCommands 62 = .ok (.iinc 2 1, 3) := by decide +kernel
theorem dX2_performCommands_65 : decode cX2_performCommands 65 = .ok (.goto (-58), 3) := by decide +kernel
theorem dX2_performCommands_68 : decode cX2_performCommands 68 = .ok (.iconst 1, 1) := by decide +kernel
theorem dX2_performCommands_69 : decode cX2_performCommands 69 = .ok (.ireturn, 1) := by decide +kernel
theorem dX2_performRepeat_0 : decode cX2_performRepeat 0 = .ok (.aload_n 0, 1) := by decide +kernel
theorem dX2_performRepeat_1 : decode cX2_performRepeat 1 = .ok (.dup, 1) := by decide +kernel
theorem dX2_performRepeat_2 : decode cX2_performRepeat 2 = .ok (.getfield 28, 3) := by decide +kernel
theorem dX2_performRepeat_5 : decode cX2_performRepeat 5 = .ok (.iconst 1, 1) := by decide +kernel
theorem dX2_performRepeat_6 : decode cX2_performRepeat 6 = .ok (.iadd, 1) := by decide +kernel
theorem dX2_performRepeat_7 : decode cX2_performRepeat 7 = .ok (.putfield 28, 3) := by decide +kernel
theorem dX2_performRepeat_10 : decode cX2_performRepeat 10 = .ok (.aload_n 0, 1) := by decide +kernel
theorem dX2_performRepeat_11 : decode cX2_performRepeat 11 = .ok (.iconst 1, 1) := by decide +kernel
theorem dX2_performRepeat_12 : decode cX2_performRepeat 12 = .ok (.bipush 9, 2) := by decide +kernel
theorem dX2_performRepeat_14 : decode cX2_performRepeat 14 = .ok (.invokevirtual 104, 3) := by decide +kernel
theorem dX2_performRepeat_17 : decode cX2_performRepeat 17 = .ok (.istore_n 1, 1) := by decide +kernel
theorem dX2_performRepeat_18 : decode cX2_performRepeat 18 = .ok (.iload_n 1, 1) := by decide +kernel
theorem dX2_performRepeat_19 : decode cX2_performRepeat 19 = .ok (.iconst (-1), 1) := by decide +kernel
theorem dX2_performRepeat_20 : decode cX2_performRepeat 20 = .ok (.if_icmp .eq 13, 3) := by decide +kernel
theorem dX2_performRepeat_23 : decode cX2_performRepeat 23 = .ok (.aload_n 0, 1) := by decide +kernel
theorem dX2_performRepeat_24 : decode cX2_performRepeat 24 = .ok (.getstatic 138, 3) := by decide +kernel
theorem dX2_performRepeat_27 : decode cX2_performRepeat 27 = .ok (.invokevirtual 100, 3) := by decide +kernel
theorem dX2_performRepeat_30 : decode cX2_performRepeat 30 = .ok (.ifCond .ne 5, 3) := by decide +kernel
theorem dX2_performRepeat_33 : decode cX2_performRepeat 33 = .ok (.iconst 0, 1) := by decide +kernel
theorem dX2_performRepeat_34 : decode cX2_performRepeat 34 = .ok (.ireturn, 1) := by decide +kernel
theorem dX2_performRepeat_35 : decode cX2_performRepeat 35 = .ok (.aload_n 0, 1) := by decide +kernel
theorem dX2_performRepeat_36 : decode cX2_performRepeat 36 = .ok (.getfield 28, 3) := by decide +kernel
theorem dX2_performRepeat_39 : decode cX2_performRepeat 39 = .ok (.istore_n 2, 1) := by decide +kernel
theorem dX2_performRepeat_40 : decode cX2_performRepeat 40 = .ok (.iconst 0, 1) := by decide +kernel
theorem dX2_performRepeat_41 : decode cX2_performRepeat 41 = .ok (.istore_n 3, 1) := by decide +kernel
theorem dX2_performRepeat_42 : decode cX2_performRepeat 42 = .ok (.iload_n 3, 1) := by decide +kernel
theorem dX2_performRepeat_43 : decode cX2_performRepeat 43 = .ok (.iload_n 1, 1) := by decide +kernel
theorem dX2_performRepeat_44 : decode cX2_performRepeat 44 = .ok (.if_icmp .ge 60, 3) := by decide +kernel
theorem dX2_performRepeat_47 : decode cX2_performRepeat 47 = .ok (.aload_n 0, 1) := by decide +kernel
theorem dX2_performRepeat_48 : decode cX2_performRepeat 48 = .ok (.iload_n 2, 1) := by decide +kernel
theorem dX2_performRepeat_49 : decode cX2_performRepeat 49 = .ok (.putfield 28, 3) := by decide +kernel
theorem dX2_performRepeat_52 : decode cX2_performRepeat 52 = .ok (.iconst 0, 1) := by decide +kernel
theorem dX2_performRepeat_53 : decode cX2_performRepeat 53 = .ok (.istore 4, 2) := by decide +kernel
theorem dX2_performRepeat_55 : decode cX2_performRepeat 55 = .ok (.iload 4, 2) := by decide +kernel
theorem dX2_performRepeat_57 : decode cX2_performRepeat 57 = .ok (.sipush 501, 3) := by decide +kernel
theorem dX2_performRepeat_60 : decode cX2_performRepeat 60 = .ok (.if_icmp .ge 38, 3) := by decide +kernel
theorem dX2_performRepeat_63 : decode cX2_performRepeat 63 = .ok (.aload_n 0, 1) := by decide +kernel
theorem dX2_performRepeat_64 : decode cX2_performRepeat 64 = .ok (.invokevirtual 124, 3) := by decide +kernel
theorem dX2_performRepeat_67 : decode cX2_performRepeat 67 = .ok (.getstatic 141, 3) := by decide +kernel
theorem dX2_performRepeat_70 : decode cX2_performRepeat 70 = .ok (.if_acmp .eq 28, 3) := by decide +kernel
theorem dX2_performRepeat_73 : decode cX2_performRepeat 73 = .ok (.aload_n 0, 1) := by decide +kernel
theorem dX2_performRepeat_74 : decode cX2_performRepeat 74 = .ok (.invokevirtual 135, 3) := by decide +kernel
theorem dX2_performRepeat_77 : decode cX2_performRepeat 77 = .ok (.ifCond .eq 13, 3) := by decide +kernel
theorem dX2_performRepeat_80 : decode cX2_performRepeat 80 = .ok (.aload_n 0, 1) := by decide +kernel
theorem dX2_performRepeat_81 : decode cX2_performRepeat 81 = .ok (.getstatic 117, 3) := by decide +kernel
theorem dX2_performRepeat_84 : decode cX2_performRepeat 84 = .ok (.invokevirtual 100, 3) := by decide +kernel
theorem dX2_performRepeat_87 : decode cX2_performRepeat 87 = .ok (.ifCond .ne 5, 3) := by decide +kernel
theorem dX2_performRepeat_90 : decode cX2_performRepeat 90 = .ok (.iconst 0, 1) := by decide +kernel
theorem dX2_performRepeat_91 : decode cX2_performRepeat 91 = .ok (.ireturn, 1) := by decide +kernel
theorem dX2_performRepeat_92 : decode cX2_performRepeat 92 = .ok (.iinc 4 1, 3) := by decide +kernel
theorem dX2_performRepeat_95 : decode cX2_performRepeat 95 = .ok (.goto (-40), 3) := by decide +kernel
theorem dX2_performRepeat_98 : decode cX2_performRepeat 98 = .ok (.iinc 3 1, 3) := by decide +kernel
theorem dX2_performRepeat_101 : decode cX2_performRepeat 101 = .ok (.goto (-59), 3) := by decide +kernel
theorem dX2_performRepeat_104 : decode cX2_performRepeat 104 = .ok (.aload_n 0, 1) := by decide +kernel
theorem dX2_performRepeat_105 : decode cX2_performRepeat 105 = .ok (.getstatic 141, 3) := by decide +kernel
theorem dX2_performRepeat_108 : decode cX2_performRepeat 108 = .ok (.invokevirtual 100, 3) := by decide +kernel
theorem dX2_performRepeat_111 : decode cX2_performRepeat 111 = .ok (.ireturn, 1) := by decide +kernel
theorem dX2_performSimple_0 : decode cX2_performSimple 0 = .ok (.aload_n 0, 1) := by decide +kernel
theorem dX2_performSimple_1 : decode cX2_performSimple 1 = .ok (.dup, 1) := by decide +kernel
theorem dX2_performSimple_2 : decode cX2_performSimple 2 = .ok (.getfield 31, 3) := by decide +kernel
theorem dX2_performSimple_5 : decode cX2_performSimple 5 = .ok (.iconst 1, 1) := by decide +kernel
theorem dX2_performSimple_6 : decode cX2_performSimple 6 = .ok (.iadd, 1) := by decide +kernel
theorem dX2_performSimple_7 : decode cX2_performSimple 7 = .ok (.putfield 31, 3) := by decide +kernel
theorem dX2_performSimple_10 : decode cX2_performSimple 10 = .ok (.getstatic 144, 3) := by decide +kernel
theorem dX2_performSimple_13 : decode cX2_performSimple 13 = .ok (.aload_n 0, 1) := by decide +kernel
theorem dX2_performSimple_14 : decode cX2_performSimple 14 = .ok (.invokevirtual 124, 3) := by decide +kernel
theorem dX2_performSimple_17 : decode cX2_performSimple 17 = .ok (.invokevirtual 149, 3) := by decide +kernel
theorem dX2_performSimple_20 : decode cX2_performSimple 20 = .ok (.iaload, 1) := by decide +kernel
theorem dX2_performSimple_21 : decode cX2_performSimple 21 = .ok (.tableswitch 142 1 8 #[47, 52, 57, 88, 93, 127, 132, 137], 47) := by decide +kernel
theorem dX2_performSimple_68 : decode cX2_performSimple 68 = .ok (.aload_n 0, 1) := by decide +kernel
theorem dX2_performSimple_69 : decode cX2_performSimple 69 = .ok (.invokevirtual 152, 3) := by decide +kernel
theorem dX2_performSimple_72 : decode cX2_performSimple 72 = .ok (.ireturn, 1) := by decide +kernel
theorem dX2_performSimple_73 : decode cX2_performSimple 73 = .ok (.aload_n 0, 1) := by decide +kernel
theorem dX2_performSimple_74 : decode cX2_performSimple 74 = .ok (.invokevirtual 155, 3) := by decide +kernel
theorem dX2_performSimple_77 : decode cX2_performSimple 77 = .ok (.ireturn, 1) := by decide +kernel
theorem dX2_performSimple_78 : decode cX2_performSimple 78 = .ok (.aload_n 0, 1) := by decide +kernel
theorem dX2_performSimple_79 : decode cX2_performSimple 79 = .ok (.dup, 1) := by decide +kernel
theorem dX2_performSimple_80 : decode cX2_performSimple 80 = .ok (.getfield 28, 3) := by decide +kernel
theorem dX2_performSimple_83 : decode cX2_performSimple 83 = .ok (.iconst 1, 1) := by decide +kernel
theorem dX2_performSimple_84 : decode cX2_performSimple 84 = .ok (.iadd, 1) := by decide +kernel
theorem dX2_performSimple_85 : decode cX2_performSimple 85 = .ok (.putfield 28, 3) := by decide +kernel
theorem dX2_performSimple_88 : decode cX2_performSimple 88 = .ok (.aload_n 0, 1) := by decide +kernel
theorem dX2_performSimple_89 : decode cX2_performSimple 89 = .ok (.getfield 120, 3) := by decide +kernel
theorem dX2_performSimple_92 : decode cX2_performSimple 92 = .ok (.sipush 999, 3) := by decide +kernel
theorem dX2_performSimple_95 : decode cX2_performSimple 95 = .ok (.aload_n 0, 1) := by decide +kernel
theorem dX2_performSimple_96 : decode cX2_performSimple 96 = .ok (.getfield 120, 3) := by decide +kernel
theorem dX2_performSimple_99 : decode cX2_performSimple 99 = .ok (.getfield 158, 3) := by decide +kernel
theorem dX2_performSimple_102 : decode cX2_performSimple 102 = .ok (.isub, 1) := by decide +kernel
theorem dX2_performSimple_103 : decode cX2_performSimple 103 = .ok (.invokevirtual 161, 3) := by decide +kernel
theorem dX2_performSimple_106 : decode cX2_performSimple 106 = .ok (.pop, 1) := by decide +kernel
theorem dX2_performSimple_107 : decode cX2_performSimple 107 = .ok (.iconst 1, 1) := by decide +kernel
theorem dX2_performSimple_108 : decode cX2_performSimple 108 = .ok (.ireturn, 1) := by decide +kernel
theorem dX2_performSimple_109 : decode cX2_performSimple 109 = .ok (.aload_n 0, 1) := by decide +kernel
theorem dX2_performSimple_110 : decode cX2_performSimple 110 = .ok (.invokevirtual 165, 3) := by decide +kernel
theorem dX2_performSimple_113 : decode cX2_performSimple 113 = .ok (.ireturn, 1) := by decide +kernel
theorem dX2_performSimple_114 : decode cX2_performSimple 114 = .ok (.aload_n 0, 1) := by decide +kernel
theorem dX2_performSimple_115 : decode cX2_performSimple 115 = .ok (.dup, 1) := by decide +kernel
theorem dX2_performSimple_116 : decode cX2_performSimple 116 = .ok (.getfield 28, 3) := by decide +kernel
theorem dX2_performSimple_119 : decode cX2_performSimple 119 = .ok (.iconst 1, 1) := by decide +kernel
theorem dX2_performSimple_120 : decode cX2_performSimple 120 = .ok (.iadd, 1) := by decide +kernel
theorem dX2_performSimple_121 : decode cX2_performSimple 121 = .ok (.putfield 28, 3) := by decide +kernel
theorem dX2_performSimple_124 : decode cX2_performSimple 124 = .ok (.aload_n 0, 1) := by decide +kernel
theorem dX2_performSimple_125 : decode cX2_performSimple 125 = .ok (.getfield 120, 3) := by decide +kernel
theorem dX2_performSimple_128 : decode cX2_performSimple 128 = .ok (.aload_n 0, 1) := by decide +kernel
theorem dX2_performSimple_129 : decode cX2_performSimple 129 = .ok (.getfield 120, 3) := by decide +kernel
theorem dX2_performSimple_132 : decode cX2_performSimple 132 = .ok (.getfield 168, 3) := by decide +kernel
theorem dX2_performSimple_135 : decode cX2_performSimple 135 = .ok (.ifCond .ne 7, 3) := by decide +kernel
theorem dX2_performSimple_138 : decode cX2_performSimple 138 = .ok (.iconst 1, 1) := by decide +kernel
theorem dX2_performSimple_139 : decode cX2_performSimple 139 = .ok (.goto 4, 3) := by decide +kernel
theorem dX2_performSimple_142 : decode cX2_performSimple 142 = .ok (.iconst 0, 1) := by decide +kernel
theorem dX2_performSimple_143 : decode cX2_performSimple 143 = .ok (.putfield 168, 3) := by decide +kernel
theorem dX2_performSimple_146 : decode cX2_performSimple 146 = .ok (.iconst 1, 1) := by decide +kernel
theorem dX2_performSimple_147 : decode cX2_performSimple 147 = .ok (.ireturn, 1) := by decide +kernel
theorem dX2_performSimple_148 : decode cX2_performSimple 148 = .ok (.aload_n 0, 1) := by decide +kernel
theorem dX2_performSimple_149 : decode cX2_performSimple 149 = .ok (.invokevirtual 172, 3) := by decide +kernel
theorem dX2_performSimple_152 : decode cX2_performSimple 152 = .ok (.ireturn, 1) := by decide +kernel
theorem dX2_performSimple_153 : decode cX2_performSimple 153 = .ok (.aload_n 0, 1) := by decide +kernel
theorem dX2_performSimple_154 : decode cX2_performSimple 154 = .ok (.invokevirtual 175, 3) := by decide +kernel
theorem dX2_performSimple_157 : decode cX2_performSimple 157 = .ok (.ireturn, 1) := by decide +kernel
theorem dX2_performSimple_158 : decode cX2_performSimple 158 = .ok (.aload_n 0, 1) := by decide +kernel
theorem dX2_performSimple_159 : decode cX2_performSimple 159 = .ok (.invokevirtual 178, 3) := by decide +kernel
theorem dX2_performSimple_162 : decode cX2_performSimple 162 = .ok (.ireturn, 1) := by decide +kernel
theorem dX2_performSimple_163 : decode cX2_performSimple 163 = .ok (.aload_n 0, 1) := by decide +kernel
theorem dX2_performSimple_164 : decode cX2_performSimple 164 = .ok (.iconst 1, 1) := by decide +kernel
theorem dX2_performSimple_165 : decode cX2_performSimple 165 = .ok (.aload_n 0, 1) := by decide +kernel
theorem dX2_performSimple_166 : decode cX2_performSimple 166 = .ok (.getfield 28, 3) := by decide +kernel
theorem dX2_performSimple_169 : decode cX2_performSimple 169 = .ok (.invokevirtual 181, 3) := by decide +kernel
theorem dX2_performSimple_172 : decode cX2_performSimple 172 = .ok (.ireturn, 1) := by decide +kernel
theorem dX2_performCall_0 : decode cX2_performCall 0 = .ok (.aload_n 0, 1) := by decide +kernel
theorem dX2_performCall_1 : decode cX2_performCall 1 = .ok (.getfield 120, 3) := by decide +kernel
theorem dX2_performCall_4 : decode cX2_performCall 4 = .ok (.getfield 184, 3) := by decide +kernel
theorem dX2_performCall_7 : decode cX2_performCall 7 = .ok (.bipush 40, 2) := by decide +kernel
theorem dX2_performCall_9 : decode cX2_performCall 9 = .ok (.if_icmp .lt 13, 3) := by decide +kernel
theorem dX2_performCall_12 : decode cX2_performCall 12 = .ok (.aload_n 0, 1) := by decide +kernel
theorem dX2_performCall_13 : decode cX2_performCall 13 = .ok (.iconst 3, 1) := by decide +kernel
theorem dX2_performCall_14 : decode cX2_performCall 14 = .ok (.aload_n 0, 1) := by decide +kernel
theorem dX2_performCall_15 : decode cX2_performCall 15 = .ok (.getfield 28, 3) := by decide +kernel
theorem dX2_performCall_18 : decode cX2_performCall 18 = .ok (.invokevirtual 181, 3) := by decide +kernel
theorem dX2_performCall_21 : decode cX2_performCall 21 = .ok (.ireturn, 1) := by decide +kernel
theorem dX2_performCall_22 : decode cX2_performCall 22 = .ok (.aload_n 0, 1) := by decide +kernel
theorem dX2_performCall_23 : decode cX2_performCall 23 = .ok (.dup, 1) := by decide +kernel
theorem dX2_performCall_24 : decode cX2_performCall 24 = .ok (.getfield 28, 3) := by decide +kernel
theorem dX2_performCall_27 : decode cX2_performCall 27 = .ok (.iconst 1, 1) := by decide +kernel
theorem dX2_performCall_28 : decode cX2_performCall 28 = .ok (.iadd, 1) := by decide +kernel
theorem dX2_performCall_29 : decode cX2_performCall 29 = .ok (.putfield 28, 3) := by decide +kernel
theorem dX2_performCall_32 : decode cX2_performCall 32 = .ok (.aload_n 0, 1) := by decide +kernel
theorem dX2_performCall_33 : decode cX2_performCall 33 = .ok (.iconst 0, 1) := by decide +kernel
theorem dX2_performCall_34 : decode cX2_performCall 34 = .ok (.aload_n 0, 1) := by decide +kernel
theorem dX2_performCall_35 : decode cX2_performCall 35 = .ok (.getfield 120, 3) := by decide +kernel
theorem dX2_performCall_38 : decode cX2_performCall 38 = .ok (.getfield 187, 3) := by decide +kernel
theorem dX2_performCall_41 : decode cX2_performCall 41 = .ok (.iconst 1, 1) := by decide +kernel
theorem dX2_performCall_42 : decode cX2_performCall 42 = .ok (.isub, 1) := by decide +kernel
theorem dX2_performCall_43 : decode cX2_performCall 43 = .ok (.invokevirtual 104, 3) := by decide +kernel
theorem dX2_performCall_46 : decode cX2_performCall 46 = .ok (.istore_n 1, 1) := by decide +kernel
theorem dX2_performCall_47 : decode cX2_performCall 47 = .ok (.iload_n 1, 1) := by decide +kernel
theorem dX2_performCall_48 : decode cX2_performCall 48 = .ok (.iconst (-1), 1) := by decide +kernel
theorem dX2_performCall_49 : decode cX2_performCall 49 = .ok (.if_icmp .ne 5, 3) := by decide +kernel
theorem dX2_performCall_52 : decode cX2_performCall 52 = .ok (.iconst 0, 1) := by decide +kernel
theorem dX2_performCall_53 : decode cX2_performCall 53 = .ok (.ireturn, 1) := by decide +kernel
theorem dX2_performCall_54 : decode cX2_performCall 54 = .ok (.aload_n 0, 1) := by decide +kernel
theorem dX2_performCall_55 : decode cX2_performCall 55 = .ok (.iconst 0, 1) := by decide +kernel
theorem dX2_performCall_56 : decode cX2_performCall 56 = .ok (.aload_n 0, 1) := by decide +kernel
theorem dX2_performCall_57 : decode cX2_performCall 57 = .ok (.getfield 120, 3) := by decide +kernel
theorem dX2_performCall_60 : decode cX2_performCall 60 = .ok (.getfield 187, 3) := by decide +kernel
theorem dX2_performCall_63 : decode cX2_performCall 63 = .ok (.iconst 1, 1) := by decide +kernel
theorem dX2_performCall_64 : decode cX2_performCall 64 = .ok (.isub, 1) := by decide +kernel
theorem dX2_performCall_65 : decode cX2_performCall 65 = .ok (.invokevirtual 104, 3) := by decide +kernel
theorem dX2_performCall_68 : decode cX2_performCall 68 = .ok (.istore_n 2, 1) := by decide +kernel
theorem dX2_performCall_69 : decode cX2_performCall 69 = .ok (.iload_n 2, 1) := by decide +kernel
theorem dX2_performCall_70 : decode cX2_performCall 70 = .ok (.iconst (-1), 1) := by decide +kernel
theorem dX2_performCall_71 : decode cX2_performCall 71 = .ok (.if_icmp .ne 5, 3) := by decide +kernel
theorem dX2_performCall_74 : decode cX2_performCall 74 = .ok (.iconst 0, 1) := by decide +kernel
theorem dX2_performCall_75 : decode cX2_performCall 75 = .ok (.ireturn, 1) := by decide +kernel
theorem dX2_performCall_76 : decode cX2_performCall 76 = .ok (.iload_n 2, 1) := by decide +kernel
theorem dX2_performCall_77 : decode cX2_performCall 77 = .ok (.iload_n 1, 1) := by decide +kernel
theorem dX2_performCall_78 : decode cX2_performCall 78 = .ok (.if_icmp .ne 15, 3) := by decide +kernel
theorem dX2_performCall_81 : decode cX2_performCall 81 = .ok (.aload_n 0, 1) := by decide +kernel
theorem dX2_performCall_82 : decode cX2_performCall 82 = .ok (.iconst 2, 1) := by decide +kernel
theorem dX2_performCall_83 : decode cX2_performCall 83 = .ok (.aload_n 0, 1) := by decide +kernel
theorem dX2_performCall_84 : decode cX2_performCall 84 = .ok (.getfield 28, 3) := by decide +kernel
theorem dX2_performCall_87 : decode cX2_performCall 87 = .ok (.iconst 1, 1) := by decide +kernel
theorem dX2_performCall_88 : decode cX2_performCall 88 = .ok (.isub, 1) := by decide +kernel
theorem dX2_performCall_89 : decode cX2_performCall 89 = .ok (.invokevirtual 181, 3) := by decide +kernel
theorem dX2_performCall_92 : decode cX2_performCall 92 = .ok (.ireturn, 1) := by decide +kernel
theorem dX2_performCall_93 : decode cX2_performCall 93 = .ok (.aload_n 0, 1) := by decide +kernel
theorem dX2_performCall_94 : decode cX2_performCall 94 = .ok (.getfield 120, 3) := by decide +kernel
theorem dX2_performCall_97 : decode cX2_performCall 97 = .ok (.getfield 158, 3) := by decide +kernel
theorem dX2_performCall_100 : decode cX2_performCall 100 = .ok (.istore_n 3, 1) := by decide +kernel
theorem dX2_performCall_101 : decode cX2_performCall 101 = .ok (.aload_n 0, 1) := by decide +kernel
theorem dX2_performCall_102 : decode cX2_performCall 102 = .ok (.invokevirtual 124, 3) := by decide +kernel
theorem dX2_performCall_105 : decode cX2_performCall 105 = .ok (.getstatic 190, 3) := by decide +kernel
theorem dX2_performCall_108 : decode cX2_performCall 108 = .ok (.if_acmp .ne 35, 3) := by decide +kernel
theorem dX2_performCall_111 : decode cX2_performCall 111 = .ok (.aload_n 0, 1) := by decide +kernel
theorem dX2_performCall_112 : decode cX2_performCall 112 = .ok (.dup, 1) := by decide +kernel
theorem dX2_performCall_113 : decode cX2_performCall 113 = .ok (.getfield 28, 3) := by decide +kernel
theorem dX2_performCall_116 : decode cX2_performCall 116 = .ok (.iconst 1, 1) := by decide +kernel
theorem dX2_performCall_117 : decode cX2_performCall 117 = .ok (.iadd, 1) := by decide +kernel
theorem dX2_performCall_118 : decode cX2_performCall 118 = .ok (.putfield 28, 3) := by decide +kernel
theorem dX2_performCall_121 : decode cX2_performCall 121 = .ok (.aload_n 0, 1) := by decide +kernel
theorem dX2_performCall_122 : decode cX2_performCall 122 = .ok (.aload_n 0, 1) := by decide +kernel
theorem dX2_performCall_123 : decode cX2_performCall 123 = .ok (.getfield 120, 3) := by decide +kernel
theorem dX2_performCall_126 : decode cX2_performCall 126 = .ok (.getfield 158, 3) := by decide +kernel
theorem dX2_performCall_129 : decode cX2_performCall 129 = .ok (.sipush 999, 3) := by decide +kernel
theorem dX2_performCall_132 : decode cX2_performCall 132 = .ok (.invokevirtual 104, 3) := by decide +kernel
theorem dX2_performCall_135 : decode cX2_performCall 135 = .ok (.istore_n 3, 1) := by decide +kernel
theorem dX2_performCall_136 : decode cX2_performCall 136 = .ok (.iload_n 3, 1) := by decide +kernel
theorem dX2_performCall_137 : decode cX2_performCall 137 = .ok (.iconst (-1), 1) := by decide +kernel
theorem dX2_performCall_138 : decode cX2_performCall 138 = .ok (.if_icmp .ne 5, 3) := by decide +kernel
theorem dX2_performCall_141 : decode cX2_performCall 141 = .ok (.iconst 0, 1) := by decide +kernel
theorem dX2_performCall_142 : decode cX2_performCall 142 = .ok (.ireturn, 1) := by decide +kernel
theorem dX2_performCall_143 : decode cX2_performCall 143 = .ok (.aload_n 0, 1) := by decide +kernel
theorem dX2_performCall_144 : decode cX2_performCall 144 = .ok (.getfield 120, 3) := by decide +kernel
theorem dX2_performCall_147 : decode cX2_performCall 147 = .ok (.iload_n 1, 1) := by decide +kernel
theorem dX2_performCall_148 : decode cX2_performCall 148 = .ok (.iload_n 2, 1) := by decide +kernel
theorem dX2_performCall_149 : decode cX2_performCall 149 = .ok (.iload_n 3, 1) := by decide +kernel
theorem dX2_performCall_150 : decode cX2_performCall 150 = .ok (.invokevirtual 193, 3) := by decide +kernel
theorem dX2_performCall_153 : decode cX2_performCall 153 = .ok (.iconst 1, 1) := by decide +kernel
theorem dX2_performCall_154 : decode cX2_performCall 154 = .ok (.ireturn, 1) := by decide +kernel
theorem dX2_performRun_0 : decode cX2_performRun 0 = .ok (.aload_n 0, 1) := by decide +kernel
theorem dX2_performRun_1 : decode cX2_performRun 1 = .ok (.dup, 1) := by decide +kernel
theorem dX2_performRun_2 : decode cX2_performRun 2 = .ok (.getfield 28, 3) := by decide +kernel
theorem dX2_performRun_5 : decode cX2_performRun 5 = .ok (.iconst 1, 1) := by decide +kernel
theorem dX2_performRun_6 : decode cX2_performRun 6 = .ok (.iadd, 1) := by decide +kernel
theorem dX2_performRun_7 : decode cX2_performRun 7 = .ok (.putfield 28, 3) := by decide +kernel
theorem dX2_performRun_10 : decode cX2_performRun 10 = .ok (.aload_n 0, 1) := by decide +kernel
theorem dX2_performRun_11 : decode cX2_performRun 11 = .ok (.iconst 1, 1) := by decide +kernel
theorem dX2_performRun_12 : decode cX2_performRun 12 = .ok (.sipush 999, 3) := by decide +kernel
theorem dX2_performRun_15 : decode cX2_performRun 15 = .ok (.invokevirtual 104, 3) := by decide +kernel
theorem dX2_performRun_18 : decode cX2_performRun 18 = .ok (.istore_n 1, 1) := by decide +kernel
theorem dX2_performRun_19 : decode cX2_performRun 19 = .ok (.iload_n 1, 1) := by decide +kernel
theorem dX2_performRun_20 : decode cX2_performRun 20 = .ok (.iconst (-1), 1) := by decide +kernel
theorem dX2_performRun_21 : decode cX2_performRun 21 = .ok (.if_icmp .ne 5, 3) := by decide +kernel
theorem dX2_performRun_24 : decode cX2_performRun 24 = .ok (.iconst 0, 1) := by decide +kernel
theorem dX2_performRun_25 : decode cX2_performRun 25 = .ok (.ireturn, 1) := by decide +kernel
theorem dX2_performRun_26 : decode cX2_performRun 26 = .ok (.aload_n 0, 1) := by decide +kernel
theorem dX2_performRun_27 : decode cX2_performRun 27 = .ok (.getfield 120, 3) := by decide +kernel
theorem dX2_performRun_30 : decode cX2_performRun 30 = .ok (.getfield 158, 3) := by decide +kernel
theorem dX2_performRun_33 : decode cX2_performRun 33 = .ok (.iload_n 1, 1) := by decide +kernel
theorem dX2_performRun_34 : decode cX2_performRun 34 = .ok (.iadd, 1) := by decide +kernel
theorem dX2_performRun_35 : decode cX2_performRun 35 = .ok (.sipush 999, 3) := by decide +kernel
theorem dX2_performRun_38 : decode cX2_performRun 38 = .ok (.if_icmp .le 15, 3) := by decide +kernel
theorem dX2_performRun_41 : decode cX2_performRun 41 = .ok (.aload_n 0, 1) := by decide +kernel
theorem dX2_performRun_42 : decode cX2_performRun 42 = .ok (.iconst 4, 1) := by decide +kernel
theorem dX2_performRun_43 : decode cX2_performRun 43 = .ok (.aload_n 0, 1) := by decide +kernel
theorem dX2_performRun_44 : decode cX2_performRun 44 = .ok (.getfield 28, 3) := by decide +kernel
theorem dX2_performRun_47 : decode cX2_performRun 47 = .ok (.iconst 1, 1) := by decide +kernel
theorem dX2_performRun_48 : decode cX2_performRun 48 = .ok (.isub, 1) := by decide +kernel
theorem dX2_performRun_49 : decode cX2_performRun 49 = .ok (.invokevirtual 181, 3) := by decide +kernel
theorem dX2_performRun_52 : decode cX2_performRun 52 = .ok (.ireturn, 1) := by decide +kernel
theorem dX2_performRun_53 : decode cX2_performRun 53 = .ok (.iconst 0, 1) := by decide +kernel
theorem dX2_performRun_54 : decode cX2_performRun 54 = .ok (.istore_n 2, 1) := by decide +kernel
theorem dX2_performRun_55 : decode cX2_performRun 55 = .ok (.iload_n 2, 1) := by decide +kernel
theorem dX2_performRun_56 : decode cX2_performRun 56 = .ok (.iload_n 1, 1) := by decide +kernel
theorem dX2_performRun_57 : decode cX2_performRun 57 = .ok (.if_icmp .ge 16, 3) := by decide +kernel
theorem dX2_performRun_60 : decode cX2_performRun 60 = .ok (.aload_n 0, 1) := by decide +kernel
theorem dX2_performRun_61 : decode cX2_performRun 61 = .ok (.getfield 120, 3) := by decide +kernel
theorem dX2_performRun_64 : decode cX2_performRun 64 = .ok (.invokevirtual 196, 3) := by decide +kernel
theorem dX2_performRun_67 : decode cX2_performRun 67 = .ok (.iinc 2 1, 3) := by decide +kernel
theorem dX2_performRun_70 : decode cX2_performRun 70 = .ok (.goto (-15), 3) := by decide +kernel
theorem dX2_performRun_73 : decode cX2_performRun 73 = .ok (.iconst 1, 1) := by decide +kernel
theorem dX2_performRun_74 : decode cX2_performRun 74 = .ok (.ireturn, 1) := by decide +kernel
theorem dX2_performUntil_0 : decode cX2_performUntil 0 = .ok (.aload_n 0, 1) := by decide +kernel
theorem dX2_performUntil_1 : decode cX2_performUntil 1 = .ok (.dup, 1) := by decide +kernel
theorem dX2_performUntil_2 : decode cX2_performUntil 2 = .ok (.getfield 28, 3) := by decide +kernel
theorem dX2_performUntil_5 : decode cX2_performUntil 5 = .ok (.iconst 1, 1) := by decide +kernel
theorem dX2_performUntil_6 : decode cX2_performUntil 6 = .ok (.iadd, 1) := by decide +kernel
theorem dX2_performUntil_7 : decode cX2_performUntil 7 = .ok (.putfield 28, 3) := by decide +kernel
theorem dX2_performUntil_10 : decode cX2_performUntil 10 = .ok (.aload_n 0, 1) := by decide +kernel
theorem dX2_performUntil_11 : decode cX2_performUntil 11 = .ok (.invokevirtual 124, 3) := by decide +kernel
theorem dX2_performUntil_14 : decode cX2_performUntil 14 = .ok (.astore_n 1, 1) := by decide +kernel
theorem dX2_performUntil_15 : decode cX2_performUntil 15 = .ok (.aload_n 0, 1) := by decide +kernel
theorem dX2_performUntil_16 : decode cX2_performUntil 16 = .ok (.invokevirtual 199, 3) := by decide +kernel
theorem dX2_performUntil_19 : decode cX2_performUntil 19 = .ok (.istore_n 2, 1) := by decide +kernel
theorem dX2_performUntil_20 : decode cX2_performUntil 20 = .ok (.iload_n 2, 1) := by decide +kernel
theorem dX2_performUntil_21 : decode cX2_performUntil 21 = .ok (.iconst (-1), 1) := by decide +kernel
theorem dX2_performUntil_22 : decode cX2_performUntil 22 = .ok (.if_icmp .ne 5, 3) := by decide +kernel
theorem dX2_performUntil_25 : decode cX2_performUntil 25 = .ok (.iconst 0, 1) := by decide +kernel
theorem dX2_performUntil_26 : decode cX2_performUntil 26 = .ok (.ireturn, 1) := by decide +kernel
theorem dX2_performUntil_27 : decode cX2_performUntil 27 = .ok (.aload_n 0, 1) := by decide +kernel
theorem dX2_performUntil_28 : decode cX2_performUntil 28 = .ok (.getfield 120, 3) := by decide +kernel
theorem dX2_performUntil_31 : decode cX2_performUntil 31 = .ok (.getfield 158, 3) := by decide +kernel
theorem dX2_performUntil_34 : decode cX2_performUntil 34 = .ok (.istore_n 3, 1) := by decide +kernel
theorem dX2_performUntil_35 : decode cX2_performUntil 35 = .ok (.iload_n 3, 1) := by decide +kernel
theorem dX2_performUntil_36 : decode cX2_performUntil 36 = .ok (.sipush 999, 3) := by decide +kernel
theorem dX2_performUntil_39 : decode cX2_performUntil 39 = .ok (.if_icmp .ge 25, 3) := by decide +kernel
theorem dX2_performUntil_42 : decode cX2_performUntil 42 = .ok (.aload_n 0, 1) := by decide +kernel
theorem dX2_performUntil_43 : decode cX2_performUntil 43 = .ok (.aload_n 1, 1) := by decide +kernel
theorem dX2_performUntil_44 : decode cX2_performUntil 44 = .ok (.invokevirtual 202, 3) := by decide +kernel
theorem dX2_performUntil_47 : decode cX2_performUntil 47 = .ok (.iload_n 2, 1) := by decide +kernel
theorem dX2_performUntil_48 : decode cX2_performUntil 48 = .ok (.if_icmp .ge 16, 3) := by decide +kernel
theorem dX2_performUntil_51 : decode cX2_performUntil 51 = .ok (.aload_n 0, 1) := by decide +kernel
theorem dX2_performUntil_52 : decode cX2_performUntil 52 = .ok (.getfield 120, 3) := by decide +kernel
theorem dX2_performUntil_55 : decode cX2_performUntil 55 = .ok (.invokevirtual 196, 3) := by decide +kernel
theorem dX2_performUntil_58 : decode cX2_performUntil 58 = .ok (.iinc 3 1, 3) := by decide +kernel
theorem dX2_performUntil_61 : decode cX2_performUntil 61 = .ok (.goto (-26), 3) := by decide +kernel
theorem dX2_performUntil_64 : decode cX2_performUntil 64 = .ok (.aload_n 0, 1) := by decide +kernel
theorem dX2_performUntil_65 : decode cX2_performUntil 65 = .ok (.aload_n 1, 1) := by decide +kernel
theorem dX2_performUntil_66 : decode cX2_performUntil 66 = .ok (.invokevirtual 202, 3) := by decide +kernel
theorem dX2_performUntil_69 : decode cX2_performUntil 69 = .ok (.iload_n 2, 1) := by decide +kernel
theorem dX2_performUntil_70 : decode cX2_performUntil 70 = .ok (.if_icmp .ge 15, 3) := by decide +kernel
theorem dX2_performUntil_73 : decode cX2_performUntil 73 = .ok (.aload_n 0, 1) := by decide +kernel
theorem dX2_performUntil_74 : decode cX2_performUntil 74 = .ok (.iconst 4, 1) := by decide +kernel
theorem dX2_performUntil_75 : decode cX2_performUntil 75 = .ok (.aload_n 0, 1) := by decide +kernel
theorem dX2_performUntil_76 : decode cX2_performUntil 76 = .ok (.getfield 28, 3) := by decide +kernel
theorem dX2_performUntil_79 : decode cX2_performUntil 79 = .ok (.iconst 1, 1) := by decide +kernel
theorem dX2_performUntil_80 : decode cX2_performUntil 80 = .ok (.isub, 1) := by decide +kernel
theorem dX2_performUntil_81 : decode cX2_performUntil 81 = .ok (.invokevirtual 181, 3) := by decide +kernel
theorem dX2_performUntil_84 : decode cX2_performUntil 84 = .ok (.ireturn, 1) := by decide +kernel
theorem dX2_performUntil_85 : decode cX2_performUntil 85 = .ok (.iconst 1, 1) := by decide +kernel
theorem dX2_performUntil_86 : decode cX2_performUntil 86 = .ok (.ireturn, 1) := by decide +kernel
theorem dX2_performPolicy_0 : decode cX2_performPolicy 0 = .ok (.aload_n 0, 1) := by decide +kernel
theorem dX2_performPolicy_1 : decode cX2_performPolicy 1 = .ok (.dup, 1) := by decide +kernel
theorem dX2_performPolicy_2 : decode cX2_performPolicy 2 = .ok (.getfield 28, 3) := by decide +kernel
theorem dX2_performPolicy_5 : decode cX2_performPolicy 5 = .ok (.iconst 1, 1) := by decide +kernel
theorem dX2_performPolicy_6 : decode cX2_performPolicy 6 = .ok (.iadd, 1) := by decide +kernel
theorem dX2_performPolicy_7 : decode cX2_performPolicy 7 = .ok (.putfield 28, 3) := by decide +kernel
theorem dX2_performPolicy_10 : decode cX2_performPolicy 10 = .ok (.aload_n 0, 1) := by decide +kernel
theorem dX2_performPolicy_11 : decode cX2_performPolicy 11 = .ok (.invokevirtual 108, 3) := by decide +kernel
theorem dX2_performPolicy_14 : decode cX2_performPolicy 14 = .ok (.istore_n 1, 1) := by decide +kernel
theorem dX2_performPolicy_15 : decode cX2_performPolicy 15 = .ok (.iload_n 1, 1) := by decide +kernel
theorem dX2_performPolicy_16 : decode cX2_performPolicy 16 = .ok (.iconst (-1), 1) := by decide +kernel
theorem dX2_performPolicy_17 : decode cX2_performPolicy 17 = .ok (.if_icmp .ne 5, 3) := by decide +kernel
theorem dX2_performPolicy_20 : decode cX2_performPolicy 20 = .ok (.iconst 0, 1) := by decide +kernel
theorem dX2_performPolicy_21 : decode cX2_performPolicy 21 = .ok (.ireturn, 1) := by decide +kernel
theorem dX2_performPolicy_22 : decode cX2_performPolicy 22 = .ok (.aload_n 0, 1) := by decide +kernel
theorem dX2_performPolicy_23 : decode cX2_performPolicy 23 = .ok (.getfield 120, 3) := by decide +kernel
theorem dX2_performPolicy_26 : decode cX2_performPolicy 26 = .ok (.iload_n 1, 1) := by decide +kernel
theorem dX2_performPolicy_27 : decode cX2_performPolicy 27 = .ok (.putfield 205, 3) := by decide +kernel
theorem dX2_performPolicy_30 : decode cX2_performPolicy 30 = .ok (.iconst 1, 1) := by decide +kernel
theorem dX2_performPolicy_31 : decode cX2_performPolicy 31 = .ok (.ireturn, 1) := by decide +kernel
theorem dX2_performCapacity_0 : decode cX2_performCapacity 0 = .ok (.aload_n 0, 1) := by decide +kernel
theorem dX2_performCapacity_1 : decode cX2_performCapacity 1 = .ok (.dup, 1) := by decide +kernel
theorem dX2_performCapacity_2 : decode cX2_performCapacity 2 = .ok (.getfield 28, 3) := by decide +kernel
theorem dX2_performCapacity_5 : decode cX2_performCapacity 5 = .ok (.iconst 1, 1) := by decide +kernel
theorem dX2_performCapacity_6 : decode cX2_performCapacity 6 = .ok (.iadd, 1) := by decide +kernel
theorem dX2_performCapacity_7 : decode cX2_performCapacity 7 = .ok (.putfield 28, 3) := by decide +kernel
theorem dX2_performCapacity_10 : decode cX2_performCapacity 10 = .ok (.aload_n 0, 1) := by decide +kernel
theorem dX2_performCapacity_11 : decode cX2_performCapacity 11 = .ok (.iconst 1, 1) := by decide +kernel
theorem dX2_performCapacity_12 : decode cX2_performCapacity 12 = .ok (.bipush 8, 2) := by decide +kernel
theorem dX2_performCapacity_14 : decode cX2_performCapacity 14 = .ok (.invokevirtual 104, 3) := by decide +kernel
theorem dX2_performCapacity_17 : decode cX2_performCapacity 17 = .ok (.istore_n 1, 1) := by decide +kernel
theorem dX2_performCapacity_18 : decode cX2_performCapacity 18 = .ok (.iload_n 1, 1) := by decide +kernel
theorem dX2_performCapacity_19 : decode cX2_performCapacity 19 = .ok (.iconst (-1), 1) := by decide +kernel
theorem dX2_performCapacity_20 : decode cX2_performCapacity 20 = .ok (.if_icmp .ne 5, 3) := by decide +kernel
theorem dX2_performCapacity_23 : decode cX2_performCapacity 23 = .ok (.iconst 0, 1) := by decide +kernel
theorem dX2_performCapacity_24 : decode cX2_performCapacity 24 = .ok (.ireturn, 1) := by decide +kernel
theorem dX2_performCapacity_25 : decode cX2_performCapacity 25 = .ok (.aload_n 0, 1) := by decide +kernel
theorem dX2_performCapacity_26 : decode cX2_performCapacity 26 = .ok (.getfield 120, 3) := by decide +kernel
theorem dX2_performCapacity_29 : decode cX2_performCapacity 29 = .ok (.getfield 208, 3) := by decide +kernel
theorem dX2_performCapacity_32 : decode cX2_performCapacity 32 = .ok (.iload_n 1, 1) := by decide +kernel
theorem dX2_performCapacity_33 : decode cX2_performCapacity 33 = .ok (.if_icmp .le 15, 3) := by decide +kernel
theorem dX2_performCapacity_36 : decode cX2_performCapacity 36 = .ok (.aload_n 0, 1) := by decide +kernel
theorem dX2_performCapacity_37 : decode cX2_performCapacity 37 = .ok (.iconst 4, 1) := by decide +kernel
theorem dX2_performCapacity_38 : decode cX2_performCapacity 38 = .ok (.aload_n 0, 1) := by decide +kernel
theorem dX2_performCapacity_39 : decode cX2_performCapacity 39 = .ok (.getfield 28, 3) := by decide +kernel
theorem dX2_performCapacity_42 : decode cX2_performCapacity 42 = .ok (.iconst 1, 1) := by decide +kernel
theorem dX2_performCapacity_43 : decode cX2_performCapacity 43 = .ok (.isub, 1) := by decide +kernel
theorem dX2_performCapacity_44 : decode cX2_performCapacity 44 = .ok (.invokevirtual 181, 3) := by decide +kernel
theorem dX2_performCapacity_47 : decode cX2_performCapacity 47 = .ok (.ireturn, 1) := by decide +kernel
theorem dX2_performCapacity_48 : decode cX2_performCapacity 48 = .ok (.aload_n 0, 1) := by decide +kernel
theorem dX2_performCapacity_49 : decode cX2_performCapacity 49 = .ok (.getfield 120, 3) := by decide +kernel
theorem dX2_performCapacity_52 : decode cX2_performCapacity 52 = .ok (.iload_n 1, 1) := by decide +kernel
theorem dX2_performCapacity_53 : decode cX2_performCapacity 53 = .ok (.putfield 211, 3) := by decide +kernel
theorem dX2_performCapacity_56 : decode cX2_performCapacity 56 = .ok (.iconst 1, 1) := by decide +kernel
theorem dX2_performCapacity_57 : decode cX2_performCapacity 57 = .ok (.ireturn, 1) := by decide +kernel
theorem dX2_performExpect_0 : decode cX2_performExpect 0 = .ok (.aload_n 0, 1) := by decide +kernel
theorem dX2_performExpect_1 : decode cX2_performExpect 1 = .ok (.getfield 28, 3) := by decide +kernel
theorem dX2_performExpect_4 : decode cX2_performExpect 4 = .ok (.istore_n 1, 1) := by decide +kernel
theorem dX2_performExpect_5 : decode cX2_performExpect 5 = .ok (.aload_n 0, 1) := by decide +kernel
theorem dX2_performExpect_6 : decode cX2_performExpect 6 = .ok (.dup, 1) := by decide +kernel
theorem dX2_performExpect_7 : decode cX2_performExpect 7 = .ok (.getfield 28, 3) := by decide +kernel
theorem dX2_performExpect_10 : decode cX2_performExpect 10 = .ok (.iconst 1, 1) := by decide +kernel
theorem dX2_performExpect_11 : decode cX2_performExpect 11 = .ok (.iadd, 1) := by decide +kernel
theorem dX2_performExpect_12 : decode cX2_performExpect 12 = .ok (.putfield 28, 3) := by decide +kernel
theorem dX2_performExpect_15 : decode cX2_performExpect 15 = .ok (.aload_n 0, 1) := by decide +kernel
theorem dX2_performExpect_16 : decode cX2_performExpect 16 = .ok (.invokevirtual 124, 3) := by decide +kernel
theorem dX2_performExpect_19 : decode cX2_performExpect 19 = .ok (.astore_n 2, 1) := by decide +kernel
theorem dX2_performExpect_20 : decode cX2_performExpect 20 = .ok (.aload_n 0, 1) := by decide +kernel
theorem dX2_performExpect_21 : decode cX2_performExpect 21 = .ok (.invokevirtual 199, 3) := by decide +kernel
theorem dX2_performExpect_24 : decode cX2_performExpect 24 = .ok (.istore_n 3, 1) := by decide +kernel
theorem dX2_performExpect_25 : decode cX2_performExpect 25 = .ok (.iload_n 3, 1) := by decide +kernel
theorem dX2_performExpect_26 : decode cX2_performExpect 26 = .ok (.iconst (-1), 1) := by decide +kernel
theorem dX2_performExpect_27 : decode cX2_performExpect 27 = .ok (.if_icmp .ne 5, 3) := by decide +kernel
theorem dX2_performExpect_30 : decode cX2_performExpect 30 = .ok (.iconst 0, 1) := by decide +kernel
theorem dX2_performExpect_31 : decode cX2_performExpect 31 = .ok (.ireturn, 1) := by decide +kernel
theorem dX2_performExpect_32 : decode cX2_performExpect 32 = .ok (.aload_n 0, 1) := by decide +kernel
theorem dX2_performExpect_33 : decode cX2_performExpect 33 = .ok (.aload_n 2, 1) := by decide +kernel
theorem dX2_performExpect_34 : decode cX2_performExpect 34 = .ok (.invokevirtual 202, 3) := by decide +kernel
theorem dX2_performExpect_37 : decode cX2_performExpect 37 = .ok (.iload_n 3, 1) := by decide +kernel
theorem dX2_performExpect_38 : decode cX2_performExpect 38 = .ok (.if_icmp .eq 10, 3) := by decide +kernel
theorem dX2_performExpect_41 : decode cX2_performExpect 41 = .ok (.aload_n 0, 1) := by decide +kernel
theorem dX2_performExpect_42 : decode cX2_performExpect 42 = .ok (.iconst 5, 1) := by decide +kernel
theorem dX2_performExpect_43 : decode cX2_performExpect 43 = .ok (.iload_n 1, 1) := by decide +kernel
theorem dX2_performExpect_44 : decode cX2_performExpect 44 = .ok (.invokevirtual 181, 3) := by decide +kernel
theorem dX2_performExpect_47 : decode cX2_performExpect 47 = .ok (.ireturn, 1) := by decide +kernel
theorem dX2_performExpect_48 : decode cX2_performExpect 48 = .ok (.iconst 1, 1) := by decide +kernel
theorem dX2_performExpect_49 : decode cX2_performExpect 49 = .ok (.ireturn, 1) := by decide +kernel
theorem dX2_count_0 : decode cX2_count 0 = .ok (.getstatic 144, 3) := by decide +kernel
theorem dX2_count_3 : decode cX2_count 3 = .ok (.aload_n 1, 1) := by decide +kernel
theorem dX2_count_4 : decode cX2_count 4 = .ok (.invokevirtual 149, 3) := by decide +kernel
theorem dX2_count_7 : decode cX2_count 7 = .ok (.iaload, 1) := by decide +kernel
theorem dX2_count_8 : decode cX2_count 8 = .ok (.tableswitch 77 9 13 #[36, 44, 52, 61, 69], 36) := by decide +kernel
theorem dX2_count_44 : decode cX2_count 44 = .ok (.aload_n 0, 1) := by decide +kernel
theorem dX2_count_45 : decode cX2_count 45 = .ok (.getfield 120, 3) := by decide +kernel
theorem dX2_count_48 : decode cX2_count 48 = .ok (.getfield 214, 3) := by decide +kernel
theorem dX2_count_51 : decode cX2_count 51 = .ok (.ireturn, 1) := by decide +kernel
theorem dX2_count_52 : decode cX2_count 52 = .ok (.aload_n 0, 1) := by decide +kernel
theorem dX2_count_53 : decode cX2_count 53 = .ok (.getfield 120, 3) := by decide +kernel
theorem dX2_count_56 : decode cX2_count 56 = .ok (.getfield 208, 3) := by decide +kernel
theorem dX2_count_59 : decode cX2_count 59 = .ok (.ireturn, 1) := by decide +kernel
theorem dX2_count_60 : decode cX2_count 60 = .ok (.aload_n 0, 1) := by decide +kernel
theorem dX2_count_61 : decode cX2_count 61 = .ok (.getfield 120, 3) := by decide +kernel
theorem dX2_count_64 : decode cX2_count 64 = .ok (.iconst 1, 1) := by decide +kernel
theorem dX2_count_65 : decode cX2_count 65 = .ok (.invokevirtual 217, 3) := by decide +kernel
theorem dX2_count_68 : decode cX2_count 68 = .ok (.ireturn, 1) := by decide +kernel
theorem dX2_count_69 : decode cX2_count 69 = .ok (.aload_n 0, 1) := by decide +kernel
theorem dX2_count_70 : decode cX2_count 70 = .ok (.getfield 120, 3) := by decide +kernel
theorem dX2_count_73 : decode cX2_count 73 = .ok (.getfield 220, 3) := by decide +kernel
theorem dX2_count_76 : decode cX2_count 76 = .ok (.ireturn, 1) := by decide +kernel
theorem dX2_count_77 : decode cX2_count 77 = .ok (.aload_n 0, 1) := by decide +kernel
theorem dX2_count_78 : decode cX2_count 78 = .ok (.getfield 120, 3) := by decide +kernel
theorem dX2_count_81 : decode cX2_count 81 = .ok (.getfield 223, 3) := by decide +kernel
theorem dX2_count_84 : decode cX2_count 84 = .ok (.ireturn, 1) := by decide +kernel
theorem dX2_count_85 : decode cX2_count 85 = .ok (.aload_n 0, 1) := by decide +kernel
theorem dX2_count_86 : decode cX2_count 86 = .ok (.getfield 120, 3) := by decide +kernel
theorem dX2_count_89 : decode cX2_count 89 = .ok (.getfield 158, 3) := by decide +kernel
theorem dX2_count_92 : decode cX2_count 92 = .ok (.ireturn, 1) := by decide +kernel
theorem dX2_nextKind_0 : decode cX2_nextKind 0 = .ok (.aload_n 0, 1) := by decide +kernel
theorem dX2_nextKind_1 : decode cX2_nextKind 1 = .ok (.getfield 28, 3) := by decide +kernel
theorem dX2_nextKind_4 : decode cX2_nextKind 4 = .ok (.aload_n 0, 1) := by decide +kernel
theorem dX2_nextKind_5 : decode cX2_nextKind 5 = .ok (.getfield 24, 3) := by decide +kernel
theorem dX2_nextKind_8 : decode cX2_nextKind 8 = .ok (.if_icmp .ge 15, 3) := by decide +kernel
theorem dX2_nextKind_11 : decode cX2_nextKind 11 = .ok (.aload_n 0, 1) := by decide +kernel
theorem dX2_nextKind_12 : decode cX2_nextKind 12 = .ok (.getfield 13, 3) := by decide +kernel
theorem dX2_nextKind_15 : decode cX2_nextKind 15 = .ok (.aload_n 0, 1) := by decide +kernel
theorem dX2_nextKind_16 : decode cX2_nextKind 16 = .ok (.getfield 28, 3) := by decide +kernel
theorem dX2_nextKind_19 : decode cX2_nextKind 19 = .ok (.aaload, 1) := by decide +kernel
theorem dX2_nextKind_20 : decode cX2_nextKind 20 = .ok (.goto 6, 3) := by decide +kernel
theorem dX2_nextKind_23 : decode cX2_nextKind 23 = .ok (.getstatic 67, 3) := by decide +kernel
theorem dX2_nextKind_26 : decode cX2_nextKind 26 = .ok (.areturn, 1) := by decide +kernel
theorem dX2_take_0 : decode cX2_take 0 = .ok (.aload_n 0, 1) := by decide +kernel
theorem dX2_take_1 : decode cX2_take 1 = .ok (.invokevirtual 124, 3) := by decide +kernel
theorem dX2_take_4 : decode cX2_take 4 = .ok (.aload_n 1, 1) := by decide +kernel
theorem dX2_take_5 : decode cX2_take 5 = .ok (.if_acmp .eq 13, 3) := by decide +kernel
theorem dX2_take_8 : decode cX2_take 8 = .ok (.aload_n 0, 1) := by decide +kernel
theorem dX2_take_9 : decode cX2_take 9 = .ok (.iconst 1, 1) := by decide +kernel
theorem dX2_take_10 : decode cX2_take 10 = .ok (.aload_n 0, 1) := by decide +kernel
theorem dX2_take_11 : decode cX2_take 11 = .ok (.getfield 28, 3) := by decide +kernel
theorem dX2_take_14 : decode cX2_take 14 = .ok (.invokevirtual 181, 3) := by decide +kernel
theorem dX2_take_17 : decode cX2_take 17 = .ok (.ireturn, 1) := by decide +kernel
theorem dX2_take_18 : decode cX2_take 18 = .ok (.aload_n 0, 1) := by decide +kernel
theorem dX2_take_19 : decode cX2_take 19 = .ok (.dup, 1) := by decide +kernel
theorem dX2_take_20 : decode cX2_take 20 = .ok (.getfield 28, 3) := by decide +kernel
theorem dX2_take_23 : decode cX2_take 23 = .ok (.iconst 1, 1) := by decide +kernel
theorem dX2_take_24 : decode cX2_take 24 = .ok (.iadd, 1) := by decide +kernel
theorem dX2_take_25 : decode cX2_take 25 = .ok (.putfield 28, 3) := by decide +kernel
theorem dX2_take_28 : decode cX2_take 28 = .ok (.iconst 1, 1) := by decide +kernel
theorem dX2_take_29 : decode cX2_take 29 = .ok (.ireturn, 1) := by decide +kernel
theorem dX2_takeNumber_0 : decode cX2_takeNumber 0 = .ok (.aload_n 0, 1) := by decide +kernel
theorem dX2_takeNumber_1 : decode cX2_takeNumber 1 = .ok (.invokevirtual 124, 3) := by decide +kernel
theorem dX2_takeNumber_4 : decode cX2_takeNumber 4 = .ok (.getstatic 51, 3) := by decide +kernel
theorem dX2_takeNumber_7 : decode cX2_takeNumber 7 = .ok (.if_acmp .eq 15, 3) := by decide +kernel
theorem dX2_takeNumber_10 : decode cX2_takeNumber 10 = .ok (.aload_n 0, 1) := by decide +kernel
theorem dX2_takeNumber_11 : decode cX2_takeNumber 11 = .ok (.iconst 1, 1) := by decide +kernel
theorem dX2_takeNumber_12 : decode cX2_takeNumber 12 = .ok (.aload_n 0, 1) := by decide +kernel
theorem dX2_takeNumber_13 : decode cX2_takeNumber 13 = .ok (.getfield 28, 3) := by decide +kernel
theorem dX2_takeNumber_16 : decode cX2_takeNumber 16 = .ok (.invokevirtual 181, 3) := by decide +kernel
theorem dX2_takeNumber_19 : decode cX2_takeNumber 19 = .ok (.pop, 1) := by decide +kernel
theorem dX2_takeNumber_20 : decode cX2_takeNumber 20 = .ok (.iconst (-1), 1) := by decide +kernel
theorem dX2_takeNumber_21 : decode cX2_takeNumber 21 = .ok (.ireturn, 1) := by decide +kernel
theorem dX2_takeNumber_22 : decode cX2_takeNumber 22 = .ok (.aload_n 0, 1) := by decide +kernel
theorem dX2_takeNumber_23 : decode cX2_takeNumber 23 = .ok (.getfield 21, 3) := by decide +kernel
theorem dX2_takeNumber_26 : decode cX2_takeNumber 26 = .ok (.aload_n 0, 1) := by decide +kernel
theorem dX2_takeNumber_27 : decode cX2_takeNumber 27 = .ok (.getfield 28, 3) := by decide +kernel
theorem dX2_takeNumber_30 : decode cX2_takeNumber 30 = .ok (.iaload, 1) := by decide +kernel
theorem dX2_takeNumber_31 : decode cX2_takeNumber 31 = .ok (.istore_n 3, 1) := by decide +kernel
theorem dX2_takeNumber_32 : decode cX2_takeNumber 32 = .ok (.iload_n 3, 1) := by decide +kernel
theorem dX2_takeNumber_33 : decode cX2_takeNumber 33 = .ok (.iload_n 1, 1) := by decide +kernel
theorem dX2_takeNumber_34 : decode cX2_takeNumber 34 = .ok (.if_icmp .lt 8, 3) := by decide +kernel
theorem dX2_takeNumber_37 : decode cX2_takeNumber 37 = .ok (.iload_n 3, 1) := by decide +kernel
theorem dX2_takeNumber_38 : decode cX2_takeNumber 38 = .ok (.iload_n 2, 1) := by decide +kernel
theorem dX2_takeNumber_39 : decode cX2_takeNumber 39 = .ok (.if_icmp .le 15, 3) := by decide +kernel
theorem dX2_takeNumber_42 : decode cX2_takeNumber 42 = .ok (.aload_n 0, 1) := by decide +kernel
theorem dX2_takeNumber_43 : decode cX2_takeNumber 43 = .ok (.iconst 2, 1) := by decide +kernel
theorem dX2_takeNumber_44 : decode cX2_takeNumber 44 = .ok (.aload_n 0, 1) := by decide +kernel
theorem dX2_takeNumber_45 : decode cX2_takeNumber 45 = .ok (.getfield 28, 3) := by decide +kernel
theorem dX2_takeNumber_48 : decode cX2_takeNumber 48 = .ok (.invokevirtual 181, 3) := by decide +kernel
theorem dX2_takeNumber_51 : decode cX2_takeNumber 51 = .ok (.pop, 1) := by decide +kernel
theorem dX2_takeNumber_52 : decode cX2_takeNumber 52 = .ok (.iconst (-1), 1) := by decide +kernel
theorem dX2_takeNumber_53 : decode cX2_takeNumber 53 = .ok (.ireturn, 1) := by decide +kernel
theorem dX2_takeNumber_54 : decode cX2_takeNumber 54 = .ok (.aload_n 0, 1) := by decide +kernel
theorem dX2_takeNumber_55 : decode cX2_takeNumber 55 = .ok (.dup, 1) := by decide +kernel
theorem dX2_takeNumber_56 : decode cX2_takeNumber 56 = .ok (.getfield 28, 3) := by decide +kernel
theorem dX2_takeNumber_59 : decode cX2_takeNumber 59 = .ok (.iconst 1, 1) := by decide +kernel
theorem dX2_takeNumber_60 : decode cX2_takeNumber 60 = .ok (.iadd, 1) := by decide +kernel
theorem dX2_takeNumber_61 : decode cX2_takeNumber 61 = .ok (.putfield 28, 3) := by decide +kernel
theorem dX2_takeNumber_64 : decode cX2_takeNumber 64 = .ok (.iload_n 3, 1) := by decide +kernel
theorem dX2_takeNumber_65 : decode cX2_takeNumber 65 = .ok (.ireturn, 1) := by decide +kernel
theorem dX2_takePolicy_0 : decode cX2_takePolicy 0 = .ok (.iconst (-1), 1) := by decide +kernel
theorem dX2_takePolicy_1 : decode cX2_takePolicy 1 = .ok (.istore_n 1, 1) := by decide +kernel
theorem dX2_takePolicy_2 : decode cX2_takePolicy 2 = .ok (.getstatic 144, 3) := by decide +kernel
theorem dX2_takePolicy_5 : decode cX2_takePolicy 5 = .ok (.aload_n 0, 1) := by decide +kernel
theorem dX2_takePolicy_6 : decode cX2_takePolicy 6 = .ok (.invokevirtual 124, 3) := by decide +kernel
theorem dX2_takePolicy_9 : decode cX2_takePolicy 9 = .ok (.invokevirtual 149, 3) := by decide +kernel
theorem dX2_takePolicy_12 : decode cX2_takePolicy 12 = .ok (.iaload, 1) := by decide +kernel
theorem dX2_takePolicy_13 : decode cX2_takePolicy 13 = .ok (.tableswitch 42 14 16 #[27, 32, 37], 27) := by decide +kernel
theorem dX2_takePolicy_40 : decode cX2_takePolicy 40 = .ok (.iconst 0, 1) := by decide +kernel
theorem dX2_takePolicy_41 : decode cX2_takePolicy 41 = .ok (.istore_n 1, 1) := by decide +kernel
theorem dX2_takePolicy_42 : decode cX2_takePolicy 42 = .ok (.goto 25, 3) := by decide +kernel
theorem dX2_takePolicy_45 : decode cX2_takePolicy 45 = .ok (.iconst 1, 1) := by decide +kernel
theorem dX2_takePolicy_46 : decode cX2_takePolicy 46 = .ok (.istore_n 1, 1) := by decide +kernel
theorem dX2_takePolicy_47 : decode cX2_takePolicy 47 = .ok (.goto 20, 3) := by decide +kernel
theorem dX2_takePolicy_50 : decode cX2_takePolicy 50 = .ok (.iconst 2, 1) := by decide +kernel
theorem dX2_takePolicy_51 : decode cX2_takePolicy 51 = .ok (.istore_n 1, 1) := by decide +kernel
theorem dX2_takePolicy_52 : decode cX2_takePolicy 52 = .ok (.goto 15, 3) := by decide +kernel
theorem dX2_takePolicy_55 : decode cX2_takePolicy 55 = .ok (.aload_n 0, 1) := by decide +kernel
theorem dX2_takePolicy_56 : decode cX2_takePolicy 56 = .ok (.iconst 1, 1) := by decide +kernel
theorem dX2_takePolicy_57 : decode cX2_takePolicy 57 = .ok (.aload_n 0, 1) := by decide +kernel
theorem dX2_takePolicy_58 : decode cX2_takePolicy 58 = .ok (.getfield 28, 3) := by decide +kernel
theorem dX2_takePolicy_61 : decode cX2_takePolicy 61 = .ok (.invokevirtual 181, 3) := by decide +kernel
theorem dX2_takePolicy_64 : decode cX2_takePolicy 64 = .ok (.pop, 1) := by decide +kernel
theorem dX2_takePolicy_65 : decode cX2_takePolicy 65 = .ok (.iconst (-1), 1) := by decide +kernel
theorem dX2_takePolicy_66 : decode cX2_takePolicy 66 = .ok (.ireturn, 1) := by decide +kernel
theorem dX2_takePolicy_67 : decode cX2_takePolicy 67 = .ok (.aload_n 0, 1) := by decide +kernel
theorem dX2_takePolicy_68 : decode cX2_takePolicy 68 = .ok (.dup, 1) := by decide +kernel
theorem dX2_takePolicy_69 : decode cX2_takePolicy 69 = .ok (.getfield 28, 3) := by decide +kernel
theorem dX2_takePolicy_72 : decode cX2_takePolicy 72 = .ok (.iconst 1, 1) := by decide +kernel
theorem dX2_takePolicy_73 : decode cX2_takePolicy 73 = .ok (.iadd, 1) := by decide +kernel
theorem dX2_takePolicy_74 : decode cX2_takePolicy 74 = .ok (.putfield 28, 3) := by decide +kernel
theorem dX2_takePolicy_77 : decode cX2_takePolicy 77 = .ok (.iload_n 1, 1) := by decide +kernel
theorem dX2_takePolicy_78 : decode cX2_takePolicy 78 = .ok (.ireturn, 1) := by decide +kernel
theorem dX2_takeCounterAndValue_0 : decode cX2_takeCounterAndValue 0 = .ok (.aload_n 0, 1) := by decide +kernel
theorem dX2_takeCounterAndValue_1 : decode cX2_takeCounterAndValue 1 = .ok (.invokevirtual 124, 3) := by decide +kernel
theorem dX2_takeCounterAndValue_4 : decode cX2_takeCounterAndValue 4 = .ok (.invokevirtual 226, 3) := by decide +kernel
theorem dX2_takeCounterAndValue_7 : decode cX2_takeCounterAndValue 7 = .ok (.ifCond .ne 15, 3) := by decide +kernel
theorem dX2_takeCounterAndValue_10 : decode cX2_takeCounterAndValue 10 = .ok (.aload_n 0, 1) := by decide +kernel
theorem dX2_takeCounterAndValue_11 : decode cX2_takeCounterAndValue 11 = .ok (.iconst 1, 1) := by decide +kernel
theorem dX2_takeCounterAndValue_12 : decode cX2_takeCounterAndValue 12 = .ok (.aload_n 0, 1) := by decide +kernel
theorem dX2_takeCounterAndValue_13 : decode cX2_takeCounterAndValue 13 = .ok (.getfield 28, 3) := by decide +kernel
theorem dX2_takeCounterAndValue_16 : decode cX2_takeCounterAndValue 16 = .ok (.invokevirtual 181, 3) := by decide +kernel
theorem dX2_takeCounterAndValue_19 : decode cX2_takeCounterAndValue 19 = .ok (.pop, 1) := by decide +kernel
theorem dX2_takeCounterAndValue_20 : decode cX2_takeCounterAndValue 20 = .ok (.iconst (-1), 1) := by decide +kernel
theorem dX2_takeCounterAndValue_21 : decode cX2_takeCounterAndValue 21 = .ok (.ireturn, 1) := by decide +kernel
theorem dX2_takeCounterAndValue_22 : decode cX2_takeCounterAndValue 22 = .ok (.aload_n 0, 1) := by decide +kernel
theorem dX2_takeCounterAndValue_23 : decode cX2_takeCounterAndValue 23 = .ok (.dup, 1) := by decide +kernel
theorem dX2_takeCounterAndValue_24 : decode cX2_takeCounterAndValue 24 = .ok (.getfield 28, 3) := by decide +kernel
theorem dX2_takeCounterAndValue_27 : decode cX2_takeCounterAndValue 27 = .ok (.iconst 1, 1) := by decide +kernel
theorem dX2_takeCounterAndValue_28 : decode cX2_takeCounterAndValue 28 = .ok (.iadd, 1) := by decide +kernel
theorem dX2_takeCounterAndValue_29 : decode cX2_takeCounterAndValue 29 = .ok (.putfield 28, 3) := by decide +kernel
theorem dX2_takeCounterAndValue_32 : decode cX2_takeCounterAndValue 32 = .ok (.aload_n 0, 1) := by decide +kernel
theorem dX2_takeCounterAndValue_33 : decode cX2_takeCounterAndValue 33 = .ok (.iconst 0, 1) := by decide +kernel
theorem dX2_takeCounterAndValue_34 : decode cX2_takeCounterAndValue 34 = .ok (.sipush 999, 3) := by decide +kernel
theorem dX2_takeCounterAndValue_37 : decode cX2_takeCounterAndValue 37 = .ok (.invokevirtual 104, 3) := by decide +kernel
theorem dX2_takeCounterAndValue_40 : decode cX2_takeCounterAndValue 40 = .ok (.ireturn, 1) := by decide +kernel
theorem dX2_fail_0 : decode cX2_fail 0 = .ok (.aload_n 0, 1) := by decide +kernel
theorem dX2_fail_1 : decode cX2_fail 1 = .ok (.iload_n 1, 1) := by decide +kernel
theorem dX2_fail_2 : decode cX2_fail 2 = .ok (.putfield 34, 3) := by decide +kernel
theorem dX2_fail_5 : decode cX2_fail 5 = .ok (.iload_n 2, 1) := by decide +kernel
theorem dX2_fail_6 : decode cX2_fail 6 = .ok (.ifCond .lt 21, 3) := by decide +kernel
theorem dX2_fail_9 : decode cX2_fail 9 = .ok (.iload_n 2, 1) := by decide +kernel
theorem dX2_fail_10 : decode cX2_fail 10 = .ok (.aload_n 0, 1) := by decide +kernel
theorem dX2_fail_11 : decode cX2_fail 11 = .ok (.getfield 24, 3) := by decide +kernel
theorem dX2_fail_14 : decode cX2_fail 14 = .ok (.if_icmp .ge 13, 3) := by decide +kernel
theorem dX2_fail_17 : decode cX2_fail 17 = .ok (.aload_n 0, 1) := by decide +kernel
theorem dX2_fail_18 : decode cX2_fail 18 = .ok (.aload_n 0, 1) := by decide +kernel
theorem dX2_fail_19 : decode cX2_fail 19 = .ok (.getfield 17, 3) := by decide +kernel
theorem dX2_fail_22 : decode cX2_fail 22 = .ok (.iload_n 2, 1) := by decide +kernel
theorem dX2_fail_23 : decode cX2_fail 23 = .ok (.iaload, 1) := by decide +kernel
theorem dX2_fail_24 : decode cX2_fail 24 = .ok (.putfield 37, 3) := by decide +kernel
theorem dX2_fail_27 : decode cX2_fail 27 = .ok (.iconst 0, 1) := by decide +kernel
theorem dX2_fail_28 : decode cX2_fail 28 = .ok (.ireturn, 1) := by decide +kernel
theorem dX3_init_0 : decode cX3_init 0 = .ok (.aload_n 0, 1) := by decide +kernel
theorem dX3_init_1 : decode cX3_init 1 = .ok (.invokespecial 3, 3) := by decide +kernel
theorem dX3_init_4 : decode cX3_init 4 = .ok (.aload_n 0, 1) := by decide +kernel
theorem dX3_init_5 : decode cX3_init 5 = .ok (.bipush 40, 2) := by decide +kernel
theorem dX3_init_7 : decode cX3_init 7 = .ok (.newarray .int, 2) := by decide +kernel
theorem dX3_init_9 : decode cX3_init 9 = .ok (.putfield 9, 3) := by decide +kernel
theorem dX3_init_12 : decode cX3_init 12 = .ok (.aload_n 0, 1) := by decide +kernel
theorem dX3_init_13 : decode cX3_init 13 = .ok (.bipush 40, 2) := by decide +kernel
theorem dX3_init_15 : decode cX3_init 15 = .ok (.newarray .int, 2) := by decide +kernel
theorem dX3_init_17 : decode cX3_init 17 = .ok (.putfield 15, 3) := by decide +kernel
theorem dX3_init_20 : decode cX3_init 20 = .ok (.aload_n 0, 1) := by decide +kernel
theorem dX3_init_21 : decode cX3_init 21 = .ok (.bipush 40, 2) := by decide +kernel
theorem dX3_init_23 : decode cX3_init 23 = .ok (.newarray .int, 2) := by decide +kernel
theorem dX3_init_25 : decode cX3_init 25 = .ok (.putfield 18, 3) := by decide +kernel
theorem dX3_init_28 : decode cX3_init 28 = .ok (.aload_n 0, 1) := by decide +kernel
theorem dX3_init_29 : decode cX3_init 29 = .ok (.bipush 40, 2) := by decide +kernel
theorem dX3_init_31 : decode cX3_init 31 = .ok (.newarray .int, 2) := by decide +kernel
theorem dX3_init_33 : decode cX3_init 33 = .ok (.putfield 21, 3) := by decide +kernel
theorem dX3_init_36 : decode cX3_init 36 = .ok (.aload_n 0, 1) := by decide +kernel
theorem dX3_init_37 : decode cX3_init 37 = .ok (.bipush 40, 2) := by decide +kernel
theorem dX3_init_39 : decode cX3_init 39 = .ok (.newarray .int, 2) := by decide +kernel
theorem dX3_init_41 : decode cX3_init 41 = .ok (.putfield 24, 3) := by decide +kernel
theorem dX3_init_44 : decode cX3_init 44 = .ok (.aload_n 0, 1) := by decide +kernel
theorem dX3_init_45 : decode cX3_init 45 = .ok (.bipush 40, 2) := by decide +kernel
theorem dX3_init_47 : decode cX3_init 47 = .ok (.newarray .int, 2) := by decide +kernel
theorem dX3_init_49 : decode cX3_init 49 = .ok (.putfield 27, 3) := by decide +kernel
theorem dX3_init_52 : decode cX3_init 52 = .ok (.aload_n 0, 1) := by decide +kernel
theorem dX3_init_53 : decode cX3_init 53 = .ok (.bipush 10, 2) := by decide +kernel
theorem dX3_init_55 : decode cX3_init 55 = .ok (.iconst 4, 1) := by decide +kernel
theorem dX3_init_56 : decode cX3_init 56 = .ok (.iconst 2, 1) := by decide +kernel
theorem dX3_init_57 : decode cX3_init 57 = .ok (.invokevirtual 30, 3) := by decide +kernel
theorem dX3_init_60 : decode cX3_init 60 = .ok (.return_, 1) := by decide +kernel
theorem dX3_begin_0 : decode cX3_begin 0 = .ok (.aload_n 0, 1) := by decide +kernel
theorem dX3_begin_1 : decode cX3_begin 1 = .ok (.iload_n 1, 1) := by decide +kernel
theorem dX3_begin_2 : decode cX3_begin 2 = .ok (.putfield 34, 3) := by decide +kernel
theorem dX3_begin_5 : decode cX3_begin 5 = .ok (.aload_n 0, 1) := by decide +kernel
theorem dX3_begin_6 : decode cX3_begin 6 = .ok (.iload_n 2, 1) := by decide +kernel
theorem dX3_begin_7 : decode cX3_begin 7 = .ok (.putfield 38, 3) := by decide +kernel
theorem dX3_begin_10 : decode cX3_begin 10 = .ok (.aload_n 0, 1) := by decide +kernel
theorem dX3_begin_11 : decode cX3_begin 11 = .ok (.iload_n 3, 1) := by decide +kernel
theorem dX3_begin_12 : decode cX3_begin 12 = .ok (.putfield 41, 3) := by decide +kernel
theorem dX3_begin_15 : decode cX3_begin 15 = .ok (.aload_n 0, 1) := by decide +kernel
theorem dX3_begin_16 : decode cX3_begin 16 = .ok (.iconst 0, 1) := by decide +kernel
theorem dX3_begin_17 : decode cX3_begin 17 = .ok (.putfield 44, 3) := by decide +kernel
theorem dX3_begin_20 : decode cX3_begin 20 = .ok (.aload_n 0, 1) := by decide +kernel
theorem dX3_begin_21 : decode cX3_begin 21 = .ok (.iconst 0, 1) := by decide +kernel
theorem dX3_begin_22 : decode cX3_begin 22 = .ok (.putfield 47, 3) := by decide +kernel
theorem dX3_begin_25 : decode cX3_begin 25 = .ok (.aload_n 0, 1) := by decide +kernel
theorem dX3_begin_26 : decode cX3_begin 26 = .ok (.iconst 1, 1) := by decide +kernel
theorem dX3_begin_27 : decode cX3_begin 27 = .ok (.putfield 50, 3) := by decide +kernel
theorem dX3_begin_30 : decode cX3_begin 30 = .ok (.aload_n 0, 1) := by decide +kernel
theorem dX3_begin_31 : decode cX3_begin 31 = .ok (.iconst 0, 1) := by decide +kernel
theorem dX3_begin_32 : decode cX3_begin 32 = .ok (.putfield 54, 3) := by decide +kernel
theorem dX3_begin_35 : decode cX3_begin 35 = .ok (.aload_n 0, 1) := by decide +kernel
theorem dX3_begin_36 : decode cX3_begin 36 = .ok (.iconst 0, 1) := by decide +kernel
theorem dX3_begin_37 : decode cX3_begin 37 = .ok (.putfield 57, 3) := by decide +kernel
theorem dX3_begin_40 : decode cX3_begin 40 = .ok (.aload_n 0, 1) := by decide +kernel
theorem dX3_begin_41 : decode cX3_begin 41 = .ok (.iconst 0, 1) := by decide +kernel
theorem dX3_begin_42 : decode cX3_begin 42 = .ok (.putfield 60, 3) := by decide +kernel
theorem dX3_begin_45 : decode cX3_begin 45 = .ok (.aload_n 0, 1) := by decide +kernel
theorem dX3_begin_46 : decode cX3_begin 46 = .ok (.iconst 0, 1) := by decide +kernel
theorem dX3_begin_47 : decode cX3_begin 47 = .ok (.putfield 63, 3) := by decide +kernel
theorem dX3_begin_50 : decode cX3_begin 50 = .ok (.aload_n 0, 1) := by decide +kernel
theorem dX3_begin_51 : decode cX3_begin 51 = .ok (.iconst 0, 1) := by decide +kernel
theorem dX3_begin_52 : decode cX3_begin 52 = .ok (.putfield 66, 3) := by decide +kernel
theorem dX3_begin_55 : decode cX3_begin 55 = .ok (.aload_n 0, 1) := by decide +kernel
theorem dX3_begin_56 : decode cX3_begin 56 = .ok (.iconst 0, 1) := by decide +kernel
theorem dX3_begin_57 : decode cX3_begin 57 = .ok (.putfield 69, 3) := by decide +kernel
theorem dX3_begin_60 : decode cX3_begin 60 = .ok (.aload_n 0, 1) := by decide +kernel
theorem dX3_begin_61 : decode cX3_begin 61 = .ok (.iconst 0, 1) := by decide +kernel
theorem dX3_begin_62 : decode cX3_begin 62 = .ok (.putfield 72, 3) := by decide +kernel
theorem dX3_begin_65 : decode cX3_begin 65 = .ok (.return_, 1) := by decide +kernel
theorem dX3_copyFrom_0 : decode cX3_copyFrom 0 = .ok (.aload_n 0, 1) := by decide +kernel
theorem dX3_copyFrom_1 : decode cX3_copyFrom 1 = .ok (.aload_n 1, 1) := by decide +kernel
theorem dX3_copyFrom_2 : decode cX3_copyFrom 2 = .ok (.getfield 34, 3) := by decide +kernel
theorem dX3_copyFrom_5 : decode cX3_copyFrom 5 = .ok (.putfield 34, 3) := by decide +kernel
theorem dX3_copyFrom_8 : decode cX3_copyFrom 8 = .ok (.aload_n 0, 1) := by decide +kernel
theorem dX3_copyFrom_9 : decode cX3_copyFrom 9 = .ok (.aload_n 1, 1) := by decide +kernel
theorem dX3_copyFrom_10 : decode cX3_copyFrom 10 = .ok (.getfield 38, 3) := by decide +kernel
theorem dX3_copyFrom_13 : decode cX3_copyFrom 13 = .ok (.putfield 38, 3) := by decide +kernel
theorem dX3_copyFrom_16 : decode cX3_copyFrom 16 = .ok (.aload_n 0, 1) := by decide +kernel
theorem dX3_copyFrom_17 : decode cX3_copyFrom 17 = .ok (.aload_n 1, 1) := by decide +kernel
theorem dX3_copyFrom_18 : decode cX3_copyFrom 18 = .ok (.getfield 41, 3) := by decide +kernel
theorem dX3_copyFrom_21 : decode cX3_copyFrom 21 = .ok (.putfield 41, 3) := by decide +kernel
theorem dX3_copyFrom_24 : decode cX3_copyFrom 24 = .ok (.aload_n 0, 1) := by decide +kernel
theorem dX3_copyFrom_25 : decode cX3_copyFrom 25 = .ok (.aload_n 1, 1) := by decide +kernel
theorem dX3_copyFrom_26 : decode cX3_copyFrom 26 = .ok (.getfield 44, 3) := by decide +kernel
theorem dX3_copyFrom_29 : decode cX3_copyFrom 29 = .ok (.putfield 44, 3) := by decide +kernel
theorem dX3_copyFrom_32 : decode cX3_copyFrom 32 = .ok (.aload_n 0, 1) := by decide +kernel
theorem dX3_copyFrom_33 : decode cX3_copyFrom 33 = .ok (.aload_n 1, 1) := by decide +kernel
theorem dX3_copyFrom_34 : decode cX3_copyFrom 34 = .ok (.getfield 47, 3) := by decide +kernel
theorem dX3_copyFrom_37 : decode cX3_copyFrom 37 = .ok (.putfield 47, 3) := by decide +kernel
theorem dX3_copyFrom_40 : decode cX3_copyFrom 40 = .ok (.aload_n 0, 1) := by decide +kernel
theorem dX3_copyFrom_41 : decode cX3_copyFrom 41 = .ok (.aload_n 1, 1) := by decide +kernel
theorem dX3_copyFrom_42 : decode cX3_copyFrom 42 = .ok (.getfield 50, 3) := by decide +kernel
theorem dX3_copyFrom_45 : decode cX3_copyFrom 45 = .ok (.putfield 50, 3) := by decide +kernel
theorem dX3_copyFrom_48 : decode cX3_copyFrom 48 = .ok (.aload_n 0, 1) := by decide +kernel
theorem dX3_copyFrom_49 : decode cX3_copyFrom 49 = .ok (.aload_n 1, 1) := by decide +kernel
theorem dX3_copyFrom_50 : decode cX3_copyFrom 50 = .ok (.getfield 54, 3) := by decide +kernel
theorem dX3_copyFrom_53 : decode cX3_copyFrom 53 = .ok (.putfield 54, 3) := by decide +kernel
theorem dX3_copyFrom_56 : decode cX3_copyFrom 56 = .ok (.aload_n 0, 1) := by decide +kernel
theorem dX3_copyFrom_57 : decode cX3_copyFrom 57 = .ok (.aload_n 1, 1) := by decide +kernel
theorem dX3_copyFrom_58 : decode cX3_copyFrom 58 = .ok (.getfield 57, 3) := by decide +kernel
theorem dX3_copyFrom_61 : decode cX3_copyFrom 61 = .ok (.putfield 57, 3) := by decide +kernel
theorem dX3_copyFrom_64 : decode cX3_copyFrom 64 = .ok (.aload_n 0, 1) := by decide +kernel
theorem dX3_copyFrom_65 : decode cX3_copyFrom 65 = .ok (.aload_n 1, 1) := by decide +kernel
theorem dX3_copyFrom_66 : decode cX3_copyFrom 66 = .ok (.getfield 60, 3) := by decide +kernel
theorem dX3_copyFrom_69 : decode cX3_copyFrom 69 = .ok (.putfield 60, 3) := by decide +kernel
theorem dX3_copyFrom_72 : decode cX3_copyFrom 72 = .ok (.aload_n 0, 1) := by decide +kernel
theorem dX3_copyFrom_73 : decode cX3_copyFrom 73 = .ok (.aload_n 1, 1) := by decide +kernel
theorem dX3_copyFrom_74 : decode cX3_copyFrom 74 = .ok (.getfield 63, 3) := by decide +kernel
theorem dX3_copyFrom_77 : decode cX3_copyFrom 77 = .ok (.putfield 63, 3) := by decide +kernel
theorem dX3_copyFrom_80 : decode cX3_copyFrom 80 = .ok (.aload_n 0, 1) := by decide +kernel
theorem dX3_copyFrom_81 : decode cX3_copyFrom 81 = .ok (.aload_n 1, 1) := by decide +kernel
theorem dX3_copyFrom_82 : decode cX3_copyFrom 82 = .ok (.getfield 66, 3) := by decide +kernel
theorem dX3_copyFrom_85 : decode cX3_copyFrom 85 = .ok (.putfield 66, 3) := by decide +kernel
theorem dX3_copyFrom_88 : decode cX3_copyFrom 88 = .ok (.aload_n 0, 1) := by decide +kernel
theorem dX3_copyFrom_89 : decode cX3_copyFrom 89 = .ok (.aload_n 1, 1) := by decide +kernel
theorem dX3_copyFrom_90 : decode cX3_copyFrom 90 = .ok (.getfield 69, 3) := by decide +kernel
theorem dX3_copyFrom_93 : decode cX3_copyFrom 93 = .ok (.putfield 69, 3) := by decide +kernel
theorem dX3_copyFrom_96 : decode cX3_copyFrom 96 = .ok (.aload_n 0, 1) := by decide +kernel
theorem dX3_copyFrom_97 : decode cX3_copyFrom 97 = .ok (.aload_n 1, 1) := by decide +kernel
theorem dX3_copyFrom_98 : decode cX3_copyFrom 98 = .ok (.getfield 72, 3) := by decide +kernel
theorem dX3_copyFrom_101 : decode cX3_copyFrom 101 = .ok (.putfield 72, 3) := by decide +kernel
theorem dX3_copyFrom_104 : decode cX3_copyFrom 104 = .ok (.aload_n 1, 1) := by decide +kernel
theorem dX3_copyFrom_105 : decode cX3_copyFrom 105 = .ok (.getfield 9, 3) := by decide +kernel
theorem dX3_copyFrom_108 : decode cX3_copyFrom 108 = .ok (.iconst 0, 1) := by decide +kernel
theorem dX3_copyFrom_109 : decode cX3_copyFrom 109 = .ok (.aload_n 0, 1) := by decide +kernel
theorem dX3_copyFrom_110 : decode cX3_copyFrom 110 = .ok (.getfield 9, 3) := by decide +kernel
theorem dX3_copyFrom_113 : decode cX3_copyFrom 113 = .ok (.iconst 0, 1) := by decide +kernel
theorem dX3_copyFrom_114 : decode cX3_copyFrom 114 = .ok (.aload_n 0, 1) := by decide +kernel
theorem dX3_copyFrom_115 : decode cX3_copyFrom 115 = .ok (.getfield 66, 3) := by decide +kernel
theorem dX3_copyFrom_118 : decode cX3_copyFrom 118 = .ok (.invokestatic 75, 3) := by decide +kernel
theorem dX3_copyFrom_121 : decode cX3_copyFrom 121 = .ok (.aload_n 1, 1) := by decide +kernel
theorem dX3_copyFrom_122 : decode cX3_copyFrom 122 = .ok (.getfield 15, 3) := by decide +kernel
theorem dX3_copyFrom_125 : decode cX3_copyFrom 125 = .ok (.iconst 0, 1) := by decide +kernel
theorem dX3_copyFrom_126 : decode cX3_copyFrom 126 = .ok (.aload_n 0, 1) := by decide +kernel
theorem dX3_copyFrom_127 : decode cX3_copyFrom 127 = .ok (.getfield 15, 3) := by decide +kernel
theorem dX3_copyFrom_130 : decode cX3_copyFrom 130 = .ok (.iconst 0, 1) := by decide +kernel
theorem dX3_copyFrom_131 : decode cX3_copyFrom 131 = .ok (.aload_n 0, 1) := by decide +kernel
theorem dX3_copyFrom_132 : decode cX3_copyFrom 132 = .ok (.getfield 66, 3) := by decide +kernel
theorem dX3_copyFrom_135 : decode cX3_copyFrom 135 = .ok (.invokestatic 75, 3) := by decide +kernel
theorem dX3_copyFrom_138 : decode cX3_copyFrom 138 = .ok (.aload_n 1, 1) := by decide +kernel
theorem dX3_copyFrom_139 : decode cX3_copyFrom 139 = .ok (.getfield 18, 3) := by decide +kernel
theorem dX3_copyFrom_142 : decode cX3_copyFrom 142 = .ok (.iconst 0, 1) := by decide +kernel
theorem dX3_copyFrom_143 : decode cX3_copyFrom 143 = .ok (.aload_n 0, 1) := by decide +kernel
theorem dX3_copyFrom_144 : decode cX3_copyFrom 144 = .ok (.getfield 18, 3) := by decide +kernel
theorem dX3_copyFrom_147 : decode cX3_copyFrom 147 = .ok (.iconst 0, 1) := by decide +kernel
theorem dX3_copyFrom_148 : decode cX3_copyFrom 148 = .ok (.aload_n 0, 1) := by decide +kernel
theorem dX3_copyFrom_149 : decode cX3_copyFrom 149 = .ok (.getfield 66, 3) := by decide +kernel
theorem dX3_copyFrom_152 : decode cX3_copyFrom 152 = .ok (.invokestatic 75, 3) := by decide +kernel
theorem dX3_copyFrom_155 : decode cX3_copyFrom 155 = .ok (.aload_n 1, 1) := by decide +kernel
theorem dX3_copyFrom_156 : decode cX3_copyFrom 156 = .ok (.getfield 21, 3) := by decide +kernel
theorem dX3_copyFrom_159 : decode cX3_copyFrom 159 = .ok (.iconst 0, 1) := by decide +kernel
theorem dX3_copyFrom_160 : decode cX3_copyFrom 160 = .ok (.aload_n 0, 1) := by decide +kernel
theorem dX3_copyFrom_161 : decode cX3_copyFrom 161 = .ok (.getfield 21, 3) := by decide +kernel
theorem dX3_copyFrom_164 : decode cX3_copyFrom 164 = .ok (.iconst 0, 1) := by decide +kernel
theorem dX3_copyFrom_165 : decode cX3_copyFrom 165 = .ok (.aload_n 0, 1) := by decide +kernel
theorem dX3_copyFrom_166 : decode cX3_copyFrom 166 = .ok (.getfield 66, 3) := by decide +kernel
theorem dX3_copyFrom_169 : decode cX3_copyFrom 169 = .ok (.invokestatic 75, 3) := by decide +kernel
theorem dX3_copyFrom_172 : decode cX3_copyFrom 172 = .ok (.aload_n 1, 1) := by decide +kernel
theorem dX3_copyFrom_173 : decode cX3_copyFrom 173 = .ok (.getfield 24, 3) := by decide +kernel
theorem dX3_copyFrom_176 : decode cX3_copyFrom 176 = .ok (.iconst 0, 1) := by decide +kernel
theorem dX3_copyFrom_177 : decode cX3_copyFrom 177 = .ok (.aload_n 0, 1) := by decide +kernel
theorem dX3_copyFrom_178 : decode cX3_copyFrom 178 = .ok (.getfield 24, 3) := by decide +kernel
theorem dX3_copyFrom_181 : decode cX3_copyFrom 181 = .ok (.iconst 0, 1) := by decide +kernel
theorem dX3_copyFrom_182 : decode cX3_copyFrom 182 = .ok (.aload_n 0, 1) := by decide +kernel
theorem dX3_copyFrom_183 : decode cX3_copyFrom 183 = .ok (.getfield 66, 3) := by decide +kernel
theorem dX3_copyFrom_186 : decode cX3_copyFrom 186 = .ok (.invokestatic 75, 3) := by decide +kernel
theorem dX3_copyFrom_189 : decode cX3_copyFrom 189 = .ok (.aload_n 1, 1) := by decide +kernel
theorem dX3_copyFrom_190 : decode cX3_copyFrom 190 = .ok (.getfield 27, 3) := by decide +kernel
theorem dX3_copyFrom_193 : decode cX3_copyFrom 193 = .ok (.iconst 0, 1) := by decide +kernel
theorem dX3_copyFrom_194 : decode cX3_copyFrom 194 = .ok (.aload_n 0, 1) := by decide +kernel
theorem dX3_copyFrom_195 : decode cX3_copyFrom 195 = .ok (.getfield 27, 3) := by decide +kernel
theorem dX3_copyFrom_198 : decode cX3_copyFrom 198 = .ok (.iconst 0, 1) := by decide +kernel
theorem dX3_copyFrom_199 : decode cX3_copyFrom 199 = .ok (.aload_n 0, 1) := by decide +kernel
theorem dX3_copyFrom_200 : decode cX3_copyFrom 200 = .ok (.getfield 66, 3) := by decide +kernel
theorem dX3_copyFrom_203 : decode cX3_copyFrom 203 = .ok (.invokestatic 75, 3) := by decide +kernel
theorem dX3_copyFrom_206 : decode cX3_copyFrom 206 = .ok (.return_, 1) := by decide +kernel
theorem dX3_addArrival_0 : decode cX3_addArrival 0 = .ok (.aload_n 0, 1) := by decide +kernel
theorem dX3_addArrival_1 : decode cX3_addArrival 1 = .ok (.getfield 66, 3) := by decide +kernel
theorem dX3_addArrival_4 : decode cX3_addArrival 4 = .ok (.bipush 40, 2) := by decide +kernel
theorem dX3_addArrival_6 : decode cX3_addArrival 6 = .ok (.if_icmp .lt 4, 3) := by decide +kernel
theorem dX3_addArrival_9 : decode cX3_addArrival 9 = .ok (.return_, 1) := by decide +kernel
theorem dX3_addArrival_10 : decode cX3_addArrival 10 = .ok (.aload_n 0, 1) := by decide +kernel
theorem dX3_addArrival_11 : decode cX3_addArrival 11 = .ok (.getfield 9, 3) := by decide +kernel
theorem dX3_addArrival_14 : decode cX3_addArrival 14 = .ok (.aload_n 0, 1) := by decide +kernel
theorem dX3_addArrival_15 : decode cX3_addArrival 15 = .ok (.getfield 66, 3) := by decide +kernel
theorem dX3_addArrival_18 : decode cX3_addArrival 18 = .ok (.iload_n 1, 1) := by decide +kernel
theorem dX3_addArrival_19 : decode cX3_addArrival 19 = .ok (.iastore, 1) := by decide +kernel
theorem dX3_addArrival_20 : decode cX3_addArrival 20 = .ok (.aload_n 0, 1) := by decide +kernel
theorem dX3_addArrival_21 : decode cX3_addArrival 21 = .ok (.getfield 15, 3) := by decide +kernel
theorem dX3_addArrival_24 : decode cX3_addArrival 24 = .ok (.aload_n 0, 1) := by decide +kernel
theorem dX3_addArrival_25 : decode cX3_addArrival 25 = .ok (.getfield 66, 3) := by decide +kernel
theorem dX3_addArrival_28 : decode cX3_addArrival 28 = .ok (.iload_n 2, 1) := by decide +kernel
theorem dX3_addArrival_29 : decode cX3_addArrival 29 = .ok (.iastore, 1) := by decide +kernel
theorem dX3_addArrival_30 : decode cX3_addArrival 30 = .ok (.aload_n 0, 1) := by decide +kernel
theorem dX3_addArrival_31 : decode cX3_addArrival 31 = .ok (.getfield 18, 3) := by decide +kernel
theorem dX3_addArrival_34 : decode cX3_addArrival 34 = .ok (.aload_n 0, 1) := by decide +kernel
theorem dX3_addArrival_35 : decode cX3_addArrival 35 = .ok (.getfield 66, 3) := by decide +kernel
theorem dX3_addArrival_38 : decode cX3_addArrival 38 = .ok (.iload_n 3, 1) := by decide +kernel
theorem dX3_addArrival_39 : decode cX3_addArrival 39 = .ok (.iastore, 1) := by decide +kernel
theorem dX3_addArrival_40 : decode cX3_addArrival 40 = .ok (.aload_n 0, 1) := by decide +kernel
theorem dX3_addArrival_41 : decode cX3_addArrival 41 = .ok (.getfield 21, 3) := by decide +kernel
theorem dX3_addArrival_44 : decode cX3_addArrival 44 = .ok (.aload_n 0, 1) := by decide +kernel
theorem dX3_addArrival_45 : decode cX3_addArrival 45 = .ok (.getfield 66, 3) := by decide +kernel
theorem dX3_addArrival_48 : decode cX3_addArrival 48 = .ok (.iconst (-1), 1) := by decide +kernel
theorem dX3_addArrival_49 : decode cX3_addArrival 49 = .ok (.iastore, 1) := by decide +kernel
theorem dX3_addArrival_50 : decode cX3_addArrival 50 = .ok (.aload_n 0, 1) := by decide +kernel
theorem dX3_addArrival_51 : decode cX3_addArrival 51 = .ok (.getfield 24, 3) := by decide +kernel
theorem dX3_addArrival_54 : decode cX3_addArrival 54 = .ok (.aload_n 0, 1) := by decide +kernel
theorem dX3_addArrival_55 : decode cX3_addArrival 55 = .ok (.getfield 66, 3) := by decide +kernel
theorem dX3_addArrival_58 : decode cX3_addArrival 58 = .ok (.iconst (-1), 1) := by decide +kernel
theorem dX3_addArrival_59 : decode cX3_addArrival 59 = .ok (.iastore, 1) := by decide +kernel
theorem dX3_addArrival_60 : decode cX3_addArrival 60 = .ok (.aload_n 0, 1) := by decide +kernel
theorem dX3_addArrival_61 : decode cX3_addArrival 61 = .ok (.getfield 66, 3) := by decide +kernel
theorem dX3_addArrival_64 : decode cX3_addArrival 64 = .ok (.istore 4, 2) := by decide +kernel
theorem dX3_addArrival_66 : decode cX3_addArrival 66 = .ok (.iload 4, 2) := by decide +kernel
theorem dX3_addArrival_68 : decode cX3_addArrival 68 = .ok (.ifCond .le 43, 3) := by decide +kernel
theorem dX3_addArrival_71 : decode cX3_addArrival 71 = .ok (.aload_n 0, 1) := by decide +kernel
theorem dX3_addArrival_72 : decode cX3_addArrival 72 = .ok (.getfield 18, 3) := by decide +kernel
theorem dX3_addArrival_75 : decode cX3_addArrival 75 = .ok (.aload_n 0, 1) := by decide +kernel
theorem dX3_addArrival_76 : decode cX3_addArrival 76 = .ok (.getfield 27, 3) := by decide +kernel
theorem dX3_addArrival_79 : decode cX3_addArrival 79 = .ok (.iload 4, 2) := by decide +kernel
theorem dX3_addArrival_81 : decode cX3_addArrival 81 = .ok (.iconst 1, 1) := by decide +kernel
theorem dX3_addArrival_82 : decode cX3_addArrival 82 = .ok (.isub, 1) := by decide +kernel
theorem dX3_addArrival_83 : decode cX3_addArrival 83 = .ok (.iaload, 1) := by decide +kernel
theorem dX3_addArrival_84 : decode cX3_addArrival 84 = .ok (.iaload, 1) := by decide +kernel
theorem dX3_addArrival_85 : decode cX3_addArrival 85 = .ok (.iload_n 3, 1) := by decide +kernel
theorem dX3_addArrival_86 : decode cX3_addArrival 86 = .ok (.if_icmp .le 25, 3) := by decide +kernel
theorem dX3_addArrival_89 : decode cX3_addArrival 89 = .ok (.aload_n 0, 1) := by decide +kernel
theorem dX3_addArrival_90 : decode cX3_addArrival 90 = .ok (.getfield 27, 3) := by decide +kernel
theorem dX3_addArrival_93 : decode cX3_addArrival 93 = .ok (.iload 4, 2) := by decide +kernel
theorem dX3_addArrival_95 : decode cX3_addArrival 95 = .ok (.aload_n 0, 1) := by decide +kernel
theorem dX3_addArrival_96 : decode cX3_addArrival 96 = .ok (.getfield 27, 3) := by decide +kernel
theorem dX3_addArrival_99 : decode cX3_addArrival 99 = .ok (.iload 4, 2) := by decide +kernel
theorem dX3_addArrival_101 : decode cX3_addArrival 101 = .ok (.iconst 1, 1) := by decide +kernel
theorem dX3_addArrival_102 : decode cX3_addArrival 102 = .ok (.isub, 1) := by decide +kernel
theorem dX3_addArrival_103 : decode cX3_addArrival 103 = .ok (.iaload, 1) := by decide +kernel
theorem dX3_addArrival_104 : decode cX3_addArrival 104 = .ok (.iastore, 1) := by decide +kernel
theorem dX3_addArrival_105 : decode cX3_addArrival 105 = .ok (.iinc 4 (-1), 3) := by decide +kernel
theorem dX3_addArrival_108 : decode cX3_addArrival 108 = .ok (.goto (-42), 3) := by decide +kernel
theorem dX3_addArrival_111 : decode cX3_addArrival 111 = .ok (.aload_n 0, 1) := by decide +kernel
theorem dX3_addArrival_112 : decode cX3_addArrival 112 = .ok (.getfield 27, 3) := by decide +kernel
theorem dX3_addArrival_115 : decode cX3_addArrival 115 = .ok (.iload 4, 2) := by decide +kernel
theorem dX3_addArrival_117 : decode cX3_addArrival 117 = .ok (.aload_n 0, 1) := by decide +kernel
theorem dX3_addArrival_118 : decode cX3_addArrival 118 = .ok (.getfield 66, 3) := by decide +kernel
theorem dX3_addArrival_121 : decode cX3_addArrival 121 = .ok (.iastore, 1) := by decide +kernel
theorem dX3_addArrival_122 : decode cX3_addArrival 122 = .ok (.aload_n 0, 1) := by decide +kernel
theorem dX3_addArrival_123 : decode cX3_addArrival 123 = .ok (.dup, 1) := by decide +kernel
theorem dX3_addArrival_124 : decode cX3_addArrival 124 = .ok (.getfield 66, 3) := by decide +kernel
theorem dX3_addArrival_127 : decode cX3_addArrival 127 = .ok (.iconst 1, 1) := by decide +kernel
theorem dX3_addArrival_128 : decode cX3_addArrival 128 = .ok (.iadd, 1) := by decide +kernel
theorem dX3_addArrival_129 : decode cX3_addArrival 129 = .ok (.putfield 66, 3) := by decide +kernel
theorem dX3_addArrival_132 : decode cX3_addArrival 132 = .ok (.return_, 1) := by decide +kernel
theorem dX3_findStatus_0 : decode cX3_findStatus 0 = .ok (.aload_n 0, 1) := by decide +kernel
theorem dX3_findStatus_1 : decode cX3_findStatus 1 = .ok (.getfield 24, 3) := by decide +kernel
theorem dX3_findStatus_4 : decode cX3_findStatus 4 = .ok (.iload_n 1, 1) := by decide +kernel
theorem dX3_findStatus_5 : decode cX3_findStatus 5 = .ok (.iaload, 1) := by decide +kernel
theorem dX3_findStatus_6 : decode cX3_findStatus 6 = .ok (.iconst (-1), 1) := by decide +kernel
theorem dX3_findStatus_7 : decode cX3_findStatus 7 = .ok (.if_icmp .eq 5, 3) := by decide +kernel
theorem dX3_findStatus_10 : decode cX3_findStatus 10 = .ok (.iconst 3, 1) := by decide +kernel
theorem dX3_findStatus_11 : decode cX3_findStatus 11 = .ok (.ireturn, 1) := by decide +kernel
theorem dX3_findStatus_12 : decode cX3_findStatus 12 = .ok (.aload_n 0, 1) := by decide +kernel
theorem dX3_findStatus_13 : decode cX3_findStatus 13 = .ok (.getfield 21, 3) := by decide +kernel
theorem dX3_findStatus_16 : decode cX3_findStatus 16 = .ok (.iload_n 1, 1) := by decide +kernel
theorem dX3_findStatus_17 : decode cX3_findStatus 17 = .ok (.iaload, 1) := by decide +kernel
theorem dX3_findStatus_18 : decode cX3_findStatus 18 = .ok (.iconst (-1), 1) := by decide +kernel
theorem dX3_findStatus_19 : decode cX3_findStatus 19 = .ok (.if_icmp .eq 5, 3) := by decide +kernel
theorem dX3_findStatus_22 : decode cX3_findStatus 22 = .ok (.iconst 2, 1) := by decide +kernel
theorem dX3_findStatus_23 : decode cX3_findStatus 23 = .ok (.ireturn, 1) := by decide +kernel
theorem dX3_findStatus_24 : decode cX3_findStatus 24 = .ok (.aload_n 0, 1) := by decide +kernel
theorem dX3_findStatus_25 : decode cX3_findStatus 25 = .ok (.getfield 18, 3) := by decide +kernel
theorem dX3_findStatus_28 : decode cX3_findStatus 28 = .ok (.iload_n 1, 1) := by decide +kernel
theorem dX3_findStatus_29 : decode cX3_findStatus 29 = .ok (.iaload, 1) := by decide +kernel
theorem dX3_findStatus_30 : decode cX3_findStatus 30 = .ok (.aload_n 0, 1) := by decide +kernel
theorem dX3_findStatus_31 : decode cX3_findStatus 31 = .ok (.getfield 44, 3) := by decide +kernel
theorem dX3_findStatus_34 : decode cX3_findStatus 34 = .ok (.if_icmp .gt 7, 3) := by decide +kernel
theorem dX3_findStatus_37 : decode cX3_findStatus 37 = .ok (.iconst 1, 1) := by decide +kernel
theorem dX3_findStatus_38 : decode cX3_findStatus 38 = .ok (.goto 4, 3) := by decide +kernel
theorem dX3_findStatus_41 : decode cX3_findStatus 41 = .ok (.iconst 0, 1) := by decide +kernel
theorem dX3_findStatus_42 : decode cX3_findStatus 42 = .ok (.ireturn, 1) := by decide +kernel
theorem dX3_findWait_0 : decode cX3_findWait 0 = .ok (.aload_n 0, 1) := by decide +kernel
theorem dX3_findWait_1 : decode cX3_findWait 1 = .ok (.getfield 21, 3) := by decide +kernel
theorem dX3_findWait_4 : decode cX3_findWait 4 = .ok (.iload_n 1, 1) := by decide +kernel
theorem dX3_findWait_5 : decode cX3_findWait 5 = .ok (.iaload, 1) := by decide +kernel
theorem dX3_findWait_6 : decode cX3_findWait 6 = .ok (.iconst (-1), 1) := by decide +kernel
theorem dX3_findWait_7 : decode cX3_findWait 7 = .ok (.if_icmp .ne 7, 3) := by decide +kernel
theorem dX3_findWait_10 : decode cX3_findWait 10 = .ok (.iconst (-1), 1) := by decide +kernel
theorem dX3_findWait_11 : decode cX3_findWait 11 = .ok (.goto 16, 3) := by decide +kernel
theorem dX3_findWait_14 : decode cX3_findWait 14 = .ok (.aload_n 0, 1) := by decide +kernel
theorem dX3_findWait_15 : decode cX3_findWait 15 = .ok (.getfield 21, 3) := by decide +kernel
theorem dX3_findWait_18 : decode cX3_findWait 18 = .ok (.iload_n 1, 1) := by decide +kernel
theorem dX3_findWait_19 : decode cX3_findWait 19 = .ok (.iaload, 1) := by decide +kernel
theorem dX3_findWait_20 : decode cX3_findWait 20 = .ok (.aload_n 0, 1) := by decide +kernel
theorem dX3_findWait_21 : decode cX3_findWait 21 = .ok (.getfield 18, 3) := by decide +kernel
theorem dX3_findWait_24 : decode cX3_findWait 24 = .ok (.iload_n 1, 1) := by decide +kernel
theorem dX3_findWait_25 : decode cX3_findWait 25 = .ok (.iaload, 1) := by decide +kernel
theorem dX3_findWait_26 : decode cX3_findWait 26 = .ok (.isub, 1) := by decide +kernel
theorem dX3_findWait_27 : decode cX3_findWait 27 = .ok (.ireturn, 1) := by decide +kernel
theorem dX3_findRide_0 : decode cX3_findRide 0 = .ok (.aload_n 0, 1) := by decide +kernel
theorem dX3_findRide_1 : decode cX3_findRide 1 = .ok (.getfield 24, 3) := by decide +kernel
theorem dX3_findRide_4 : decode cX3_findRide 4 = .ok (.iload_n 1, 1) := by decide +kernel
theorem dX3_findRide_5 : decode cX3_findRide 5 = .ok (.iaload, 1) := by decide +kernel
theorem dX3_findRide_6 : decode cX3_findRide 6 = .ok (.iconst (-1), 1) := by decide +kernel
theorem dX3_findRide_7 : decode cX3_findRide 7 = .ok (.if_icmp .ne 7, 3) := by decide +kernel
theorem dX3_findRide_10 : decode cX3_findRide 10 = .ok (.iconst (-1), 1) := by decide +kernel
theorem dX3_findRide_11 : decode cX3_findRide 11 = .ok (.goto 16, 3) := by decide +kernel
theorem dX3_findRide_14 : decode cX3_findRide 14 = .ok (.aload_n 0, 1) := by decide +kernel
theorem dX3_findRide_15 : decode cX3_findRide 15 = .ok (.getfield 24, 3) := by decide +kernel
theorem dX3_findRide_18 : decode cX3_findRide 18 = .ok (.iload_n 1, 1) := by decide +kernel
theorem dX3_findRide_19 : decode cX3_findRide 19 = .ok (.iaload, 1) := by decide +kernel
theorem dX3_findRide_20 : decode cX3_findRide 20 = .ok (.aload_n 0, 1) := by decide +kernel
theorem dX3_findRide_21 : decode cX3_findRide 21 = .ok (.getfield 21, 3) := by decide +kernel
theorem dX3_findRide_24 : decode cX3_findRide 24 = .ok (.iload_n 1, 1) := by decide +kernel
theorem dX3_findRide_25 : decode cX3_findRide 25 = .ok (.iaload, 1) := by decide +kernel
theorem dX3_findRide_26 : decode cX3_findRide 26 = .ok (.isub, 1) := by decide +kernel
theorem dX3_findRide_27 : decode cX3_findRide 27 = .ok (.ireturn, 1) := by decide +kernel
theorem dX3_countWith_0 : decode cX3_countWith 0 = .ok (.iconst 0, 1) := by decide +kernel
theorem dX3_countWith_1 : decode cX3_countWith 1 = .ok (.istore_n 2, 1) := by decide +kernel
theorem dX3_countWith_2 : decode cX3_countWith 2 = .ok (.iconst 0, 1) := by decide +kernel
theorem dX3_countWith_3 : decode cX3_countWith 3 = .ok (.istore_n 3, 1) := by decide +kernel
theorem dX3_countWith_4 : decode cX3_countWith 4 = .ok (.iload_n 3, 1) := by decide +kernel
theorem dX3_countWith_5 : decode cX3_countWith 5 = .ok (.aload_n 0, 1) := by decide +kernel
theorem dX3_countWith_6 : decode cX3_countWith 6 = .ok (.getfield 66, 3) := by decide +kernel
theorem dX3_countWith_9 : decode cX3_countWith 9 = .ok (.if_icmp .ge 21, 3) := by decide +kernel
theorem dX3_countWith_12 : decode cX3_countWith 12 = .ok (.aload_n 0, 1) := by decide +kernel
theorem dX3_countWith_13 : decode cX3_countWith 13 = .ok (.iload_n 3, 1) := by decide +kernel
theorem dX3_countWith_14 : decode cX3_countWith 14 = .ok (.invokevirtual 81, 3) := by decide +kernel
theorem dX3_countWith_17 : decode cX3_countWith 17 = .ok (.iload_n 1, 1) := by decide +kernel
theorem dX3_countWith_18 : decode cX3_countWith 18 = .ok (.if_icmp .ne 6, 3) := by decide +kernel
theorem dX3_countWith_21 : decode cX3_countWith 21 = .ok (.iinc 2 1, 3) := by decide +kernel
theorem dX3_countWith_24 : decode cX3_countWith 24 = .ok (.iinc 3 1, 3) := by decide +kernel
theorem dX3_countWith_27 : decode cX3_countWith 27 = .ok (.goto (-23), 3) := by decide +kernel
theorem dX3_countWith_30 : decode cX3_countWith 30 = .ok (.iload_n 2, 1) := by decide +kernel
theorem dX3_countWith_31 : decode cX3_countWith 31 = .ok (.ireturn, 1) := by decide +kernel
theorem dX3_countWaiting_0 : decode cX3_countWaiting 0 = .ok (.iconst 0, 1) := by decide +kernel
theorem dX3_countWaiting_1 : decode cX3_countWaiting 1 = .ok (.istore_n 2, 1) := by decide +kernel
theorem dX3_countWaiting_2 : decode cX3_countWaiting 2 = .ok (.iconst 0, 1) := by decide +kernel
theorem dX3_countWaiting_3 : decode cX3_countWaiting 3 = .ok (.istore_n 3, 1) := by decide +kernel
theorem dX3_countWaiting_4 : decode cX3_countWaiting 4 = .ok (.iload_n 3, 1) := by decide +kernel
theorem dX3_countWaiting_5 : decode cX3_countWaiting 5 = .ok (.aload_n 0, 1) := by decide +kernel
theorem dX3_countWaiting_6 : decode cX3_countWaiting 6 = .ok (.getfield 66, 3) := by decide +kernel
theorem dX3_countWaiting_9 : decode cX3_countWaiting 9 = .ok (.if_icmp .ge 31, 3) := by decide +kernel
theorem dX3_countWaiting_12 : decode cX3_countWaiting 12 = .ok (.aload_n 0, 1) := by decide +kernel
theorem dX3_countWaiting_13 : decode cX3_countWaiting 13 = .ok (.getfield 9, 3) := by decide +kernel
theorem dX3_countWaiting_16 : decode cX3_countWaiting 16 = .ok (.iload_n 3, 1) := by decide +kernel
theorem dX3_countWaiting_17 : decode cX3_countWaiting 17 = .ok (.iaload, 1) := by decide +kernel
theorem dX3_countWaiting_18 : decode cX3_countWaiting 18 = .ok (.iload_n 1, 1) := by decide +kernel
theorem dX3_countWaiting_19 : decode cX3_countWaiting 19 = .ok (.if_icmp .ne 15, 3) := by decide +kernel
theorem dX3_countWaiting_22 : decode cX3_countWaiting 22 = .ok (.aload_n 0, 1) := by decide +kernel
theorem dX3_countWaiting_23 : decode cX3_countWaiting 23 = .ok (.iload_n 3, 1) := by decide +kernel
theorem dX3_countWaiting_24 : decode cX3_countWaiting 24 = .ok (.invokevirtual 81, 3) := by decide +kernel
theorem dX3_countWaiting_27 : decode cX3_countWaiting 27 = .ok (.iconst 1, 1) := by decide +kernel
theorem dX3_countWaiting_28 : decode cX3_countWaiting 28 = .ok (.if_icmp .ne 6, 3) := by decide +kernel
theorem dX3_countWaiting_31 : decode cX3_countWaiting 31 = .ok (.iinc 2 1, 3) := by decide +kernel
theorem dX3_countWaiting_34 : decode cX3_countWaiting 34 = .ok (.iinc 3 1, 3) := by decide +kernel
theorem dX3_countWaiting_37 : decode cX3_countWaiting 37 = .ok (.goto (-33), 3) := by decide +kernel
theorem dX3_countWaiting_40 : decode cX3_countWaiting 40 = .ok (.iload_n 2, 1) := by decide +kernel
theorem dX3_countWaiting_41 : decode cX3_countWaiting 41 = .ok (.ireturn, 1) := by decide +kernel
theorem dX3_findFirstWaiting_0 : decode cX3_findFirstWaiting 0 = .ok (.iconst 0, 1) := by decide +kernel
theorem dX3_findFirstWaiting_1 : decode cX3_findFirstWaiting 1 = .ok (.istore_n 1, 1) := by decide +kernel
theorem dX3_findFirstWaiting_2 : decode cX3_findFirstWaiting 2 = .ok (.iload_n 1, 1) := by decide +kernel
theorem dX3_findFirstWaiting_3 : decode cX3_findFirstWaiting 3 = .ok (.aload_n 0, 1) := by decide +kernel
theorem dX3_findFirstWaiting_4 : decode cX3_findFirstWaiting 4 = .ok (.getfield 66, 3) := by decide +kernel
theorem dX3_findFirstWaiting_7 : decode cX3_findFirstWaiting 7 = .ok (.if_icmp .ge 45, 3) := by decide +kernel
theorem dX3_findFirstWaiting_10 : decode cX3_findFirstWaiting 10 = .ok (.aload_n 0, 1) := by decide +kernel
theorem dX3_findFirstWaiting_11 : decode cX3_findFirstWaiting 11 = .ok (.getfield 27, 3) := by decide +kernel
theorem dX3_findFirstWaiting_14 : decode cX3_findFirstWaiting 14 = .ok (.iload_n 1, 1) := by decide +kernel
theorem dX3_findFirstWaiting_15 : decode cX3_findFirstWaiting 15 = .ok (.iaload, 1) := by decide +kernel
theorem dX3_findFirstWaiting_16 : decode cX3_findFirstWaiting 16 = .ok (.istore_n 2, 1) := by decide +kernel
theorem dX3_findFirstWaiting_17 : decode cX3_findFirstWaiting 17 = .ok (.aload_n 0, 1) := by decide +kernel
theorem dX3_findFirstWaiting_18 : decode cX3_findFirstWaiting 18 = .ok (.getfield 21, 3) := by decide +kernel
theorem dX3_findFirstWaiting_21 : decode cX3_findFirstWaiting 21 = .ok (.iload_n 2, 1) := by decide +kernel
theorem dX3_findFirstWaiting_22 : decode cX3_findFirstWaiting 22 = .ok (.iaload, 1) := by decide +kernel
theorem dX3_findFirstWaiting_23 : decode cX3_findFirstWaiting 23 = .ok (.iconst (-1), 1) := by decide +kernel
theorem dX3_findFirstWaiting_24 : decode cX3_findFirstWaiting 24 = .ok (.if_icmp .ne 22, 3) := by decide +kernel
theorem dX3_findFirstWaiting_27 : decode cX3_findFirstWaiting 27 = .ok (.aload_n 0, 1) := by decide +kernel
theorem dX3_findFirstWaiting_28 : decode cX3_findFirstWaiting 28 = .ok (.getfield 18, 3) := by decide +kernel
theorem dX3_findFirstWaiting_31 : decode cX3_findFirstWaiting 31 = .ok (.iload_n 2, 1) := by decide +kernel
theorem dX3_findFirstWaiting_32 : decode cX3_findFirstWaiting 32 = .ok (.iaload, 1) := by decide +kernel
theorem dX3_findFirstWaiting_33 : decode cX3_findFirstWaiting 33 = .ok (.aload_n 0, 1) := by decide +kernel
theorem dX3_findFirstWaiting_34 : decode cX3_findFirstWaiting 34 = .ok (.getfield 44, 3) := by decide +kernel
theorem dX3_findFirstWaiting_37 : decode cX3_findFirstWaiting 37 = .ok (.if_icmp .gt 7, 3) := by decide +kernel
theorem dX3_findFirstWaiting_40 : decode cX3_findFirstWaiting 40 = .ok (.iload_n 2, 1) := by decide +kernel
theorem dX3_findFirstWaiting_41 : decode cX3_findFirstWaiting 41 = .ok (.goto 4, 3) := by decide +kernel
theorem dX3_findFirstWaiting_44 : decode cX3_findFirstWaiting 44 = .ok (.iconst (-1), 1) := by decide +kernel
theorem dX3_findFirstWaiting_45 : decode cX3_findFirstWaiting 45 = .ok (.ireturn, 1) := by decide +kernel
theorem dX3_findFirstWaiting_46 : decode cX3_findFirstWaiting 46 = .ok (.iinc 1 1, 3) := by decide +kernel
theorem dX3_findFirstWaiting_49 : decode cX3_findFirstWaiting 49 = .ok (.goto (-47), 3) := by decide +kernel
theorem dX3_findFirstWaiting_52 : decode cX3_findFirstWaiting 52 = .ok (.iconst (-1), 1) := by decide +kernel
theorem dX3_findFirstWaiting_53 : decode cX3_findFirstWaiting 53 = .ok (.ireturn, 1) := by decide +kernel
theorem dX3_sumWaits_0 : decode cX3_sumWaits 0 = .ok (.iconst 0, 1) := by decide +kernel
theorem dX3_sumWaits_1 : decode cX3_sumWaits 1 = .ok (.istore_n 1, 1) := by decide +kernel
theorem dX3_sumWaits_2 : decode cX3_sumWaits 2 = .ok (.iconst 0, 1) := by decide +kernel
theorem dX3_sumWaits_3 : decode cX3_sumWaits 3 = .ok (.istore_n 2, 1) := by decide +kernel
theorem dX3_sumWaits_4 : decode cX3_sumWaits 4 = .ok (.iload_n 2, 1) := by decide +kernel
theorem dX3_sumWaits_5 : decode cX3_sumWaits 5 = .ok (.aload_n 0, 1) := by decide +kernel
theorem dX3_sumWaits_6 : decode cX3_sumWaits 6 = .ok (.getfield 66, 3) := by decide +kernel
theorem dX3_sumWaits_9 : decode cX3_sumWaits 9 = .ok (.if_icmp .ge 21, 3) := by decide +kernel
theorem dX3_sumWaits_12 : decode cX3_sumWaits 12 = .ok (.iload_n 1, 1) := by decide +kernel
theorem dX3_sumWaits_13 : decode cX3_sumWaits 13 = .ok (.aload_n 0, 1) := by decide +kernel
theorem dX3_sumWaits_14 : decode cX3_sumWaits 14 = .ok (.iload_n 2, 1) := by decide +kernel
theorem dX3_sumWaits_15 : decode cX3_sumWaits 15 = .ok (.invokevirtual 85, 3) := by decide +kernel
theorem dX3_sumWaits_18 : decode cX3_sumWaits 18 = .ok (.iconst 0, 1) := by decide +kernel
theorem dX3_sumWaits_19 : decode cX3_sumWaits 19 = .ok (.invokestatic 88, 3) := by decide +kernel
theorem dX3_sumWaits_22 : decode cX3_sumWaits 22 = .ok (.iadd, 1) := by decide +kernel
theorem dX3_sumWaits_23 : decode cX3_sumWaits 23 = .ok (.istore_n 1, 1) := by decide +kernel
theorem dX3_sumWaits_24 : decode cX3_sumWaits 24 = .ok (.iinc 2 1, 3) := by decide +kernel
theorem dX3_sumWaits_27 : decode cX3_sumWaits 27 = .ok (.goto (-23), 3) := by decide +kernel
theorem dX3_sumWaits_30 : decode cX3_sumWaits 30 = .ok (.iload_n 1, 1) := by decide +kernel
theorem dX3_sumWaits_31 : decode cX3_sumWaits 31 = .ok (.ireturn, 1) := by decide +kernel
theorem dX3_isOver_0 : decode cX3_isOver 0 = .ok (.aload_n 0, 1) := by decide +kernel
theorem dX3_isOver_1 : decode cX3_isOver 1 = .ok (.getfield 72, 3) := by decide +kernel
theorem dX3_isOver_4 : decode cX3_isOver 4 = .ok (.aload_n 0, 1) := by decide +kernel
theorem dX3_isOver_5 : decode cX3_isOver 5 = .ok (.getfield 66, 3) := by decide +kernel
theorem dX3_isOver_8 : decode cX3_isOver 8 = .ok (.if_icmp .ne 7, 3) := by decide +kernel
theorem dX3_isOver_11 : decode cX3_isOver 11 = .ok (.iconst 1, 1) := by decide +kernel
theorem dX3_isOver_12 : decode cX3_isOver 12 = .ok (.goto 4, 3) := by decide +kernel
theorem dX3_isOver_15 : decode cX3_isOver 15 = .ok (.iconst 0, 1) := by decide +kernel
theorem dX3_isOver_16 : decode cX3_isOver 16 = .ok (.ireturn, 1) := by decide +kernel
theorem dX3_findStops_0 : decode cX3_findStops 0 = .ok (.aload_n 0, 1) := by decide +kernel
theorem dX3_findStops_1 : decode cX3_findStops 1 = .ok (.getfield 69, 3) := by decide +kernel
theorem dX3_findStops_4 : decode cX3_findStops 4 = .ok (.aload_n 0, 1) := by decide +kernel
theorem dX3_findStops_5 : decode cX3_findStops 5 = .ok (.getfield 38, 3) := by decide +kernel
theorem dX3_findStops_8 : decode cX3_findStops 8 = .ok (.if_icmp .ge 7, 3) := by decide +kernel
theorem dX3_findStops_11 : decode cX3_findStops 11 = .ok (.iconst 1, 1) := by decide +kernel
theorem dX3_findStops_12 : decode cX3_findStops 12 = .ok (.goto 4, 3) := by decide +kernel
theorem dX3_findStops_15 : decode cX3_findStops 15 = .ok (.iconst 0, 1) := by decide +kernel
theorem dX3_findStops_16 : decode cX3_findStops 16 = .ok (.istore_n 1, 1) := by decide +kernel
theorem dX3_findStops_17 : decode cX3_findStops 17 = .ok (.iconst 0, 1) := by decide +kernel
theorem dX3_findStops_18 : decode cX3_findStops 18 = .ok (.istore_n 2, 1) := by decide +kernel
theorem dX3_findStops_19 : decode cX3_findStops 19 = .ok (.iconst 0, 1) := by decide +kernel
theorem dX3_findStops_20 : decode cX3_findStops 20 = .ok (.istore_n 3, 1) := by decide +kernel
theorem dX3_findStops_21 : decode cX3_findStops 21 = .ok (.iload_n 3, 1) := by decide +kernel
theorem dX3_findStops_22 : decode cX3_findStops 22 = .ok (.aload_n 0, 1) := by decide +kernel
theorem dX3_findStops_23 : decode cX3_findStops 23 = .ok (.getfield 66, 3) := by decide +kernel
theorem dX3_findStops_26 : decode cX3_findStops 26 = .ok (.if_icmp .ge 74, 3) := by decide +kernel
theorem dX3_findStops_29 : decode cX3_findStops 29 = .ok (.aload_n 0, 1) := by decide +kernel
theorem dX3_findStops_30 : decode cX3_findStops 30 = .ok (.getfield 24, 3) := by decide +kernel
theorem dX3_findStops_33 : decode cX3_findStops 33 = .ok (.iload_n 3, 1) := by decide +kernel
theorem dX3_findStops_34 : decode cX3_findStops 34 = .ok (.iaload, 1) := by decide +kernel
theorem dX3_findStops_35 : decode cX3_findStops 35 = .ok (.iconst (-1), 1) := by decide +kernel
theorem dX3_findStops_36 : decode cX3_findStops 36 = .ok (.if_icmp .eq 6, 3) := by decide +kernel
theorem dX3_findStops_39 : decode cX3_findStops 39 = .ok (.goto 55, 3) := by decide +kernel
theorem dX3_findStops_42 : decode cX3_findStops 42 = .ok (.aload_n 0, 1) := by decide +kernel
theorem dX3_findStops_43 : decode cX3_findStops 43 = .ok (.getfield 21, 3) := by decide +kernel
theorem dX3_findStops_46 : decode cX3_findStops 46 = .ok (.iload_n 3, 1) := by decide +kernel
theorem dX3_findStops_47 : decode cX3_findStops 47 = .ok (.iaload, 1) := by decide +kernel
theorem dX3_findStops_48 : decode cX3_findStops 48 = .ok (.iconst (-1), 1) := by decide +kernel
theorem dX3_findStops_49 : decode cX3_findStops 49 = .ok (.if_icmp .eq 17, 3) := by decide +kernel
theorem dX3_findStops_52 : decode cX3_findStops 52 = .ok (.iload_n 2, 1) := by decide +kernel
theorem dX3_findStops_53 : decode cX3_findStops 53 = .ok (.iconst 1, 1) := by decide +kernel
theorem dX3_findStops_54 : decode cX3_findStops 54 = .ok (.aload_n 0, 1) := by decide +kernel
theorem dX3_findStops_55 : decode cX3_findStops 55 = .ok (.getfield 15, 3) := by decide +kernel
theorem dX3_findStops_58 : decode cX3_findStops 58 = .ok (.iload_n 3, 1) := by decide +kernel
theorem dX3_findStops_59 : decode cX3_findStops 59 = .ok (.iaload, 1) := by decide +kernel
theorem dX3_findStops_60 : decode cX3_findStops 60 = .ok (.ishl, 1) := by decide +kernel
theorem dX3_findStops_61 : decode cX3_findStops 61 = .ok (.ior, 1) := by decide +kernel
theorem dX3_findStops_62 : decode cX3_findStops 62 = .ok (.istore_n 2, 1) := by decide +kernel
theorem dX3_findStops_63 : decode cX3_findStops 63 = .ok (.goto 31, 3) := by decide +kernel
theorem dX3_findStops_66 : decode cX3_findStops 66 = .ok (.iload_n 1, 1) := by decide +kernel
theorem dX3_findStops_67 : decode cX3_findStops 67 = .ok (.ifCond .eq 27, 3) := by decide +kernel
theorem dX3_findStops_70 : decode cX3_findStops 70 = .ok (.aload_n 0, 1) := by decide +kernel
theorem dX3_findStops_71 : decode cX3_findStops 71 = .ok (.getfield 18, 3) := by decide +kernel
theorem dX3_findStops_74 : decode cX3_findStops 74 = .ok (.iload_n 3, 1) := by decide +kernel
theorem dX3_findStops_75 : decode cX3_findStops 75 = .ok (.iaload, 1) := by decide +kernel
theorem dX3_findStops_76 : decode cX3_findStops 76 = .ok (.aload_n 0, 1) := by decide +kernel
theorem dX3_findStops_77 : decode cX3_findStops 77 = .ok (.getfield 44, 3) := by decide +kernel
theorem dX3_findStops_80 : decode cX3_findStops 80 = .ok (.if_icmp .gt 14, 3) := by decide +kernel
theorem dX3_findStops_83 : decode cX3_findStops 83 = .ok (.iload_n 2, 1) := by decide +kernel
theorem dX3_findStops_84 : decode cX3_findStops 84 = .ok (.iconst 1, 1) := by decide +kernel
theorem dX3_findStops_85 : decode cX3_findStops 85 = .ok (.aload_n 0, 1) := by decide +kernel
theorem dX3_findStops_86 : decode cX3_findStops 86 = .ok (.getfield 9, 3) := by decide +kernel
theorem dX3_findStops_89 : decode cX3_findStops 89 = .ok (.iload_n 3, 1) := by decide +kernel
theorem dX3_findStops_90 : decode cX3_findStops 90 = .ok (.iaload, 1) := by decide +kernel
theorem dX3_findStops_91 : decode cX3_findStops 91 = .ok (.ishl, 1) := by decide +kernel
theorem dX3_findStops_92 : decode cX3_findStops 92 = .ok (.ior, 1) := by decide +kernel
theorem dX3_findStops_93 : decode cX3_findStops 93 = .ok (.istore_n 2, 1) := by decide +kernel
theorem dX3_findStops_94 : decode cX3_findStops 94 = .ok (.iinc 3 1, 3) := by decide +kernel
theorem dX3_findStops_97 : decode cX3_findStops 97 = .ok (.goto (-76), 3) := by decide +kernel
theorem dX3_findStops_100 : decode cX3_findStops 100 = .ok (.iload_n 2, 1) := by decide +kernel
theorem dX3_findStops_101 : decode cX3_findStops 101 = .ok (.ireturn, 1) := by decide +kernel
theorem dX3_findTarget_0 : decode cX3_findTarget 0 = .ok (.aload_n 0, 1) := by decide +kernel
theorem dX3_findTarget_1 : decode cX3_findTarget 1 = .ok (.invokevirtual 94, 3) := by decide +kernel
theorem dX3_findTarget_4 : decode cX3_findTarget 4 = .ok (.istore_n 2, 1) := by decide +kernel
theorem dX3_findTarget_5 : decode cX3_findTarget 5 = .ok (.iload_n 2, 1) := by decide +kernel
theorem dX3_findTarget_6 : decode cX3_findTarget 6 = .ok (.ifCond .ne 5, 3) := by decide +kernel
theorem dX3_findTarget_9 : decode cX3_findTarget 9 = .ok (.iconst (-1), 1) := by decide +kernel
theorem dX3_findTarget_10 : decode cX3_findTarget 10 = .ok (.ireturn, 1) := by decide +kernel
theorem dX3_findTarget_11 : decode cX3_findTarget 11 = .ok (.iload_n 2, 1) := by decide +kernel
theorem dX3_findTarget_12 : decode cX3_findTarget 12 = .ok (.aload_n 0, 1) := by decide +kernel
theorem dX3_findTarget_13 : decode cX3_findTarget 13 = .ok (.getfield 47, 3) := by decide +kernel
theorem dX3_findTarget_16 : decode cX3_findTarget 16 = .ok (.ishr, 1) := by decide +kernel
theorem dX3_findTarget_17 : decode cX3_findTarget 17 = .ok (.iconst 1, 1) := by decide +kernel
theorem dX3_findTarget_18 : decode cX3_findTarget 18 = .ok (.iand, 1) := by decide +kernel
theorem dX3_findTarget_19 : decode cX3_findTarget 19 = .ok (.ifCond .eq 8, 3) := by decide +kernel
theorem dX3_findTarget_22 : decode cX3_findTarget 22 = .ok (.aload_n 0, 1) := by decide +kernel
theorem dX3_findTarget_23 : decode cX3_findTarget 23 = .ok (.getfield 47, 3) := by decide +kernel
theorem dX3_findTarget_26 : decode cX3_findTarget 26 = .ok (.ireturn, 1) := by decide +kernel
theorem dX3_findTarget_27 : decode cX3_findTarget 27 = .ok (.iload_n 1, 1) := by decide +kernel
theorem dX3_findTarget_28 : decode cX3_findTarget 28 = .ok (.ifCond .ne 54, 3) := by decide +kernel
theorem dX3_findTarget_31 : decode cX3_findTarget 31 = .ok (.aload_n 0, 1) := by decide +kernel
theorem dX3_findTarget_32 : decode cX3_findTarget 32 = .ok (.invokevirtual 98, 3) := by decide +kernel
theorem dX3_findTarget_35 : decode cX3_findTarget 35 = .ok (.istore_n 3, 1) := by decide +kernel
theorem dX3_findTarget_36 : decode cX3_findTarget 36 = .ok (.iload_n 3, 1) := by decide +kernel
theorem dX3_findTarget_37 : decode cX3_findTarget 37 = .ok (.iconst (-1), 1) := by decide +kernel
theorem dX3_findTarget_38 : decode cX3_findTarget 38 = .ok (.if_icmp .ne 10, 3) := by decide +kernel
theorem dX3_findTarget_41 : decode cX3_findTarget 41 = .ok (.aload_n 0, 1) := by decide +kernel
theorem dX3_findTarget_42 : decode cX3_findTarget 42 = .ok (.invokevirtual 101, 3) := by decide +kernel
theorem dX3_findTarget_45 : decode cX3_findTarget 45 = .ok (.goto 4, 3) := by decide +kernel
theorem dX3_findTarget_48 : decode cX3_findTarget 48 = .ok (.iload_n 3, 1) := by decide +kernel
theorem dX3_findTarget_49 : decode cX3_findTarget 49 = .ok (.istore 4, 2) := by decide +kernel
theorem dX3_findTarget_51 : decode cX3_findTarget 51 = .ok (.iload 4, 2) := by decide +kernel
theorem dX3_findTarget_53 : decode cX3_findTarget 53 = .ok (.iconst (-1), 1) := by decide +kernel
theorem dX3_findTarget_54 : decode cX3_findTarget 54 = .ok (.if_icmp .ne 5, 3) := by decide +kernel
theorem dX3_findTarget_57 : decode cX3_findTarget 57 = .ok (.iconst (-1), 1) := by decide +kernel
theorem dX3_findTarget_58 : decode cX3_findTarget 58 = .ok (.ireturn, 1) := by decide +kernel
theorem dX3_findTarget_59 : decode cX3_findTarget 59 = .ok (.iload_n 3, 1) := by decide +kernel
theorem dX3_findTarget_60 : decode cX3_findTarget 60 = .ok (.iconst (-1), 1) := by decide +kernel
theorem dX3_findTarget_61 : decode cX3_findTarget 61 = .ok (.if_icmp .ne 13, 3) := by decide +kernel
theorem dX3_findTarget_64 : decode cX3_findTarget 64 = .ok (.aload_n 0, 1) := by decide +kernel
theorem dX3_findTarget_65 : decode cX3_findTarget 65 = .ok (.getfield 9, 3) := by decide +kernel
theorem dX3_findTarget_68 : decode cX3_findTarget 68 = .ok (.iload 4, 2) := by decide +kernel
theorem dX3_findTarget_70 : decode cX3_findTarget 70 = .ok (.iaload, 1) := by decide +kernel
theorem dX3_findTarget_71 : decode cX3_findTarget 71 = .ok (.goto 10, 3) := by decide +kernel
theorem dX3_findTarget_74 : decode cX3_findTarget 74 = .ok (.aload_n 0, 1) := by decide +kernel
theorem dX3_findTarget_75 : decode cX3_findTarget 75 = .ok (.getfield 15, 3) := by decide +kernel
theorem dX3_findTarget_78 : decode cX3_findTarget 78 = .ok (.iload 4, 2) := by decide +kernel
theorem dX3_findTarget_80 : decode cX3_findTarget 80 = .ok (.iaload, 1) := by decide +kernel
theorem dX3_findTarget_81 : decode cX3_findTarget 81 = .ok (.ireturn, 1) := by decide +kernel
theorem dX3_findTarget_82 : decode cX3_findTarget 82 = .ok (.aload_n 0, 1) := by decide +kernel
theorem dX3_findTarget_83 : decode cX3_findTarget 83 = .ok (.iload_n 2, 1) := by decide +kernel
theorem dX3_findTarget_84 : decode cX3_findTarget 84 = .ok (.invokevirtual 104, 3) := by decide +kernel
theorem dX3_findTarget_87 : decode cX3_findTarget 87 = .ok (.istore_n 3, 1) := by decide +kernel
theorem dX3_findTarget_88 : decode cX3_findTarget 88 = .ok (.aload_n 0, 1) := by decide +kernel
theorem dX3_findTarget_89 : decode cX3_findTarget 89 = .ok (.iload_n 2, 1) := by decide +kernel
theorem dX3_findTarget_90 : decode cX3_findTarget 90 = .ok (.invokevirtual 107, 3) := by decide +kernel
theorem dX3_findTarget_93 : decode cX3_findTarget 93 = .ok (.istore 4, 2) := by decide +kernel
theorem dX3_findTarget_95 : decode cX3_findTarget 95 = .ok (.iload_n 3, 1) := by decide +kernel
theorem dX3_findTarget_96 : decode cX3_findTarget 96 = .ok (.iconst (-1), 1) := by decide +kernel
theorem dX3_findTarget_97 : decode cX3_findTarget 97 = .ok (.if_icmp .ne 6, 3) := by decide +kernel
theorem dX3_findTarget_100 : decode cX3_findTarget 100 = .ok (.iload 4, 2) := by decide +kernel
theorem dX3_findTarget_102 : decode cX3_findTarget 102 = .ok (.ireturn, 1) := by decide +kernel
theorem dX3_findTarget_103 : decode cX3_findTarget 103 = .ok (.iload 4, 2) := by decide +kernel
theorem dX3_findTarget_105 : decode cX3_findTarget 105 = .ok (.iconst (-1), 1) := by decide +kernel
theorem dX3_findTarget_106 : decode cX3_findTarget 106 = .ok (.if_icmp .ne 5, 3) := by decide +kernel
theorem dX3_findTarget_109 : decode cX3_findTarget 109 = .ok (.iload_n 3, 1) := by decide +kernel
theorem dX3_findTarget_110 : decode cX3_findTarget 110 = .ok (.ireturn, 1) := by decide +kernel
theorem dX3_findTarget_111 : decode cX3_findTarget 111 = .ok (.iload_n 1, 1) := by decide +kernel
theorem dX3_findTarget_112 : decode cX3_findTarget 112 = .ok (.iconst 2, 1) := by decide +kernel
theorem dX3_findTarget_113 : decode cX3_findTarget 113 = .ok (.if_icmp .ne 17, 3) := by decide +kernel
theorem dX3_findTarget_116 : decode cX3_findTarget 116 = .ok (.aload_n 0, 1) := by decide +kernel
theorem dX3_findTarget_117 : decode cX3_findTarget 117 = .ok (.getfield 50, 3) := by decide +kernel
theorem dX3_findTarget_120 : decode cX3_findTarget 120 = .ok (.ifCond .eq 8, 3) := by decide +kernel
theorem dX3_findTarget_123 : decode cX3_findTarget 123 = .ok (.iload 4, 2) := by decide +kernel
theorem dX3_findTarget_125 : decode cX3_findTarget 125 = .ok (.goto 4, 3) := by decide +kernel
theorem dX3_findTarget_128 : decode cX3_findTarget 128 = .ok (.iload_n 3, 1) := by decide +kernel
theorem dX3_findTarget_129 : decode cX3_findTarget 129 = .ok (.ireturn, 1) := by decide +kernel
theorem dX3_findTarget_130 : decode cX3_findTarget 130 = .ok (.aload_n 0, 1) := by decide +kernel
theorem dX3_findTarget_131 : decode cX3_findTarget 131 = .ok (.getfield 47, 3) := by decide +kernel
theorem dX3_findTarget_134 : decode cX3_findTarget 134 = .ok (.iload_n 3, 1) := by decide +kernel
theorem dX3_findTarget_135 : decode cX3_findTarget 135 = .ok (.isub, 1) := by decide +kernel
theorem dX3_findTarget_136 : decode cX3_findTarget 136 = .ok (.iload 4, 2) := by decide +kernel
theorem dX3_findTarget_138 : decode cX3_findTarget 138 = .ok (.aload_n 0, 1) := by decide +kernel
theorem dX3_findTarget_139 : decode cX3_findTarget 139 = .ok (.getfield 47, 3) := by decide +kernel
theorem dX3_findTarget_142 : decode cX3_findTarget 142 = .ok (.isub, 1) := by decide +kernel
theorem dX3_findTarget_143 : decode cX3_findTarget 143 = .ok (.if_icmp .gt 7, 3) := by decide +kernel
theorem dX3_findTarget_146 : decode cX3_findTarget 146 = .ok (.iload_n 3, 1) := by decide +kernel
theorem dX3_findTarget_147 : decode cX3_findTarget 147 = .ok (.goto 5, 3) := by decide +kernel
theorem dX3_findTarget_150 : decode cX3_findTarget 150 = .ok (.iload 4, 2) := by decide +kernel
theorem dX3_findTarget_152 : decode cX3_findTarget 152 = .ok (.ireturn, 1) := by decide +kernel
theorem dX3_findFirstRiding_0 : decode cX3_findFirstRiding 0 = .ok (.iconst 0, 1) := by decide +kernel
theorem dX3_findFirstRiding_1 : decode cX3_findFirstRiding 1 = .ok (.istore_n 1, 1) := by decide +kernel
theorem dX3_findFirstRiding_2 : decode cX3_findFirstRiding 2 = .ok (.iload_n 1, 1) := by decide +kernel
theorem dX3_findFirstRiding_3 : decode cX3_findFirstRiding 3 = .ok (.aload_n 0, 1) := by decide +kernel
theorem dX3_findFirstRiding_4 : decode cX3_findFirstRiding 4 = .ok (.getfield 66, 3) := by decide +kernel
theorem dX3_findFirstRiding_7 : decode cX3_findFirstRiding 7 = .ok (.if_icmp .ge 31, 3) := by decide +kernel
theorem dX3_findFirstRiding_10 : decode cX3_findFirstRiding 10 = .ok (.aload_n 0, 1) := by decide +kernel
theorem dX3_findFirstRiding_11 : decode cX3_findFirstRiding 11 = .ok (.getfield 21, 3) := by decide +kernel
theorem dX3_findFirstRiding_14 : decode cX3_findFirstRiding 14 = .ok (.iload_n 1, 1) := by decide +kernel
theorem dX3_findFirstRiding_15 : decode cX3_findFirstRiding 15 = .ok (.iaload, 1) := by decide +kernel
theorem dX3_findFirstRiding_16 : decode cX3_findFirstRiding 16 = .ok (.iconst (-1), 1) := by decide +kernel
theorem dX3_findFirstRiding_17 : decode cX3_findFirstRiding 17 = .ok (.if_icmp .eq 15, 3) := by decide +kernel
theorem dX3_findFirstRiding_20 : decode cX3_findFirstRiding 20 = .ok (.aload_n 0, 1) := by decide +kernel
theorem dX3_findFirstRiding_21 : decode cX3_findFirstRiding 21 = .ok (.getfield 24, 3) := by decide +kernel
theorem dX3_findFirstRiding_24 : decode cX3_findFirstRiding 24 = .ok (.iload_n 1, 1) := by decide +kernel
theorem dX3_findFirstRiding_25 : decode cX3_findFirstRiding 25 = .ok (.iaload, 1) := by decide +kernel
theorem dX3_findFirstRiding_26 : decode cX3_findFirstRiding 26 = .ok (.iconst (-1), 1) := by decide +kernel
theorem dX3_findFirstRiding_27 : decode cX3_findFirstRiding 27 = .ok (.if_icmp .ne 5, 3) := by decide +kernel
theorem dX3_findFirstRiding_30 : decode cX3_findFirstRiding 30 = .ok (.iload_n 1, 1) := by decide +kernel
theorem dX3_findFirstRiding_31 : decode cX3_findFirstRiding 31 = .ok (.ireturn, 1) := by decide +kernel
theorem dX3_findFirstRiding_32 : decode cX3_findFirstRiding 32 = .ok (.iinc 1 1, 3) := by decide +kernel
theorem dX3_findFirstRiding_35 : decode cX3_findFirstRiding 35 = .ok (.goto (-33), 3) := by decide +kernel
theorem dX3_findFirstRiding_38 : decode cX3_findFirstRiding 38 = .ok (.iconst (-1), 1) := by decide +kernel
theorem dX3_findFirstRiding_39 : decode cX3_findFirstRiding 39 = .ok (.ireturn, 1) := by decide +kernel
theorem dX3_findStopBelow_0 : decode cX3_findStopBelow 0 = .ok (.aload_n 0, 1) := by decide +kernel
theorem dX3_findStopBelow_1 : decode cX3_findStopBelow 1 = .ok (.getfield 47, 3) := by decide +kernel
theorem dX3_findStopBelow_4 : decode cX3_findStopBelow 4 = .ok (.iconst 1, 1) := by decide +kernel
theorem dX3_findStopBelow_5 : decode cX3_findStopBelow 5 = .ok (.isub, 1) := by decide +kernel
theorem dX3_findStopBelow_6 : decode cX3_findStopBelow 6 = .ok (.istore_n 2, 1) := by decide +kernel
theorem dX3_findStopBelow_7 : decode cX3_findStopBelow 7 = .ok (.iload_n 2, 1) := by decide +kernel
theorem dX3_findStopBelow_8 : decode cX3_findStopBelow 8 = .ok (.ifCond .lt 19, 3) := by decide +kernel
theorem dX3_findStopBelow_11 : decode cX3_findStopBelow 11 = .ok (.iload_n 1, 1) := by decide +kernel
theorem dX3_findStopBelow_12 : decode cX3_findStopBelow 12 = .ok (.iload_n 2, 1) := by decide +kernel
theorem dX3_findStopBelow_13 : decode cX3_findStopBelow 13 = .ok (.ishr, 1) := by decide +kernel
theorem dX3_findStopBelow_14 : decode cX3_findStopBelow 14 = .ok (.iconst 1, 1) := by decide +kernel
theorem dX3_findStopBelow_15 : decode cX3_findStopBelow 15 = .ok (.iand, 1) := by decide +kernel
theorem dX3_findStopBelow_16 : decode cX3_findStopBelow 16 = .ok (.ifCond .eq 5, 3) := by decide +kernel
theorem dX3_findStopBelow_19 : decode cX3_findStopBelow 19 = .ok (.iload_n 2, 1) := by decide +kernel
theorem dX3_findStopBelow_20 : decode cX3_findStopBelow 20 = .ok (.ireturn, 1) := by decide +kernel
theorem dX3_findStopBelow_21 : decode cX3_findStopBelow 21 = .ok (.iinc 2 (-1), 3) := by decide +kernel
theorem dX3_findStopBelow_24 : decode cX3_findStopBelow 24 = .ok (.goto (-17), 3) := by decide +kernel
theorem dX3_findStopBelow_27 : decode cX3_findStopBelow 27 = .ok (.iconst (-1), 1) := by decide +kernel
theorem dX3_findStopBelow_28 : decode cX3_findStopBelow 28 = .ok (.ireturn, 1) := by decide +kernel
theorem dX3_findStopAbove_0 : decode cX3_findStopAbove 0 = .ok (.aload_n 0, 1) := by decide +kernel
theorem dX3_findStopAbove_1 : decode cX3_findStopAbove 1 = .ok (.getfield 47, 3) := by decide +kernel
theorem dX3_findStopAbove_4 : decode cX3_findStopAbove 4 = .ok (.iconst 1, 1) := by decide +kernel
theorem dX3_findStopAbove_5 : decode cX3_findStopAbove 5 = .ok (.iadd, 1) := by decide +kernel
theorem dX3_findStopAbove_6 : decode cX3_findStopAbove 6 = .ok (.istore_n 2, 1) := by decide +kernel
theorem dX3_findStopAbove_7 : decode cX3_findStopAbove 7 = .ok (.iload_n 2, 1) := by decide +kernel
theorem dX3_findStopAbove_8 : decode cX3_findStopAbove 8 = .ok (.aload_n 0, 1) := by decide +kernel
theorem dX3_findStopAbove_9 : decode cX3_findStopAbove 9 = .ok (.getfield 34, 3) := by decide +kernel
theorem dX3_findStopAbove_12 : decode cX3_findStopAbove 12 = .ok (.if_icmp .ge 19, 3) := by decide +kernel
theorem dX3_findStopAbove_15 : decode cX3_findStopAbove 15 = .ok (.iload_n 1, 1) := by decide +kernel
theorem dX3_findStopAbove_16 : decode cX3_findStopAbove 16 = .ok (.iload_n 2, 1) := by decide +kernel
theorem dX3_findStopAbove_17 : decode cX3_findStopAbove 17 = .ok (.ishr, 1) := by decide +kernel
theorem dX3_findStopAbove_18 : decode cX3_findStopAbove 18 = .ok (.iconst 1, 1) := by decide +kernel
theorem dX3_findStopAbove_19 : decode cX3_findStopAbove 19 = .ok (.iand, 1) := by decide +kernel
theorem dX3_findStopAbove_20 : decode cX3_findStopAbove 20 = .ok (.ifCond .eq 5, 3) := by decide +kernel
theorem dX3_findStopAbove_23 : decode cX3_findStopAbove 23 = .ok (.iload_n 2, 1) := by decide +kernel
theorem dX3_findStopAbove_24 : decode cX3_findStopAbove 24 = .ok (.ireturn, 1) := by decide +kernel
theorem dX3_findStopAbove_25 : decode cX3_findStopAbove 25 = .ok (.iinc 2 1, 3) := by decide +kernel
theorem dX3_findStopAbove_28 : decode cX3_findStopAbove 28 = .ok (.goto (-21), 3) := by decide +kernel
theorem dX3_findStopAbove_31 : decode cX3_findStopAbove 31 = .ok (.iconst (-1), 1) := by decide +kernel
theorem dX3_findStopAbove_32 : decode cX3_findStopAbove 32 = .ok (.ireturn, 1) := by decide +kernel
theorem dX3_tick_0 : decode cX3_tick 0 = .ok (.aload_n 0, 1) := by decide +kernel
theorem dX3_tick_1 : decode cX3_tick 1 = .ok (.aload_n 0, 1) := by decide +kernel
theorem dX3_tick_2 : decode cX3_tick 2 = .ok (.getfield 41, 3) := by decide +kernel
theorem dX3_tick_5 : decode cX3_tick 5 = .ok (.invokevirtual 110, 3) := by decide +kernel
theorem dX3_tick_8 : decode cX3_tick 8 = .ok (.istore_n 1, 1) := by decide +kernel
theorem dX3_tick_9 : decode cX3_tick 9 = .ok (.iload_n 1, 1) := by decide +kernel
theorem dX3_tick_10 : decode cX3_tick 10 = .ok (.iconst (-1), 1) := by decide +kernel
theorem dX3_tick_11 : decode cX3_tick 11 = .ok (.if_icmp .ne 16, 3) := by decide +kernel
theorem dX3_tick_14 : decode cX3_tick 14 = .ok (.aload_n 0, 1) := by decide +kernel
theorem dX3_tick_15 : decode cX3_tick 15 = .ok (.dup, 1) := by decide +kernel
theorem dX3_tick_16 : decode cX3_tick 16 = .ok (.getfield 60, 3) := by decide +kernel
theorem dX3_tick_19 : decode cX3_tick 19 = .ok (.iconst 1, 1) := by decide +kernel
theorem dX3_tick_20 : decode cX3_tick 20 = .ok (.iadd, 1) := by decide +kernel
theorem dX3_tick_21 : decode cX3_tick 21 = .ok (.putfield 60, 3) := by decide +kernel
theorem dX3_tick_24 : decode cX3_tick 24 = .ok (.goto 23, 3) := by decide +kernel
theorem dX3_tick_27 : decode cX3_tick 27 = .ok (.iload_n 1, 1) := by decide +kernel
theorem dX3_tick_28 : decode cX3_tick 28 = .ok (.aload_n 0, 1) := by decide +kernel
theorem dX3_tick_29 : decode cX3_tick 29 = .ok (.getfield 47, 3) := by decide +kernel
theorem dX3_tick_32 : decode cX3_tick 32 = .ok (.if_icmp .ne 10, 3) := by decide +kernel
theorem dX3_tick_35 : decode cX3_tick 35 = .ok (.aload_n 0, 1) := by decide +kernel
theorem dX3_tick_36 : decode cX3_tick 36 = .ok (.invokevirtual 113, 3) := by decide +kernel
theorem dX3_tick_39 : decode cX3_tick 39 = .ok (.goto 8, 3) := by decide +kernel
theorem dX3_tick_42 : decode cX3_tick 42 = .ok (.aload_n 0, 1) := by decide +kernel
theorem dX3_tick_43 : decode cX3_tick 43 = .ok (.iload_n 1, 1) := by decide +kernel
theorem dX3_tick_44 : decode cX3_tick 44 = .ok (.invokevirtual 116, 3) := by decide +kernel
theorem dX3_tick_47 : decode cX3_tick 47 = .ok (.aload_n 0, 1) := by decide +kernel
theorem dX3_tick_48 : decode cX3_tick 48 = .ok (.dup, 1) := by decide +kernel
theorem dX3_tick_49 : decode cX3_tick 49 = .ok (.getfield 44, 3) := by decide +kernel
theorem dX3_tick_52 : decode cX3_tick 52 = .ok (.iconst 1, 1) := by decide +kernel
theorem dX3_tick_53 : decode cX3_tick 53 = .ok (.iadd, 1) := by decide +kernel
theorem dX3_tick_54 : decode cX3_tick 54 = .ok (.putfield 44, 3) := by decide +kernel
theorem dX3_tick_57 : decode cX3_tick 57 = .ok (.return_, 1) := by decide +kernel
theorem dX3_tickToEnd_0 : decode cX3_tickToEnd 0 = .ok (.iconst 0, 1) := by decide +kernel
theorem dX3_tickToEnd_1 : decode cX3_tickToEnd 1 = .ok (.istore_n 2, 1) := by decide +kernel
theorem dX3_tickToEnd_2 : decode cX3_tickToEnd 2 = .ok (.iload_n 2, 1) := by decide +kernel
theorem dX3_tickToEnd_3 : decode cX3_tickToEnd 3 = .ok (.iload_n 1, 1) := by decide +kernel
theorem dX3_tickToEnd_4 : decode cX3_tickToEnd 4 = .ok (.if_icmp .ge 20, 3) := by decide +kernel
theorem dX3_tickToEnd_7 : decode cX3_tickToEnd 7 = .ok (.aload_n 0, 1) := by decide +kernel
theorem dX3_tickToEnd_8 : decode cX3_tickToEnd 8 = .ok (.invokevirtual 120, 3) := by decide +kernel
theorem dX3_tickToEnd_11 : decode cX3_tickToEnd 11 = .ok (.ifCond .ne 13, 3) := by decide +kernel
theorem dX3_tickToEnd_14 : decode cX3_tickToEnd 14 = .ok (.aload_n 0, 1) := by decide +kernel
theorem dX3_tickToEnd_15 : decode cX3_tickToEnd 15 = .ok (.invokevirtual 124, 3) := by decide +kernel
theorem dX3_tickToEnd_18 : decode cX3_tickToEnd 18 = .ok (.iinc 2 1, 3) := by decide +kernel
theorem dX3_tickToEnd_21 : decode cX3_tickToEnd 21 = .ok (.goto (-19), 3) := by decide +kernel
theorem dX3_tickToEnd_24 : decode cX3_tickToEnd 24 = .ok (.iload_n 2, 1) := by decide +kernel
theorem dX3_tickToEnd_25 : decode cX3_tickToEnd 25 = .ok (.ireturn, 1) := by decide +kernel
theorem dX3_openDoors_0 : decode cX3_openDoors 0 = .ok (.iconst 0, 1) := by decide +kernel
theorem dX3_openDoors_1 : decode cX3_openDoors 1 = .ok (.istore_n 1, 1) := by decide +kernel
theorem dX3_openDoors_2 : decode cX3_openDoors 2 = .ok (.iload_n 1, 1) := by decide +kernel
theorem dX3_openDoors_3 : decode cX3_openDoors 3 = .ok (.aload_n 0, 1) := by decide +kernel
theorem dX3_openDoors_4 : decode cX3_openDoors 4 = .ok (.getfield 66, 3) := by decide +kernel
theorem dX3_openDoors_7 : decode cX3_openDoors 7 = .ok (.if_icmp .ge 72, 3) := by decide +kernel
theorem dX3_openDoors_10 : decode cX3_openDoors 10 = .ok (.aload_n 0, 1) := by decide +kernel
theorem dX3_openDoors_11 : decode cX3_openDoors 11 = .ok (.getfield 15, 3) := by decide +kernel
theorem dX3_openDoors_14 : decode cX3_openDoors 14 = .ok (.iload_n 1, 1) := by decide +kernel
theorem dX3_openDoors_15 : decode cX3_openDoors 15 = .ok (.iaload, 1) := by decide +kernel
theorem dX3_openDoors_16 : decode cX3_openDoors 16 = .ok (.aload_n 0, 1) := by decide +kernel
theorem dX3_openDoors_17 : decode cX3_openDoors 17 = .ok (.getfield 47, 3) := by decide +kernel
theorem dX3_openDoors_20 : decode cX3_openDoors 20 = .ok (.if_icmp .ne 53, 3) := by decide +kernel
theorem dX3_openDoors_23 : decode cX3_openDoors 23 = .ok (.aload_n 0, 1) := by decide +kernel
theorem dX3_openDoors_24 : decode cX3_openDoors 24 = .ok (.getfield 21, 3) := by decide +kernel
theorem dX3_openDoors_27 : decode cX3_openDoors 27 = .ok (.iload_n 1, 1) := by decide +kernel
theorem dX3_openDoors_28 : decode cX3_openDoors 28 = .ok (.iaload, 1) := by decide +kernel
theorem dX3_openDoors_29 : decode cX3_openDoors 29 = .ok (.iconst (-1), 1) := by decide +kernel
theorem dX3_openDoors_30 : decode cX3_openDoors 30 = .ok (.if_icmp .eq 43, 3) := by decide +kernel
theorem dX3_openDoors_33 : decode cX3_openDoors 33 = .ok (.aload_n 0, 1) := by decide +kernel
theorem dX3_openDoors_34 : decode cX3_openDoors 34 = .ok (.getfield 24, 3) := by decide +kernel
theorem dX3_openDoors_37 : decode cX3_openDoors 37 = .ok (.iload_n 1, 1) := by decide +kernel
theorem dX3_openDoors_38 : decode cX3_openDoors 38 = .ok (.iaload, 1) := by decide +kernel
theorem dX3_openDoors_39 : decode cX3_openDoors 39 = .ok (.iconst (-1), 1) := by decide +kernel
theorem dX3_openDoors_40 : decode cX3_openDoors 40 = .ok (.if_icmp .ne 33, 3) := by decide +kernel
theorem dX3_openDoors_43 : decode cX3_openDoors 43 = .ok (.aload_n 0, 1) := by decide +kernel
theorem dX3_openDoors_44 : decode cX3_openDoors 44 = .ok (.getfield 24, 3) := by decide +kernel
theorem dX3_openDoors_47 : decode cX3_openDoors 47 = .ok (.iload_n 1, 1) := by decide +kernel
theorem dX3_openDoors_48 : decode cX3_openDoors 48 = .ok (.aload_n 0, 1) := by decide +kernel
theorem dX3_openDoors_49 : decode cX3_openDoors 49 = .ok (.getfield 44, 3) := by decide +kernel
theorem dX3_openDoors_52 : decode cX3_openDoors 52 = .ok (.iastore, 1) := by decide +kernel
theorem dX3_openDoors_53 : decode cX3_openDoors 53 = .ok (.aload_n 0, 1) := by decide +kernel
theorem dX3_openDoors_54 : decode cX3_openDoors 54 = .ok (.dup, 1) := by decide +kernel
theorem dX3_openDoors_55 : decode cX3_openDoors 55 = .ok (.getfield 69, 3) := by decide +kernel
theorem dX3_openDoors_58 : decode cX3_openDoors 58 = .ok (.iconst 1, 1) := by decide +kernel
theorem dX3_openDoors_59 : decode cX3_openDoors 59 = .ok (.isub, 1) := by decide +kernel
theorem dX3_openDoors_60 : decode cX3_openDoors 60 = .ok (.putfield 69, 3) := by decide +kernel
theorem dX3_openDoors_63 : decode cX3_openDoors 63 = .ok (.aload_n 0, 1) := by decide +kernel
theorem dX3_openDoors_64 : decode cX3_openDoors 64 = .ok (.dup, 1) := by decide +kernel
theorem dX3_openDoors_65 : decode cX3_openDoors 65 = .ok (.getfield 72, 3) := by decide +kernel
theorem dX3_openDoors_68 : decode cX3_openDoors 68 = .ok (.iconst 1, 1) := by decide +kernel
theorem dX3_openDoors_69 : decode cX3_openDoors 69 = .ok (.iadd, 1) := by decide +kernel
theorem dX3_openDoors_70 : decode cX3_openDoors 70 = .ok (.putfield 72, 3) := by decide +kernel
theorem dX3_openDoors_73 : decode cX3_openDoors 73 = .ok (.iinc 1 1, 3) := by decide +kernel
theorem dX3_openDoors_76 : decode cX3_openDoors 76 = .ok (.goto (-74), 3) := by decide +kernel
theorem dX3_openDoors_79 : decode cX3_openDoors 79 = .ok (.iconst 0, 1) := by decide +kernel
theorem dX3_openDoors_80 : decode cX3_openDoors 80 = .ok (.istore_n 1, 1) := by decide +kernel
theorem dX3_openDoors_81 : decode cX3_openDoors 81 = .ok (.iload_n 1, 1) := by decide +kernel
theorem dX3_openDoors_82 : decode cX3_openDoors 82 = .ok (.aload_n 0, 1) := by decide +kernel
theorem dX3_openDoors_83 : decode cX3_openDoors 83 = .ok (.getfield 66, 3) := by decide +kernel
theorem dX3_openDoors_86 : decode cX3_openDoors 86 = .ok (.if_icmp .ge 83, 3) := by decide +kernel
theorem dX3_openDoors_89 : decode cX3_openDoors 89 = .ok (.aload_n 0, 1) := by decide +kernel
theorem dX3_openDoors_90 : decode cX3_openDoors 90 = .ok (.getfield 69, 3) := by decide +kernel
theorem dX3_openDoors_93 : decode cX3_openDoors 93 = .ok (.aload_n 0, 1) := by decide +kernel
theorem dX3_openDoors_94 : decode cX3_openDoors 94 = .ok (.getfield 38, 3) := by decide +kernel
theorem dX3_openDoors_97 : decode cX3_openDoors 97 = .ok (.if_icmp .ge 72, 3) := by decide +kernel
theorem dX3_openDoors_100 : decode cX3_openDoors 100 = .ok (.aload_n 0, 1) := by decide +kernel
theorem dX3_openDoors_101 : decode cX3_openDoors 101 = .ok (.getfield 27, 3) := by decide +kernel
theorem dX3_openDoors_104 : decode cX3_openDoors 104 = .ok (.iload_n 1, 1) := by decide +kernel
theorem dX3_openDoors_105 : decode cX3_openDoors 105 = .ok (.iaload, 1) := by decide +kernel
theorem dX3_openDoors_106 : decode cX3_openDoors 106 = .ok (.istore_n 2, 1) := by decide +kernel
theorem dX3_openDoors_107 : decode cX3_openDoors 107 = .ok (.aload_n 0, 1) := by decide +kernel
theorem dX3_openDoors_108 : decode cX3_openDoors 108 = .ok (.getfield 9, 3) := by decide +kernel
theorem dX3_openDoors_111 : decode cX3_openDoors 111 = .ok (.iload_n 2, 1) := by decide +kernel
theorem dX3_openDoors_112 : decode cX3_openDoors 112 = .ok (.iaload, 1) := by decide +kernel
theorem dX3_openDoors_113 : decode cX3_openDoors 113 = .ok (.aload_n 0, 1) := by decide +kernel
theorem dX3_openDoors_114 : decode cX3_openDoors 114 = .ok (.getfield 47, 3) := by decide +kernel
theorem dX3_openDoors_117 : decode cX3_openDoors 117 = .ok (.if_icmp .ne 46, 3) := by decide +kernel
theorem dX3_openDoors_120 : decode cX3_openDoors 120 = .ok (.aload_n 0, 1) := by decide +kernel
theorem dX3_openDoors_121 : decode cX3_openDoors 121 = .ok (.getfield 21, 3) := by decide +kernel
theorem dX3_openDoors_124 : decode cX3_openDoors 124 = .ok (.iload_n 2, 1) := by decide +kernel
theorem dX3_openDoors_125 : decode cX3_openDoors 125 = .ok (.iaload, 1) := by decide +kernel
theorem dX3_openDoors_126 : decode cX3_openDoors 126 = .ok (.iconst (-1), 1) := by decide +kernel
theorem dX3_openDoors_127 : decode cX3_openDoors 127 = .ok (.if_icmp .ne 36, 3) := by decide +kernel
theorem dX3_openDoors_130 : decode cX3_openDoors 130 = .ok (.aload_n 0, 1) := by decide +kernel
theorem dX3_openDoors_131 : decode cX3_openDoors 131 = .ok (.getfield 18, 3) := by decide +kernel
theorem dX3_openDoors_134 : decode cX3_openDoors 134 = .ok (.iload_n 2, 1) := by decide +kernel
theorem dX3_openDoors_135 : decode cX3_openDoors 135 = .ok (.iaload, 1) := by decide +kernel
theorem dX3_openDoors_136 : decode cX3_openDoors 136 = .ok (.aload_n 0, 1) := by decide +kernel
theorem dX3_openDoors_137 : decode cX3_openDoors 137 = .ok (.getfield 44, 3) := by decide +kernel
theorem dX3_openDoors_140 : decode cX3_openDoors 140 = .ok (.if_icmp .gt 23, 3) := by decide +kernel
theorem dX3_openDoors_143 : decode cX3_openDoors 143 = .ok (.aload_n 0, 1) := by decide +kernel
theorem dX3_openDoors_144 : decode cX3_openDoors 144 = .ok (.getfield 21, 3) := by decide +kernel
theorem dX3_openDoors_147 : decode cX3_openDoors 147 = .ok (.iload_n 2, 1) := by decide +kernel
theorem dX3_openDoors_148 : decode cX3_openDoors 148 = .ok (.aload_n 0, 1) := by decide +kernel
theorem dX3_openDoors_149 : decode cX3_openDoors 149 = .ok (.getfield 44, 3) := by decide +kernel
theorem dX3_openDoors_152 : decode cX3_openDoors 152 = .ok (.iastore, 1) := by decide +kernel
theorem dX3_openDoors_153 : decode cX3_openDoors 153 = .ok (.aload_n 0, 1) := by decide +kernel
theorem dX3_openDoors_154 : decode cX3_openDoors 154 = .ok (.dup, 1) := by decide +kernel
theorem dX3_openDoors_155 : decode cX3_openDoors 155 = .ok (.getfield 69, 3) := by decide +kernel
theorem dX3_openDoors_158 : decode cX3_openDoors 158 = .ok (.iconst 1, 1) := by decide +kernel
theorem dX3_openDoors_159 : decode cX3_openDoors 159 = .ok (.iadd, 1) := by decide +kernel
theorem dX3_openDoors_160 : decode cX3_openDoors 160 = .ok (.putfield 69, 3) := by decide +kernel
theorem dX3_openDoors_163 : decode cX3_openDoors 163 = .ok (.iinc 1 1, 3) := by decide +kernel
theorem dX3_openDoors_166 : decode cX3_openDoors 166 = .ok (.goto (-85), 3) := by decide +kernel
theorem dX3_openDoors_169 : decode cX3_openDoors 169 = .ok (.aload_n 0, 1) := by decide +kernel
theorem dX3_openDoors_170 : decode cX3_openDoors 170 = .ok (.dup, 1) := by decide +kernel
theorem dX3_openDoors_171 : decode cX3_openDoors 171 = .ok (.getfield 57, 3) := by decide +kernel
theorem dX3_openDoors_174 : decode cX3_openDoors 174 = .ok (.iconst 1, 1) := by decide +kernel
theorem dX3_openDoors_175 : decode cX3_openDoors 175 = .ok (.iadd, 1) := by decide +kernel
theorem dX3_openDoors_176 : decode cX3_openDoors 176 = .ok (.putfield 57, 3) := by decide +kernel
theorem dX3_openDoors_179 : decode cX3_openDoors 179 = .ok (.return_, 1) := by decide +kernel
theorem dX3_moveTowards_0 : decode cX3_moveTowards 0 = .ok (.iload_n 1, 1) := by decide +kernel
theorem dX3_moveTowards_1 : decode cX3_moveTowards 1 = .ok (.aload_n 0, 1) := by decide +kernel
theorem dX3_moveTowards_2 : decode cX3_moveTowards 2 = .ok (.getfield 47, 3) := by decide +kernel
theorem dX3_moveTowards_5 : decode cX3_moveTowards 5 = .ok (.if_icmp .le 7, 3) := by decide +kernel
theorem dX3_moveTowards_8 : decode cX3_moveTowards 8 = .ok (.iconst 1, 1) := by decide +kernel
theorem dX3_moveTowards_9 : decode cX3_moveTowards 9 = .ok (.goto 4, 3) := by decide +kernel
theorem dX3_moveTowards_12 : decode cX3_moveTowards 12 = .ok (.iconst 0, 1) := by decide +kernel
theorem dX3_moveTowards_13 : decode cX3_moveTowards 13 = .ok (.istore_n 2, 1) := by decide +kernel
theorem dX3_moveTowards_14 : decode cX3_moveTowards 14 = .ok (.aload_n 0, 1) := by decide +kernel
theorem dX3_moveTowards_15 : decode cX3_moveTowards 15 = .ok (.getfield 41, 3) := by decide +kernel
theorem dX3_moveTowards_18 : decode cX3_moveTowards 18 = .ok (.iconst 2, 1) := by decide +kernel
theorem dX3_moveTowards_19 : decode cX3_moveTowards 19 = .ok (.if_icmp .ne 26, 3) := by decide +kernel
theorem dX3_moveTowards_22 : decode cX3_moveTowards 22 = .ok (.iload_n 2, 1) := by decide +kernel
theorem dX3_moveTowards_23 : decode cX3_moveTowards 23 = .ok (.aload_n 0, 1) := by decide +kernel
theorem dX3_moveTowards_24 : decode cX3_moveTowards 24 = .ok (.getfield 50, 3) := by decide +kernel
theorem dX3_moveTowards_27 : decode cX3_moveTowards 27 = .ok (.if_icmp .eq 18, 3) := by decide +kernel
theorem dX3_moveTowards_30 : decode cX3_moveTowards 30 = .ok (.aload_n 0, 1) := by decide +kernel
theorem dX3_moveTowards_31 : decode cX3_moveTowards 31 = .ok (.iload_n 2, 1) := by decide +kernel
theorem dX3_moveTowards_32 : decode cX3_moveTowards 32 = .ok (.putfield 50, 3) := by decide +kernel
theorem dX3_moveTowards_35 : decode cX3_moveTowards 35 = .ok (.aload_n 0, 1) := by decide +kernel
theorem dX3_moveTowards_36 : decode cX3_moveTowards 36 = .ok (.dup, 1) := by decide +kernel
theorem dX3_moveTowards_37 : decode cX3_moveTowards 37 = .ok (.getfield 63, 3) := by decide +kernel
theorem dX3_moveTowards_40 : decode cX3_moveTowards 40 = .ok (.iconst 1, 1) := by decide +kernel
theorem dX3_moveTowards_41 : decode cX3_moveTowards 41 = .ok (.iadd, 1) := by decide +kernel
theorem dX3_moveTowards_42 : decode cX3_moveTowards 42 = .ok (.putfield 63, 3) := by decide +kernel
theorem dX3_moveTowards_45 : decode cX3_moveTowards 45 = .ok (.aload_n 0, 1) := by decide +kernel
theorem dX3_moveTowards_46 : decode cX3_moveTowards 46 = .ok (.dup, 1) := by decide +kernel
theorem dX3_moveTowards_47 : decode cX3_moveTowards 47 = .ok (.getfield 47, 3) := by decide +kernel
theorem dX3_moveTowards_50 : decode cX3_moveTowards 50 = .ok (.iload_n 2, 1) := by decide +kernel
theorem dX3_moveTowards_51 : decode cX3_moveTowards 51 = .ok (.ifCond .eq 7, 3) := by decide +kernel
theorem dX3_moveTowards_54 : decode cX3_moveTowards 54 = .ok (.iconst 1, 1) := by decide +kernel
theorem dX3_moveTowards_55 : decode cX3_moveTowards 55 = .ok (.goto 4, 3) := by decide +kernel
theorem dX3_moveTowards_58 : decode cX3_moveTowards 58 = .ok (.iconst (-1), 1) := by decide +kernel
theorem dX3_moveTowards_59 : decode cX3_moveTowards 59 = .ok (.iadd, 1) := by decide +kernel
theorem dX3_moveTowards_60 : decode cX3_moveTowards 60 = .ok (.putfield 47, 3) := by decide +kernel
theorem dX3_moveTowards_63 : decode cX3_moveTowards 63 = .ok (.aload_n 0, 1) := by decide +kernel
theorem dX3_moveTowards_64 : decode cX3_moveTowards 64 = .ok (.dup, 1) := by decide +kernel
theorem dX3_moveTowards_65 : decode cX3_moveTowards 65 = .ok (.getfield 54, 3) := by decide +kernel
theorem dX3_moveTowards_68 : decode cX3_moveTowards 68 = .ok (.iconst 1, 1) := by decide +kernel
theorem dX3_moveTowards_69 : decode cX3_moveTowards 69 = .ok (.iadd, 1) := by decide +kernel
theorem dX3_moveTowards_70 : decode cX3_moveTowards 70 = .ok (.putfield 54, 3) := by decide +kernel
theorem dX3_moveTowards_73 : decode cX3_moveTowards 73 = .ok (.return_, 1) := by decide +kernel
theorem dX4_init_0 : decode cX4_init 0 = .ok (.aload_n 0, 1) := by decide +kernel
theorem dX4_init_1 : decode cX4_init 1 = .ok (.invokespecial 1, 3) := by decide +kernel
theorem dX4_init_4 : decode cX4_init 4 = .ok (.aload_n 0, 1) := by decide +kernel
theorem dX4_init_5 : decode cX4_init 5 = .ok (.new 7, 3) := by decide +kernel
theorem dX4_init_8 : decode cX4_init 8 = .ok (.dup, 1) := by decide +kernel
theorem dX4_init_9 : decode cX4_init 9 = .ok (.invokespecial 9, 3) := by decide +kernel
theorem dX4_init_12 : decode cX4_init 12 = .ok (.putfield 10, 3) := by decide +kernel
theorem dX4_init_15 : decode cX4_init 15 = .ok (.aload_n 0, 1) := by decide +kernel
theorem dX4_init_16 : decode cX4_init 16 = .ok (.new 7, 3) := by decide +kernel
theorem dX4_init_19 : decode cX4_init 19 = .ok (.dup, 1) := by decide +kernel
theorem dX4_init_20 : decode cX4_init 20 = .ok (.invokespecial 9, 3) := by decide +kernel
theorem dX4_init_23 : decode cX4_init 23 = .ok (.putfield 16, 3) := by decide +kernel
theorem dX4_init_26 : decode cX4_init 26 = .ok (.aload_n 0, 1) := by decide +kernel
theorem dX4_init_27 : decode cX4_init 27 = .ok (.bipush 8, 2) := by decide +kernel
theorem dX4_init_29 : decode cX4_init 29 = .ok (.anewarray 7, 3) := by decide +kernel
theorem dX4_init_32 : decode cX4_init 32 = .ok (.putfield 19, 3) := by decide +kernel
theorem dX4_init_35 : decode cX4_init 35 = .ok (.aload_n 0, 1) := by decide +kernel
theorem dX4_init_36 : decode cX4_init 36 = .ok (.iconst 0, 1) := by decide +kernel
theorem dX4_init_37 : decode cX4_init 37 = .ok (.putfield 23, 3) := by decide +kernel
theorem dX4_init_40 : decode cX4_init 40 = .ok (.aload_n 0, 1) := by decide +kernel
theorem dX4_init_41 : decode cX4_init 41 = .ok (.iconst 0, 1) := by decide +kernel
theorem dX4_init_42 : decode cX4_init 42 = .ok (.putfield 27, 3) := by decide +kernel
theorem dX4_init_45 : decode cX4_init 45 = .ok (.aload_n 0, 1) := by decide +kernel
theorem dX4_init_46 : decode cX4_init 46 = .ok (.iconst 2, 1) := by decide +kernel
theorem dX4_init_47 : decode cX4_init 47 = .ok (.anewarray 7, 3) := by decide +kernel
theorem dX4_init_50 : decode cX4_init 50 = .ok (.putfield 30, 3) := by decide +kernel
theorem dX4_init_53 : decode cX4_init 53 = .ok (.aload_n 0, 1) := by decide +kernel
theorem dX4_init_54 : decode cX4_init 54 = .ok (.iconst 2, 1) := by decide +kernel
theorem dX4_init_55 : decode cX4_init 55 = .ok (.newarray .boolean, 2) := by decide +kernel
theorem dX4_init_57 : decode cX4_init 57 = .ok (.putfield 33, 3) := by decide +kernel
theorem dX4_init_60 : decode cX4_init 60 = .ok (.aload_n 0, 1) := by decide +kernel
theorem dX4_init_61 : decode cX4_init 61 = .ok (.sipush 500, 3) := by decide +kernel
theorem dX4_init_64 : decode cX4_init 64 = .ok (.newarray .byte, 2) := by decide +kernel
theorem dX4_init_66 : decode cX4_init 66 = .ok (.putfield 37, 3) := by decide +kernel
theorem dX4_init_69 : decode cX4_init 69 = .ok (.aload_n 0, 1) := by decide +kernel
theorem dX4_init_70 : decode cX4_init 70 = .ok (.iconst 0, 1) := by decide +kernel
theorem dX4_init_71 : decode cX4_init 71 = .ok (.putfield 41, 3) := by decide +kernel
theorem dX4_init_74 : decode cX4_init 74 = .ok (.aload_n 0, 1) := by decide +kernel
theorem dX4_init_75 : decode cX4_init 75 = .ok (.new 44, 3) := by decide +kernel
theorem dX4_init_78 : decode cX4_init 78 = .ok (.dup, 1) := by decide +kernel
theorem dX4_init_79 : decode cX4_init 79 = .ok (.invokespecial 46, 3) := by decide +kernel
theorem dX4_init_82 : decode cX4_init 82 = .ok (.putfield 47, 3) := by decide +kernel
theorem dX4_init_85 : decode cX4_init 85 = .ok (.aload_n 0, 1) := by decide +kernel
theorem dX4_init_86 : decode cX4_init 86 = .ok (.bipush 64, 2) := by decide +kernel
theorem dX4_init_88 : decode cX4_init 88 = .ok (.newarray .byte, 2) := by decide +kernel
theorem dX4_init_90 : decode cX4_init 90 = .ok (.putfield 51, 3) := by decide +kernel
theorem dX4_init_93 : decode cX4_init 93 = .ok (.aload_n 0, 1) := by decide +kernel
theorem dX4_init_94 : decode cX4_init 94 = .ok (.iconst 0, 1) := by decide +kernel
theorem dX4_init_95 : decode cX4_init 95 = .ok (.putfield 54, 3) := by decide +kernel
theorem dX4_init_98 : decode cX4_init 98 = .ok (.iconst 0, 1) := by decide +kernel
theorem dX4_init_99 : decode cX4_init 99 = .ok (.istore_n 1, 1) := by decide +kernel
theorem dX4_init_100 : decode cX4_init 100 = .ok (.iload_n 1, 1) := by decide +kernel
theorem dX4_init_101 : decode cX4_init 101 = .ok (.bipush 8, 2) := by decide +kernel
theorem dX4_init_103 : decode cX4_init 103 = .ok (.if_icmp .ge 22, 3) := by decide +kernel
theorem dX4_init_106 : decode cX4_init 106 = .ok (.aload_n 0, 1) := by decide +kernel
theorem dX4_init_107 : decode cX4_init 107 = .ok (.getfield 19, 3) := by decide +kernel
theorem dX4_init_110 : decode cX4_init 110 = .ok (.iload_n 1, 1) := by decide +kernel
theorem dX4_init_111 : decode cX4_init 111 = .ok (.new 7, 3) := by decide +kernel
theorem dX4_init_114 : decode cX4_init 114 = .ok (.dup, 1) := by decide +kernel
theorem dX4_init_115 : decode cX4_init 115 = .ok (.invokespecial 9, 3) := by decide +kernel
theorem dX4_init_118 : decode cX4_init 118 = .ok (.aastore, 1) := by decide +kernel
theorem dX4_init_119 : decode cX4_init 119 = .ok (.iinc 1 1, 3) := by decide +kernel
theorem dX4_init_122 : decode cX4_init 122 = .ok (.goto (-22), 3) := by decide +kernel
theorem dX4_init_125 : decode cX4_init 125 = .ok (.iconst 0, 1) := by decide +kernel
theorem dX4_init_126 : decode cX4_init 126 = .ok (.istore_n 1, 1) := by decide +kernel
theorem dX4_init_127 : decode cX4_init 127 = .ok (.iload_n 1, 1) := by decide +kernel
theorem dX4_init_128 : decode cX4_init 128 = .ok (.iconst 2, 1) := by decide +kernel
theorem dX4_init_129 : decode cX4_init 129 = .ok (.if_icmp .ge 22, 3) := by decide +kernel
theorem dX4_init_132 : decode cX4_init 132 = .ok (.aload_n 0, 1) := by decide +kernel
theorem dX4_init_133 : decode cX4_init 133 = .ok (.getfield 30, 3) := by decide +kernel
theorem dX4_init_136 : decode cX4_init 136 = .ok (.iload_n 1, 1) := by decide +kernel
theorem dX4_init_137 : decode cX4_init 137 = .ok (.new 7, 3) := by decide +kernel
theorem dX4_init_140 : decode cX4_init 140 = .ok (.dup, 1) := by decide +kernel
theorem dX4_init_141 : decode cX4_init 141 = .ok (.invokespecial 9, 3) := by decide +kernel
theorem dX4_init_144 : decode cX4_init 144 = .ok (.aastore, 1) := by decide +kernel
theorem dX4_init_145 : decode cX4_init 145 = .ok (.iinc 1 1, 3) := by decide +kernel
theorem dX4_init_148 : decode cX4_init 148 = .ok (.goto (-21), 3) := by decide +kernel
theorem dX4_init_151 : decode cX4_init 151 = .ok (.return_, 1) := by decide +kernel
theorem dX4_append_0 : decode cX4_append 0 = .ok (.aload_n 0, 1) := by decide +kernel
theorem dX4_append_1 : decode cX4_append 1 = .ok (.getfield 41, 3) := by decide +kernel
theorem dX4_append_4 : decode cX4_append 4 = .ok (.bipush 20, 2) := by decide +kernel
theorem dX4_append_6 : decode cX4_append 6 = .ok (.iadd, 1) := by decide +kernel
theorem dX4_append_7 : decode cX4_append 7 = .ok (.sipush 500, 3) := by decide +kernel
theorem dX4_append_10 : decode cX4_append 10 = .ok (.if_icmp .le 5, 3) := by decide +kernel
theorem dX4_append_13 : decode cX4_append 13 = .ok (.iconst (-1), 1) := by decide +kernel
theorem dX4_append_14 : decode cX4_append 14 = .ok (.ireturn, 1) := by decide +kernel
theorem dX4_append_15 : decode cX4_append 15 = .ok (.aload_n 0, 1) := by decide +kernel
theorem dX4_append_16 : decode cX4_append 16 = .ok (.iload_n 1, 1) := by decide +kernel
theorem dX4_append_17 : decode cX4_append 17 = .ok (.invokevirtual 57, 3) := by decide +kernel
theorem dX4_append_20 : decode cX4_append 20 = .ok (.aload_n 0, 1) := by decide +kernel
theorem dX4_append_21 : decode cX4_append 21 = .ok (.iload_n 2, 1) := by decide +kernel
theorem dX4_append_22 : decode cX4_append 22 = .ok (.invokevirtual 57, 3) := by decide +kernel
theorem dX4_append_25 : decode cX4_append 25 = .ok (.aload_n 0, 1) := by decide +kernel
theorem dX4_append_26 : decode cX4_append 26 = .ok (.iload_n 3, 1) := by decide +kernel
theorem dX4_append_27 : decode cX4_append 27 = .ok (.invokevirtual 57, 3) := by decide +kernel
theorem dX4_append_30 : decode cX4_append 30 = .ok (.aload_n 0, 1) := by decide +kernel
theorem dX4_append_31 : decode cX4_append 31 = .ok (.iload 4, 2) := by decide +kernel
theorem dX4_append_33 : decode cX4_append 33 = .ok (.invokevirtual 57, 3) := by decide +kernel
theorem dX4_append_36 : decode cX4_append 36 = .ok (.aload_n 0, 1) := by decide +kernel
theorem dX4_append_37 : decode cX4_append 37 = .ok (.iload 5, 2) := by decide +kernel
theorem dX4_append_39 : decode cX4_append 39 = .ok (.invokevirtual 57, 3) := by decide +kernel
theorem dX4_append_42 : decode cX4_append 42 = .ok (.aload_n 0, 1) := by decide +kernel
theorem dX4_append_43 : decode cX4_append 43 = .ok (.getfield 41, 3) := by decide +kernel
theorem dX4_append_46 : decode cX4_append 46 = .ok (.ireturn, 1) := by decide +kernel
theorem dX4_appendFour_0 : decode cX4_appendFour 0 = .ok (.bipush 24, 2) := by decide +kernel
theorem dX4_appendFour_2 : decode cX4_appendFour 2 = .ok (.istore_n 2, 1) := by decide +kernel
theorem dX4_appendFour_3 : decode cX4_appendFour 3 = .ok (.iload_n 2, 1) := by decide +kernel
theorem dX4_appendFour_4 : decode cX4_appendFour 4 = .ok (.ifCond .lt 42, 3) := by decide +kernel
theorem dX4_appendFour_7 : decode cX4_appendFour 7 = .ok (.aload_n 0, 1) := by decide +kernel
theorem dX4_appendFour_8 : decode cX4_appendFour 8 = .ok (.getfield 41, 3) := by decide +kernel
theorem dX4_appendFour_11 : decode cX4_appendFour 11 = .ok (.sipush 500, 3) := by decide +kernel
theorem dX4_appendFour_14 : decode cX4_appendFour 14 = .ok (.if_icmp .ge 26, 3) := by decide +kernel
theorem dX4_appendFour_17 : decode cX4_appendFour 17 = .ok (.aload_n 0, 1) := by decide +kernel
theorem dX4_appendFour_18 : decode cX4_appendFour 18 = .ok (.getfield 37, 3) := by decide +kernel
theorem dX4_appendFour_21 : decode cX4_appendFour 21 = .ok (.aload_n 0, 1) := by decide +kernel
theorem dX4_appendFour_22 : decode cX4_appendFour 22 = .ok (.getfield 41, 3) := by decide +kernel
theorem dX4_appendFour_25 : decode cX4_appendFour 25 = .ok (.iload_n 1, 1) := by decide +kernel
theorem dX4_appendFour_26 : decode cX4_appendFour 26 = .ok (.iload_n 2, 1) := by decide +kernel
theorem dX4_appendFour_27 : decode cX4_appendFour 27 = .ok (.iushr, 1) := by decide +kernel
theorem dX4_appendFour_28 : decode cX4_appendFour 28 = .ok (.i2b, 1) := by decide +kernel
theorem dX4_appendFour_29 : decode cX4_appendFour 29 = .ok (.bastore, 1) := by decide +kernel
theorem dX4_appendFour_30 : decode cX4_appendFour 30 = .ok (.aload_n 0, 1) := by decide +kernel
theorem dX4_appendFour_31 : decode cX4_appendFour 31 = .ok (.dup, 1) := by decide +kernel
theorem dX4_appendFour_32 : decode cX4_appendFour 32 = .ok (.getfield 41, 3) := by decide +kernel
theorem dX4_appendFour_35 : decode cX4_appendFour 35 = .ok (.iconst 1, 1) := by decide +kernel
theorem dX4_appendFour_36 : decode cX4_appendFour 36 = .ok (.iadd, 1) := by decide +kernel
theorem dX4_appendFour_37 : decode cX4_appendFour 37 = .ok (.putfield 41, 3) := by decide +kernel
theorem dX4_appendFour_40 : decode cX4_appendFour 40 = .ok (.iinc 2 (-8), 3) := by decide +kernel
theorem dX4_appendFour_43 : decode cX4_appendFour 43 = .ok (.goto (-40), 3) := by decide +kernel
theorem dX4_appendFour_46 : decode cX4_appendFour 46 = .ok (.return_, 1) := by decide +kernel
theorem dX4_truncate_0 : decode cX4_truncate 0 = .ok (.iload_n 1, 1) := by decide +kernel
theorem dX4_truncate_1 : decode cX4_truncate 1 = .ok (.ifCond .lt 11, 3) := by decide +kernel
theorem dX4_truncate_4 : decode cX4_truncate 4 = .ok (.iload_n 1, 1) := by decide +kernel
theorem dX4_truncate_5 : decode cX4_truncate 5 = .ok (.aload_n 0, 1) := by decide +kernel
theorem dX4_truncate_6 : decode cX4_truncate 6 = .ok (.getfield 41, 3) := by decide +kernel
theorem dX4_truncate_9 : decode cX4_truncate 9 = .ok (.if_icmp .le 5, 3) := by decide +kernel
theorem dX4_truncate_12 : decode cX4_truncate 12 = .ok (.iconst 0, 1) := by decide +kernel
theorem dX4_truncate_13 : decode cX4_truncate 13 = .ok (.ireturn, 1) := by decide +kernel
theorem dX4_truncate_14 : decode cX4_truncate 14 = .ok (.aload_n 0, 1) := by decide +kernel
theorem dX4_truncate_15 : decode cX4_truncate 15 = .ok (.iload_n 1, 1) := by decide +kernel
theorem dX4_truncate_16 : decode cX4_truncate 16 = .ok (.putfield 41, 3) := by decide +kernel
theorem dX4_truncate_19 : decode cX4_truncate 19 = .ok (.iconst 1, 1) := by decide +kernel
theorem dX4_truncate_20 : decode cX4_truncate 20 = .ok (.ireturn, 1) := by decide +kernel
theorem dX4_load_0 : decode cX4_load 0 = .ok (.aload_n 0, 1) := by decide +kernel
theorem dX4_load_1 : decode cX4_load 1 = .ok (.getfield 47, 3) := by decide +kernel
theorem dX4_load_4 : decode cX4_load 4 = .ok (.aload_n 0, 1) := by decide +kernel
theorem dX4_load_5 : decode cX4_load 5 = .ok (.getfield 37, 3) := by decide +kernel
theorem dX4_load_8 : decode cX4_load 8 = .ok (.aload_n 0, 1) := by decide +kernel
theorem dX4_load_9 : decode cX4_load 9 = .ok (.getfield 41, 3) := by decide +kernel
theorem dX4_load_12 : decode cX4_load 12 = .ok (.invokevirtual 61, 3) := by decide +kernel
theorem dX4_load_15 : decode cX4_load 15 = .ok (.aload_n 0, 1) := by decide +kernel
theorem dX4_load_16 : decode cX4_load 16 = .ok (.iconst 0, 1) := by decide +kernel
theorem dX4_load_17 : decode cX4_load 17 = .ok (.putfield 41, 3) := by decide +kernel
theorem dX4_load_20 : decode cX4_load 20 = .ok (.aload_n 0, 1) := by decide +kernel
theorem dX4_load_21 : decode cX4_load 21 = .ok (.getfield 47, 3) := by decide +kernel
theorem dX4_load_24 : decode cX4_load 24 = .ok (.aload_n 0, 1) := by decide +kernel
theorem dX4_load_25 : decode cX4_load 25 = .ok (.getfield 16, 3) := by decide +kernel
theorem dX4_load_28 : decode cX4_load 28 = .ok (.invokevirtual 65, 3) := by decide +kernel
theorem dX4_load_31 : decode cX4_load 31 = .ok (.ifCond .eq 17, 3) := by decide +kernel
theorem dX4_load_34 : decode cX4_load 34 = .ok (.aload_n 0, 1) := by decide +kernel
theorem dX4_load_35 : decode cX4_load 35 = .ok (.getfield 47, 3) := by decide +kernel
theorem dX4_load_38 : decode cX4_load 38 = .ok (.aload_n 0, 1) := by decide +kernel
theorem dX4_load_39 : decode cX4_load 39 = .ok (.getfield 16, 3) := by decide +kernel
theorem dX4_load_42 : decode cX4_load 42 = .ok (.invokevirtual 69, 3) := by decide +kernel
theorem dX4_load_45 : decode cX4_load 45 = .ok (.ifCond .ne 13, 3) := by decide +kernel
theorem dX4_load_48 : decode cX4_load 48 = .ok (.new 72, 3) := by decide +kernel
theorem dX4_load_51 : decode cX4_load 51 = .ok (.dup, 1) := by decide +kernel
theorem dX4_load_52 : decode cX4_load 52 = .ok (.ldc 74, 2) := by decide +kernel
theorem dX4_load_54 : decode cX4_load 54 = .ok (.invokespecial 76, 3) := by decide +kernel
theorem dX4_load_57 : decode cX4_load 57 = .ok (.athrow, 1) := by decide +kernel
theorem dX4_load_58 : decode cX4_load 58 = .ok (.aload_n 0, 1) := by decide +kernel
theorem dX4_load_59 : decode cX4_load 59 = .ok (.getfield 10, 3) := by decide +kernel
theorem dX4_load_62 : decode cX4_load 62 = .ok (.aload_n 0, 1) := by decide +kernel
theorem dX4_load_63 : decode cX4_load 63 = .ok (.getfield 16, 3) := by decide +kernel
theorem dX4_load_66 : decode cX4_load 66 = .ok (.invokevirtual 79, 3) := by decide +kernel
theorem dX4_load_69 : decode cX4_load 69 = .ok (.aload_n 0, 1) := by decide +kernel
theorem dX4_load_70 : decode cX4_load 70 = .ok (.iconst 0, 1) := by decide +kernel
theorem dX4_load_71 : decode cX4_load 71 = .ok (.putfield 27, 3) := by decide +kernel
theorem dX4_load_74 : decode cX4_load 74 = .ok (.iconst 0, 1) := by decide +kernel
theorem dX4_load_75 : decode cX4_load 75 = .ok (.istore_n 1, 1) := by decide +kernel
theorem dX4_load_76 : decode cX4_load 76 = .ok (.iload_n 1, 1) := by decide +kernel
theorem dX4_load_77 : decode cX4_load 77 = .ok (.iconst 2, 1) := by decide +kernel
theorem dX4_load_78 : decode cX4_load 78 = .ok (.if_icmp .ge 16, 3) := by decide +kernel
theorem dX4_load_81 : decode cX4_load 81 = .ok (.aload_n 0, 1) := by decide +kernel
theorem dX4_load_82 : decode cX4_load 82 = .ok (.getfield 33, 3) := by decide +kernel
theorem dX4_load_85 : decode cX4_load 85 = .ok (.iload_n 1, 1) := by decide +kernel
theorem dX4_load_86 : decode cX4_load 86 = .ok (.iconst 0, 1) := by decide +kernel
theorem dX4_load_87 : decode cX4_load 87 = .ok (.bastore, 1) := by decide +kernel
theorem dX4_load_88 : decode cX4_load 88 = .ok (.iinc 1 1, 3) := by decide +kernel
theorem dX4_load_91 : decode cX4_load 91 = .ok (.goto (-15), 3) := by decide +kernel
theorem dX4_load_94 : decode cX4_load 94 = .ok (.aload_n 0, 1) := by decide +kernel
theorem dX4_load_95 : decode cX4_load 95 = .ok (.getfield 10, 3) := by decide +kernel
theorem dX4_load_98 : decode cX4_load 98 = .ok (.getfield 83, 3) := by decide +kernel
theorem dX4_load_101 : decode cX4_load 101 = .ok (.ireturn, 1) := by decide +kernel
theorem dX4_parseError_0 : decode cX4_parseError 0 = .ok (.aload_n 0, 1) := by decide +kernel
theorem dX4_parseError_1 : decode cX4_parseError 1 = .ok (.getfield 47, 3) := by decide +kernel
theorem dX4_parseError_4 : decode cX4_parseError 4 = .ok (.getfield 94, 3) := by decide +kernel
theorem dX4_parseError_7 : decode cX4_parseError 7 = .ok (.ireturn, 1) := by decide +kernel
theorem dX4_floorCount_0 : decode cX4_floorCount 0 = .ok (.aload_n 0, 1) := by decide +kernel
theorem dX4_floorCount_1 : decode cX4_floorCount 1 = .ok (.getfield 10, 3) := by decide +kernel
theorem dX4_floorCount_4 : decode cX4_floorCount 4 = .ok (.getfield 100, 3) := by decide +kernel
theorem dX4_floorCount_7 : decode cX4_floorCount 7 = .ok (.ireturn, 1) := by decide +kernel
theorem dX4_capacity_0 : decode cX4_capacity 0 = .ok (.aload_n 0, 1) := by decide +kernel
theorem dX4_capacity_1 : decode cX4_capacity 1 = .ok (.getfield 10, 3) := by decide +kernel
theorem dX4_capacity_4 : decode cX4_capacity 4 = .ok (.getfield 103, 3) := by decide +kernel
theorem dX4_capacity_7 : decode cX4_capacity 7 = .ok (.ireturn, 1) := by decide +kernel
theorem dX4_policy_0 : decode cX4_policy 0 = .ok (.aload_n 0, 1) := by decide +kernel
theorem dX4_policy_1 : decode cX4_policy 1 = .ok (.getfield 10, 3) := by decide +kernel
theorem dX4_policy_4 : decode cX4_policy 4 = .ok (.getfield 106, 3) := by decide +kernel
theorem dX4_policy_7 : decode cX4_policy 7 = .ok (.ireturn, 1) := by decide +kernel
theorem dX4_time_0 : decode cX4_time 0 = .ok (.aload_n 0, 1) := by decide +kernel
theorem dX4_time_1 : decode cX4_time 1 = .ok (.getfield 10, 3) := by decide +kernel
theorem dX4_time_4 : decode cX4_time 4 = .ok (.getfield 109, 3) := by decide +kernel
theorem dX4_time_7 : decode cX4_time 7 = .ok (.ireturn, 1) := by decide +kernel
theorem dX4_floor_0 : decode cX4_floor 0 = .ok (.aload_n 0, 1) := by decide +kernel
theorem dX4_floor_1 : decode cX4_floor 1 = .ok (.getfield 10, 3) := by decide +kernel
theorem dX4_floor_4 : decode cX4_floor 4 = .ok (.getfield 112, 3) := by decide +kernel
theorem dX4_floor_7 : decode cX4_floor 7 = .ok (.ireturn, 1) := by decide +kernel
theorem dX4_isFull_0 : decode cX4_isFull 0 = .ok (.aload_n 0, 1) := by decide +kernel
theorem dX4_isFull_1 : decode cX4_isFull 1 = .ok (.getfield 10, 3) := by decide +kernel
theorem dX4_isFull_4 : decode cX4_isFull 4 = .ok (.getfield 119, 3) := by decide +kernel
theorem dX4_isFull_7 : decode cX4_isFull 7 = .ok (.aload_n 0, 1) := by decide +kernel
theorem dX4_isFull_8 : decode cX4_isFull 8 = .ok (.getfield 10, 3) := by decide +kernel
theorem dX4_isFull_11 : decode cX4_isFull 11 = .ok (.getfield 103, 3) := by decide +kernel
theorem dX4_isFull_14 : decode cX4_isFull 14 = .ok (.if_icmp .ne 7, 3) := by decide +kernel
theorem dX4_isFull_17 : decode cX4_isFull 17 = .ok (.iconst 1, 1) := by decide +kernel
theorem dX4_isFull_18 : decode cX4_isFull 18 = .ok (.goto 4, 3) := by decide +kernel
theorem dX4_isFull_21 : decode cX4_isFull 21 = .ok (.iconst 0, 1) := by decide +kernel
theorem dX4_isFull_22 : decode cX4_isFull 22 = .ok (.ireturn, 1) := by decide +kernel
theorem dX4_stopMask_0 : decode cX4_stopMask 0 = .ok (.aload_n 0, 1) := by decide +kernel
theorem dX4_stopMask_1 : decode cX4_stopMask 1 = .ok (.getfield 10, 3) := by decide +kernel
theorem dX4_stopMask_4 : decode cX4_stopMask 4 = .ok (.invokevirtual 122, 3) := by decide +kernel
theorem dX4_stopMask_7 : decode cX4_stopMask 7 = .ok (.ireturn, 1) := by decide +kernel
theorem dX4_targetBy_0 : decode cX4_targetBy 0 = .ok (.aload_n 0, 1) := by decide +kernel
theorem dX4_targetBy_1 : decode cX4_targetBy 1 = .ok (.iload_n 1, 1) := by decide +kernel
theorem dX4_targetBy_2 : decode cX4_targetBy 2 = .ok (.invokevirtual 126, 3) := by decide +kernel
theorem dX4_targetBy_5 : decode cX4_targetBy 5 = .ok (.aload_n 0, 1) := by decide +kernel
theorem dX4_targetBy_6 : decode cX4_targetBy 6 = .ok (.getfield 10, 3) := by decide +kernel
theorem dX4_targetBy_9 : decode cX4_targetBy 9 = .ok (.iload_n 1, 1) := by decide +kernel
theorem dX4_targetBy_10 : decode cX4_targetBy 10 = .ok (.invokevirtual 129, 3) := by decide +kernel
theorem dX4_targetBy_13 : decode cX4_targetBy 13 = .ok (.ireturn, 1) := by decide +kernel
theorem dX4_distance_0 : decode cX4_distance 0 = .ok (.aload_n 0, 1) := by decide +kernel
theorem dX4_distance_1 : decode cX4_distance 1 = .ok (.getfield 10, 3) := by decide +kernel
theorem dX4_distance_4 : decode cX4_distance 4 = .ok (.getfield 133, 3) := by decide +kernel
theorem dX4_distance_7 : decode cX4_distance 7 = .ok (.ireturn, 1) := by decide +kernel
theorem dX4_doorTicks_0 : decode cX4_doorTicks 0 = .ok (.aload_n 0, 1) := by decide +kernel
theorem dX4_doorTicks_1 : decode cX4_doorTicks 1 = .ok (.getfield 10, 3) := by decide +kernel
theorem dX4_doorTicks_4 : decode cX4_doorTicks 4 = .ok (.getfield 136, 3) := by decide +kernel
theorem dX4_doorTicks_7 : decode cX4_doorTicks 7 = .ok (.ireturn, 1) := by decide +kernel
theorem dX4_idleTicks_0 : decode cX4_idleTicks 0 = .ok (.aload_n 0, 1) := by decide +kernel
theorem dX4_idleTicks_1 : decode cX4_idleTicks 1 = .ok (.getfield 10, 3) := by decide +kernel
theorem dX4_idleTicks_4 : decode cX4_idleTicks 4 = .ok (.getfield 139, 3) := by decide +kernel
theorem dX4_idleTicks_7 : decode cX4_idleTicks 7 = .ok (.ireturn, 1) := by decide +kernel
theorem dX4_statusOf_0 : decode cX4_statusOf 0 = .ok (.aload_n 0, 1) := by decide +kernel
theorem dX4_statusOf_1 : decode cX4_statusOf 1 = .ok (.iload_n 1, 1) := by decide +kernel
theorem dX4_statusOf_2 : decode cX4_statusOf 2 = .ok (.invokevirtual 145, 3) := by decide +kernel
theorem dX4_statusOf_5 : decode cX4_statusOf 5 = .ok (.aload_n 0, 1) := by decide +kernel
theorem dX4_statusOf_6 : decode cX4_statusOf 6 = .ok (.getfield 10, 3) := by decide +kernel
theorem dX4_statusOf_9 : decode cX4_statusOf 9 = .ok (.iload_n 1, 1) := by decide +kernel
theorem dX4_statusOf_10 : decode cX4_statusOf 10 = .ok (.invokevirtual 148, 3) := by decide +kernel
theorem dX4_statusOf_13 : decode cX4_statusOf 13 = .ok (.ireturn, 1) := by decide +kernel
theorem dX4_originOf_0 : decode cX4_originOf 0 = .ok (.aload_n 0, 1) := by decide +kernel
theorem dX4_originOf_1 : decode cX4_originOf 1 = .ok (.iload_n 1, 1) := by decide +kernel
theorem dX4_originOf_2 : decode cX4_originOf 2 = .ok (.invokevirtual 145, 3) := by decide +kernel
theorem dX4_originOf_5 : decode cX4_originOf 5 = .ok (.aload_n 0, 1) := by decide +kernel
theorem dX4_originOf_6 : decode cX4_originOf 6 = .ok (.getfield 10, 3) := by decide +kernel
theorem dX4_originOf_9 : decode cX4_originOf 9 = .ok (.getfield 151, 3) := by decide +kernel
theorem dX4_originOf_12 : decode cX4_originOf 12 = .ok (.iload_n 1, 1) := by decide +kernel
theorem dX4_originOf_13 : decode cX4_originOf 13 = .ok (.iaload, 1) := by decide +kernel
theorem dX4_originOf_14 : decode cX4_originOf 14 = .ok (.ireturn, 1) := by decide +kernel
theorem dX4_destinationOf_0 : decode cX4_destinationOf 0 = .ok (.aload_n 0, 1) := by decide +kernel
theorem dX4_destinationOf_1 : decode cX4_destinationOf 1 = .ok (.iload_n 1, 1) := by decide +kernel
theorem dX4_destinationOf_2 : decode cX4_destinationOf 2 = .ok (.invokevirtual 145, 3) := by decide +kernel
theorem dX4_destinationOf_5 : decode cX4_destinationOf 5 = .ok (.aload_n 0, 1) := by decide +kernel
theorem dX4_destinationOf_6 : decode cX4_destinationOf 6 = .ok (.getfield 10, 3) := by decide +kernel
theorem dX4_destinationOf_9 : decode cX4_destinationOf 9 = .ok (.getfield 155, 3) := by decide +kernel
theorem dX4_destinationOf_12 : decode cX4_destinationOf 12 = .ok (.iload_n 1, 1) := by decide +kernel
theorem dX4_destinationOf_13 : decode cX4_destinationOf 13 = .ok (.iaload, 1) := by decide +kernel
theorem dX4_destinationOf_14 : decode cX4_destinationOf 14 = .ok (.ireturn, 1) := by decide +kernel
theorem dX4_arrivalOf_0 : decode cX4_arrivalOf 0 = .ok (.aload_n 0, 1) := by decide +kernel
theorem dX4_arrivalOf_1 : decode cX4_arrivalOf 1 = .ok (.iload_n 1, 1) := by decide +kernel
theorem dX4_arrivalOf_2 : decode cX4_arrivalOf 2 = .ok (.invokevirtual 145, 3) := by decide +kernel
theorem dX4_arrivalOf_5 : decode cX4_arrivalOf 5 = .ok (.aload_n 0, 1) := by decide +kernel
theorem dX4_arrivalOf_6 : decode cX4_arrivalOf 6 = .ok (.getfield 10, 3) := by decide +kernel
theorem dX4_arrivalOf_9 : decode cX4_arrivalOf 9 = .ok (.getfield 158, 3) := by decide +kernel
theorem dX4_arrivalOf_12 : decode cX4_arrivalOf 12 = .ok (.iload_n 1, 1) := by decide +kernel
theorem dX4_arrivalOf_13 : decode cX4_arrivalOf 13 = .ok (.iaload, 1) := by decide +kernel
theorem dX4_arrivalOf_14 : decode cX4_arrivalOf 14 = .ok (.ireturn, 1) := by decide +kernel
theorem dX4_boardedAt_0 : decode cX4_boardedAt 0 = .ok (.aload_n 0, 1) := by decide +kernel
theorem dX4_boardedAt_1 : decode cX4_boardedAt 1 = .ok (.iload_n 1, 1) := by decide +kernel
theorem dX4_boardedAt_2 : decode cX4_boardedAt 2 = .ok (.invokevirtual 145, 3) := by decide +kernel
theorem dX4_boardedAt_5 : decode cX4_boardedAt 5 = .ok (.aload_n 0, 1) := by decide +kernel
theorem dX4_boardedAt_6 : decode cX4_boardedAt 6 = .ok (.getfield 10, 3) := by decide +kernel
theorem dX4_boardedAt_9 : decode cX4_boardedAt 9 = .ok (.getfield 161, 3) := by decide +kernel
theorem dX4_boardedAt_12 : decode cX4_boardedAt 12 = .ok (.iload_n 1, 1) := by decide +kernel
theorem dX4_boardedAt_13 : decode cX4_boardedAt 13 = .ok (.iaload, 1) := by decide +kernel
theorem dX4_boardedAt_14 : decode cX4_boardedAt 14 = .ok (.ireturn, 1) := by decide +kernel
theorem dX4_leftAt_0 : decode cX4_leftAt 0 = .ok (.aload_n 0, 1) := by decide +kernel
theorem dX4_leftAt_1 : decode cX4_leftAt 1 = .ok (.iload_n 1, 1) := by decide +kernel
theorem dX4_leftAt_2 : decode cX4_leftAt 2 = .ok (.invokevirtual 145, 3) := by decide +kernel
theorem dX4_leftAt_5 : decode cX4_leftAt 5 = .ok (.aload_n 0, 1) := by decide +kernel
theorem dX4_leftAt_6 : decode cX4_leftAt 6 = .ok (.getfield 10, 3) := by decide +kernel
theorem dX4_leftAt_9 : decode cX4_leftAt 9 = .ok (.getfield 164, 3) := by decide +kernel
theorem dX4_leftAt_12 : decode cX4_leftAt 12 = .ok (.iload_n 1, 1) := by decide +kernel
theorem dX4_leftAt_13 : decode cX4_leftAt 13 = .ok (.iaload, 1) := by decide +kernel
theorem dX4_leftAt_14 : decode cX4_leftAt 14 = .ok (.ireturn, 1) := by decide +kernel
theorem dX4_waitOf_0 : decode cX4_waitOf 0 = .ok (.aload_n 0, 1) := by decide +kernel
theorem dX4_waitOf_1 : decode cX4_waitOf 1 = .ok (.iload_n 1, 1) := by decide +kernel
theorem dX4_waitOf_2 : decode cX4_waitOf 2 = .ok (.invokevirtual 145, 3) := by decide +kernel
theorem dX4_waitOf_5 : decode cX4_waitOf 5 = .ok (.aload_n 0, 1) := by decide +kernel
theorem dX4_waitOf_6 : decode cX4_waitOf 6 = .ok (.getfield 10, 3) := by decide +kernel
theorem dX4_waitOf_9 : decode cX4_waitOf 9 = .ok (.iload_n 1, 1) := by decide +kernel
theorem dX4_waitOf_10 : decode cX4_waitOf 10 = .ok (.invokevirtual 167, 3) := by decide +kernel
theorem dX4_waitOf_13 : decode cX4_waitOf 13 = .ok (.ireturn, 1) := by decide +kernel
theorem dX4_rideOf_0 : decode cX4_rideOf 0 = .ok (.aload_n 0, 1) := by decide +kernel
theorem dX4_rideOf_1 : decode cX4_rideOf 1 = .ok (.iload_n 1, 1) := by decide +kernel
theorem dX4_rideOf_2 : decode cX4_rideOf 2 = .ok (.invokevirtual 145, 3) := by decide +kernel
theorem dX4_rideOf_5 : decode cX4_rideOf 5 = .ok (.aload_n 0, 1) := by decide +kernel
theorem dX4_rideOf_6 : decode cX4_rideOf 6 = .ok (.getfield 10, 3) := by decide +kernel
theorem dX4_rideOf_9 : decode cX4_rideOf 9 = .ok (.iload_n 1, 1) := by decide +kernel
theorem dX4_rideOf_10 : decode cX4_rideOf 10 = .ok (.invokevirtual 170, 3) := by decide +kernel
theorem dX4_rideOf_13 : decode cX4_rideOf 13 = .ok (.ireturn, 1) := by decide +kernel
theorem dX4_detourOf_0 : decode cX4_detourOf 0 = .ok (.aload_n 0, 1) := by decide +kernel
theorem dX4_detourOf_1 : decode cX4_detourOf 1 = .ok (.iload_n 1, 1) := by decide +kernel
theorem dX4_detourOf_2 : decode cX4_detourOf 2 = .ok (.invokevirtual 145, 3) := by decide +kernel
theorem dX4_detourOf_5 : decode cX4_detourOf 5 = .ok (.aload_n 0, 1) := by decide +kernel
theorem dX4_detourOf_6 : decode cX4_detourOf 6 = .ok (.getfield 10, 3) := by decide +kernel
theorem dX4_detourOf_9 : decode cX4_detourOf 9 = .ok (.iload_n 1, 1) := by decide +kernel
theorem dX4_detourOf_10 : decode cX4_detourOf 10 = .ok (.invokevirtual 170, 3) := by decide +kernel
theorem dX4_detourOf_13 : decode cX4_detourOf 13 = .ok (.istore_n 2, 1) := by decide +kernel
theorem dX4_detourOf_14 : decode cX4_detourOf 14 = .ok (.iload_n 2, 1) := by decide +kernel
theorem dX4_detourOf_15 : decode cX4_detourOf 15 = .ok (.iconst (-1), 1) := by decide +kernel
theorem dX4_detourOf_16 : decode cX4_detourOf 16 = .ok (.if_icmp .ne 5, 3) := by decide +kernel
theorem dX4_detourOf_19 : decode cX4_detourOf 19 = .ok (.iconst (-1), 1) := by decide +kernel
theorem dX4_detourOf_20 : decode cX4_detourOf 20 = .ok (.ireturn, 1) := by decide +kernel
theorem dX4_detourOf_21 : decode cX4_detourOf 21 = .ok (.iload_n 2, 1) := by decide +kernel
theorem dX4_detourOf_22 : decode cX4_detourOf 22 = .ok (.iconst 1, 1) := by decide +kernel
theorem dX4_detourOf_23 : decode cX4_detourOf 23 = .ok (.isub, 1) := by decide +kernel
theorem dX4_detourOf_24 : decode cX4_detourOf 24 = .ok (.aload_n 0, 1) := by decide +kernel
theorem dX4_detourOf_25 : decode cX4_detourOf 25 = .ok (.getfield 10, 3) := by decide +kernel
theorem dX4_detourOf_28 : decode cX4_detourOf 28 = .ok (.getfield 151, 3) := by decide +kernel
theorem dX4_detourOf_31 : decode cX4_detourOf 31 = .ok (.iload_n 1, 1) := by decide +kernel
theorem dX4_detourOf_32 : decode cX4_detourOf 32 = .ok (.iaload, 1) := by decide +kernel
theorem dX4_detourOf_33 : decode cX4_detourOf 33 = .ok (.aload_n 0, 1) := by decide +kernel
theorem dX4_detourOf_34 : decode cX4_detourOf 34 = .ok (.getfield 10, 3) := by decide +kernel
theorem dX4_detourOf_37 : decode cX4_detourOf 37 = .ok (.getfield 155, 3) := by decide +kernel
theorem dX4_detourOf_40 : decode cX4_detourOf 40 = .ok (.iload_n 1, 1) := by decide +kernel
theorem dX4_detourOf_41 : decode cX4_detourOf 41 = .ok (.iaload, 1) := by decide +kernel
theorem dX4_detourOf_42 : decode cX4_detourOf 42 = .ok (.isub, 1) := by decide +kernel
theorem dX4_detourOf_43 : decode cX4_detourOf 43 = .ok (.invokestatic 173, 3) := by decide +kernel
theorem dX4_detourOf_46 : decode cX4_detourOf 46 = .ok (.isub, 1) := by decide +kernel
theorem dX4_detourOf_47 : decode cX4_detourOf 47 = .ok (.ireturn, 1) := by decide +kernel
theorem dX4_countStatus_0 : decode cX4_countStatus 0 = .ok (.iload_n 1, 1) := by decide +kernel
theorem dX4_countStatus_1 : decode cX4_countStatus 1 = .ok (.ifCond .lt 8, 3) := by decide +kernel
theorem dX4_countStatus_4 : decode cX4_countStatus 4 = .ok (.iload_n 1, 1) := by decide +kernel
theorem dX4_countStatus_5 : decode cX4_countStatus 5 = .ok (.iconst 3, 1) := by decide +kernel
theorem dX4_countStatus_6 : decode cX4_countStatus 6 = .ok (.if_icmp .le 13, 3) := by decide +kernel
theorem dX4_countStatus_9 : decode cX4_countStatus 9 = .ok (.new 72, 3) := by decide +kernel
theorem dX4_countStatus_12 : decode cX4_countStatus 12 = .ok (.dup, 1) := by decide +kernel
theorem dX4_countStatus_13 : decode cX4_countStatus 13 = .ok (.ldc 178, 2) := by decide +kernel
theorem dX4_countStatus_15 : decode cX4_countStatus 15 = .ok (.invokespecial 76, 3) := by decide +kernel
theorem dX4_countStatus_18 : decode cX4_countStatus 18 = .ok (.athrow, 1) := by decide +kernel
theorem dX4_countStatus_19 : decode cX4_countStatus 19 = .ok (.aload_n 0, 1) := by decide +kernel
theorem dX4_countStatus_20 : decode cX4_countStatus 20 = .ok (.getfield 10, 3) := by decide +kernel
theorem dX4_countStatus_23 : decode cX4_countStatus 23 = .ok (.iload_n 1, 1) := by decide +kernel
theorem dX4_countStatus_24 : decode cX4_countStatus 24 = .ok (.invokevirtual 180, 3) := by decide +kernel
theorem dX4_countStatus_27 : decode cX4_countStatus 27 = .ok (.ireturn, 1) := by decide +kernel
theorem dX4_waitingAt_0 : decode cX4_waitingAt 0 = .ok (.aload_n 0, 1) := by decide +kernel
theorem dX4_waitingAt_1 : decode cX4_waitingAt 1 = .ok (.iload_n 1, 1) := by decide +kernel
theorem dX4_waitingAt_2 : decode cX4_waitingAt 2 = .ok (.invokevirtual 183, 3) := by decide +kernel
theorem dX4_waitingAt_5 : decode cX4_waitingAt 5 = .ok (.aload_n 0, 1) := by decide +kernel
theorem dX4_waitingAt_6 : decode cX4_waitingAt 6 = .ok (.getfield 10, 3) := by decide +kernel
theorem dX4_waitingAt_9 : decode cX4_waitingAt 9 = .ok (.iload_n 1, 1) := by decide +kernel
theorem dX4_waitingAt_10 : decode cX4_waitingAt 10 = .ok (.invokevirtual 186, 3) := by decide +kernel
theorem dX4_waitingAt_13 : decode cX4_waitingAt 13 = .ok (.ireturn, 1) := by decide +kernel
theorem dX4_queueAt_0 : decode cX4_queueAt 0 = .ok (.aload_n 0, 1) := by decide +kernel
theorem dX4_queueAt_1 : decode cX4_queueAt 1 = .ok (.iload_n 1, 1) := by decide +kernel
theorem dX4_queueAt_2 : decode cX4_queueAt 2 = .ok (.invokevirtual 183, 3) := by decide +kernel
theorem dX4_queueAt_5 : decode cX4_queueAt 5 = .ok (.iconst 0, 1) := by decide +kernel
theorem dX4_queueAt_6 : decode cX4_queueAt 6 = .ok (.istore_n 3, 1) := by decide +kernel
theorem dX4_queueAt_7 : decode cX4_queueAt 7 = .ok (.iconst 0, 1) := by decide +kernel
theorem dX4_queueAt_8 : decode cX4_queueAt 8 = .ok (.istore 4, 2) := by decide +kernel
theorem dX4_queueAt_10 : decode cX4_queueAt 10 = .ok (.iload 4, 2) := by decide +kernel
theorem dX4_queueAt_12 : decode cX4_queueAt 12 = .ok (.aload_n 0, 1) := by decide +kernel
theorem dX4_queueAt_13 : decode cX4_queueAt 13 = .ok (.getfield 10, 3) := by decide +kernel
theorem dX4_queueAt_16 : decode cX4_queueAt 16 = .ok (.getfield 83, 3) := by decide +kernel
theorem dX4_queueAt_19 : decode cX4_queueAt 19 = .ok (.if_icmp .ge 59, 3) := by decide +kernel
theorem dX4_queueAt_22 : decode cX4_queueAt 22 = .ok (.aload_n 0, 1) := by decide +kernel
theorem dX4_queueAt_23 : decode cX4_queueAt 23 = .ok (.getfield 10, 3) := by decide +kernel
theorem dX4_queueAt_26 : decode cX4_queueAt 26 = .ok (.getfield 189, 3) := by decide +kernel
theorem dX4_queueAt_29 : decode cX4_queueAt 29 = .ok (.iload 4, 2) := by decide +kernel
theorem dX4_queueAt_31 : decode cX4_queueAt 31 = .ok (.iaload, 1) := by decide +kernel
theorem dX4_queueAt_32 : decode cX4_queueAt 32 = .ok (.istore 5, 2) := by decide +kernel
theorem dX4_queueAt_34 : decode cX4_queueAt 34 = .ok (.aload_n 0, 1) := by decide +kernel
theorem dX4_queueAt_35 : decode cX4_queueAt 35 = .ok (.getfield 10, 3) := by decide +kernel
theorem dX4_queueAt_38 : decode cX4_queueAt 38 = .ok (.getfield 151, 3) := by decide +kernel
theorem dX4_queueAt_41 : decode cX4_queueAt 41 = .ok (.iload 5, 2) := by decide +kernel
theorem dX4_queueAt_43 : decode cX4_queueAt 43 = .ok (.iaload, 1) := by decide +kernel
theorem dX4_queueAt_44 : decode cX4_queueAt 44 = .ok (.iload_n 1, 1) := by decide +kernel
theorem dX4_queueAt_45 : decode cX4_queueAt 45 = .ok (.if_icmp .ne 27, 3) := by decide +kernel
theorem dX4_queueAt_48 : decode cX4_queueAt 48 = .ok (.aload_n 0, 1) := by decide +kernel
theorem dX4_queueAt_49 : decode cX4_queueAt 49 = .ok (.getfield 10, 3) := by decide +kernel
theorem dX4_queueAt_52 : decode cX4_queueAt 52 = .ok (.iload 5, 2) := by decide +kernel
theorem dX4_queueAt_54 : decode cX4_queueAt 54 = .ok (.invokevirtual 148, 3) := by decide +kernel
theorem dX4_queueAt_57 : decode cX4_queueAt 57 = .ok (.iconst 1, 1) := by decide +kernel
theorem dX4_queueAt_58 : decode cX4_queueAt 58 = .ok (.if_icmp .ne 14, 3) := by decide +kernel
theorem dX4_queueAt_61 : decode cX4_queueAt 61 = .ok (.iload_n 3, 1) := by decide +kernel
theorem dX4_queueAt_62 : decode cX4_queueAt 62 = .ok (.iload_n 2, 1) := by decide +kernel
theorem dX4_queueAt_63 : decode cX4_queueAt 63 = .ok (.if_icmp .ne 6, 3) := by decide +kernel
theorem dX4_queueAt_66 : decode cX4_queueAt 66 = .ok (.iload 5, 2) := by decide +kernel
theorem dX4_queueAt_68 : decode cX4_queueAt 68 = .ok (.ireturn, 1) := by decide +kernel
theorem dX4_queueAt_69 : decode cX4_queueAt 69 = .ok (.iinc 3 1, 3) := by decide +kernel
theorem dX4_queueAt_72 : decode cX4_queueAt 72 = .ok (.iinc 4 1, 3) := by decide +kernel
theorem dX4_queueAt_75 : decode cX4_queueAt 75 = .ok (.goto (-65), 3) := by decide +kernel
theorem dX4_queueAt_78 : decode cX4_queueAt 78 = .ok (.iconst (-1), 1) := by decide +kernel
theorem dX4_queueAt_79 : decode cX4_queueAt 79 = .ok (.ireturn, 1) := by decide +kernel
theorem dX4_firstWaiting_0 : decode cX4_firstWaiting 0 = .ok (.aload_n 0, 1) := by decide +kernel
theorem dX4_firstWaiting_1 : decode cX4_firstWaiting 1 = .ok (.getfield 10, 3) := by decide +kernel
theorem dX4_firstWaiting_4 : decode cX4_firstWaiting 4 = .ok (.invokevirtual 192, 3) := by decide +kernel
theorem dX4_firstWaiting_7 : decode cX4_firstWaiting 7 = .ok (.ireturn, 1) := by decide +kernel
theorem dX4_totalWait_0 : decode cX4_totalWait 0 = .ok (.aload_n 0, 1) := by decide +kernel
theorem dX4_totalWait_1 : decode cX4_totalWait 1 = .ok (.getfield 10, 3) := by decide +kernel
theorem dX4_totalWait_4 : decode cX4_totalWait 4 = .ok (.invokevirtual 199, 3) := by decide +kernel
theorem dX4_totalWait_7 : decode cX4_totalWait 7 = .ok (.ireturn, 1) := by decide +kernel
theorem dX4_isFinished_0 : decode cX4_isFinished 0 = .ok (.aload_n 0, 1) := by decide +kernel
theorem dX4_isFinished_1 : decode cX4_isFinished 1 = .ok (.getfield 10, 3) := by decide +kernel
theorem dX4_isFinished_4 : decode cX4_isFinished 4 = .ok (.invokevirtual 208, 3) := by decide +kernel
theorem dX4_isFinished_7 : decode cX4_isFinished 7 = .ok (.ireturn, 1) := by decide +kernel
theorem dX4_run_0 : decode cX4_run 0 = .ok (.iload_n 1, 1) := by decide +kernel
theorem dX4_run_1 : decode cX4_run 1 = .ok (.iconst 1, 1) := by decide +kernel
theorem dX4_run_2 : decode cX4_run 2 = .ok (.if_icmp .lt 10, 3) := by decide +kernel
theorem dX4_run_5 : decode cX4_run 5 = .ok (.iload_n 1, 1) := by decide +kernel
theorem dX4_run_6 : decode cX4_run 6 = .ok (.sipush 999, 3) := by decide +kernel
theorem dX4_run_9 : decode cX4_run 9 = .ok (.if_icmp .le 13, 3) := by decide +kernel
theorem dX4_run_12 : decode cX4_run 12 = .ok (.new 72, 3) := by decide +kernel
theorem dX4_run_15 : decode cX4_run 15 = .ok (.dup, 1) := by decide +kernel
theorem dX4_run_16 : decode cX4_run 16 = .ok (.ldc 238, 2) := by decide +kernel
theorem dX4_run_18 : decode cX4_run 18 = .ok (.invokespecial 76, 3) := by decide +kernel
theorem dX4_run_21 : decode cX4_run 21 = .ok (.athrow, 1) := by decide +kernel
theorem dX4_run_22 : decode cX4_run 22 = .ok (.aload_n 0, 1) := by decide +kernel
theorem dX4_run_23 : decode cX4_run 23 = .ok (.getfield 10, 3) := by decide +kernel
theorem dX4_run_26 : decode cX4_run 26 = .ok (.getfield 109, 3) := by decide +kernel
end
section
theorem dX4_run_29 : decode cX4_run 29 = .ok (.iload_n 1, 1) := by decide +kernel
theorem dX4_run_30 : decode cX4_run 30 = .ok (.iadd, 1) := by decide +kernel
theorem dX4_run_31 : decode cX4_run 31 = .ok (.sipush 999, 3) := by decide +kernel
theorem dX4_run_34 : decode cX4_run 34 = .ok (.if_icmp .le 13, 3) := by decide +kernel
theorem dX4_run_37 : decode cX4_run 37 = .ok (.new 229, 3) := by decide +kernel
theorem dX4_run_40 : decode cX4_run 40 = .ok (.dup, 1) := by decide +kernel
theorem dX4_run_41 : decode cX4_run 41 = .ok (.ldc 240, 2) := by decide +kernel
theorem dX4_run_43 : decode cX4_run 43 = .ok (.invokespecial 233, 3) := by decide +kernel
theorem dX4_run_46 : decode cX4_run 46 = .ok (.athrow, 1) := by decide +kernel
theorem dX4_run_47 : decode cX4_run 47 = .ok (.aload_n 0, 1) := by decide +kernel
theorem dX4_run_48 : decode cX4_run 48 = .ok (.invokevirtual 88, 3) := by decide +kernel
theorem dX4_run_51 : decode cX4_run 51 = .ok (.iconst 0, 1) := by decide +kernel
theorem dX4_run_52 : decode cX4_run 52 = .ok (.istore_n 2, 1) := by decide +kernel
theorem dX4_run_53 : decode cX4_run 53 = .ok (.iload_n 2, 1) := by decide +kernel
theorem dX4_run_54 : decode cX4_run 54 = .ok (.iload_n 1, 1) := by decide +kernel
theorem dX4_run_55 : decode cX4_run 55 = .ok (.if_icmp .ge 16, 3) := by decide +kernel
theorem dX4_run_58 : decode cX4_run 58 = .ok (.aload_n 0, 1) := by decide +kernel
theorem dX4_run_59 : decode cX4_run 59 = .ok (.getfield 10, 3) := by decide +kernel
theorem dX4_run_62 : decode cX4_run 62 = .ok (.invokevirtual 242, 3) := by decide +kernel
theorem dX4_run_65 : decode cX4_run 65 = .ok (.iinc 2 1, 3) := by decide +kernel
theorem dX4_run_68 : decode cX4_run 68 = .ok (.goto (-15), 3) := by decide +kernel
theorem dX4_run_71 : decode cX4_run 71 = .ok (.aload_n 0, 1) := by decide +kernel
theorem dX4_run_72 : decode cX4_run 72 = .ok (.getfield 10, 3) := by decide +kernel
theorem dX4_run_75 : decode cX4_run 75 = .ok (.getfield 112, 3) := by decide +kernel
theorem dX4_run_78 : decode cX4_run 78 = .ok (.ireturn, 1) := by decide +kernel
theorem dX4_setCapacity_0 : decode cX4_setCapacity 0 = .ok (.aload_n 0, 1) := by decide +kernel
theorem dX4_setCapacity_1 : decode cX4_setCapacity 1 = .ok (.iload_n 1, 1) := by decide +kernel
theorem dX4_setCapacity_2 : decode cX4_setCapacity 2 = .ok (.invokevirtual 218, 3) := by decide +kernel
theorem dX4_setCapacity_5 : decode cX4_setCapacity 5 = .ok (.aload_n 0, 1) := by decide +kernel
theorem dX4_setCapacity_6 : decode cX4_setCapacity 6 = .ok (.invokevirtual 88, 3) := by decide +kernel
theorem dX4_setCapacity_9 : decode cX4_setCapacity 9 = .ok (.aload_n 0, 1) := by decide +kernel
theorem dX4_setCapacity_10 : decode cX4_setCapacity 10 = .ok (.getfield 10, 3) := by decide +kernel
theorem dX4_setCapacity_13 : decode cX4_setCapacity 13 = .ok (.getfield 103, 3) := by decide +kernel
theorem dX4_setCapacity_16 : decode cX4_setCapacity 16 = .ok (.istore_n 2, 1) := by decide +kernel
theorem dX4_setCapacity_17 : decode cX4_setCapacity 17 = .ok (.aload_n 0, 1) := by decide +kernel
theorem dX4_setCapacity_18 : decode cX4_setCapacity 18 = .ok (.getfield 10, 3) := by decide +kernel
theorem dX4_setCapacity_21 : decode cX4_setCapacity 21 = .ok (.iload_n 1, 1) := by decide +kernel
theorem dX4_setCapacity_22 : decode cX4_setCapacity 22 = .ok (.putfield 103, 3) := by decide +kernel
theorem dX4_setCapacity_25 : decode cX4_setCapacity 25 = .ok (.iload_n 2, 1) := by decide +kernel
theorem dX4_setCapacity_26 : decode cX4_setCapacity 26 = .ok (.ireturn, 1) := by decide +kernel
theorem dX4_rememberState_0 : decode cX4_rememberState 0 = .ok (.aload_n 0, 1) := by decide +kernel
theorem dX4_rememberState_1 : decode cX4_rememberState 1 = .ok (.getfield 19, 3) := by decide +kernel
theorem dX4_rememberState_4 : decode cX4_rememberState 4 = .ok (.aload_n 0, 1) := by decide +kernel
theorem dX4_rememberState_5 : decode cX4_rememberState 5 = .ok (.getfield 23, 3) := by decide +kernel
theorem dX4_rememberState_8 : decode cX4_rememberState 8 = .ok (.aaload, 1) := by decide +kernel
theorem dX4_rememberState_9 : decode cX4_rememberState 9 = .ok (.aload_n 0, 1) := by decide +kernel
theorem dX4_rememberState_10 : decode cX4_rememberState 10 = .ok (.getfield 10, 3) := by decide +kernel
theorem dX4_rememberState_13 : decode cX4_rememberState 13 = .ok (.invokevirtual 79, 3) := by decide +kernel
theorem dX4_rememberState_16 : decode cX4_rememberState 16 = .ok (.aload_n 0, 1) := by decide +kernel
theorem dX4_rememberState_17 : decode cX4_rememberState 17 = .ok (.aload_n 0, 1) := by decide +kernel
theorem dX4_rememberState_18 : decode cX4_rememberState 18 = .ok (.getfield 23, 3) := by decide +kernel
theorem dX4_rememberState_21 : decode cX4_rememberState 21 = .ok (.iconst 1, 1) := by decide +kernel
theorem dX4_rememberState_22 : decode cX4_rememberState 22 = .ok (.iadd, 1) := by decide +kernel
theorem dX4_rememberState_23 : decode cX4_rememberState 23 = .ok (.bipush 8, 2) := by decide +kernel
theorem dX4_rememberState_25 : decode cX4_rememberState 25 = .ok (.irem, 1) := by decide +kernel
theorem dX4_rememberState_26 : decode cX4_rememberState 26 = .ok (.putfield 23, 3) := by decide +kernel
theorem dX4_rememberState_29 : decode cX4_rememberState 29 = .ok (.aload_n 0, 1) := by decide +kernel
theorem dX4_rememberState_30 : decode cX4_rememberState 30 = .ok (.aload_n 0, 1) := by decide +kernel
theorem dX4_rememberState_31 : decode cX4_rememberState 31 = .ok (.getfield 27, 3) := by decide +kernel
theorem dX4_rememberState_34 : decode cX4_rememberState 34 = .ok (.iconst 1, 1) := by decide +kernel
theorem dX4_rememberState_35 : decode cX4_rememberState 35 = .ok (.iadd, 1) := by decide +kernel
theorem dX4_rememberState_36 : decode cX4_rememberState 36 = .ok (.bipush 8, 2) := by decide +kernel
theorem dX4_rememberState_38 : decode cX4_rememberState 38 = .ok (.invokestatic 247, 3) := by decide +kernel
theorem dX4_rememberState_41 : decode cX4_rememberState 41 = .ok (.putfield 27, 3) := by decide +kernel
theorem dX4_rememberState_44 : decode cX4_rememberState 44 = .ok (.return_, 1) := by decide +kernel
theorem dX4_requirePassenger_0 : decode cX4_requirePassenger 0 = .ok (.iload_n 1, 1) := by decide +kernel
theorem dX4_requirePassenger_1 : decode cX4_requirePassenger 1 = .ok (.ifCond .lt 14, 3) := by decide +kernel
theorem dX4_requirePassenger_4 : decode cX4_requirePassenger 4 = .ok (.iload_n 1, 1) := by decide +kernel
theorem dX4_requirePassenger_5 : decode cX4_requirePassenger 5 = .ok (.aload_n 0, 1) := by decide +kernel
theorem dX4_requirePassenger_6 : decode cX4_requirePassenger 6 = .ok (.getfield 10, 3) := by decide +kernel
theorem dX4_requirePassenger_9 : decode cX4_requirePassenger 9 = .ok (.getfield 83, 3) := by decide +kernel
theorem dX4_requirePassenger_12 : decode cX4_requirePassenger 12 = .ok (.if_icmp .lt 14, 3) := by decide +kernel
theorem dX4_requirePassenger_15 : decode cX4_requirePassenger 15 = .ok (.new 264, 3) := by decide +kernel
theorem dX4_requirePassenger_18 : decode cX4_requirePassenger 18 = .ok (.dup, 1) := by decide +kernel
theorem dX4_requirePassenger_19 : decode cX4_requirePassenger 19 = .ok (.ldc_w 266, 3) := by decide +kernel
theorem dX4_requirePassenger_22 : decode cX4_requirePassenger 22 = .ok (.invokespecial 268, 3) := by decide +kernel
theorem dX4_requirePassenger_25 : decode cX4_requirePassenger 25 = .ok (.athrow, 1) := by decide +kernel
theorem dX4_requirePassenger_26 : decode cX4_requirePassenger 26 = .ok (.return_, 1) := by decide +kernel
theorem dX4_requireFloor_0 : decode cX4_requireFloor 0 = .ok (.iload_n 1, 1) := by decide +kernel
theorem dX4_requireFloor_1 : decode cX4_requireFloor 1 = .ok (.ifCond .lt 14, 3) := by decide +kernel
theorem dX4_requireFloor_4 : decode cX4_requireFloor 4 = .ok (.iload_n 1, 1) := by decide +kernel
theorem dX4_requireFloor_5 : decode cX4_requireFloor 5 = .ok (.aload_n 0, 1) := by decide +kernel
theorem dX4_requireFloor_6 : decode cX4_requireFloor 6 = .ok (.getfield 10, 3) := by decide +kernel
theorem dX4_requireFloor_9 : decode cX4_requireFloor 9 = .ok (.getfield 100, 3) := by decide +kernel
theorem dX4_requireFloor_12 : decode cX4_requireFloor 12 = .ok (.if_icmp .lt 14, 3) := by decide +kernel
theorem dX4_requireFloor_15 : decode cX4_requireFloor 15 = .ok (.new 264, 3) := by decide +kernel
theorem dX4_requireFloor_18 : decode cX4_requireFloor 18 = .ok (.dup, 1) := by decide +kernel
theorem dX4_requireFloor_19 : decode cX4_requireFloor 19 = .ok (.ldc_w 269, 3) := by decide +kernel
theorem dX4_requireFloor_22 : decode cX4_requireFloor 22 = .ok (.invokespecial 268, 3) := by decide +kernel
theorem dX4_requireFloor_25 : decode cX4_requireFloor 25 = .ok (.athrow, 1) := by decide +kernel
theorem dX4_requireFloor_26 : decode cX4_requireFloor 26 = .ok (.return_, 1) := by decide +kernel
theorem dX4_requirePolicy_0 : decode cX4_requirePolicy 0 = .ok (.iload_n 1, 1) := by decide +kernel
theorem dX4_requirePolicy_1 : decode cX4_requirePolicy 1 = .ok (.ifCond .lt 8, 3) := by decide +kernel
theorem dX4_requirePolicy_4 : decode cX4_requirePolicy 4 = .ok (.iload_n 1, 1) := by decide +kernel
theorem dX4_requirePolicy_5 : decode cX4_requirePolicy 5 = .ok (.iconst 2, 1) := by decide +kernel
theorem dX4_requirePolicy_6 : decode cX4_requirePolicy 6 = .ok (.if_icmp .le 14, 3) := by decide +kernel
theorem dX4_requirePolicy_9 : decode cX4_requirePolicy 9 = .ok (.new 72, 3) := by decide +kernel
theorem dX4_requirePolicy_12 : decode cX4_requirePolicy 12 = .ok (.dup, 1) := by decide +kernel
theorem dX4_requirePolicy_13 : decode cX4_requirePolicy 13 = .ok (.ldc_w 271, 3) := by decide +kernel
theorem dX4_requirePolicy_16 : decode cX4_requirePolicy 16 = .ok (.invokespecial 76, 3) := by decide +kernel
theorem dX4_requirePolicy_19 : decode cX4_requirePolicy 19 = .ok (.athrow, 1) := by decide +kernel
theorem dX4_requirePolicy_20 : decode cX4_requirePolicy 20 = .ok (.return_, 1) := by decide +kernel
theorem dX4_requireCapacity_0 : decode cX4_requireCapacity 0 = .ok (.iload_n 1, 1) := by decide +kernel
theorem dX4_requireCapacity_1 : decode cX4_requireCapacity 1 = .ok (.iconst 1, 1) := by decide +kernel
theorem dX4_requireCapacity_2 : decode cX4_requireCapacity 2 = .ok (.if_icmp .lt 9, 3) := by decide +kernel
theorem dX4_requireCapacity_5 : decode cX4_requireCapacity 5 = .ok (.iload_n 1, 1) := by decide +kernel
theorem dX4_requireCapacity_6 : decode cX4_requireCapacity 6 = .ok (.bipush 8, 2) := by decide +kernel
theorem dX4_requireCapacity_8 : decode cX4_requireCapacity 8 = .ok (.if_icmp .le 14, 3) := by decide +kernel
theorem dX4_requireCapacity_11 : decode cX4_requireCapacity 11 = .ok (.new 72, 3) := by decide +kernel
theorem dX4_requireCapacity_14 : decode cX4_requireCapacity 14 = .ok (.dup, 1) := by decide +kernel
theorem dX4_requireCapacity_15 : decode cX4_requireCapacity 15 = .ok (.ldc_w 273, 3) := by decide +kernel
theorem dX4_requireCapacity_18 : decode cX4_requireCapacity 18 = .ok (.invokespecial 76, 3) := by decide +kernel
theorem dX4_requireCapacity_21 : decode cX4_requireCapacity 21 = .ok (.athrow, 1) := by decide +kernel
theorem dX4_requireCapacity_22 : decode cX4_requireCapacity 22 = .ok (.aload_n 0, 1) := by decide +kernel
theorem dX4_requireCapacity_23 : decode cX4_requireCapacity 23 = .ok (.getfield 10, 3) := by decide +kernel
theorem dX4_requireCapacity_26 : decode cX4_requireCapacity 26 = .ok (.getfield 119, 3) := by decide +kernel
theorem dX4_requireCapacity_29 : decode cX4_requireCapacity 29 = .ok (.iload_n 1, 1) := by decide +kernel
theorem dX4_requireCapacity_30 : decode cX4_requireCapacity 30 = .ok (.if_icmp .le 14, 3) := by decide +kernel
theorem dX4_requireCapacity_33 : decode cX4_requireCapacity 33 = .ok (.new 229, 3) := by decide +kernel
theorem dX4_requireCapacity_36 : decode cX4_requireCapacity 36 = .ok (.dup, 1) := by decide +kernel
theorem dX4_requireCapacity_37 : decode cX4_requireCapacity 37 = .ok (.ldc_w 275, 3) := by decide +kernel
theorem dX4_requireCapacity_40 : decode cX4_requireCapacity 40 = .ok (.invokespecial 233, 3) := by decide +kernel
theorem dX4_requireCapacity_43 : decode cX4_requireCapacity 43 = .ok (.athrow, 1) := by decide +kernel
theorem dX4_requireCapacity_44 : decode cX4_requireCapacity 44 = .ok (.return_, 1) := by decide +kernel
theorem dX5_init_0 : decode cX5_init 0 = .ok (.aload_n 0, 1) := by decide +kernel
theorem dX5_init_1 : decode cX5_init 1 = .ok (.invokespecial 1, 3) := by decide +kernel
theorem dX5_init_4 : decode cX5_init 4 = .ok (.aload_n 0, 1) := by decide +kernel
theorem dX5_init_5 : decode cX5_init 5 = .ok (.iload_n 1, 1) := by decide +kernel
theorem dX5_init_6 : decode cX5_init 6 = .ok (.putfield 7, 3) := by decide +kernel
theorem dX5_init_9 : decode cX5_init 9 = .ok (.return_, 1) := by decide +kernel
theorem dX5_next_0 : decode cX5_next 0 = .ok (.aload_n 0, 1) := by decide +kernel
theorem dX5_next_1 : decode cX5_next 1 = .ok (.ldc 13, 2) := by decide +kernel
theorem dX5_next_3 : decode cX5_next 3 = .ok (.aload_n 0, 1) := by decide +kernel
theorem dX5_next_4 : decode cX5_next 4 = .ok (.getfield 7, 3) := by decide +kernel
theorem dX5_next_7 : decode cX5_next 7 = .ok (.imul, 1) := by decide +kernel
theorem dX5_next_8 : decode cX5_next 8 = .ok (.sipush 12345, 3) := by decide +kernel
theorem dX5_next_11 : decode cX5_next 11 = .ok (.iadd, 1) := by decide +kernel
theorem dX5_next_12 : decode cX5_next 12 = .ok (.putfield 7, 3) := by decide +kernel
theorem dX5_next_15 : decode cX5_next 15 = .ok (.aload_n 0, 1) := by decide +kernel
theorem dX5_next_16 : decode cX5_next 16 = .ok (.getfield 7, 3) := by decide +kernel
theorem dX5_next_19 : decode cX5_next 19 = .ok (.bipush 16, 2) := by decide +kernel
theorem dX5_next_21 : decode cX5_next 21 = .ok (.iushr, 1) := by decide +kernel
theorem dX5_next_22 : decode cX5_next 22 = .ok (.sipush 32767, 3) := by decide +kernel
theorem dX5_next_25 : decode cX5_next 25 = .ok (.iand, 1) := by decide +kernel
theorem dX5_next_26 : decode cX5_next 26 = .ok (.iload_n 1, 1) := by decide +kernel
theorem dX5_next_27 : decode cX5_next 27 = .ok (.irem, 1) := by decide +kernel
theorem dX5_next_28 : decode cX5_next 28 = .ok (.ireturn, 1) := by decide +kernel
theorem dJ5_init_a7421_0 : decode cJ5_init_a7421 0 = .ok (.aload_n 0, 1) := by decide +kernel
theorem dJ5_init_a7421_1 : decode cJ5_init_a7421 1 = .ok (.invokespecial 3, 3) := by decide +kernel
theorem dJ5_init_a7421_4 : decode cJ5_init_a7421 4 = .ok (.aload_n 1, 1) := by decide +kernel
theorem dJ5_init_a7421_5 : decode cJ5_init_a7421 5 = .ok (.invokevirtual 32, 3) := by decide +kernel
theorem dJ5_init_a7421_8 : decode cJ5_init_a7421 8 = .ok (.istore_n 2, 1) := by decide +kernel
theorem dJ5_init_a7421_9 : decode cJ5_init_a7421 9 = .ok (.iload_n 2, 1) := by decide +kernel
theorem dJ5_init_a7421_10 : decode cJ5_init_a7421 10 = .ok (.ldc 38, 2) := by decide +kernel
theorem dJ5_init_a7421_12 : decode cJ5_init_a7421 12 = .ok (.if_icmp .ge 10, 3) := by decide +kernel
theorem dJ5_init_a7421_15 : decode cJ5_init_a7421 15 = .ok (.iload_n 2, 1) := by decide +kernel
theorem dJ5_init_a7421_16 : decode cJ5_init_a7421 16 = .ok (.bipush 16, 2) := by decide +kernel
theorem dJ5_init_a7421_18 : decode cJ5_init_a7421 18 = .ok (.iadd, 1) := by decide +kernel
theorem dJ5_init_a7421_19 : decode cJ5_init_a7421 19 = .ok (.goto 5, 3) := by decide +kernel
theorem dJ5_init_a7421_22 : decode cJ5_init_a7421 22 = .ok (.ldc 39, 2) := by decide +kernel
theorem dJ5_init_a7421_24 : decode cJ5_init_a7421 24 = .ok (.istore_n 3, 1) := by decide +kernel
theorem dJ5_init_a7421_25 : decode cJ5_init_a7421 25 = .ok (.aload_n 1, 1) := by decide +kernel
theorem dJ5_init_a7421_26 : decode cJ5_init_a7421 26 = .ok (.invokevirtual 40, 3) := by decide +kernel
theorem dJ5_init_a7421_29 : decode cJ5_init_a7421 29 = .ok (.istore 4, 2) := by decide +kernel
theorem dJ5_init_a7421_31 : decode cJ5_init_a7421 31 = .ok (.aload_n 0, 1) := by decide +kernel
theorem dJ5_init_a7421_32 : decode cJ5_init_a7421 32 = .ok (.iload 4, 2) := by decide +kernel
theorem dJ5_init_a7421_34 : decode cJ5_init_a7421 34 = .ok (.putfield 22, 3) := by decide +kernel
theorem dJ5_init_a7421_37 : decode cJ5_init_a7421 37 = .ok (.aload_n 0, 1) := by decide +kernel
theorem dJ5_init_a7421_38 : decode cJ5_init_a7421 38 = .ok (.iload 4, 2) := by decide +kernel
theorem dJ5_init_a7421_40 : decode cJ5_init_a7421 40 = .ok (.ifCond .ne 9, 3) := by decide +kernel
theorem dJ5_init_a7421_43 : decode cJ5_init_a7421 43 = .ok (.iload_n 3, 1) := by decide +kernel
theorem dJ5_init_a7421_44 : decode cJ5_init_a7421 44 = .ok (.newarray .byte, 2) := by decide +kernel
theorem dJ5_init_a7421_46 : decode cJ5_init_a7421 46 = .ok (.goto 7, 3) := by decide +kernel
theorem dJ5_init_a7421_49 : decode cJ5_init_a7421 49 = .ok (.iload_n 3, 1) := by decide +kernel
theorem dJ5_init_a7421_50 : decode cJ5_init_a7421 50 = .ok (.invokestatic 26, 3) := by decide +kernel
theorem dJ5_init_a7421_53 : decode cJ5_init_a7421 53 = .ok (.putfield 15, 3) := by decide +kernel
theorem dJ5_init_a7421_56 : decode cJ5_init_a7421 56 = .ok (.aload_n 0, 1) := by decide +kernel
theorem dJ5_init_a7421_57 : decode cJ5_init_a7421 57 = .ok (.aload_n 1, 1) := by decide +kernel
theorem dJ5_init_a7421_58 : decode cJ5_init_a7421 58 = .ok (.invokevirtual 43, 3) := by decide +kernel
theorem dJ5_init_a7421_61 : decode cJ5_init_a7421 61 = .ok (.pop, 1) := by decide +kernel
theorem dJ5_init_a7421_62 : decode cJ5_init_a7421 62 = .ok (.return_, 1) := by decide +kernel
theorem dJ5_length_8abf5_0 : decode cJ5_length_8abf5 0 = .ok (.aload_n 0, 1) := by decide +kernel
theorem dJ5_length_8abf5_1 : decode cJ5_length_8abf5 1 = .ok (.getfield 79, 3) := by decide +kernel
theorem dJ5_length_8abf5_4 : decode cJ5_length_8abf5 4 = .ok (.ireturn, 1) := by decide +kernel
theorem dJ5_ensureCapacityInternal_d00df_0 : decode cJ5_ensureCapacityInternal_d00df 0 = .ok (.aload_n 0, 1) := by decide +kernel
theorem dJ5_ensureCapacityInternal_d00df_1 : decode cJ5_ensureCapacityInternal_d00df 1 = .ok (.getfield 15, 3) := by decide +kernel
theorem dJ5_ensureCapacityInternal_d00df_4 : decode cJ5_ensureCapacityInternal_d00df 4 = .ok (.arraylength, 1) := by decide +kernel
theorem dJ5_ensureCapacityInternal_d00df_5 : decode cJ5_ensureCapacityInternal_d00df 5 = .ok (.aload_n 0, 1) := by decide +kernel
theorem dJ5_ensureCapacityInternal_d00df_6 : decode cJ5_ensureCapacityInternal_d00df 6 = .ok (.getfield 22, 3) := by decide +kernel
theorem dJ5_ensureCapacityInternal_d00df_9 : decode cJ5_ensureCapacityInternal_d00df 9 = .ok (.ishr, 1) := by decide +kernel
theorem dJ5_ensureCapacityInternal_d00df_10 : decode cJ5_ensureCapacityInternal_d00df 10 = .ok (.istore_n 2, 1) := by decide +kernel
theorem dJ5_ensureCapacityInternal_d00df_11 : decode cJ5_ensureCapacityInternal_d00df 11 = .ok (.iload_n 1, 1) := by decide +kernel
theorem dJ5_ensureCapacityInternal_d00df_12 : decode cJ5_ensureCapacityInternal_d00df 12 = .ok (.iload_n 2, 1) := by decide +kernel
theorem dJ5_ensureCapacityInternal_d00df_13 : decode cJ5_ensureCapacityInternal_d00df 13 = .ok (.isub, 1) := by decide +kernel
theorem dJ5_ensureCapacityInternal_d00df_14 : decode cJ5_ensureCapacityInternal_d00df 14 = .ok (.ifCond .le 24, 3) := by decide +kernel
theorem dJ5_ensureCapacityInternal_d00df_17 : decode cJ5_ensureCapacityInternal_d00df 17 = .ok (.aload_n 0, 1) := by decide +kernel
theorem dJ5_ensureCapacityInternal_d00df_18 : decode cJ5_ensureCapacityInternal_d00df 18 = .ok (.aload_n 0, 1) := by decide +kernel
theorem dJ5_ensureCapacityInternal_d00df_19 : decode cJ5_ensureCapacityInternal_d00df 19 = .ok (.getfield 15, 3) := by decide +kernel
theorem dJ5_ensureCapacityInternal_d00df_22 : decode cJ5_ensureCapacityInternal_d00df 22 = .ok (.aload_n 0, 1) := by decide +kernel
theorem dJ5_ensureCapacityInternal_d00df_23 : decode cJ5_ensureCapacityInternal_d00df 23 = .ok (.iload_n 1, 1) := by decide +kernel
theorem dJ5_ensureCapacityInternal_d00df_24 : decode cJ5_ensureCapacityInternal_d00df 24 = .ok (.invokevirtual 104, 3) := by decide +kernel
theorem dJ5_ensureCapacityInternal_d00df_27 : decode cJ5_ensureCapacityInternal_d00df 27 = .ok (.aload_n 0, 1) := by decide +kernel
theorem dJ5_ensureCapacityInternal_d00df_28 : decode cJ5_ensureCapacityInternal_d00df 28 = .ok (.getfield 22, 3) := by decide +kernel
theorem dJ5_ensureCapacityInternal_d00df_31 : decode cJ5_ensureCapacityInternal_d00df 31 = .ok (.ishl, 1) := by decide +kernel
theorem dJ5_ensureCapacityInternal_d00df_32 : decode cJ5_ensureCapacityInternal_d00df 32 = .ok (.invokestatic 108, 3) := by decide +kernel
theorem dJ5_ensureCapacityInternal_d00df_35 : decode cJ5_ensureCapacityInternal_d00df 35 = .ok (.putfield 15, 3) := by decide +kernel
theorem dJ5_ensureCapacityInternal_d00df_38 : decode cJ5_ensureCapacityInternal_d00df 38 = .ok (.return_, 1) := by decide +kernel
theorem dJ5_newCapacity_0f7a4_0 : decode cJ5_newCapacity_0f7a4 0 = .ok (.aload_n 0, 1) := by decide +kernel
theorem dJ5_newCapacity_0f7a4_1 : decode cJ5_newCapacity_0f7a4 1 = .ok (.getfield 15, 3) := by decide +kernel
theorem dJ5_newCapacity_0f7a4_4 : decode cJ5_newCapacity_0f7a4 4 = .ok (.arraylength, 1) := by decide +kernel
theorem dJ5_newCapacity_0f7a4_5 : decode cJ5_newCapacity_0f7a4 5 = .ok (.istore_n 2, 1) := by decide +kernel
theorem dJ5_newCapacity_0f7a4_6 : decode cJ5_newCapacity_0f7a4 6 = .ok (.iload_n 1, 1) := by decide +kernel
theorem dJ5_newCapacity_0f7a4_7 : decode cJ5_newCapacity_0f7a4 7 = .ok (.aload_n 0, 1) := by decide +kernel
theorem dJ5_newCapacity_0f7a4_8 : decode cJ5_newCapacity_0f7a4 8 = .ok (.getfield 22, 3) := by decide +kernel
theorem dJ5_newCapacity_0f7a4_11 : decode cJ5_newCapacity_0f7a4 11 = .ok (.ishl, 1) := by decide +kernel
theorem dJ5_newCapacity_0f7a4_12 : decode cJ5_newCapacity_0f7a4 12 = .ok (.istore_n 3, 1) := by decide +kernel
theorem dJ5_newCapacity_0f7a4_13 : decode cJ5_newCapacity_0f7a4 13 = .ok (.iload_n 3, 1) := by decide +kernel
theorem dJ5_newCapacity_0f7a4_14 : decode cJ5_newCapacity_0f7a4 14 = .ok (.iload_n 2, 1) := by decide +kernel
theorem dJ5_newCapacity_0f7a4_15 : decode cJ5_newCapacity_0f7a4 15 = .ok (.isub, 1) := by decide +kernel
theorem dJ5_newCapacity_0f7a4_16 : decode cJ5_newCapacity_0f7a4 16 = .ok (.istore 4, 2) := by decide +kernel
theorem dJ5_newCapacity_0f7a4_18 : decode cJ5_newCapacity_0f7a4 18 = .ok (.iload_n 2, 1) := by decide +kernel
theorem dJ5_newCapacity_0f7a4_19 : decode cJ5_newCapacity_0f7a4 19 = .ok (.iload 4, 2) := by decide +kernel
theorem dJ5_newCapacity_0f7a4_21 : decode cJ5_newCapacity_0f7a4 21 = .ok (.iload_n 2, 1) := by decide +kernel
theorem dJ5_newCapacity_0f7a4_22 : decode cJ5_newCapacity_0f7a4 22 = .ok (.iconst 2, 1) := by decide +kernel
theorem dJ5_newCapacity_0f7a4_23 : decode cJ5_newCapacity_0f7a4 23 = .ok (.aload_n 0, 1) := by decide +kernel
theorem dJ5_newCapacity_0f7a4_24 : decode cJ5_newCapacity_0f7a4 24 = .ok (.getfield 22, 3) := by decide +kernel
theorem dJ5_newCapacity_0f7a4_27 : decode cJ5_newCapacity_0f7a4 27 = .ok (.ishl, 1) := by decide +kernel
theorem dJ5_newCapacity_0f7a4_28 : decode cJ5_newCapacity_0f7a4 28 = .ok (.iadd, 1) := by decide +kernel
theorem dJ5_newCapacity_0f7a4_29 : decode cJ5_newCapacity_0f7a4 29 = .ok (.invokestatic 114, 3) := by decide +kernel
theorem dJ5_newCapacity_0f7a4_32 : decode cJ5_newCapacity_0f7a4 32 = .ok (.istore 5, 2) := by decide +kernel
theorem dJ5_newCapacity_0f7a4_34 : decode cJ5_newCapacity_0f7a4 34 = .ok (.iload 5, 2) := by decide +kernel
theorem dJ5_newCapacity_0f7a4_36 : decode cJ5_newCapacity_0f7a4 36 = .ok (.ldc 39, 2) := by decide +kernel
theorem dJ5_newCapacity_0f7a4_38 : decode cJ5_newCapacity_0f7a4 38 = .ok (.if_icmp .ne 13, 3) := by decide +kernel
theorem dJ5_newCapacity_0f7a4_41 : decode cJ5_newCapacity_0f7a4 41 = .ok (.new 120, 3) := by decide +kernel
theorem dJ5_newCapacity_0f7a4_44 : decode cJ5_newCapacity_0f7a4 44 = .ok (.dup, 1) := by decide +kernel
theorem dJ5_newCapacity_0f7a4_45 : decode cJ5_newCapacity_0f7a4 45 = .ok (.ldc 122, 2) := by decide +kernel
theorem dJ5_newCapacity_0f7a4_47 : decode cJ5_newCapacity_0f7a4 47 = .ok (.invokespecial 124, 3) := by decide +kernel
theorem dJ5_newCapacity_0f7a4_50 : decode cJ5_newCapacity_0f7a4 50 = .ok (.athrow, 1) := by decide +kernel
theorem dJ5_newCapacity_0f7a4_51 : decode cJ5_newCapacity_0f7a4 51 = .ok (.iload 5, 2) := by decide +kernel
theorem dJ5_newCapacity_0f7a4_53 : decode cJ5_newCapacity_0f7a4 53 = .ok (.aload_n 0, 1) := by decide +kernel
theorem dJ5_newCapacity_0f7a4_54 : decode cJ5_newCapacity_0f7a4 54 = .ok (.getfield 22, 3) := by decide +kernel
theorem dJ5_newCapacity_0f7a4_57 : decode cJ5_newCapacity_0f7a4 57 = .ok (.ishr, 1) := by decide +kernel
theorem dJ5_newCapacity_0f7a4_58 : decode cJ5_newCapacity_0f7a4 58 = .ok (.ireturn, 1) := by decide +kernel
theorem dJ5_inflate_da8c8_0 : decode cJ5_inflate_da8c8 0 = .ok (.aload_n 0, 1) := by decide +kernel
theorem dJ5_inflate_da8c8_1 : decode cJ5_inflate_da8c8 1 = .ok (.invokevirtual 83, 3) := by decide +kernel
theorem dJ5_inflate_da8c8_4 : decode cJ5_inflate_da8c8 4 = .ok (.ifCond .ne 4, 3) := by decide +kernel
theorem dJ5_inflate_da8c8_7 : decode cJ5_inflate_da8c8 7 = .ok (.return_, 1) := by decide +kernel
theorem dJ5_inflate_da8c8_8 : decode cJ5_inflate_da8c8 8 = .ok (.aload_n 0, 1) := by decide +kernel
theorem dJ5_inflate_da8c8_9 : decode cJ5_inflate_da8c8 9 = .ok (.getfield 15, 3) := by decide +kernel
theorem dJ5_inflate_da8c8_12 : decode cJ5_inflate_da8c8 12 = .ok (.arraylength, 1) := by decide +kernel
theorem dJ5_inflate_da8c8_13 : decode cJ5_inflate_da8c8 13 = .ok (.invokestatic 26, 3) := by decide +kernel
theorem dJ5_inflate_da8c8_16 : decode cJ5_inflate_da8c8 16 = .ok (.astore_n 1, 1) := by decide +kernel
theorem dJ5_inflate_da8c8_17 : decode cJ5_inflate_da8c8 17 = .ok (.aload_n 0, 1) := by decide +kernel
theorem dJ5_inflate_da8c8_18 : decode cJ5_inflate_da8c8 18 = .ok (.getfield 15, 3) := by decide +kernel
theorem dJ5_inflate_da8c8_21 : decode cJ5_inflate_da8c8 21 = .ok (.iconst 0, 1) := by decide +kernel
theorem dJ5_inflate_da8c8_22 : decode cJ5_inflate_da8c8 22 = .ok (.aload_n 1, 1) := by decide +kernel
theorem dJ5_inflate_da8c8_23 : decode cJ5_inflate_da8c8 23 = .ok (.iconst 0, 1) := by decide +kernel
theorem dJ5_inflate_da8c8_24 : decode cJ5_inflate_da8c8 24 = .ok (.aload_n 0, 1) := by decide +kernel
theorem dJ5_inflate_da8c8_25 : decode cJ5_inflate_da8c8 25 = .ok (.getfield 79, 3) := by decide +kernel
theorem dJ5_inflate_da8c8_28 : decode cJ5_inflate_da8c8 28 = .ok (.invokestatic 125, 3) := by decide +kernel
theorem dJ5_inflate_da8c8_31 : decode cJ5_inflate_da8c8 31 = .ok (.aload_n 0, 1) := by decide +kernel
theorem dJ5_inflate_da8c8_32 : decode cJ5_inflate_da8c8 32 = .ok (.aload_n 1, 1) := by decide +kernel
theorem dJ5_inflate_da8c8_33 : decode cJ5_inflate_da8c8 33 = .ok (.putfield 15, 3) := by decide +kernel
theorem dJ5_inflate_da8c8_36 : decode cJ5_inflate_da8c8 36 = .ok (.aload_n 0, 1) := by decide +kernel
theorem dJ5_inflate_da8c8_37 : decode cJ5_inflate_da8c8 37 = .ok (.iconst 1, 1) := by decide +kernel
theorem dJ5_inflate_da8c8_38 : decode cJ5_inflate_da8c8 38 = .ok (.putfield 22, 3) := by decide +kernel
theorem dJ5_inflate_da8c8_41 : decode cJ5_inflate_da8c8 41 = .ok (.return_, 1) := by decide +kernel
theorem dJ5_charAt_5068e_0 : decode cJ5_charAt_5068e 0 = .ok (.aload_n 0, 1) := by decide +kernel
theorem dJ5_charAt_5068e_1 : decode cJ5_charAt_5068e 1 = .ok (.getfield 22, 3) := by decide +kernel
theorem dJ5_charAt_5068e_4 : decode cJ5_charAt_5068e 4 = .ok (.istore_n 2, 1) := by decide +kernel
theorem dJ5_charAt_5068e_5 : decode cJ5_charAt_5068e 5 = .ok (.aload_n 0, 1) := by decide +kernel
theorem dJ5_charAt_5068e_6 : decode cJ5_charAt_5068e 6 = .ok (.getfield 15, 3) := by decide +kernel
theorem dJ5_charAt_5068e_9 : decode cJ5_charAt_5068e 9 = .ok (.astore_n 3, 1) := by decide +kernel
theorem dJ5_charAt_5068e_10 : decode cJ5_charAt_5068e 10 = .ok (.aload_n 0, 1) := by decide +kernel
theorem dJ5_charAt_5068e_11 : decode cJ5_charAt_5068e 11 = .ok (.getfield 79, 3) := by decide +kernel
theorem dJ5_charAt_5068e_14 : decode cJ5_charAt_5068e 14 = .ok (.aload_n 3, 1) := by decide +kernel
theorem dJ5_charAt_5068e_15 : decode cJ5_charAt_5068e 15 = .ok (.arraylength, 1) := by decide +kernel
theorem dJ5_charAt_5068e_16 : decode cJ5_charAt_5068e 16 = .ok (.iload_n 2, 1) := by decide +kernel
theorem dJ5_charAt_5068e_17 : decode cJ5_charAt_5068e 17 = .ok (.ishr, 1) := by decide +kernel
theorem dJ5_charAt_5068e_18 : decode cJ5_charAt_5068e 18 = .ok (.invokestatic 138, 3) := by decide +kernel
theorem dJ5_charAt_5068e_21 : decode cJ5_charAt_5068e 21 = .ok (.istore 4, 2) := by decide +kernel
theorem dJ5_charAt_5068e_23 : decode cJ5_charAt_5068e 23 = .ok (.iload_n 1, 1) := by decide +kernel
theorem dJ5_charAt_5068e_24 : decode cJ5_charAt_5068e 24 = .ok (.iload 4, 2) := by decide +kernel
theorem dJ5_charAt_5068e_26 : decode cJ5_charAt_5068e 26 = .ok (.invokestatic 144, 3) := by decide +kernel
theorem dJ5_charAt_5068e_29 : decode cJ5_charAt_5068e 29 = .ok (.iload_n 2, 1) := by decide +kernel
theorem dJ5_charAt_5068e_30 : decode cJ5_charAt_5068e 30 = .ok (.ifCond .ne 12, 3) := by decide +kernel
theorem dJ5_charAt_5068e_33 : decode cJ5_charAt_5068e 33 = .ok (.aload_n 3, 1) := by decide +kernel
theorem dJ5_charAt_5068e_34 : decode cJ5_charAt_5068e 34 = .ok (.iload_n 1, 1) := by decide +kernel
theorem dJ5_charAt_5068e_35 : decode cJ5_charAt_5068e 35 = .ok (.baload, 1) := by decide +kernel
theorem dJ5_charAt_5068e_36 : decode cJ5_charAt_5068e 36 = .ok (.sipush 255, 3) := by decide +kernel
theorem dJ5_charAt_5068e_39 : decode cJ5_charAt_5068e 39 = .ok (.iand, 1) := by decide +kernel
theorem dJ5_charAt_5068e_40 : decode cJ5_charAt_5068e 40 = .ok (.i2c, 1) := by decide +kernel
theorem dJ5_charAt_5068e_41 : decode cJ5_charAt_5068e 41 = .ok (.ireturn, 1) := by decide +kernel
theorem dJ5_charAt_5068e_42 : decode cJ5_charAt_5068e 42 = .ok (.aload_n 3, 1) := by decide +kernel
theorem dJ5_charAt_5068e_43 : decode cJ5_charAt_5068e 43 = .ok (.iload_n 1, 1) := by decide +kernel
theorem dJ5_charAt_5068e_44 : decode cJ5_charAt_5068e 44 = .ok (.invokestatic 148, 3) := by decide +kernel
theorem dJ5_charAt_5068e_47 : decode cJ5_charAt_5068e 47 = .ok (.ireturn, 1) := by decide +kernel
theorem dJ5_append_cf1ce_0 : decode cJ5_append_cf1ce 0 = .ok (.aload_n 1, 1) := by decide +kernel
theorem dJ5_append_cf1ce_1 : decode cJ5_append_cf1ce 1 = .ok (.ifnonnull 8, 3) := by decide +kernel
theorem dJ5_append_cf1ce_4 : decode cJ5_append_cf1ce 4 = .ok (.aload_n 0, 1) := by decide +kernel
theorem dJ5_append_cf1ce_5 : decode cJ5_append_cf1ce 5 = .ok (.invokevirtual 204, 3) := by decide +kernel
theorem dJ5_append_cf1ce_8 : decode cJ5_append_cf1ce 8 = .ok (.areturn, 1) := by decide +kernel
theorem dJ5_append_cf1ce_9 : decode cJ5_append_cf1ce 9 = .ok (.aload_n 1, 1) := by decide +kernel
theorem dJ5_append_cf1ce_10 : decode cJ5_append_cf1ce 10 = .ok (.invokevirtual 32, 3) := by decide +kernel
theorem dJ5_append_cf1ce_13 : decode cJ5_append_cf1ce 13 = .ok (.istore_n 2, 1) := by decide +kernel
theorem dJ5_append_cf1ce_14 : decode cJ5_append_cf1ce 14 = .ok (.aload_n 0, 1) := by decide +kernel
theorem dJ5_append_cf1ce_15 : decode cJ5_append_cf1ce 15 = .ok (.aload_n 0, 1) := by decide +kernel
theorem dJ5_append_cf1ce_16 : decode cJ5_append_cf1ce 16 = .ok (.getfield 79, 3) := by decide +kernel
theorem dJ5_append_cf1ce_19 : decode cJ5_append_cf1ce 19 = .ok (.iload_n 2, 1) := by decide +kernel
theorem dJ5_append_cf1ce_20 : decode cJ5_append_cf1ce 20 = .ok (.iadd, 1) := by decide +kernel
theorem dJ5_append_cf1ce_21 : decode cJ5_append_cf1ce 21 = .ok (.invokevirtual 100, 3) := by decide +kernel
theorem dJ5_append_cf1ce_24 : decode cJ5_append_cf1ce 24 = .ok (.aload_n 0, 1) := by decide +kernel
theorem dJ5_append_cf1ce_25 : decode cJ5_append_cf1ce 25 = .ok (.aload_n 0, 1) := by decide +kernel
theorem dJ5_append_cf1ce_26 : decode cJ5_append_cf1ce 26 = .ok (.getfield 79, 3) := by decide +kernel
theorem dJ5_append_cf1ce_29 : decode cJ5_append_cf1ce 29 = .ok (.aload_n 1, 1) := by decide +kernel
theorem dJ5_append_cf1ce_30 : decode cJ5_append_cf1ce 30 = .ok (.invokevirtual 208, 3) := by decide +kernel
theorem dJ5_append_cf1ce_33 : decode cJ5_append_cf1ce 33 = .ok (.aload_n 0, 1) := by decide +kernel
theorem dJ5_append_cf1ce_34 : decode cJ5_append_cf1ce 34 = .ok (.dup, 1) := by decide +kernel
theorem dJ5_append_cf1ce_35 : decode cJ5_append_cf1ce 35 = .ok (.getfield 79, 3) := by decide +kernel
theorem dJ5_append_cf1ce_38 : decode cJ5_append_cf1ce 38 = .ok (.iload_n 2, 1) := by decide +kernel
theorem dJ5_append_cf1ce_39 : decode cJ5_append_cf1ce 39 = .ok (.iadd, 1) := by decide +kernel
theorem dJ5_append_cf1ce_40 : decode cJ5_append_cf1ce 40 = .ok (.putfield 79, 3) := by decide +kernel
theorem dJ5_append_cf1ce_43 : decode cJ5_append_cf1ce 43 = .ok (.aload_n 0, 1) := by decide +kernel
theorem dJ5_append_cf1ce_44 : decode cJ5_append_cf1ce 44 = .ok (.areturn, 1) := by decide +kernel
theorem dJ5_appendNull_278bc_0 : decode cJ5_appendNull_278bc 0 = .ok (.aload_n 0, 1) := by decide +kernel
theorem dJ5_appendNull_278bc_1 : decode cJ5_appendNull_278bc 1 = .ok (.aload_n 0, 1) := by decide +kernel
theorem dJ5_appendNull_278bc_2 : decode cJ5_appendNull_278bc 2 = .ok (.getfield 79, 3) := by decide +kernel
theorem dJ5_appendNull_278bc_5 : decode cJ5_appendNull_278bc 5 = .ok (.iconst 4, 1) := by decide +kernel
theorem dJ5_appendNull_278bc_6 : decode cJ5_appendNull_278bc 6 = .ok (.iadd, 1) := by decide +kernel
theorem dJ5_appendNull_278bc_7 : decode cJ5_appendNull_278bc 7 = .ok (.invokevirtual 100, 3) := by decide +kernel
theorem dJ5_appendNull_278bc_10 : decode cJ5_appendNull_278bc 10 = .ok (.aload_n 0, 1) := by decide +kernel
theorem dJ5_appendNull_278bc_11 : decode cJ5_appendNull_278bc 11 = .ok (.getfield 79, 3) := by decide +kernel
theorem dJ5_appendNull_278bc_14 : decode cJ5_appendNull_278bc 14 = .ok (.istore_n 1, 1) := by decide +kernel
theorem dJ5_appendNull_278bc_15 : decode cJ5_appendNull_278bc 15 = .ok (.aload_n 0, 1) := by decide +kernel
theorem dJ5_appendNull_278bc_16 : decode cJ5_appendNull_278bc 16 = .ok (.getfield 15, 3) := by decide +kernel
theorem dJ5_appendNull_278bc_19 : decode cJ5_appendNull_278bc 19 = .ok (.astore_n 2, 1) := by decide +kernel
theorem dJ5_appendNull_278bc_20 : decode cJ5_appendNull_278bc 20 = .ok (.aload_n 0, 1) := by decide +kernel
theorem dJ5_appendNull_278bc_21 : decode cJ5_appendNull_278bc 21 = .ok (.invokevirtual 83, 3) := by decide +kernel
theorem dJ5_appendNull_278bc_24 : decode cJ5_appendNull_278bc 24 = .ok (.ifCond .eq 38, 3) := by decide +kernel
theorem dJ5_appendNull_278bc_27 : decode cJ5_appendNull_278bc 27 = .ok (.aload_n 2, 1) := by decide +kernel
theorem dJ5_appendNull_278bc_28 : decode cJ5_appendNull_278bc 28 = .ok (.iload_n 1, 1) := by decide +kernel
theorem dJ5_appendNull_278bc_29 : decode cJ5_appendNull_278bc 29 = .ok (.iinc 1 1, 3) := by decide +kernel
theorem dJ5_appendNull_278bc_32 : decode cJ5_appendNull_278bc 32 = .ok (.bipush 110, 2) := by decide +kernel
theorem dJ5_appendNull_278bc_34 : decode cJ5_appendNull_278bc 34 = .ok (.bastore, 1) := by decide +kernel
theorem dJ5_appendNull_278bc_35 : decode cJ5_appendNull_278bc 35 = .ok (.aload_n 2, 1) := by decide +kernel
theorem dJ5_appendNull_278bc_36 : decode cJ5_appendNull_278bc 36 = .ok (.iload_n 1, 1) := by decide +kernel
theorem dJ5_appendNull_278bc_37 : decode cJ5_appendNull_278bc 37 = .ok (.iinc 1 1, 3) := by decide +kernel
theorem dJ5_appendNull_278bc_40 : decode cJ5_appendNull_278bc 40 = .ok (.bipush 117, 2) := by decide +kernel
theorem dJ5_appendNull_278bc_42 : decode cJ5_appendNull_278bc 42 = .ok (.bastore, 1) := by decide +kernel
theorem dJ5_appendNull_278bc_43 : decode cJ5_appendNull_278bc 43 = .ok (.aload_n 2, 1) := by decide +kernel
theorem dJ5_appendNull_278bc_44 : decode cJ5_appendNull_278bc 44 = .ok (.iload_n 1, 1) := by decide +kernel
theorem dJ5_appendNull_278bc_45 : decode cJ5_appendNull_278bc 45 = .ok (.iinc 1 1, 3) := by decide +kernel
theorem dJ5_appendNull_278bc_48 : decode cJ5_appendNull_278bc 48 = .ok (.bipush 108, 2) := by decide +kernel
theorem dJ5_appendNull_278bc_50 : decode cJ5_appendNull_278bc 50 = .ok (.bastore, 1) := by decide +kernel
theorem dJ5_appendNull_278bc_51 : decode cJ5_appendNull_278bc 51 = .ok (.aload_n 2, 1) := by decide +kernel
theorem dJ5_appendNull_278bc_52 : decode cJ5_appendNull_278bc 52 = .ok (.iload_n 1, 1) := by decide +kernel
theorem dJ5_appendNull_278bc_53 : decode cJ5_appendNull_278bc 53 = .ok (.iinc 1 1, 3) := by decide +kernel
theorem dJ5_appendNull_278bc_56 : decode cJ5_appendNull_278bc 56 = .ok (.bipush 108, 2) := by decide +kernel
theorem dJ5_appendNull_278bc_58 : decode cJ5_appendNull_278bc 58 = .ok (.bastore, 1) := by decide +kernel
theorem dJ5_appendNull_278bc_59 : decode cJ5_appendNull_278bc 59 = .ok (.goto 17, 3) := by decide +kernel
theorem dJ5_appendNull_278bc_62 : decode cJ5_appendNull_278bc 62 = .ok (.aload_n 2, 1) := by decide +kernel
theorem dJ5_appendNull_278bc_63 : decode cJ5_appendNull_278bc 63 = .ok (.iload_n 1, 1) := by decide +kernel
theorem dJ5_appendNull_278bc_64 : decode cJ5_appendNull_278bc 64 = .ok (.bipush 110, 2) := by decide +kernel
theorem dJ5_appendNull_278bc_66 : decode cJ5_appendNull_278bc 66 = .ok (.bipush 117, 2) := by decide +kernel
theorem dJ5_appendNull_278bc_68 : decode cJ5_appendNull_278bc 68 = .ok (.bipush 108, 2) := by decide +kernel
theorem dJ5_appendNull_278bc_70 : decode cJ5_appendNull_278bc 70 = .ok (.bipush 108, 2) := by decide +kernel
theorem dJ5_appendNull_278bc_72 : decode cJ5_appendNull_278bc 72 = .ok (.invokestatic 226, 3) := by decide +kernel
theorem dJ5_appendNull_278bc_75 : decode cJ5_appendNull_278bc 75 = .ok (.istore_n 1, 1) := by decide +kernel
theorem dJ5_appendNull_278bc_76 : decode cJ5_appendNull_278bc 76 = .ok (.aload_n 0, 1) := by decide +kernel
theorem dJ5_appendNull_278bc_77 : decode cJ5_appendNull_278bc 77 = .ok (.iload_n 1, 1) := by decide +kernel
theorem dJ5_appendNull_278bc_78 : decode cJ5_appendNull_278bc 78 = .ok (.putfield 79, 3) := by decide +kernel
theorem dJ5_appendNull_278bc_81 : decode cJ5_appendNull_278bc 81 = .ok (.aload_n 0, 1) := by decide +kernel
theorem dJ5_appendNull_278bc_82 : decode cJ5_appendNull_278bc 82 = .ok (.areturn, 1) := by decide +kernel
theorem dJ5_append_3fe6f_0 : decode cJ5_append_3fe6f 0 = .ok (.aload_n 0, 1) := by decide +kernel
theorem dJ5_append_3fe6f_1 : decode cJ5_append_3fe6f 1 = .ok (.aload_n 0, 1) := by decide +kernel
theorem dJ5_append_3fe6f_2 : decode cJ5_append_3fe6f 2 = .ok (.getfield 79, 3) := by decide +kernel
theorem dJ5_append_3fe6f_5 : decode cJ5_append_3fe6f 5 = .ok (.iconst 1, 1) := by decide +kernel
theorem dJ5_append_3fe6f_6 : decode cJ5_append_3fe6f 6 = .ok (.iadd, 1) := by decide +kernel
theorem dJ5_append_3fe6f_7 : decode cJ5_append_3fe6f 7 = .ok (.invokevirtual 100, 3) := by decide +kernel
theorem dJ5_append_3fe6f_10 : decode cJ5_append_3fe6f 10 = .ok (.aload_n 0, 1) := by decide +kernel
theorem dJ5_append_3fe6f_11 : decode cJ5_append_3fe6f 11 = .ok (.invokevirtual 83, 3) := by decide +kernel
theorem dJ5_append_3fe6f_14 : decode cJ5_append_3fe6f 14 = .ok (.ifCond .eq 31, 3) := by decide +kernel
theorem dJ5_append_3fe6f_17 : decode cJ5_append_3fe6f 17 = .ok (.iload_n 1, 1) := by decide +kernel
theorem dJ5_append_3fe6f_18 : decode cJ5_append_3fe6f 18 = .ok (.invokestatic 191, 3) := by decide +kernel
theorem dJ5_append_3fe6f_21 : decode cJ5_append_3fe6f 21 = .ok (.ifCond .eq 24, 3) := by decide +kernel
theorem dJ5_append_3fe6f_24 : decode cJ5_append_3fe6f 24 = .ok (.aload_n 0, 1) := by decide +kernel
theorem dJ5_append_3fe6f_25 : decode cJ5_append_3fe6f 25 = .ok (.getfield 15, 3) := by decide +kernel
theorem dJ5_append_3fe6f_28 : decode cJ5_append_3fe6f 28 = .ok (.aload_n 0, 1) := by decide +kernel
theorem dJ5_append_3fe6f_29 : decode cJ5_append_3fe6f 29 = .ok (.dup, 1) := by decide +kernel
theorem dJ5_append_3fe6f_30 : decode cJ5_append_3fe6f 30 = .ok (.getfield 79, 3) := by decide +kernel
theorem dJ5_append_3fe6f_33 : decode cJ5_append_3fe6f 33 = .ok (.dup_x1, 1) := by decide +kernel
theorem dJ5_append_3fe6f_34 : decode cJ5_append_3fe6f 34 = .ok (.iconst 1, 1) := by decide +kernel
theorem dJ5_append_3fe6f_35 : decode cJ5_append_3fe6f 35 = .ok (.iadd, 1) := by decide +kernel
theorem dJ5_append_3fe6f_36 : decode cJ5_append_3fe6f 36 = .ok (.putfield 79, 3) := by decide +kernel
theorem dJ5_append_3fe6f_39 : decode cJ5_append_3fe6f 39 = .ok (.iload_n 1, 1) := by decide +kernel
theorem dJ5_append_3fe6f_40 : decode cJ5_append_3fe6f 40 = .ok (.i2b, 1) := by decide +kernel
theorem dJ5_append_3fe6f_41 : decode cJ5_append_3fe6f 41 = .ok (.bastore, 1) := by decide +kernel
theorem dJ5_append_3fe6f_42 : decode cJ5_append_3fe6f 42 = .ok (.goto 33, 3) := by decide +kernel
theorem dJ5_append_3fe6f_45 : decode cJ5_append_3fe6f 45 = .ok (.aload_n 0, 1) := by decide +kernel
theorem dJ5_append_3fe6f_46 : decode cJ5_append_3fe6f 46 = .ok (.invokevirtual 83, 3) := by decide +kernel
theorem dJ5_append_3fe6f_49 : decode cJ5_append_3fe6f 49 = .ok (.ifCond .eq 7, 3) := by decide +kernel
theorem dJ5_append_3fe6f_52 : decode cJ5_append_3fe6f 52 = .ok (.aload_n 0, 1) := by decide +kernel
theorem dJ5_append_3fe6f_53 : decode cJ5_append_3fe6f 53 = .ok (.invokevirtual 195, 3) := by decide +kernel
theorem dJ5_append_3fe6f_56 : decode cJ5_append_3fe6f 56 = .ok (.aload_n 0, 1) := by decide +kernel
theorem dJ5_append_3fe6f_57 : decode cJ5_append_3fe6f 57 = .ok (.getfield 15, 3) := by decide +kernel
theorem dJ5_append_3fe6f_60 : decode cJ5_append_3fe6f 60 = .ok (.aload_n 0, 1) := by decide +kernel
theorem dJ5_append_3fe6f_61 : decode cJ5_append_3fe6f 61 = .ok (.dup, 1) := by decide +kernel
theorem dJ5_append_3fe6f_62 : decode cJ5_append_3fe6f 62 = .ok (.getfield 79, 3) := by decide +kernel
theorem dJ5_append_3fe6f_65 : decode cJ5_append_3fe6f 65 = .ok (.dup_x1, 1) := by decide +kernel
theorem dJ5_append_3fe6f_66 : decode cJ5_append_3fe6f 66 = .ok (.iconst 1, 1) := by decide +kernel
theorem dJ5_append_3fe6f_67 : decode cJ5_append_3fe6f 67 = .ok (.iadd, 1) := by decide +kernel
theorem dJ5_append_3fe6f_68 : decode cJ5_append_3fe6f 68 = .ok (.putfield 79, 3) := by decide +kernel
theorem dJ5_append_3fe6f_71 : decode cJ5_append_3fe6f 71 = .ok (.iload_n 1, 1) := by decide +kernel
theorem dJ5_append_3fe6f_72 : decode cJ5_append_3fe6f 72 = .ok (.invokestatic 197, 3) := by decide +kernel
theorem dJ5_append_3fe6f_75 : decode cJ5_append_3fe6f 75 = .ok (.aload_n 0, 1) := by decide +kernel
theorem dJ5_append_3fe6f_76 : decode cJ5_append_3fe6f 76 = .ok (.areturn, 1) := by decide +kernel
theorem dJ5_append_c97b9_0 : decode cJ5_append_c97b9 0 = .ok (.aload_n 0, 1) := by decide +kernel
theorem dJ5_append_c97b9_1 : decode cJ5_append_c97b9 1 = .ok (.getfield 79, 3) := by decide +kernel
theorem dJ5_append_c97b9_4 : decode cJ5_append_c97b9 4 = .ok (.istore_n 2, 1) := by decide +kernel
theorem dJ5_append_c97b9_5 : decode cJ5_append_c97b9 5 = .ok (.iload_n 2, 1) := by decide +kernel
theorem dJ5_append_c97b9_6 : decode cJ5_append_c97b9 6 = .ok (.iload_n 1, 1) := by decide +kernel
theorem dJ5_append_c97b9_7 : decode cJ5_append_c97b9 7 = .ok (.invokestatic 245, 3) := by decide +kernel
theorem dJ5_append_c97b9_10 : decode cJ5_append_c97b9 10 = .ok (.iadd, 1) := by decide +kernel
theorem dJ5_append_c97b9_11 : decode cJ5_append_c97b9 11 = .ok (.istore_n 3, 1) := by decide +kernel
theorem dJ5_append_c97b9_12 : decode cJ5_append_c97b9 12 = .ok (.aload_n 0, 1) := by decide +kernel
theorem dJ5_append_c97b9_13 : decode cJ5_append_c97b9 13 = .ok (.iload_n 3, 1) := by decide +kernel
theorem dJ5_append_c97b9_14 : decode cJ5_append_c97b9 14 = .ok (.invokevirtual 100, 3) := by decide +kernel
theorem dJ5_append_c97b9_17 : decode cJ5_append_c97b9 17 = .ok (.aload_n 0, 1) := by decide +kernel
theorem dJ5_append_c97b9_18 : decode cJ5_append_c97b9 18 = .ok (.invokevirtual 83, 3) := by decide +kernel
theorem dJ5_append_c97b9_21 : decode cJ5_append_c97b9 21 = .ok (.ifCond .eq 16, 3) := by decide +kernel
theorem dJ5_append_c97b9_24 : decode cJ5_append_c97b9 24 = .ok (.iload_n 1, 1) := by decide +kernel
theorem dJ5_append_c97b9_25 : decode cJ5_append_c97b9 25 = .ok (.iload_n 3, 1) := by decide +kernel
theorem dJ5_append_c97b9_26 : decode cJ5_append_c97b9 26 = .ok (.aload_n 0, 1) := by decide +kernel
theorem dJ5_append_c97b9_27 : decode cJ5_append_c97b9 27 = .ok (.getfield 15, 3) := by decide +kernel
theorem dJ5_append_c97b9_30 : decode cJ5_append_c97b9 30 = .ok (.invokestatic 248, 3) := by decide +kernel
theorem dJ5_append_c97b9_33 : decode cJ5_append_c97b9 33 = .ok (.pop, 1) := by decide +kernel
theorem dJ5_append_c97b9_34 : decode cJ5_append_c97b9 34 = .ok (.goto 14, 3) := by decide +kernel
theorem dJ5_append_c97b9_37 : decode cJ5_append_c97b9 37 = .ok (.iload_n 1, 1) := by decide +kernel
theorem dJ5_append_c97b9_38 : decode cJ5_append_c97b9 38 = .ok (.iload_n 2, 1) := by decide +kernel
theorem dJ5_append_c97b9_39 : decode cJ5_append_c97b9 39 = .ok (.iload_n 3, 1) := by decide +kernel
theorem dJ5_append_c97b9_40 : decode cJ5_append_c97b9 40 = .ok (.aload_n 0, 1) := by decide +kernel
theorem dJ5_append_c97b9_41 : decode cJ5_append_c97b9 41 = .ok (.getfield 15, 3) := by decide +kernel
theorem dJ5_append_c97b9_44 : decode cJ5_append_c97b9 44 = .ok (.invokestatic 251, 3) := by decide +kernel
theorem dJ5_append_c97b9_47 : decode cJ5_append_c97b9 47 = .ok (.pop, 1) := by decide +kernel
theorem dJ5_append_c97b9_48 : decode cJ5_append_c97b9 48 = .ok (.aload_n 0, 1) := by decide +kernel
theorem dJ5_append_c97b9_49 : decode cJ5_append_c97b9 49 = .ok (.iload_n 3, 1) := by decide +kernel
theorem dJ5_append_c97b9_50 : decode cJ5_append_c97b9 50 = .ok (.putfield 79, 3) := by decide +kernel
theorem dJ5_append_c97b9_53 : decode cJ5_append_c97b9 53 = .ok (.aload_n 0, 1) := by decide +kernel
theorem dJ5_append_c97b9_54 : decode cJ5_append_c97b9 54 = .ok (.areturn, 1) := by decide +kernel
theorem dJ5_isLatin1_aae02_0 : decode cJ5_isLatin1_aae02 0 = .ok (.getstatic 18, 3) := by decide +kernel
theorem dJ5_isLatin1_aae02_3 : decode cJ5_isLatin1_aae02 3 = .ok (.ifCond .eq 14, 3) := by decide +kernel
theorem dJ5_isLatin1_aae02_6 : decode cJ5_isLatin1_aae02 6 = .ok (.aload_n 0, 1) := by decide +kernel
theorem dJ5_isLatin1_aae02_7 : decode cJ5_isLatin1_aae02 7 = .ok (.getfield 22, 3) := by decide +kernel
theorem dJ5_isLatin1_aae02_10 : decode cJ5_isLatin1_aae02 10 = .ok (.ifCond .ne 7, 3) := by decide +kernel
theorem dJ5_isLatin1_aae02_13 : decode cJ5_isLatin1_aae02 13 = .ok (.iconst 1, 1) := by decide +kernel
theorem dJ5_isLatin1_aae02_14 : decode cJ5_isLatin1_aae02 14 = .ok (.goto 4, 3) := by decide +kernel
theorem dJ5_isLatin1_aae02_17 : decode cJ5_isLatin1_aae02 17 = .ok (.iconst 0, 1) := by decide +kernel
theorem dJ5_isLatin1_aae02_18 : decode cJ5_isLatin1_aae02 18 = .ok (.ireturn, 1) := by decide +kernel
theorem dJ5_inflateIfNeededFor_a7421_0 : decode cJ5_inflateIfNeededFor_a7421 0 = .ok (.getstatic 18, 3) := by decide +kernel
theorem dJ5_inflateIfNeededFor_a7421_3 : decode cJ5_inflateIfNeededFor_a7421 3 = .ok (.ifCond .eq 18, 3) := by decide +kernel
theorem dJ5_inflateIfNeededFor_a7421_6 : decode cJ5_inflateIfNeededFor_a7421 6 = .ok (.aload_n 0, 1) := by decide +kernel
theorem dJ5_inflateIfNeededFor_a7421_7 : decode cJ5_inflateIfNeededFor_a7421 7 = .ok (.getfield 22, 3) := by decide +kernel
theorem dJ5_inflateIfNeededFor_a7421_10 : decode cJ5_inflateIfNeededFor_a7421 10 = .ok (.aload_n 1, 1) := by decide +kernel
theorem dJ5_inflateIfNeededFor_a7421_11 : decode cJ5_inflateIfNeededFor_a7421 11 = .ok (.invokevirtual 40, 3) := by decide +kernel
theorem dJ5_inflateIfNeededFor_a7421_14 : decode cJ5_inflateIfNeededFor_a7421 14 = .ok (.if_icmp .eq 7, 3) := by decide +kernel
theorem dJ5_inflateIfNeededFor_a7421_17 : decode cJ5_inflateIfNeededFor_a7421 17 = .ok (.aload_n 0, 1) := by decide +kernel
theorem dJ5_inflateIfNeededFor_a7421_18 : decode cJ5_inflateIfNeededFor_a7421 18 = .ok (.invokevirtual 195, 3) := by decide +kernel
theorem dJ5_inflateIfNeededFor_a7421_21 : decode cJ5_inflateIfNeededFor_a7421 21 = .ok (.return_, 1) := by decide +kernel
theorem dJ5_putStringAt_47b60_0 : decode cJ5_putStringAt_47b60 0 = .ok (.aload_n 0, 1) := by decide +kernel
theorem dJ5_putStringAt_47b60_1 : decode cJ5_putStringAt_47b60 1 = .ok (.aload_n 2, 1) := by decide +kernel
theorem dJ5_putStringAt_47b60_2 : decode cJ5_putStringAt_47b60 2 = .ok (.invokevirtual 397, 3) := by decide +kernel
theorem dJ5_putStringAt_47b60_5 : decode cJ5_putStringAt_47b60 5 = .ok (.aload_n 2, 1) := by decide +kernel
theorem dJ5_putStringAt_47b60_6 : decode cJ5_putStringAt_47b60 6 = .ok (.aload_n 0, 1) := by decide +kernel
theorem dJ5_putStringAt_47b60_7 : decode cJ5_putStringAt_47b60 7 = .ok (.getfield 15, 3) := by decide +kernel
theorem dJ5_putStringAt_47b60_10 : decode cJ5_putStringAt_47b60 10 = .ok (.iload_n 1, 1) := by decide +kernel
theorem dJ5_putStringAt_47b60_11 : decode cJ5_putStringAt_47b60 11 = .ok (.aload_n 0, 1) := by decide +kernel
theorem dJ5_putStringAt_47b60_12 : decode cJ5_putStringAt_47b60 12 = .ok (.getfield 22, 3) := by decide +kernel
theorem dJ5_putStringAt_47b60_15 : decode cJ5_putStringAt_47b60 15 = .ok (.invokevirtual 399, 3) := by decide +kernel
theorem dJ5_putStringAt_47b60_18 : decode cJ5_putStringAt_47b60 18 = .ok (.return_, 1) := by decide +kernel
theorem dJx29ce0_ordinal_8abf5_0 : decode cJx29ce0_ordinal_8abf5 0 = .ok (.aload_n 0, 1) := by decide +kernel
theorem dJx29ce0_ordinal_8abf5_1 : decode cJx29ce0_ordinal_8abf5 1 = .ok (.getfield 7, 3) := by decide +kernel
theorem dJx29ce0_ordinal_8abf5_4 : decode cJx29ce0_ordinal_8abf5 4 = .ok (.ireturn, 1) := by decide +kernel
theorem dJ6_getChars_ba4f3_0 : decode cJ6_getChars_ba4f3 0 = .ok (.iload_n 1, 1) := by decide +kernel
theorem dJ6_getChars_ba4f3_1 : decode cJ6_getChars_ba4f3 1 = .ok (.istore 5, 2) := by decide +kernel
theorem dJ6_getChars_ba4f3_3 : decode cJ6_getChars_ba4f3 3 = .ok (.iload_n 0, 1) := by decide +kernel
theorem dJ6_getChars_ba4f3_4 : decode cJ6_getChars_ba4f3 4 = .ok (.ifCond .ge 7, 3) := by decide +kernel
theorem dJ6_getChars_ba4f3_7 : decode cJ6_getChars_ba4f3 7 = .ok (.iconst 1, 1) := by decide +kernel
theorem dJ6_getChars_ba4f3_8 : decode cJ6_getChars_ba4f3 8 = .ok (.goto 4, 3) := by decide +kernel
theorem dJ6_getChars_ba4f3_11 : decode cJ6_getChars_ba4f3 11 = .ok (.iconst 0, 1) := by decide +kernel
theorem dJ6_getChars_ba4f3_12 : decode cJ6_getChars_ba4f3 12 = .ok (.istore 6, 2) := by decide +kernel
theorem dJ6_getChars_ba4f3_14 : decode cJ6_getChars_ba4f3 14 = .ok (.iload 6, 2) := by decide +kernel
theorem dJ6_getChars_ba4f3_16 : decode cJ6_getChars_ba4f3 16 = .ok (.ifCond .ne 6, 3) := by decide +kernel
theorem dJ6_getChars_ba4f3_19 : decode cJ6_getChars_ba4f3 19 = .ok (.iload_n 0, 1) := by decide +kernel
theorem dJ6_getChars_ba4f3_20 : decode cJ6_getChars_ba4f3 20 = .ok (.ineg, 1) := by decide +kernel
theorem dJ6_getChars_ba4f3_21 : decode cJ6_getChars_ba4f3 21 = .ok (.istore_n 0, 1) := by decide +kernel
theorem dJ6_getChars_ba4f3_22 : decode cJ6_getChars_ba4f3 22 = .ok (.iload_n 0, 1) := by decide +kernel
theorem dJ6_getChars_ba4f3_23 : decode cJ6_getChars_ba4f3 23 = .ok (.bipush (-100), 2) := by decide +kernel
theorem dJ6_getChars_ba4f3_25 : decode cJ6_getChars_ba4f3 25 = .ok (.if_icmp .gt 47, 3) := by decide +kernel
theorem dJ6_getChars_ba4f3_28 : decode cJ6_getChars_ba4f3 28 = .ok (.iload_n 0, 1) := by decide +kernel
theorem dJ6_getChars_ba4f3_29 : decode cJ6_getChars_ba4f3 29 = .ok (.bipush 100, 2) := by decide +kernel
theorem dJ6_getChars_ba4f3_31 : decode cJ6_getChars_ba4f3 31 = .ok (.idiv, 1) := by decide +kernel
theorem dJ6_getChars_ba4f3_32 : decode cJ6_getChars_ba4f3 32 = .ok (.istore_n 3, 1) := by decide +kernel
theorem dJ6_getChars_ba4f3_33 : decode cJ6_getChars_ba4f3 33 = .ok (.iload_n 3, 1) := by decide +kernel
theorem dJ6_getChars_ba4f3_34 : decode cJ6_getChars_ba4f3 34 = .ok (.bipush 100, 2) := by decide +kernel
theorem dJ6_getChars_ba4f3_36 : decode cJ6_getChars_ba4f3 36 = .ok (.imul, 1) := by decide +kernel
theorem dJ6_getChars_ba4f3_37 : decode cJ6_getChars_ba4f3 37 = .ok (.iload_n 0, 1) := by decide +kernel
theorem dJ6_getChars_ba4f3_38 : decode cJ6_getChars_ba4f3 38 = .ok (.isub, 1) := by decide +kernel
theorem dJ6_getChars_ba4f3_39 : decode cJ6_getChars_ba4f3 39 = .ok (.istore 4, 2) := by decide +kernel
theorem dJ6_getChars_ba4f3_41 : decode cJ6_getChars_ba4f3 41 = .ok (.iload_n 3, 1) := by decide +kernel
theorem dJ6_getChars_ba4f3_42 : decode cJ6_getChars_ba4f3 42 = .ok (.istore_n 0, 1) := by decide +kernel
theorem dJ6_getChars_ba4f3_43 : decode cJ6_getChars_ba4f3 43 = .ok (.aload_n 2, 1) := by decide +kernel
theorem dJ6_getChars_ba4f3_44 : decode cJ6_getChars_ba4f3 44 = .ok (.iinc 5 (-1), 3) := by decide +kernel
theorem dJ6_getChars_ba4f3_47 : decode cJ6_getChars_ba4f3 47 = .ok (.iload 5, 2) := by decide +kernel
theorem dJ6_getChars_ba4f3_49 : decode cJ6_getChars_ba4f3 49 = .ok (.getstatic 83, 3) := by decide +kernel
theorem dJ6_getChars_ba4f3_52 : decode cJ6_getChars_ba4f3 52 = .ok (.iload 4, 2) := by decide +kernel
theorem dJ6_getChars_ba4f3_54 : decode cJ6_getChars_ba4f3 54 = .ok (.baload, 1) := by decide +kernel
theorem dJ6_getChars_ba4f3_55 : decode cJ6_getChars_ba4f3 55 = .ok (.bastore, 1) := by decide +kernel
theorem dJ6_getChars_ba4f3_56 : decode cJ6_getChars_ba4f3 56 = .ok (.aload_n 2, 1) := by decide +kernel
theorem dJ6_getChars_ba4f3_57 : decode cJ6_getChars_ba4f3 57 = .ok (.iinc 5 (-1), 3) := by decide +kernel
theorem dJ6_getChars_ba4f3_60 : decode cJ6_getChars_ba4f3 60 = .ok (.iload 5, 2) := by decide +kernel
theorem dJ6_getChars_ba4f3_62 : decode cJ6_getChars_ba4f3 62 = .ok (.getstatic 87, 3) := by decide +kernel
theorem dJ6_getChars_ba4f3_65 : decode cJ6_getChars_ba4f3 65 = .ok (.iload 4, 2) := by decide +kernel
theorem dJ6_getChars_ba4f3_67 : decode cJ6_getChars_ba4f3 67 = .ok (.baload, 1) := by decide +kernel
theorem dJ6_getChars_ba4f3_68 : decode cJ6_getChars_ba4f3 68 = .ok (.bastore, 1) := by decide +kernel
theorem dJ6_getChars_ba4f3_69 : decode cJ6_getChars_ba4f3 69 = .ok (.goto (-47), 3) := by decide +kernel
theorem dJ6_getChars_ba4f3_72 : decode cJ6_getChars_ba4f3 72 = .ok (.aload_n 2, 1) := by decide +kernel
theorem dJ6_getChars_ba4f3_73 : decode cJ6_getChars_ba4f3 73 = .ok (.iinc 5 (-1), 3) := by decide +kernel
theorem dJ6_getChars_ba4f3_76 : decode cJ6_getChars_ba4f3 76 = .ok (.iload 5, 2) := by decide +kernel
theorem dJ6_getChars_ba4f3_78 : decode cJ6_getChars_ba4f3 78 = .ok (.getstatic 83, 3) := by decide +kernel
theorem dJ6_getChars_ba4f3_81 : decode cJ6_getChars_ba4f3 81 = .ok (.iload_n 0, 1) := by decide +kernel
theorem dJ6_getChars_ba4f3_82 : decode cJ6_getChars_ba4f3 82 = .ok (.ineg, 1) := by decide +kernel
theorem dJ6_getChars_ba4f3_83 : decode cJ6_getChars_ba4f3 83 = .ok (.baload, 1) := by decide +kernel
theorem dJ6_getChars_ba4f3_84 : decode cJ6_getChars_ba4f3 84 = .ok (.bastore, 1) := by decide +kernel
theorem dJ6_getChars_ba4f3_85 : decode cJ6_getChars_ba4f3 85 = .ok (.iload_n 0, 1) := by decide +kernel
theorem dJ6_getChars_ba4f3_86 : decode cJ6_getChars_ba4f3 86 = .ok (.bipush (-9), 2) := by decide +kernel
theorem dJ6_getChars_ba4f3_88 : decode cJ6_getChars_ba4f3 88 = .ok (.if_icmp .ge 16, 3) := by decide +kernel
theorem dJ6_getChars_ba4f3_91 : decode cJ6_getChars_ba4f3 91 = .ok (.aload_n 2, 1) := by decide +kernel
theorem dJ6_getChars_ba4f3_92 : decode cJ6_getChars_ba4f3 92 = .ok (.iinc 5 (-1), 3) := by decide +kernel
theorem dJ6_getChars_ba4f3_95 : decode cJ6_getChars_ba4f3 95 = .ok (.iload 5, 2) := by decide +kernel
theorem dJ6_getChars_ba4f3_97 : decode cJ6_getChars_ba4f3 97 = .ok (.getstatic 87, 3) := by decide +kernel
theorem dJ6_getChars_ba4f3_100 : decode cJ6_getChars_ba4f3 100 = .ok (.iload_n 0, 1) := by decide +kernel
theorem dJ6_getChars_ba4f3_101 : decode cJ6_getChars_ba4f3 101 = .ok (.ineg, 1) := by decide +kernel
theorem dJ6_getChars_ba4f3_102 : decode cJ6_getChars_ba4f3 102 = .ok (.baload, 1) := by decide +kernel
theorem dJ6_getChars_ba4f3_103 : decode cJ6_getChars_ba4f3 103 = .ok (.bastore, 1) := by decide +kernel
theorem dJ6_getChars_ba4f3_104 : decode cJ6_getChars_ba4f3 104 = .ok (.iload 6, 2) := by decide +kernel
theorem dJ6_getChars_ba4f3_106 : decode cJ6_getChars_ba4f3 106 = .ok (.ifCond .eq 12, 3) := by decide +kernel
theorem dJ6_getChars_ba4f3_109 : decode cJ6_getChars_ba4f3 109 = .ok (.aload_n 2, 1) := by decide +kernel
theorem dJ6_getChars_ba4f3_110 : decode cJ6_getChars_ba4f3 110 = .ok (.iinc 5 (-1), 3) := by decide +kernel
theorem dJ6_getChars_ba4f3_113 : decode cJ6_getChars_ba4f3 113 = .ok (.iload 5, 2) := by decide +kernel
theorem dJ6_getChars_ba4f3_115 : decode cJ6_getChars_ba4f3 115 = .ok (.bipush 45, 2) := by decide +kernel
theorem dJ6_getChars_ba4f3_117 : decode cJ6_getChars_ba4f3 117 = .ok (.bastore, 1) := by decide +kernel
theorem dJ6_getChars_ba4f3_118 : decode cJ6_getChars_ba4f3 118 = .ok (.iload 5, 2) := by decide +kernel
theorem dJ6_getChars_ba4f3_120 : decode cJ6_getChars_ba4f3 120 = .ok (.ireturn, 1) := by decide +kernel
theorem dJ6_stringSize_0f7a4_0 : decode cJ6_stringSize_0f7a4 0 = .ok (.iconst 1, 1) := by decide +kernel
theorem dJ6_stringSize_0f7a4_1 : decode cJ6_stringSize_0f7a4 1 = .ok (.istore_n 1, 1) := by decide +kernel
theorem dJ6_stringSize_0f7a4_2 : decode cJ6_stringSize_0f7a4 2 = .ok (.iload_n 0, 1) := by decide +kernel
theorem dJ6_stringSize_0f7a4_3 : decode cJ6_stringSize_0f7a4 3 = .ok (.ifCond .lt 8, 3) := by decide +kernel
theorem dJ6_stringSize_0f7a4_6 : decode cJ6_stringSize_0f7a4 6 = .ok (.iconst 0, 1) := by decide +kernel
theorem dJ6_stringSize_0f7a4_7 : decode cJ6_stringSize_0f7a4 7 = .ok (.istore_n 1, 1) := by decide +kernel
theorem dJ6_stringSize_0f7a4_8 : decode cJ6_stringSize_0f7a4 8 = .ok (.iload_n 0, 1) := by decide +kernel
theorem dJ6_stringSize_0f7a4_9 : decode cJ6_stringSize_0f7a4 9 = .ok (.ineg, 1) := by decide +kernel
theorem dJ6_stringSize_0f7a4_10 : decode cJ6_stringSize_0f7a4 10 = .ok (.istore_n 0, 1) := by decide +kernel
theorem dJ6_stringSize_0f7a4_11 : decode cJ6_stringSize_0f7a4 11 = .ok (.bipush (-10), 2) := by decide +kernel
theorem dJ6_stringSize_0f7a4_13 : decode cJ6_stringSize_0f7a4 13 = .ok (.istore_n 2, 1) := by decide +kernel
theorem dJ6_stringSize_0f7a4_14 : decode cJ6_stringSize_0f7a4 14 = .ok (.iconst 1, 1) := by decide +kernel
theorem dJ6_stringSize_0f7a4_15 : decode cJ6_stringSize_0f7a4 15 = .ok (.istore_n 3, 1) := by decide +kernel
theorem dJ6_stringSize_0f7a4_16 : decode cJ6_stringSize_0f7a4 16 = .ok (.iload_n 3, 1) := by decide +kernel
theorem dJ6_stringSize_0f7a4_17 : decode cJ6_stringSize_0f7a4 17 = .ok (.bipush 10, 2) := by decide +kernel
theorem dJ6_stringSize_0f7a4_19 : decode cJ6_stringSize_0f7a4 19 = .ok (.if_icmp .ge 23, 3) := by decide +kernel
theorem dJ6_stringSize_0f7a4_22 : decode cJ6_stringSize_0f7a4 22 = .ok (.iload_n 0, 1) := by decide +kernel
theorem dJ6_stringSize_0f7a4_23 : decode cJ6_stringSize_0f7a4 23 = .ok (.iload_n 2, 1) := by decide +kernel
theorem dJ6_stringSize_0f7a4_24 : decode cJ6_stringSize_0f7a4 24 = .ok (.if_icmp .le 7, 3) := by decide +kernel
theorem dJ6_stringSize_0f7a4_27 : decode cJ6_stringSize_0f7a4 27 = .ok (.iload_n 3, 1) := by decide +kernel
theorem dJ6_stringSize_0f7a4_28 : decode cJ6_stringSize_0f7a4 28 = .ok (.iload_n 1, 1) := by decide +kernel
theorem dJ6_stringSize_0f7a4_29 : decode cJ6_stringSize_0f7a4 29 = .ok (.iadd, 1) := by decide +kernel
theorem dJ6_stringSize_0f7a4_30 : decode cJ6_stringSize_0f7a4 30 = .ok (.ireturn, 1) := by decide +kernel
theorem dJ6_stringSize_0f7a4_31 : decode cJ6_stringSize_0f7a4 31 = .ok (.bipush 10, 2) := by decide +kernel
theorem dJ6_stringSize_0f7a4_33 : decode cJ6_stringSize_0f7a4 33 = .ok (.iload_n 2, 1) := by decide +kernel
theorem dJ6_stringSize_0f7a4_34 : decode cJ6_stringSize_0f7a4 34 = .ok (.imul, 1) := by decide +kernel
theorem dJ6_stringSize_0f7a4_35 : decode cJ6_stringSize_0f7a4 35 = .ok (.istore_n 2, 1) := by decide +kernel
theorem dJ6_stringSize_0f7a4_36 : decode cJ6_stringSize_0f7a4 36 = .ok (.iinc 3 1, 3) := by decide +kernel
theorem dJ6_stringSize_0f7a4_39 : decode cJ6_stringSize_0f7a4 39 = .ok (.goto (-23), 3) := by decide +kernel
theorem dJ6_stringSize_0f7a4_42 : decode cJ6_stringSize_0f7a4 42 = .ok (.bipush 10, 2) := by decide +kernel
theorem dJ6_stringSize_0f7a4_44 : decode cJ6_stringSize_0f7a4 44 = .ok (.iload_n 1, 1) := by decide +kernel
theorem dJ6_stringSize_0f7a4_45 : decode cJ6_stringSize_0f7a4 45 = .ok (.iadd, 1) := by decide +kernel
theorem dJ6_stringSize_0f7a4_46 : decode cJ6_stringSize_0f7a4 46 = .ok (.ireturn, 1) := by decide +kernel
theorem dJ9_abs_0f7a4_0 : decode cJ9_abs_0f7a4 0 = .ok (.iload_n 0, 1) := by decide +kernel
theorem dJ9_abs_0f7a4_1 : decode cJ9_abs_0f7a4 1 = .ok (.ifCond .ge 8, 3) := by decide +kernel
theorem dJ9_abs_0f7a4_4 : decode cJ9_abs_0f7a4 4 = .ok (.iload_n 0, 1) := by decide +kernel
theorem dJ9_abs_0f7a4_5 : decode cJ9_abs_0f7a4 5 = .ok (.ineg, 1) := by decide +kernel
theorem dJ9_abs_0f7a4_6 : decode cJ9_abs_0f7a4 6 = .ok (.goto 4, 3) := by decide +kernel
theorem dJ9_abs_0f7a4_9 : decode cJ9_abs_0f7a4 9 = .ok (.iload_n 0, 1) := by decide +kernel
theorem dJ9_abs_0f7a4_10 : decode cJ9_abs_0f7a4 10 = .ok (.ireturn, 1) := by decide +kernel
theorem dJ9_max_7cf53_0 : decode cJ9_max_7cf53 0 = .ok (.iload_n 0, 1) := by decide +kernel
theorem dJ9_max_7cf53_1 : decode cJ9_max_7cf53 1 = .ok (.iload_n 1, 1) := by decide +kernel
theorem dJ9_max_7cf53_2 : decode cJ9_max_7cf53 2 = .ok (.if_icmp .lt 7, 3) := by decide +kernel
theorem dJ9_max_7cf53_5 : decode cJ9_max_7cf53 5 = .ok (.iload_n 0, 1) := by decide +kernel
theorem dJ9_max_7cf53_6 : decode cJ9_max_7cf53 6 = .ok (.goto 4, 3) := by decide +kernel
theorem dJ9_max_7cf53_9 : decode cJ9_max_7cf53 9 = .ok (.iload_n 1, 1) := by decide +kernel
theorem dJ9_max_7cf53_10 : decode cJ9_max_7cf53 10 = .ok (.ireturn, 1) := by decide +kernel
theorem dJ9_min_7cf53_0 : decode cJ9_min_7cf53 0 = .ok (.iload_n 0, 1) := by decide +kernel
theorem dJ9_min_7cf53_1 : decode cJ9_min_7cf53 1 = .ok (.iload_n 1, 1) := by decide +kernel
theorem dJ9_min_7cf53_2 : decode cJ9_min_7cf53 2 = .ok (.if_icmp .gt 7, 3) := by decide +kernel
theorem dJ9_min_7cf53_5 : decode cJ9_min_7cf53 5 = .ok (.iload_n 0, 1) := by decide +kernel
theorem dJ9_min_7cf53_6 : decode cJ9_min_7cf53 6 = .ok (.goto 4, 3) := by decide +kernel
theorem dJ9_min_7cf53_9 : decode cJ9_min_7cf53 9 = .ok (.iload_n 1, 1) := by decide +kernel
theorem dJ9_min_7cf53_10 : decode cJ9_min_7cf53 10 = .ok (.ireturn, 1) := by decide +kernel
theorem dJ0_length_8abf5_0 : decode cJ0_length_8abf5 0 = .ok (.aload_n 0, 1) := by decide +kernel
theorem dJ0_length_8abf5_1 : decode cJ0_length_8abf5 1 = .ok (.getfield 9, 3) := by decide +kernel
theorem dJ0_length_8abf5_4 : decode cJ0_length_8abf5 4 = .ok (.arraylength, 1) := by decide +kernel
theorem dJ0_length_8abf5_5 : decode cJ0_length_8abf5 5 = .ok (.aload_n 0, 1) := by decide +kernel
theorem dJ0_length_8abf5_6 : decode cJ0_length_8abf5 6 = .ok (.invokevirtual 335, 3) := by decide +kernel
theorem dJ0_length_8abf5_9 : decode cJ0_length_8abf5 9 = .ok (.ishr, 1) := by decide +kernel
theorem dJ0_length_8abf5_10 : decode cJ0_length_8abf5 10 = .ok (.ireturn, 1) := by decide +kernel
theorem dJ0_charAt_5068e_0 : decode cJ0_charAt_5068e 0 = .ok (.aload_n 0, 1) := by decide +kernel
theorem dJ0_charAt_5068e_1 : decode cJ0_charAt_5068e 1 = .ok (.invokevirtual 492, 3) := by decide +kernel
theorem dJ0_charAt_5068e_4 : decode cJ0_charAt_5068e 4 = .ok (.ifCond .eq 12, 3) := by decide +kernel
theorem dJ0_charAt_5068e_7 : decode cJ0_charAt_5068e 7 = .ok (.aload_n 0, 1) := by decide +kernel
theorem dJ0_charAt_5068e_8 : decode cJ0_charAt_5068e 8 = .ok (.getfield 9, 3) := by decide +kernel
theorem dJ0_charAt_5068e_11 : decode cJ0_charAt_5068e 11 = .ok (.iload_n 1, 1) := by decide +kernel
theorem dJ0_charAt_5068e_12 : decode cJ0_charAt_5068e 12 = .ok (.invokestatic 495, 3) := by decide +kernel
theorem dJ0_charAt_5068e_15 : decode cJ0_charAt_5068e 15 = .ok (.ireturn, 1) := by decide +kernel
theorem dJ0_charAt_5068e_16 : decode cJ0_charAt_5068e 16 = .ok (.aload_n 0, 1) := by decide +kernel
theorem dJ0_charAt_5068e_17 : decode cJ0_charAt_5068e 17 = .ok (.getfield 9, 3) := by decide +kernel
theorem dJ0_charAt_5068e_20 : decode cJ0_charAt_5068e 20 = .ok (.iload_n 1, 1) := by decide +kernel
theorem dJ0_charAt_5068e_21 : decode cJ0_charAt_5068e 21 = .ok (.invokestatic 498, 3) := by decide +kernel
theorem dJ0_charAt_5068e_24 : decode cJ0_charAt_5068e 24 = .ok (.ireturn, 1) := by decide +kernel
theorem dJ0_getBytes_840e7_0 : decode cJ0_getBytes_840e7 0 = .ok (.aload_n 0, 1) := by decide +kernel
theorem dJ0_getBytes_840e7_1 : decode cJ0_getBytes_840e7 1 = .ok (.invokevirtual 335, 3) := by decide +kernel
theorem dJ0_getBytes_840e7_4 : decode cJ0_getBytes_840e7 4 = .ok (.iload_n 3, 1) := by decide +kernel
theorem dJ0_getBytes_840e7_5 : decode cJ0_getBytes_840e7 5 = .ok (.if_icmp .ne 23, 3) := by decide +kernel
theorem dJ0_getBytes_840e7_8 : decode cJ0_getBytes_840e7 8 = .ok (.aload_n 0, 1) := by decide +kernel
theorem dJ0_getBytes_840e7_9 : decode cJ0_getBytes_840e7 9 = .ok (.getfield 9, 3) := by decide +kernel
theorem dJ0_getBytes_840e7_12 : decode cJ0_getBytes_840e7 12 = .ok (.iconst 0, 1) := by decide +kernel
theorem dJ0_getBytes_840e7_13 : decode cJ0_getBytes_840e7 13 = .ok (.aload_n 1, 1) := by decide +kernel
theorem dJ0_getBytes_840e7_14 : decode cJ0_getBytes_840e7 14 = .ok (.iload_n 2, 1) := by decide +kernel
theorem dJ0_getBytes_840e7_15 : decode cJ0_getBytes_840e7 15 = .ok (.iload_n 3, 1) := by decide +kernel
theorem dJ0_getBytes_840e7_16 : decode cJ0_getBytes_840e7 16 = .ok (.ishl, 1) := by decide +kernel
theorem dJ0_getBytes_840e7_17 : decode cJ0_getBytes_840e7 17 = .ok (.aload_n 0, 1) := by decide +kernel
theorem dJ0_getBytes_840e7_18 : decode cJ0_getBytes_840e7 18 = .ok (.getfield 9, 3) := by decide +kernel
theorem dJ0_getBytes_840e7_21 : decode cJ0_getBytes_840e7 21 = .ok (.arraylength, 1) := by decide +kernel
theorem dJ0_getBytes_840e7_22 : decode cJ0_getBytes_840e7 22 = .ok (.invokestatic 212, 3) := by decide +kernel
theorem dJ0_getBytes_840e7_25 : decode cJ0_getBytes_840e7 25 = .ok (.goto 18, 3) := by decide +kernel
theorem dJ0_getBytes_840e7_28 : decode cJ0_getBytes_840e7 28 = .ok (.aload_n 0, 1) := by decide +kernel
theorem dJ0_getBytes_840e7_29 : decode cJ0_getBytes_840e7 29 = .ok (.getfield 9, 3) := by decide +kernel
theorem dJ0_getBytes_840e7_32 : decode cJ0_getBytes_840e7 32 = .ok (.iconst 0, 1) := by decide +kernel
theorem dJ0_getBytes_840e7_33 : decode cJ0_getBytes_840e7 33 = .ok (.aload_n 1, 1) := by decide +kernel
theorem dJ0_getBytes_840e7_34 : decode cJ0_getBytes_840e7 34 = .ok (.iload_n 2, 1) := by decide +kernel
theorem dJ0_getBytes_840e7_35 : decode cJ0_getBytes_840e7 35 = .ok (.aload_n 0, 1) := by decide +kernel
theorem dJ0_getBytes_840e7_36 : decode cJ0_getBytes_840e7 36 = .ok (.getfield 9, 3) := by decide +kernel
theorem dJ0_getBytes_840e7_39 : decode cJ0_getBytes_840e7 39 = .ok (.arraylength, 1) := by decide +kernel
theorem dJ0_getBytes_840e7_40 : decode cJ0_getBytes_840e7 40 = .ok (.invokestatic 106, 3) := by decide +kernel
theorem dJ0_getBytes_840e7_43 : decode cJ0_getBytes_840e7 43 = .ok (.return_, 1) := by decide +kernel
theorem dJ0_coder_7d493_0 : decode cJ0_coder_7d493 0 = .ok (.getstatic 38, 3) := by decide +kernel
theorem dJ0_coder_7d493_3 : decode cJ0_coder_7d493 3 = .ok (.ifCond .eq 10, 3) := by decide +kernel
theorem dJ0_coder_7d493_6 : decode cJ0_coder_7d493 6 = .ok (.aload_n 0, 1) := by decide +kernel
theorem dJ0_coder_7d493_7 : decode cJ0_coder_7d493 7 = .ok (.getfield 15, 3) := by decide +kernel
theorem dJ0_coder_7d493_10 : decode cJ0_coder_7d493 10 = .ok (.goto 4, 3) := by decide +kernel
theorem dJ0_coder_7d493_13 : decode cJ0_coder_7d493 13 = .ok (.iconst 1, 1) := by decide +kernel
theorem dJ0_coder_7d493_14 : decode cJ0_coder_7d493 14 = .ok (.ireturn, 1) := by decide +kernel
theorem dJ0_isLatin1_aae02_0 : decode cJ0_isLatin1_aae02 0 = .ok (.getstatic 38, 3) := by decide +kernel
theorem dJ0_isLatin1_aae02_3 : decode cJ0_isLatin1_aae02 3 = .ok (.ifCond .eq 14, 3) := by decide +kernel
theorem dJ0_isLatin1_aae02_6 : decode cJ0_isLatin1_aae02 6 = .ok (.aload_n 0, 1) := by decide +kernel
theorem dJ0_isLatin1_aae02_7 : decode cJ0_isLatin1_aae02 7 = .ok (.getfield 15, 3) := by decide +kernel
theorem dJ0_isLatin1_aae02_10 : decode cJ0_isLatin1_aae02 10 = .ok (.ifCond .ne 7, 3) := by decide +kernel
theorem dJ0_isLatin1_aae02_13 : decode cJ0_isLatin1_aae02 13 = .ok (.iconst 1, 1) := by decide +kernel
theorem dJ0_isLatin1_aae02_14 : decode cJ0_isLatin1_aae02 14 = .ok (.goto 4, 3) := by decide +kernel
theorem dJ0_isLatin1_aae02_17 : decode cJ0_isLatin1_aae02 17 = .ok (.iconst 0, 1) := by decide +kernel
theorem dJ0_isLatin1_aae02_18 : decode cJ0_isLatin1_aae02 18 = .ok (.ireturn, 1) := by decide +kernel
theorem dJ0_checkIndex_df160_0 : decode cJ0_checkIndex_df160 0 = .ok (.iload_n 0, 1) := by decide +kernel
theorem dJ0_checkIndex_df160_1 : decode cJ0_checkIndex_df160 1 = .ok (.iload_n 1, 1) := by decide +kernel
theorem dJ0_checkIndex_df160_2 : decode cJ0_checkIndex_df160 2 = .ok (.getstatic 1053, 3) := by decide +kernel
theorem dJ0_checkIndex_df160_5 : decode cJ0_checkIndex_df160 5 = .ok (.invokestatic 1059, 3) := by decide +kernel
theorem dJ0_checkIndex_df160_8 : decode cJ0_checkIndex_df160 8 = .ok (.pop, 1) := by decide +kernel
theorem dJ0_checkIndex_df160_9 : decode cJ0_checkIndex_df160 9 = .ok (.return_, 1) := by decide +kernel
theorem dJ0_checkBoundsOffCount_cabcc_0 : decode cJ0_checkBoundsOffCount_cabcc 0 = .ok (.iload_n 0, 1) := by decide +kernel
theorem dJ0_checkBoundsOffCount_cabcc_1 : decode cJ0_checkBoundsOffCount_cabcc 1 = .ok (.iload_n 1, 1) := by decide +kernel
theorem dJ0_checkBoundsOffCount_cabcc_2 : decode cJ0_checkBoundsOffCount_cabcc 2 = .ok (.iload_n 2, 1) := by decide +kernel
theorem dJ0_checkBoundsOffCount_cabcc_3 : decode cJ0_checkBoundsOffCount_cabcc 3 = .ok (.getstatic 1053, 3) := by decide +kernel
theorem dJ0_checkBoundsOffCount_cabcc_6 : decode cJ0_checkBoundsOffCount_cabcc 6 = .ok (.invokestatic 1065, 3) := by decide +kernel
theorem dJ0_checkBoundsOffCount_cabcc_9 : decode cJ0_checkBoundsOffCount_cabcc 9 = .ok (.ireturn, 1) := by decide +kernel
theorem dJ0_checkBoundsBeginEnd_23922_0 : decode cJ0_checkBoundsBeginEnd_23922 0 = .ok (.iload_n 0, 1) := by decide +kernel
theorem dJ0_checkBoundsBeginEnd_23922_1 : decode cJ0_checkBoundsBeginEnd_23922 1 = .ok (.iload_n 1, 1) := by decide +kernel
theorem dJ0_checkBoundsBeginEnd_23922_2 : decode cJ0_checkBoundsBeginEnd_23922 2 = .ok (.iload_n 2, 1) := by decide +kernel
theorem dJ0_checkBoundsBeginEnd_23922_3 : decode cJ0_checkBoundsBeginEnd_23922 3 = .ok (.getstatic 1053, 3) := by decide +kernel
theorem dJ0_checkBoundsBeginEnd_23922_6 : decode cJ0_checkBoundsBeginEnd_23922 6 = .ok (.invokestatic 1062, 3) := by decide +kernel
theorem dJ0_checkBoundsBeginEnd_23922_9 : decode cJ0_checkBoundsBeginEnd_23922 9 = .ok (.pop, 1) := by decide +kernel
theorem dJ0_checkBoundsBeginEnd_23922_10 : decode cJ0_checkBoundsBeginEnd_23922 10 = .ok (.return_, 1) := by decide +kernel
theorem dJ4_init_a7421_0 : decode cJ4_init_a7421 0 = .ok (.aload_n 0, 1) := by decide +kernel
theorem dJ4_init_a7421_1 : decode cJ4_init_a7421 1 = .ok (.aload_n 1, 1) := by decide +kernel
theorem dJ4_init_a7421_2 : decode cJ4_init_a7421 2 = .ok (.invokespecial 7, 3) := by decide +kernel
theorem dJ4_init_a7421_5 : decode cJ4_init_a7421 5 = .ok (.return_, 1) := by decide +kernel
theorem dJ4_append_15ec4_0 : decode cJ4_append_15ec4 0 = .ok (.aload_n 0, 1) := by decide +kernel
theorem dJ4_append_15ec4_1 : decode cJ4_append_15ec4 1 = .ok (.aload_n 1, 1) := by decide +kernel
theorem dJ4_append_15ec4_2 : decode cJ4_append_15ec4 2 = .ok (.invokespecial 29, 3) := by decide +kernel
theorem dJ4_append_15ec4_5 : decode cJ4_append_15ec4 5 = .ok (.pop, 1) := by decide +kernel
theorem dJ4_append_15ec4_6 : decode cJ4_append_15ec4 6 = .ok (.aload_n 0, 1) := by decide +kernel
theorem dJ4_append_15ec4_7 : decode cJ4_append_15ec4 7 = .ok (.areturn, 1) := by decide +kernel
theorem dJ4_append_cf468_0 : decode cJ4_append_cf468 0 = .ok (.aload_n 0, 1) := by decide +kernel
theorem dJ4_append_cf468_1 : decode cJ4_append_cf468 1 = .ok (.iload_n 1, 1) := by decide +kernel
theorem dJ4_append_cf468_2 : decode cJ4_append_cf468 2 = .ok (.invokespecial 50, 3) := by decide +kernel
theorem dJ4_append_cf468_5 : decode cJ4_append_cf468 5 = .ok (.pop, 1) := by decide +kernel
theorem dJ4_append_cf468_6 : decode cJ4_append_cf468 6 = .ok (.aload_n 0, 1) := by decide +kernel
theorem dJ4_append_cf468_7 : decode cJ4_append_cf468 7 = .ok (.areturn, 1) := by decide +kernel
theorem dJ4_append_bf812_0 : decode cJ4_append_bf812 0 = .ok (.aload_n 0, 1) := by decide +kernel
theorem dJ4_append_bf812_1 : decode cJ4_append_bf812 1 = .ok (.iload_n 1, 1) := by decide +kernel
theorem dJ4_append_bf812_2 : decode cJ4_append_bf812 2 = .ok (.invokespecial 53, 3) := by decide +kernel
theorem dJ4_append_bf812_5 : decode cJ4_append_bf812 5 = .ok (.pop, 1) := by decide +kernel
theorem dJ4_append_bf812_6 : decode cJ4_append_bf812 6 = .ok (.aload_n 0, 1) := by decide +kernel
theorem dJ4_append_bf812_7 : decode cJ4_append_bf812 7 = .ok (.areturn, 1) := by decide +kernel
theorem dJ4_append_cf1ce_0 : decode cJ4_append_cf1ce 0 = .ok (.aload_n 0, 1) := by decide +kernel
theorem dJ4_append_cf1ce_1 : decode cJ4_append_cf1ce 1 = .ok (.aload_n 1, 1) := by decide +kernel
theorem dJ4_append_cf1ce_2 : decode cJ4_append_cf1ce 2 = .ok (.invokevirtual 23, 3) := by decide +kernel
theorem dJ4_append_cf1ce_5 : decode cJ4_append_cf1ce 5 = .ok (.areturn, 1) := by decide +kernel
theorem dJ4_charAt_5068e_0 : decode cJ4_charAt_5068e 0 = .ok (.aload_n 0, 1) := by decide +kernel
theorem dJ4_charAt_5068e_1 : decode cJ4_charAt_5068e 1 = .ok (.iload_n 1, 1) := by decide +kernel
theorem dJ4_charAt_5068e_2 : decode cJ4_charAt_5068e 2 = .ok (.invokespecial 329, 3) := by decide +kernel
theorem dJ4_charAt_5068e_5 : decode cJ4_charAt_5068e 5 = .ok (.ireturn, 1) := by decide +kernel
theorem dJ4_length_8abf5_0 : decode cJ4_length_8abf5 0 = .ok (.aload_n 0, 1) := by decide +kernel
theorem dJ4_length_8abf5_1 : decode cJ4_length_8abf5 1 = .ok (.invokespecial 343, 3) := by decide +kernel
theorem dJ4_length_8abf5_4 : decode cJ4_length_8abf5 4 = .ok (.ireturn, 1) := by decide +kernel
theorem dJ1_charAt_3b067_0 : decode cJ1_charAt_3b067 0 = .ok (.iload_n 1, 1) := by decide +kernel
theorem dJ1_charAt_3b067_1 : decode cJ1_charAt_3b067 1 = .ok (.aload_n 0, 1) := by decide +kernel
theorem dJ1_charAt_3b067_2 : decode cJ1_charAt_3b067 2 = .ok (.arraylength, 1) := by decide +kernel
theorem dJ1_charAt_3b067_3 : decode cJ1_charAt_3b067 3 = .ok (.invokestatic 9, 3) := by decide +kernel
theorem dJ1_charAt_3b067_6 : decode cJ1_charAt_3b067 6 = .ok (.aload_n 0, 1) := by decide +kernel
theorem dJ1_charAt_3b067_7 : decode cJ1_charAt_3b067 7 = .ok (.iload_n 1, 1) := by decide +kernel
theorem dJ1_charAt_3b067_8 : decode cJ1_charAt_3b067 8 = .ok (.baload, 1) := by decide +kernel
theorem dJ1_charAt_3b067_9 : decode cJ1_charAt_3b067 9 = .ok (.sipush 255, 3) := by decide +kernel
theorem dJ1_charAt_3b067_12 : decode cJ1_charAt_3b067 12 = .ok (.iand, 1) := by decide +kernel
theorem dJ1_charAt_3b067_13 : decode cJ1_charAt_3b067 13 = .ok (.i2c, 1) := by decide +kernel
theorem dJ1_charAt_3b067_14 : decode cJ1_charAt_3b067 14 = .ok (.ireturn, 1) := by decide +kernel
theorem dJ1_canEncode_fc78d_0 : decode cJ1_canEncode_fc78d 0 = .ok (.iload_n 0, 1) := by decide +kernel
theorem dJ1_canEncode_fc78d_1 : decode cJ1_canEncode_fc78d 1 = .ok (.sipush 255, 3) := by decide +kernel
theorem dJ1_canEncode_fc78d_4 : decode cJ1_canEncode_fc78d 4 = .ok (.if_icmp .gt 7, 3) := by decide +kernel
theorem dJ1_canEncode_fc78d_7 : decode cJ1_canEncode_fc78d 7 = .ok (.iconst 1, 1) := by decide +kernel
theorem dJ1_canEncode_fc78d_8 : decode cJ1_canEncode_fc78d 8 = .ok (.goto 4, 3) := by decide +kernel
theorem dJ1_canEncode_fc78d_11 : decode cJ1_canEncode_fc78d 11 = .ok (.iconst 0, 1) := by decide +kernel
theorem dJ1_canEncode_fc78d_12 : decode cJ1_canEncode_fc78d 12 = .ok (.ireturn, 1) := by decide +kernel
theorem dJ1_inflate_0e8fd_0 : decode cJ1_inflate_0e8fd 0 = .ok (.aload_n 0, 1) := by decide +kernel
theorem dJ1_inflate_0e8fd_1 : decode cJ1_inflate_0e8fd 1 = .ok (.iload_n 1, 1) := by decide +kernel
theorem dJ1_inflate_0e8fd_2 : decode cJ1_inflate_0e8fd 2 = .ok (.aload_n 2, 1) := by decide +kernel
theorem dJ1_inflate_0e8fd_3 : decode cJ1_inflate_0e8fd 3 = .ok (.iload_n 3, 1) := by decide +kernel
theorem dJ1_inflate_0e8fd_4 : decode cJ1_inflate_0e8fd 4 = .ok (.iload 4, 2) := by decide +kernel
theorem dJ1_inflate_0e8fd_6 : decode cJ1_inflate_0e8fd 6 = .ok (.invokestatic 240, 3) := by decide +kernel
theorem dJ1_inflate_0e8fd_9 : decode cJ1_inflate_0e8fd 9 = .ok (.return_, 1) := by decide +kernel
theorem dJ2_newBytesFor_77867_0 : decode cJ2_newBytesFor_77867 0 = .ok (.iload_n 0, 1) := by decide +kernel
theorem dJ2_newBytesFor_77867_1 : decode cJ2_newBytesFor_77867 1 = .ok (.invokestatic 11, 3) := by decide +kernel
theorem dJ2_newBytesFor_77867_4 : decode cJ2_newBytesFor_77867 4 = .ok (.newarray .byte, 2) := by decide +kernel
theorem dJ2_newBytesFor_77867_6 : decode cJ2_newBytesFor_77867 6 = .ok (.areturn, 1) := by decide +kernel
theorem dJ2_newBytesLength_0f7a4_0 : decode cJ2_newBytesLength_0f7a4 0 = .ok (.iload_n 0, 1) := by decide +kernel
theorem dJ2_newBytesLength_0f7a4_1 : decode cJ2_newBytesLength_0f7a4 1 = .ok (.ifCond .ge 11, 3) := by decide +kernel
theorem dJ2_newBytesLength_0f7a4_4 : decode cJ2_newBytesLength_0f7a4 4 = .ok (.new 17, 3) := by decide +kernel
theorem dJ2_newBytesLength_0f7a4_7 : decode cJ2_newBytesLength_0f7a4 7 = .ok (.dup, 1) := by decide +kernel
theorem dJ2_newBytesLength_0f7a4_8 : decode cJ2_newBytesLength_0f7a4 8 = .ok (.invokespecial 19, 3) := by decide +kernel
theorem dJ2_newBytesLength_0f7a4_11 : decode cJ2_newBytesLength_0f7a4 11 = .ok (.athrow, 1) := by decide +kernel
theorem dJ2_newBytesLength_0f7a4_12 : decode cJ2_newBytesLength_0f7a4 12 = .ok (.iload_n 0, 1) := by decide +kernel
theorem dJ2_newBytesLength_0f7a4_13 : decode cJ2_newBytesLength_0f7a4 13 = .ok (.ldc 20, 2) := by decide +kernel
theorem dJ2_newBytesLength_0f7a4_15 : decode cJ2_newBytesLength_0f7a4 15 = .ok (.if_icmp .lt 40, 3) := by decide +kernel
theorem dJ2_newBytesLength_0f7a4_18 : decode cJ2_newBytesLength_0f7a4 18 = .ok (.new 21, 3) := by decide +kernel
theorem dJ2_newBytesLength_0f7a4_21 : decode cJ2_newBytesLength_0f7a4 21 = .ok (.dup, 1) := by decide +kernel
theorem dJ2_newBytesLength_0f7a4_22 : decode cJ2_newBytesLength_0f7a4 22 = .ok (.new 23, 3) := by decide +kernel
theorem dJ2_newBytesLength_0f7a4_25 : decode cJ2_newBytesLength_0f7a4 25 = .ok (.dup, 1) := by decide +kernel
theorem dJ2_newBytesLength_0f7a4_26 : decode cJ2_newBytesLength_0f7a4 26 = .ok (.invokespecial 25, 3) := by decide +kernel
theorem dJ2_newBytesLength_0f7a4_29 : decode cJ2_newBytesLength_0f7a4 29 = .ok (.ldc 26, 2) := by decide +kernel
theorem dJ2_newBytesLength_0f7a4_31 : decode cJ2_newBytesLength_0f7a4 31 = .ok (.invokevirtual 28, 3) := by decide +kernel
theorem dJ2_newBytesLength_0f7a4_34 : decode cJ2_newBytesLength_0f7a4 34 = .ok (.iload_n 0, 1) := by decide +kernel
theorem dJ2_newBytesLength_0f7a4_35 : decode cJ2_newBytesLength_0f7a4 35 = .ok (.invokevirtual 32, 3) := by decide +kernel
theorem dJ2_newBytesLength_0f7a4_38 : decode cJ2_newBytesLength_0f7a4 38 = .ok (.ldc 35, 2) := by decide +kernel
theorem dJ2_newBytesLength_0f7a4_40 : decode cJ2_newBytesLength_0f7a4 40 = .ok (.invokevirtual 28, 3) := by decide +kernel
theorem dJ2_newBytesLength_0f7a4_43 : decode cJ2_newBytesLength_0f7a4 43 = .ok (.ldc 20, 2) := by decide +kernel
theorem dJ2_newBytesLength_0f7a4_45 : decode cJ2_newBytesLength_0f7a4 45 = .ok (.invokevirtual 32, 3) := by decide +kernel
theorem dJ2_newBytesLength_0f7a4_48 : decode cJ2_newBytesLength_0f7a4 48 = .ok (.invokevirtual 37, 3) := by decide +kernel
theorem dJ2_newBytesLength_0f7a4_51 : decode cJ2_newBytesLength_0f7a4 51 = .ok (.invokespecial 41, 3) := by decide +kernel
theorem dJ2_newBytesLength_0f7a4_54 : decode cJ2_newBytesLength_0f7a4 54 = .ok (.athrow, 1) := by decide +kernel
theorem dJ2_newBytesLength_0f7a4_55 : decode cJ2_newBytesLength_0f7a4 55 = .ok (.iload_n 0, 1) := by decide +kernel
theorem dJ2_newBytesLength_0f7a4_56 : decode cJ2_newBytesLength_0f7a4 56 = .ok (.iconst 1, 1) := by decide +kernel
theorem dJ2_newBytesLength_0f7a4_57 : decode cJ2_newBytesLength_0f7a4 57 = .ok (.ishl, 1) := by decide +kernel
theorem dJ2_newBytesLength_0f7a4_58 : decode cJ2_newBytesLength_0f7a4 58 = .ok (.ireturn, 1) := by decide +kernel
theorem dJ2_putChar_b72d1_0 : decode cJ2_putChar_b72d1 0 = .ok (.getstatic 44, 3) := by decide +kernel
theorem dJ2_putChar_b72d1_3 : decode cJ2_putChar_b72d1 3 = .ok (.ifCond .ne 25, 3) := by decide +kernel
theorem dJ2_putChar_b72d1_6 : decode cJ2_putChar_b72d1 6 = .ok (.iload_n 1, 1) := by decide +kernel
theorem dJ2_putChar_b72d1_7 : decode cJ2_putChar_b72d1 7 = .ok (.ifCond .lt 11, 3) := by decide +kernel
theorem dJ2_putChar_b72d1_10 : decode cJ2_putChar_b72d1 10 = .ok (.iload_n 1, 1) := by decide +kernel
theorem dJ2_putChar_b72d1_11 : decode cJ2_putChar_b72d1 11 = .ok (.aload_n 0, 1) := by decide +kernel
theorem dJ2_putChar_b72d1_12 : decode cJ2_putChar_b72d1 12 = .ok (.invokestatic 48, 3) := by decide +kernel
theorem dJ2_putChar_b72d1_15 : decode cJ2_putChar_b72d1 15 = .ok (.if_icmp .lt 13, 3) := by decide +kernel
theorem dJ2_putChar_b72d1_18 : decode cJ2_putChar_b72d1 18 = .ok (.new 52, 3) := by decide +kernel
theorem dJ2_putChar_b72d1_21 : decode cJ2_putChar_b72d1 21 = .ok (.dup, 1) := by decide +kernel
theorem dJ2_putChar_b72d1_22 : decode cJ2_putChar_b72d1 22 = .ok (.ldc 54, 2) := by decide +kernel
theorem dJ2_putChar_b72d1_24 : decode cJ2_putChar_b72d1 24 = .ok (.invokespecial 56, 3) := by decide +kernel
theorem dJ2_putChar_b72d1_27 : decode cJ2_putChar_b72d1 27 = .ok (.athrow, 1) := by decide +kernel
theorem dJ2_putChar_b72d1_28 : decode cJ2_putChar_b72d1 28 = .ok (.iload_n 1, 1) := by decide +kernel
theorem dJ2_putChar_b72d1_29 : decode cJ2_putChar_b72d1 29 = .ok (.iconst 1, 1) := by decide +kernel
theorem dJ2_putChar_b72d1_30 : decode cJ2_putChar_b72d1 30 = .ok (.ishl, 1) := by decide +kernel
theorem dJ2_putChar_b72d1_31 : decode cJ2_putChar_b72d1 31 = .ok (.istore_n 1, 1) := by decide +kernel
theorem dJ2_putChar_b72d1_32 : decode cJ2_putChar_b72d1 32 = .ok (.aload_n 0, 1) := by decide +kernel
theorem dJ2_putChar_b72d1_33 : decode cJ2_putChar_b72d1 33 = .ok (.iload_n 1, 1) := by decide +kernel
theorem dJ2_putChar_b72d1_34 : decode cJ2_putChar_b72d1 34 = .ok (.iinc 1 1, 3) := by decide +kernel
theorem dJ2_putChar_b72d1_37 : decode cJ2_putChar_b72d1 37 = .ok (.iload_n 2, 1) := by decide +kernel
theorem dJ2_putChar_b72d1_38 : decode cJ2_putChar_b72d1 38 = .ok (.getstatic 59, 3) := by decide +kernel
theorem dJ2_putChar_b72d1_41 : decode cJ2_putChar_b72d1 41 = .ok (.ishr, 1) := by decide +kernel
theorem dJ2_putChar_b72d1_42 : decode cJ2_putChar_b72d1 42 = .ok (.i2b, 1) := by decide +kernel
theorem dJ2_putChar_b72d1_43 : decode cJ2_putChar_b72d1 43 = .ok (.bastore, 1) := by decide +kernel
theorem dJ2_putChar_b72d1_44 : decode cJ2_putChar_b72d1 44 = .ok (.aload_n 0, 1) := by decide +kernel
theorem dJ2_putChar_b72d1_45 : decode cJ2_putChar_b72d1 45 = .ok (.iload_n 1, 1) := by decide +kernel
theorem dJ2_putChar_b72d1_46 : decode cJ2_putChar_b72d1 46 = .ok (.iload_n 2, 1) := by decide +kernel
theorem dJ2_putChar_b72d1_47 : decode cJ2_putChar_b72d1 47 = .ok (.getstatic 63, 3) := by decide +kernel
theorem dJ2_putChar_b72d1_50 : decode cJ2_putChar_b72d1 50 = .ok (.ishr, 1) := by decide +kernel
theorem dJ2_putChar_b72d1_51 : decode cJ2_putChar_b72d1 51 = .ok (.i2b, 1) := by decide +kernel
theorem dJ2_putChar_b72d1_52 : decode cJ2_putChar_b72d1 52 = .ok (.bastore, 1) := by decide +kernel
theorem dJ2_putChar_b72d1_53 : decode cJ2_putChar_b72d1 53 = .ok (.return_, 1) := by decide +kernel
theorem dJ2_getChar_3b067_0 : decode cJ2_getChar_3b067 0 = .ok (.getstatic 44, 3) := by decide +kernel
theorem dJ2_getChar_3b067_3 : decode cJ2_getChar_3b067 3 = .ok (.ifCond .ne 25, 3) := by decide +kernel
theorem dJ2_getChar_3b067_6 : decode cJ2_getChar_3b067 6 = .ok (.iload_n 1, 1) := by decide +kernel
theorem dJ2_getChar_3b067_7 : decode cJ2_getChar_3b067 7 = .ok (.ifCond .lt 11, 3) := by decide +kernel
theorem dJ2_getChar_3b067_10 : decode cJ2_getChar_3b067 10 = .ok (.iload_n 1, 1) := by decide +kernel
theorem dJ2_getChar_3b067_11 : decode cJ2_getChar_3b067 11 = .ok (.aload_n 0, 1) := by decide +kernel
theorem dJ2_getChar_3b067_12 : decode cJ2_getChar_3b067 12 = .ok (.invokestatic 48, 3) := by decide +kernel
theorem dJ2_getChar_3b067_15 : decode cJ2_getChar_3b067 15 = .ok (.if_icmp .lt 13, 3) := by decide +kernel
theorem dJ2_getChar_3b067_18 : decode cJ2_getChar_3b067 18 = .ok (.new 52, 3) := by decide +kernel
theorem dJ2_getChar_3b067_21 : decode cJ2_getChar_3b067 21 = .ok (.dup, 1) := by decide +kernel
theorem dJ2_getChar_3b067_22 : decode cJ2_getChar_3b067 22 = .ok (.ldc 54, 2) := by decide +kernel
theorem dJ2_getChar_3b067_24 : decode cJ2_getChar_3b067 24 = .ok (.invokespecial 56, 3) := by decide +kernel
theorem dJ2_getChar_3b067_27 : decode cJ2_getChar_3b067 27 = .ok (.athrow, 1) := by decide +kernel
theorem dJ2_getChar_3b067_28 : decode cJ2_getChar_3b067 28 = .ok (.iload_n 1, 1) := by decide +kernel
theorem dJ2_getChar_3b067_29 : decode cJ2_getChar_3b067 29 = .ok (.iconst 1, 1) := by decide +kernel
theorem dJ2_getChar_3b067_30 : decode cJ2_getChar_3b067 30 = .ok (.ishl, 1) := by decide +kernel
theorem dJ2_getChar_3b067_31 : decode cJ2_getChar_3b067 31 = .ok (.istore_n 1, 1) := by decide +kernel
theorem dJ2_getChar_3b067_32 : decode cJ2_getChar_3b067 32 = .ok (.aload_n 0, 1) := by decide +kernel
theorem dJ2_getChar_3b067_33 : decode cJ2_getChar_3b067 33 = .ok (.iload_n 1, 1) := by decide +kernel
theorem dJ2_getChar_3b067_34 : decode cJ2_getChar_3b067 34 = .ok (.iinc 1 1, 3) := by decide +kernel
theorem dJ2_getChar_3b067_37 : decode cJ2_getChar_3b067 37 = .ok (.baload, 1) := by decide +kernel
theorem dJ2_getChar_3b067_38 : decode cJ2_getChar_3b067 38 = .ok (.sipush 255, 3) := by decide +kernel
theorem dJ2_getChar_3b067_41 : decode cJ2_getChar_3b067 41 = .ok (.iand, 1) := by decide +kernel
theorem dJ2_getChar_3b067_42 : decode cJ2_getChar_3b067 42 = .ok (.getstatic 59, 3) := by decide +kernel
theorem dJ2_getChar_3b067_45 : decode cJ2_getChar_3b067 45 = .ok (.ishl, 1) := by decide +kernel
theorem dJ2_getChar_3b067_46 : decode cJ2_getChar_3b067 46 = .ok (.aload_n 0, 1) := by decide +kernel
theorem dJ2_getChar_3b067_47 : decode cJ2_getChar_3b067 47 = .ok (.iload_n 1, 1) := by decide +kernel
theorem dJ2_getChar_3b067_48 : decode cJ2_getChar_3b067 48 = .ok (.baload, 1) := by decide +kernel
theorem dJ2_getChar_3b067_49 : decode cJ2_getChar_3b067 49 = .ok (.sipush 255, 3) := by decide +kernel
theorem dJ2_getChar_3b067_52 : decode cJ2_getChar_3b067 52 = .ok (.iand, 1) := by decide +kernel
theorem dJ2_getChar_3b067_53 : decode cJ2_getChar_3b067 53 = .ok (.getstatic 63, 3) := by decide +kernel
theorem dJ2_getChar_3b067_56 : decode cJ2_getChar_3b067 56 = .ok (.ishl, 1) := by decide +kernel
theorem dJ2_getChar_3b067_57 : decode cJ2_getChar_3b067 57 = .ok (.ior, 1) := by decide +kernel
theorem dJ2_getChar_3b067_58 : decode cJ2_getChar_3b067 58 = .ok (.i2c, 1) := by decide +kernel
theorem dJ2_getChar_3b067_59 : decode cJ2_getChar_3b067 59 = .ok (.ireturn, 1) := by decide +kernel
theorem dJ2_length_9d52b_0 : decode cJ2_length_9d52b 0 = .ok (.aload_n 0, 1) := by decide +kernel
theorem dJ2_length_9d52b_1 : decode cJ2_length_9d52b 1 = .ok (.arraylength, 1) := by decide +kernel
theorem dJ2_length_9d52b_2 : decode cJ2_length_9d52b 2 = .ok (.iconst 1, 1) := by decide +kernel
theorem dJ2_length_9d52b_3 : decode cJ2_length_9d52b 3 = .ok (.ishr, 1) := by decide +kernel
theorem dJ2_length_9d52b_4 : decode cJ2_length_9d52b 4 = .ok (.ireturn, 1) := by decide +kernel
theorem dJ2_putCharSB_b72d1_0 : decode cJ2_putCharSB_b72d1 0 = .ok (.iload_n 1, 1) := by decide +kernel
theorem dJ2_putCharSB_b72d1_1 : decode cJ2_putCharSB_b72d1 1 = .ok (.aload_n 0, 1) := by decide +kernel
theorem dJ2_putCharSB_b72d1_2 : decode cJ2_putCharSB_b72d1 2 = .ok (.invokestatic 67, 3) := by decide +kernel
theorem dJ2_putCharSB_b72d1_5 : decode cJ2_putCharSB_b72d1 5 = .ok (.aload_n 0, 1) := by decide +kernel
theorem dJ2_putCharSB_b72d1_6 : decode cJ2_putCharSB_b72d1 6 = .ok (.iload_n 1, 1) := by decide +kernel
theorem dJ2_putCharSB_b72d1_7 : decode cJ2_putCharSB_b72d1 7 = .ok (.iload_n 2, 1) := by decide +kernel
theorem dJ2_putCharSB_b72d1_8 : decode cJ2_putCharSB_b72d1 8 = .ok (.invokestatic 111, 3) := by decide +kernel
theorem dJ2_putCharSB_b72d1_11 : decode cJ2_putCharSB_b72d1 11 = .ok (.return_, 1) := by decide +kernel
theorem dJ2_getChars_46870_0 : decode cJ2_getChars_46870 0 = .ok (.iload_n 1, 1) := by decide +kernel
theorem dJ2_getChars_46870_1 : decode cJ2_getChars_46870 1 = .ok (.iload_n 2, 1) := by decide +kernel
theorem dJ2_getChars_46870_2 : decode cJ2_getChars_46870 2 = .ok (.aload_n 3, 1) := by decide +kernel
theorem dJ2_getChars_46870_3 : decode cJ2_getChars_46870 3 = .ok (.invokestatic 96, 3) := by decide +kernel
theorem dJ2_getChars_46870_6 : decode cJ2_getChars_46870 6 = .ok (.iload_n 0, 1) := by decide +kernel
theorem dJ2_getChars_46870_7 : decode cJ2_getChars_46870 7 = .ok (.iload_n 2, 1) := by decide +kernel
theorem dJ2_getChars_46870_8 : decode cJ2_getChars_46870 8 = .ok (.aload_n 3, 1) := by decide +kernel
theorem dJ2_getChars_46870_9 : decode cJ2_getChars_46870 9 = .ok (.invokestatic 393, 3) := by decide +kernel
theorem dJ2_getChars_46870_12 : decode cJ2_getChars_46870 12 = .ok (.istore 4, 2) := by decide +kernel
theorem dJ2_getChars_46870_14 : decode cJ2_getChars_46870 14 = .ok (.getstatic 44, 3) := by decide +kernel
theorem dJ2_getChars_46870_17 : decode cJ2_getChars_46870 17 = .ok (.ifCond .ne 17, 3) := by decide +kernel
theorem dJ2_getChars_46870_20 : decode cJ2_getChars_46870 20 = .ok (.iload_n 1, 1) := by decide +kernel
theorem dJ2_getChars_46870_21 : decode cJ2_getChars_46870 21 = .ok (.iload 4, 2) := by decide +kernel
theorem dJ2_getChars_46870_23 : decode cJ2_getChars_46870 23 = .ok (.if_icmp .eq 11, 3) := by decide +kernel
theorem dJ2_getChars_46870_26 : decode cJ2_getChars_46870 26 = .ok (.new 52, 3) := by decide +kernel
theorem dJ2_getChars_46870_29 : decode cJ2_getChars_46870 29 = .ok (.dup, 1) := by decide +kernel
theorem dJ2_getChars_46870_30 : decode cJ2_getChars_46870 30 = .ok (.invokespecial 66, 3) := by decide +kernel
theorem dJ2_getChars_46870_33 : decode cJ2_getChars_46870 33 = .ok (.athrow, 1) := by decide +kernel
theorem dJ2_getChars_46870_34 : decode cJ2_getChars_46870 34 = .ok (.iload 4, 2) := by decide +kernel
theorem dJ2_getChars_46870_36 : decode cJ2_getChars_46870 36 = .ok (.ireturn, 1) := by decide +kernel
theorem dJ2_putCharsAt_cd4e5_0 : decode cJ2_putCharsAt_cd4e5 0 = .ok (.iload_n 1, 1) := by decide +kernel
theorem dJ2_putCharsAt_cd4e5_1 : decode cJ2_putCharsAt_cd4e5 1 = .ok (.iconst 4, 1) := by decide +kernel
theorem dJ2_putCharsAt_cd4e5_2 : decode cJ2_putCharsAt_cd4e5 2 = .ok (.iadd, 1) := by decide +kernel
theorem dJ2_putCharsAt_cd4e5_3 : decode cJ2_putCharsAt_cd4e5 3 = .ok (.istore 6, 2) := by decide +kernel
theorem dJ2_putCharsAt_cd4e5_5 : decode cJ2_putCharsAt_cd4e5 5 = .ok (.iload_n 1, 1) := by decide +kernel
theorem dJ2_putCharsAt_cd4e5_6 : decode cJ2_putCharsAt_cd4e5 6 = .ok (.iload 6, 2) := by decide +kernel
theorem dJ2_putCharsAt_cd4e5_8 : decode cJ2_putCharsAt_cd4e5 8 = .ok (.aload_n 0, 1) := by decide +kernel
theorem dJ2_putCharsAt_cd4e5_9 : decode cJ2_putCharsAt_cd4e5 9 = .ok (.invokestatic 96, 3) := by decide +kernel
theorem dJ2_putCharsAt_cd4e5_12 : decode cJ2_putCharsAt_cd4e5 12 = .ok (.aload_n 0, 1) := by decide +kernel
theorem dJ2_putCharsAt_cd4e5_13 : decode cJ2_putCharsAt_cd4e5 13 = .ok (.iload_n 1, 1) := by decide +kernel
theorem dJ2_putCharsAt_cd4e5_14 : decode cJ2_putCharsAt_cd4e5 14 = .ok (.iinc 1 1, 3) := by decide +kernel
theorem dJ2_putCharsAt_cd4e5_17 : decode cJ2_putCharsAt_cd4e5 17 = .ok (.iload_n 2, 1) := by decide +kernel
theorem dJ2_putCharsAt_cd4e5_18 : decode cJ2_putCharsAt_cd4e5 18 = .ok (.invokestatic 111, 3) := by decide +kernel
theorem dJ2_putCharsAt_cd4e5_21 : decode cJ2_putCharsAt_cd4e5 21 = .ok (.aload_n 0, 1) := by decide +kernel
theorem dJ2_putCharsAt_cd4e5_22 : decode cJ2_putCharsAt_cd4e5 22 = .ok (.iload_n 1, 1) := by decide +kernel
theorem dJ2_putCharsAt_cd4e5_23 : decode cJ2_putCharsAt_cd4e5 23 = .ok (.iinc 1 1, 3) := by decide +kernel
theorem dJ2_putCharsAt_cd4e5_26 : decode cJ2_putCharsAt_cd4e5 26 = .ok (.iload_n 3, 1) := by decide +kernel
theorem dJ2_putCharsAt_cd4e5_27 : decode cJ2_putCharsAt_cd4e5 27 = .ok (.invokestatic 111, 3) := by decide +kernel
theorem dJ2_putCharsAt_cd4e5_30 : decode cJ2_putCharsAt_cd4e5 30 = .ok (.aload_n 0, 1) := by decide +kernel
theorem dJ2_putCharsAt_cd4e5_31 : decode cJ2_putCharsAt_cd4e5 31 = .ok (.iload_n 1, 1) := by decide +kernel
theorem dJ2_putCharsAt_cd4e5_32 : decode cJ2_putCharsAt_cd4e5 32 = .ok (.iinc 1 1, 3) := by decide +kernel
theorem dJ2_putCharsAt_cd4e5_35 : decode cJ2_putCharsAt_cd4e5 35 = .ok (.iload 4, 2) := by decide +kernel
theorem dJ2_putCharsAt_cd4e5_37 : decode cJ2_putCharsAt_cd4e5 37 = .ok (.invokestatic 111, 3) := by decide +kernel
theorem dJ2_putCharsAt_cd4e5_40 : decode cJ2_putCharsAt_cd4e5 40 = .ok (.aload_n 0, 1) := by decide +kernel
theorem dJ2_putCharsAt_cd4e5_41 : decode cJ2_putCharsAt_cd4e5 41 = .ok (.iload_n 1, 1) := by decide +kernel
theorem dJ2_putCharsAt_cd4e5_42 : decode cJ2_putCharsAt_cd4e5 42 = .ok (.iinc 1 1, 3) := by decide +kernel
theorem dJ2_putCharsAt_cd4e5_45 : decode cJ2_putCharsAt_cd4e5 45 = .ok (.iload 5, 2) := by decide +kernel
theorem dJ2_putCharsAt_cd4e5_47 : decode cJ2_putCharsAt_cd4e5 47 = .ok (.invokestatic 111, 3) := by decide +kernel
theorem dJ2_putCharsAt_cd4e5_50 : decode cJ2_putCharsAt_cd4e5 50 = .ok (.getstatic 44, 3) := by decide +kernel
theorem dJ2_putCharsAt_cd4e5_53 : decode cJ2_putCharsAt_cd4e5 53 = .ok (.ifCond .ne 17, 3) := by decide +kernel
theorem dJ2_putCharsAt_cd4e5_56 : decode cJ2_putCharsAt_cd4e5 56 = .ok (.iload_n 1, 1) := by decide +kernel
theorem dJ2_putCharsAt_cd4e5_57 : decode cJ2_putCharsAt_cd4e5 57 = .ok (.iload 6, 2) := by decide +kernel
theorem dJ2_putCharsAt_cd4e5_59 : decode cJ2_putCharsAt_cd4e5 59 = .ok (.if_icmp .eq 11, 3) := by decide +kernel
theorem dJ2_putCharsAt_cd4e5_62 : decode cJ2_putCharsAt_cd4e5 62 = .ok (.new 52, 3) := by decide +kernel
theorem dJ2_putCharsAt_cd4e5_65 : decode cJ2_putCharsAt_cd4e5 65 = .ok (.dup, 1) := by decide +kernel
theorem dJ2_putCharsAt_cd4e5_66 : decode cJ2_putCharsAt_cd4e5 66 = .ok (.invokespecial 66, 3) := by decide +kernel
theorem dJ2_putCharsAt_cd4e5_69 : decode cJ2_putCharsAt_cd4e5 69 = .ok (.athrow, 1) := by decide +kernel
theorem dJ2_putCharsAt_cd4e5_70 : decode cJ2_putCharsAt_cd4e5 70 = .ok (.iload 6, 2) := by decide +kernel
theorem dJ2_putCharsAt_cd4e5_72 : decode cJ2_putCharsAt_cd4e5 72 = .ok (.ireturn, 1) := by decide +kernel
theorem dJ2_charAt_3b067_0 : decode cJ2_charAt_3b067 0 = .ok (.iload_n 1, 1) := by decide +kernel
theorem dJ2_charAt_3b067_1 : decode cJ2_charAt_3b067 1 = .ok (.aload_n 0, 1) := by decide +kernel
theorem dJ2_charAt_3b067_2 : decode cJ2_charAt_3b067 2 = .ok (.invokestatic 67, 3) := by decide +kernel
theorem dJ2_charAt_3b067_5 : decode cJ2_charAt_3b067 5 = .ok (.aload_n 0, 1) := by decide +kernel
theorem dJ2_charAt_3b067_6 : decode cJ2_charAt_3b067 6 = .ok (.iload_n 1, 1) := by decide +kernel
theorem dJ2_charAt_3b067_7 : decode cJ2_charAt_3b067 7 = .ok (.invokestatic 71, 3) := by decide +kernel
theorem dJ2_charAt_3b067_10 : decode cJ2_charAt_3b067 10 = .ok (.ireturn, 1) := by decide +kernel
theorem dJ2_inflate_0e8fd_0 : decode cJ2_inflate_0e8fd 0 = .ok (.iload_n 3, 1) := by decide +kernel
theorem dJ2_inflate_0e8fd_1 : decode cJ2_inflate_0e8fd 1 = .ok (.iload 4, 2) := by decide +kernel
theorem dJ2_inflate_0e8fd_3 : decode cJ2_inflate_0e8fd 3 = .ok (.aload_n 2, 1) := by decide +kernel
theorem dJ2_inflate_0e8fd_4 : decode cJ2_inflate_0e8fd 4 = .ok (.invokestatic 173, 3) := by decide +kernel
theorem dJ2_inflate_0e8fd_7 : decode cJ2_inflate_0e8fd 7 = .ok (.iconst 0, 1) := by decide +kernel
theorem dJ2_inflate_0e8fd_8 : decode cJ2_inflate_0e8fd 8 = .ok (.istore 5, 2) := by decide +kernel
theorem dJ2_inflate_0e8fd_10 : decode cJ2_inflate_0e8fd 10 = .ok (.iload 5, 2) := by decide +kernel
theorem dJ2_inflate_0e8fd_12 : decode cJ2_inflate_0e8fd 12 = .ok (.iload 4, 2) := by decide +kernel
theorem dJ2_inflate_0e8fd_14 : decode cJ2_inflate_0e8fd 14 = .ok (.if_icmp .ge 27, 3) := by decide +kernel
theorem dJ2_inflate_0e8fd_17 : decode cJ2_inflate_0e8fd 17 = .ok (.aload_n 2, 1) := by decide +kernel
theorem dJ2_inflate_0e8fd_18 : decode cJ2_inflate_0e8fd 18 = .ok (.iload_n 3, 1) := by decide +kernel
theorem dJ2_inflate_0e8fd_19 : decode cJ2_inflate_0e8fd 19 = .ok (.iinc 3 1, 3) := by decide +kernel
theorem dJ2_inflate_0e8fd_22 : decode cJ2_inflate_0e8fd 22 = .ok (.aload_n 0, 1) := by decide +kernel
theorem dJ2_inflate_0e8fd_23 : decode cJ2_inflate_0e8fd 23 = .ok (.iload_n 1, 1) := by decide +kernel
theorem dJ2_inflate_0e8fd_24 : decode cJ2_inflate_0e8fd 24 = .ok (.iinc 1 1, 3) := by decide +kernel
theorem dJ2_inflate_0e8fd_27 : decode cJ2_inflate_0e8fd 27 = .ok (.baload, 1) := by decide +kernel
theorem dJ2_inflate_0e8fd_28 : decode cJ2_inflate_0e8fd 28 = .ok (.sipush 255, 3) := by decide +kernel
theorem dJ2_inflate_0e8fd_31 : decode cJ2_inflate_0e8fd 31 = .ok (.iand, 1) := by decide +kernel
theorem dJ2_inflate_0e8fd_32 : decode cJ2_inflate_0e8fd 32 = .ok (.invokestatic 111, 3) := by decide +kernel
theorem dJ2_inflate_0e8fd_35 : decode cJ2_inflate_0e8fd 35 = .ok (.iinc 5 1, 3) := by decide +kernel
theorem dJ2_inflate_0e8fd_38 : decode cJ2_inflate_0e8fd 38 = .ok (.goto (-28), 3) := by decide +kernel
theorem dJ2_inflate_0e8fd_41 : decode cJ2_inflate_0e8fd 41 = .ok (.return_, 1) := by decide +kernel
theorem dJ2_getChars_ba4f3_0 : decode cJ2_getChars_ba4f3 0 = .ok (.iload_n 1, 1) := by decide +kernel
theorem dJ2_getChars_ba4f3_1 : decode cJ2_getChars_ba4f3 1 = .ok (.istore 5, 2) := by decide +kernel
theorem dJ2_getChars_ba4f3_3 : decode cJ2_getChars_ba4f3 3 = .ok (.iload_n 0, 1) := by decide +kernel
theorem dJ2_getChars_ba4f3_4 : decode cJ2_getChars_ba4f3 4 = .ok (.ifCond .ge 7, 3) := by decide +kernel
theorem dJ2_getChars_ba4f3_7 : decode cJ2_getChars_ba4f3 7 = .ok (.iconst 1, 1) := by decide +kernel
theorem dJ2_getChars_ba4f3_8 : decode cJ2_getChars_ba4f3 8 = .ok (.goto 4, 3) := by decide +kernel
theorem dJ2_getChars_ba4f3_11 : decode cJ2_getChars_ba4f3 11 = .ok (.iconst 0, 1) := by decide +kernel
theorem dJ2_getChars_ba4f3_12 : decode cJ2_getChars_ba4f3 12 = .ok (.istore 6, 2) := by decide +kernel
theorem dJ2_getChars_ba4f3_14 : decode cJ2_getChars_ba4f3 14 = .ok (.iload 6, 2) := by decide +kernel
theorem dJ2_getChars_ba4f3_16 : decode cJ2_getChars_ba4f3 16 = .ok (.ifCond .ne 6, 3) := by decide +kernel
theorem dJ2_getChars_ba4f3_19 : decode cJ2_getChars_ba4f3 19 = .ok (.iload_n 0, 1) := by decide +kernel
theorem dJ2_getChars_ba4f3_20 : decode cJ2_getChars_ba4f3 20 = .ok (.ineg, 1) := by decide +kernel
theorem dJ2_getChars_ba4f3_21 : decode cJ2_getChars_ba4f3 21 = .ok (.istore_n 0, 1) := by decide +kernel
theorem dJ2_getChars_ba4f3_22 : decode cJ2_getChars_ba4f3 22 = .ok (.iload_n 0, 1) := by decide +kernel
theorem dJ2_getChars_ba4f3_23 : decode cJ2_getChars_ba4f3 23 = .ok (.bipush (-100), 2) := by decide +kernel
theorem dJ2_getChars_ba4f3_25 : decode cJ2_getChars_ba4f3 25 = .ok (.if_icmp .gt 51, 3) := by decide +kernel
theorem dJ2_getChars_ba4f3_28 : decode cJ2_getChars_ba4f3 28 = .ok (.iload_n 0, 1) := by decide +kernel
theorem dJ2_getChars_ba4f3_29 : decode cJ2_getChars_ba4f3 29 = .ok (.bipush 100, 2) := by decide +kernel
theorem dJ2_getChars_ba4f3_31 : decode cJ2_getChars_ba4f3 31 = .ok (.idiv, 1) := by decide +kernel
theorem dJ2_getChars_ba4f3_32 : decode cJ2_getChars_ba4f3 32 = .ok (.istore_n 3, 1) := by decide +kernel
theorem dJ2_getChars_ba4f3_33 : decode cJ2_getChars_ba4f3 33 = .ok (.iload_n 3, 1) := by decide +kernel
theorem dJ2_getChars_ba4f3_34 : decode cJ2_getChars_ba4f3 34 = .ok (.bipush 100, 2) := by decide +kernel
theorem dJ2_getChars_ba4f3_36 : decode cJ2_getChars_ba4f3 36 = .ok (.imul, 1) := by decide +kernel
theorem dJ2_getChars_ba4f3_37 : decode cJ2_getChars_ba4f3 37 = .ok (.iload_n 0, 1) := by decide +kernel
theorem dJ2_getChars_ba4f3_38 : decode cJ2_getChars_ba4f3 38 = .ok (.isub, 1) := by decide +kernel
theorem dJ2_getChars_ba4f3_39 : decode cJ2_getChars_ba4f3 39 = .ok (.istore 4, 2) := by decide +kernel
theorem dJ2_getChars_ba4f3_41 : decode cJ2_getChars_ba4f3 41 = .ok (.iload_n 3, 1) := by decide +kernel
theorem dJ2_getChars_ba4f3_42 : decode cJ2_getChars_ba4f3 42 = .ok (.istore_n 0, 1) := by decide +kernel
theorem dJ2_getChars_ba4f3_43 : decode cJ2_getChars_ba4f3 43 = .ok (.aload_n 2, 1) := by decide +kernel
theorem dJ2_getChars_ba4f3_44 : decode cJ2_getChars_ba4f3 44 = .ok (.iinc 5 (-1), 3) := by decide +kernel
theorem dJ2_getChars_ba4f3_47 : decode cJ2_getChars_ba4f3 47 = .ok (.iload 5, 2) := by decide +kernel
theorem dJ2_getChars_ba4f3_49 : decode cJ2_getChars_ba4f3 49 = .ok (.getstatic 403, 3) := by decide +kernel
theorem dJ2_getChars_ba4f3_52 : decode cJ2_getChars_ba4f3 52 = .ok (.iload 4, 2) := by decide +kernel
theorem dJ2_getChars_ba4f3_54 : decode cJ2_getChars_ba4f3 54 = .ok (.baload, 1) := by decide +kernel
theorem dJ2_getChars_ba4f3_55 : decode cJ2_getChars_ba4f3 55 = .ok (.invokestatic 111, 3) := by decide +kernel
theorem dJ2_getChars_ba4f3_58 : decode cJ2_getChars_ba4f3 58 = .ok (.aload_n 2, 1) := by decide +kernel
theorem dJ2_getChars_ba4f3_59 : decode cJ2_getChars_ba4f3 59 = .ok (.iinc 5 (-1), 3) := by decide +kernel
theorem dJ2_getChars_ba4f3_62 : decode cJ2_getChars_ba4f3 62 = .ok (.iload 5, 2) := by decide +kernel
theorem dJ2_getChars_ba4f3_64 : decode cJ2_getChars_ba4f3 64 = .ok (.getstatic 407, 3) := by decide +kernel
theorem dJ2_getChars_ba4f3_67 : decode cJ2_getChars_ba4f3 67 = .ok (.iload 4, 2) := by decide +kernel
theorem dJ2_getChars_ba4f3_69 : decode cJ2_getChars_ba4f3 69 = .ok (.baload, 1) := by decide +kernel
theorem dJ2_getChars_ba4f3_70 : decode cJ2_getChars_ba4f3 70 = .ok (.invokestatic 111, 3) := by decide +kernel
theorem dJ2_getChars_ba4f3_73 : decode cJ2_getChars_ba4f3 73 = .ok (.goto (-51), 3) := by decide +kernel
theorem dJ2_getChars_ba4f3_76 : decode cJ2_getChars_ba4f3 76 = .ok (.aload_n 2, 1) := by decide +kernel
theorem dJ2_getChars_ba4f3_77 : decode cJ2_getChars_ba4f3 77 = .ok (.iinc 5 (-1), 3) := by decide +kernel
theorem dJ2_getChars_ba4f3_80 : decode cJ2_getChars_ba4f3 80 = .ok (.iload 5, 2) := by decide +kernel
theorem dJ2_getChars_ba4f3_82 : decode cJ2_getChars_ba4f3 82 = .ok (.getstatic 403, 3) := by decide +kernel
theorem dJ2_getChars_ba4f3_85 : decode cJ2_getChars_ba4f3 85 = .ok (.iload_n 0, 1) := by decide +kernel
theorem dJ2_getChars_ba4f3_86 : decode cJ2_getChars_ba4f3 86 = .ok (.ineg, 1) := by decide +kernel
theorem dJ2_getChars_ba4f3_87 : decode cJ2_getChars_ba4f3 87 = .ok (.baload, 1) := by decide +kernel
theorem dJ2_getChars_ba4f3_88 : decode cJ2_getChars_ba4f3 88 = .ok (.invokestatic 111, 3) := by decide +kernel
theorem dJ2_getChars_ba4f3_91 : decode cJ2_getChars_ba4f3 91 = .ok (.iload_n 0, 1) := by decide +kernel
theorem dJ2_getChars_ba4f3_92 : decode cJ2_getChars_ba4f3 92 = .ok (.bipush (-9), 2) := by decide +kernel
theorem dJ2_getChars_ba4f3_94 : decode cJ2_getChars_ba4f3 94 = .ok (.if_icmp .ge 18, 3) := by decide +kernel
theorem dJ2_getChars_ba4f3_97 : decode cJ2_getChars_ba4f3 97 = .ok (.aload_n 2, 1) := by decide +kernel
theorem dJ2_getChars_ba4f3_98 : decode cJ2_getChars_ba4f3 98 = .ok (.iinc 5 (-1), 3) := by decide +kernel
theorem dJ2_getChars_ba4f3_101 : decode cJ2_getChars_ba4f3 101 = .ok (.iload 5, 2) := by decide +kernel
theorem dJ2_getChars_ba4f3_103 : decode cJ2_getChars_ba4f3 103 = .ok (.getstatic 407, 3) := by decide +kernel
theorem dJ2_getChars_ba4f3_106 : decode cJ2_getChars_ba4f3 106 = .ok (.iload_n 0, 1) := by decide +kernel
theorem dJ2_getChars_ba4f3_107 : decode cJ2_getChars_ba4f3 107 = .ok (.ineg, 1) := by decide +kernel
theorem dJ2_getChars_ba4f3_108 : decode cJ2_getChars_ba4f3 108 = .ok (.baload, 1) := by decide +kernel
theorem dJ2_getChars_ba4f3_109 : decode cJ2_getChars_ba4f3 109 = .ok (.invokestatic 111, 3) := by decide +kernel
theorem dJ2_getChars_ba4f3_112 : decode cJ2_getChars_ba4f3 112 = .ok (.iload 6, 2) := by decide +kernel
theorem dJ2_getChars_ba4f3_114 : decode cJ2_getChars_ba4f3 114 = .ok (.ifCond .eq 14, 3) := by decide +kernel
theorem dJ2_getChars_ba4f3_117 : decode cJ2_getChars_ba4f3 117 = .ok (.aload_n 2, 1) := by decide +kernel
theorem dJ2_getChars_ba4f3_118 : decode cJ2_getChars_ba4f3 118 = .ok (.iinc 5 (-1), 3) := by decide +kernel
theorem dJ2_getChars_ba4f3_121 : decode cJ2_getChars_ba4f3 121 = .ok (.iload 5, 2) := by decide +kernel
theorem dJ2_getChars_ba4f3_123 : decode cJ2_getChars_ba4f3 123 = .ok (.bipush 45, 2) := by decide +kernel
theorem dJ2_getChars_ba4f3_125 : decode cJ2_getChars_ba4f3 125 = .ok (.invokestatic 111, 3) := by decide +kernel
theorem dJ2_getChars_ba4f3_128 : decode cJ2_getChars_ba4f3 128 = .ok (.iload 5, 2) := by decide +kernel
theorem dJ2_getChars_ba4f3_130 : decode cJ2_getChars_ba4f3 130 = .ok (.ireturn, 1) := by decide +kernel
theorem dJ2_checkIndex_2214a_0 : decode cJ2_checkIndex_2214a 0 = .ok (.iload_n 0, 1) := by decide +kernel
theorem dJ2_checkIndex_2214a_1 : decode cJ2_checkIndex_2214a 1 = .ok (.aload_n 1, 1) := by decide +kernel
theorem dJ2_checkIndex_2214a_2 : decode cJ2_checkIndex_2214a 2 = .ok (.invokestatic 48, 3) := by decide +kernel
theorem dJ2_checkIndex_2214a_5 : decode cJ2_checkIndex_2214a 5 = .ok (.invokestatic 414, 3) := by decide +kernel
theorem dJ2_checkIndex_2214a_8 : decode cJ2_checkIndex_2214a 8 = .ok (.return_, 1) := by decide +kernel
theorem dJ2_checkBoundsBeginEnd_d044e_0 : decode cJ2_checkBoundsBeginEnd_d044e 0 = .ok (.iload_n 0, 1) := by decide +kernel
theorem dJ2_checkBoundsBeginEnd_d044e_1 : decode cJ2_checkBoundsBeginEnd_d044e 1 = .ok (.iload_n 1, 1) := by decide +kernel
theorem dJ2_checkBoundsBeginEnd_d044e_2 : decode cJ2_checkBoundsBeginEnd_d044e 2 = .ok (.aload_n 2, 1) := by decide +kernel
theorem dJ2_checkBoundsBeginEnd_d044e_3 : decode cJ2_checkBoundsBeginEnd_d044e 3 = .ok (.invokestatic 48, 3) := by decide +kernel
theorem dJ2_checkBoundsBeginEnd_d044e_6 : decode cJ2_checkBoundsBeginEnd_d044e 6 = .ok (.invokestatic 241, 3) := by decide +kernel
theorem dJ2_checkBoundsBeginEnd_d044e_9 : decode cJ2_checkBoundsBeginEnd_d044e 9 = .ok (.return_, 1) := by decide +kernel
theorem dJ2_checkBoundsOffCount_d044e_0 : decode cJ2_checkBoundsOffCount_d044e 0 = .ok (.iload_n 0, 1) := by decide +kernel
theorem dJ2_checkBoundsOffCount_d044e_1 : decode cJ2_checkBoundsOffCount_d044e 1 = .ok (.iload_n 1, 1) := by decide +kernel
theorem dJ2_checkBoundsOffCount_d044e_2 : decode cJ2_checkBoundsOffCount_d044e 2 = .ok (.aload_n 2, 1) := by decide +kernel
theorem dJ2_checkBoundsOffCount_d044e_3 : decode cJ2_checkBoundsOffCount_d044e 3 = .ok (.invokestatic 48, 3) := by decide +kernel
theorem dJ2_checkBoundsOffCount_d044e_6 : decode cJ2_checkBoundsOffCount_d044e 6 = .ok (.invokestatic 419, 3) := by decide +kernel
theorem dJ2_checkBoundsOffCount_d044e_9 : decode cJ2_checkBoundsOffCount_d044e 9 = .ok (.pop, 1) := by decide +kernel
theorem dJ2_checkBoundsOffCount_d044e_10 : decode cJ2_checkBoundsOffCount_d044e 10 = .ok (.return_, 1) := by decide +kernel
theorem dJ7_copyOf_9075b_0 : decode cJ7_copyOf_9075b 0 = .ok (.iload_n 1, 1) := by decide +kernel
theorem dJ7_copyOf_9075b_1 : decode cJ7_copyOf_9075b 1 = .ok (.aload_n 0, 1) := by decide +kernel
theorem dJ7_copyOf_9075b_2 : decode cJ7_copyOf_9075b 2 = .ok (.arraylength, 1) := by decide +kernel
theorem dJ7_copyOf_9075b_3 : decode cJ7_copyOf_9075b 3 = .ok (.if_icmp .ne 11, 3) := by decide +kernel
theorem dJ7_copyOf_9075b_6 : decode cJ7_copyOf_9075b 6 = .ok (.aload_n 0, 1) := by decide +kernel
theorem dJ7_copyOf_9075b_7 : decode cJ7_copyOf_9075b 7 = .ok (.invokevirtual 310, 3) := by decide +kernel
theorem dJ7_copyOf_9075b_10 : decode cJ7_copyOf_9075b 10 = .ok (.checkcast 311, 3) := by decide +kernel
theorem dJ7_copyOf_9075b_13 : decode cJ7_copyOf_9075b 13 = .ok (.areturn, 1) := by decide +kernel
theorem dJ7_copyOf_9075b_14 : decode cJ7_copyOf_9075b 14 = .ok (.iload_n 1, 1) := by decide +kernel
theorem dJ7_copyOf_9075b_15 : decode cJ7_copyOf_9075b 15 = .ok (.newarray .byte, 2) := by decide +kernel
theorem dJ7_copyOf_9075b_17 : decode cJ7_copyOf_9075b 17 = .ok (.astore_n 2, 1) := by decide +kernel
theorem dJ7_copyOf_9075b_18 : decode cJ7_copyOf_9075b 18 = .ok (.aload_n 0, 1) := by decide +kernel
theorem dJ7_copyOf_9075b_19 : decode cJ7_copyOf_9075b 19 = .ok (.iconst 0, 1) := by decide +kernel
theorem dJ7_copyOf_9075b_20 : decode cJ7_copyOf_9075b 20 = .ok (.aload_n 2, 1) := by decide +kernel
theorem dJ7_copyOf_9075b_21 : decode cJ7_copyOf_9075b 21 = .ok (.iconst 0, 1) := by decide +kernel
theorem dJ7_copyOf_9075b_22 : decode cJ7_copyOf_9075b 22 = .ok (.aload_n 0, 1) := by decide +kernel
theorem dJ7_copyOf_9075b_23 : decode cJ7_copyOf_9075b 23 = .ok (.arraylength, 1) := by decide +kernel
theorem dJ7_copyOf_9075b_24 : decode cJ7_copyOf_9075b 24 = .ok (.iload_n 1, 1) := by decide +kernel
theorem dJ7_copyOf_9075b_25 : decode cJ7_copyOf_9075b 25 = .ok (.invokestatic 304, 3) := by decide +kernel
theorem dJ7_copyOf_9075b_28 : decode cJ7_copyOf_9075b 28 = .ok (.invokestatic 150, 3) := by decide +kernel
theorem dJ7_copyOf_9075b_31 : decode cJ7_copyOf_9075b 31 = .ok (.aload_n 2, 1) := by decide +kernel
theorem dJ7_copyOf_9075b_32 : decode cJ7_copyOf_9075b 32 = .ok (.areturn, 1) := by decide +kernel
theorem dJ8_newLength_cabcc_0 : decode cJ8_newLength_cabcc 0 = .ok (.iload_n 0, 1) := by decide +kernel
theorem dJ8_newLength_cabcc_1 : decode cJ8_newLength_cabcc 1 = .ok (.iload_n 1, 1) := by decide +kernel
theorem dJ8_newLength_cabcc_2 : decode cJ8_newLength_cabcc 2 = .ok (.iload_n 2, 1) := by decide +kernel
theorem dJ8_newLength_cabcc_3 : decode cJ8_newLength_cabcc 3 = .ok (.invokestatic 194, 3) := by decide +kernel
theorem dJ8_newLength_cabcc_6 : decode cJ8_newLength_cabcc 6 = .ok (.iadd, 1) := by decide +kernel
theorem dJ8_newLength_cabcc_7 : decode cJ8_newLength_cabcc 7 = .ok (.istore_n 3, 1) := by decide +kernel
theorem dJ8_newLength_cabcc_8 : decode cJ8_newLength_cabcc 8 = .ok (.iconst 0, 1) := by decide +kernel
theorem dJ8_newLength_cabcc_9 : decode cJ8_newLength_cabcc 9 = .ok (.iload_n 3, 1) := by decide +kernel
theorem dJ8_newLength_cabcc_10 : decode cJ8_newLength_cabcc 10 = .ok (.if_icmp .ge 11, 3) := by decide +kernel
theorem dJ8_newLength_cabcc_13 : decode cJ8_newLength_cabcc 13 = .ok (.iload_n 3, 1) := by decide +kernel
theorem dJ8_newLength_cabcc_14 : decode cJ8_newLength_cabcc 14 = .ok (.ldc 200, 2) := by decide +kernel
theorem dJ8_newLength_cabcc_16 : decode cJ8_newLength_cabcc 16 = .ok (.if_icmp .gt 5, 3) := by decide +kernel
theorem dJ8_newLength_cabcc_19 : decode cJ8_newLength_cabcc 19 = .ok (.iload_n 3, 1) := by decide +kernel
theorem dJ8_newLength_cabcc_20 : decode cJ8_newLength_cabcc 20 = .ok (.ireturn, 1) := by decide +kernel
theorem dJ8_newLength_cabcc_21 : decode cJ8_newLength_cabcc 21 = .ok (.iload_n 0, 1) := by decide +kernel
theorem dJ8_newLength_cabcc_22 : decode cJ8_newLength_cabcc 22 = .ok (.iload_n 1, 1) := by decide +kernel
theorem dJ8_newLength_cabcc_23 : decode cJ8_newLength_cabcc 23 = .ok (.invokestatic 201, 3) := by decide +kernel
theorem dJ8_newLength_cabcc_26 : decode cJ8_newLength_cabcc 26 = .ok (.ireturn, 1) := by decide +kernel
theorem dJ8_hugeLength_7cf53_0 : decode cJ8_hugeLength_7cf53 0 = .ok (.iload_n 0, 1) := by decide +kernel
theorem dJ8_hugeLength_7cf53_1 : decode cJ8_hugeLength_7cf53 1 = .ok (.iload_n 1, 1) := by decide +kernel
theorem dJ8_hugeLength_7cf53_2 : decode cJ8_hugeLength_7cf53 2 = .ok (.iadd, 1) := by decide +kernel
theorem dJ8_hugeLength_7cf53_3 : decode cJ8_hugeLength_7cf53 3 = .ok (.istore_n 2, 1) := by decide +kernel
theorem dJ8_hugeLength_7cf53_4 : decode cJ8_hugeLength_7cf53 4 = .ok (.iload_n 2, 1) := by decide +kernel
theorem dJ8_hugeLength_7cf53_5 : decode cJ8_hugeLength_7cf53 5 = .ok (.ifCond .ge 44, 3) := by decide +kernel
theorem dJ8_hugeLength_7cf53_8 : decode cJ8_hugeLength_7cf53 8 = .ok (.new 204, 3) := by decide +kernel
theorem dJ8_hugeLength_7cf53_11 : decode cJ8_hugeLength_7cf53 11 = .ok (.dup, 1) := by decide +kernel
theorem dJ8_hugeLength_7cf53_12 : decode cJ8_hugeLength_7cf53 12 = .ok (.new 89, 3) := by decide +kernel
theorem dJ8_hugeLength_7cf53_15 : decode cJ8_hugeLength_7cf53 15 = .ok (.dup, 1) := by decide +kernel
theorem dJ8_hugeLength_7cf53_16 : decode cJ8_hugeLength_7cf53 16 = .ok (.invokespecial 91, 3) := by decide +kernel
theorem dJ8_hugeLength_7cf53_19 : decode cJ8_hugeLength_7cf53 19 = .ok (.ldc 206, 2) := by decide +kernel
theorem dJ8_hugeLength_7cf53_21 : decode cJ8_hugeLength_7cf53 21 = .ok (.invokevirtual 94, 3) := by decide +kernel
theorem dJ8_hugeLength_7cf53_24 : decode cJ8_hugeLength_7cf53 24 = .ok (.iload_n 0, 1) := by decide +kernel
theorem dJ8_hugeLength_7cf53_25 : decode cJ8_hugeLength_7cf53 25 = .ok (.invokevirtual 98, 3) := by decide +kernel
theorem dJ8_hugeLength_7cf53_28 : decode cJ8_hugeLength_7cf53 28 = .ok (.ldc 208, 2) := by decide +kernel
theorem dJ8_hugeLength_7cf53_30 : decode cJ8_hugeLength_7cf53 30 = .ok (.invokevirtual 94, 3) := by decide +kernel
theorem dJ8_hugeLength_7cf53_33 : decode cJ8_hugeLength_7cf53 33 = .ok (.iload_n 1, 1) := by decide +kernel
theorem dJ8_hugeLength_7cf53_34 : decode cJ8_hugeLength_7cf53 34 = .ok (.invokevirtual 98, 3) := by decide +kernel
theorem dJ8_hugeLength_7cf53_37 : decode cJ8_hugeLength_7cf53 37 = .ok (.ldc 210, 2) := by decide +kernel
theorem dJ8_hugeLength_7cf53_39 : decode cJ8_hugeLength_7cf53 39 = .ok (.invokevirtual 94, 3) := by decide +kernel
theorem dJ8_hugeLength_7cf53_42 : decode cJ8_hugeLength_7cf53 42 = .ok (.invokevirtual 101, 3) := by decide +kernel
theorem dJ8_hugeLength_7cf53_45 : decode cJ8_hugeLength_7cf53 45 = .ok (.invokespecial 212, 3) := by decide +kernel
theorem dJ8_hugeLength_7cf53_48 : decode cJ8_hugeLength_7cf53 48 = .ok (.athrow, 1) := by decide +kernel
theorem dJ8_hugeLength_7cf53_49 : decode cJ8_hugeLength_7cf53 49 = .ok (.iload_n 2, 1) := by decide +kernel
theorem dJ8_hugeLength_7cf53_50 : decode cJ8_hugeLength_7cf53 50 = .ok (.ldc 200, 2) := by decide +kernel
theorem dJ8_hugeLength_7cf53_52 : decode cJ8_hugeLength_7cf53 52 = .ok (.if_icmp .gt 6, 3) := by decide +kernel
theorem dJ8_hugeLength_7cf53_55 : decode cJ8_hugeLength_7cf53 55 = .ok (.ldc 200, 2) := by decide +kernel
theorem dJ8_hugeLength_7cf53_57 : decode cJ8_hugeLength_7cf53 57 = .ok (.ireturn, 1) := by decide +kernel
theorem dJ8_hugeLength_7cf53_58 : decode cJ8_hugeLength_7cf53 58 = .ok (.iload_n 2, 1) := by decide +kernel
theorem dJ8_hugeLength_7cf53_59 : decode cJ8_hugeLength_7cf53 59 = .ok (.ireturn, 1) := by decide +kernel
theorem dJ3_checkIndex_8e157_0 : decode cJ3_checkIndex_8e157 0 = .ok (.iload_n 0, 1) := by decide +kernel
theorem dJ3_checkIndex_8e157_1 : decode cJ3_checkIndex_8e157 1 = .ok (.ifCond .lt 8, 3) := by decide +kernel
theorem dJ3_checkIndex_8e157_4 : decode cJ3_checkIndex_8e157 4 = .ok (.iload_n 0, 1) := by decide +kernel
theorem dJ3_checkIndex_8e157_5 : decode cJ3_checkIndex_8e157 5 = .ok (.iload_n 1, 1) := by decide +kernel
theorem dJ3_checkIndex_8e157_6 : decode cJ3_checkIndex_8e157 6 = .ok (.if_icmp .lt 10, 3) := by decide +kernel
theorem dJ3_checkIndex_8e157_9 : decode cJ3_checkIndex_8e157 9 = .ok (.aload_n 2, 1) := by decide +kernel
theorem dJ3_checkIndex_8e157_10 : decode cJ3_checkIndex_8e157 10 = .ok (.iload_n 0, 1) := by decide +kernel
theorem dJ3_checkIndex_8e157_11 : decode cJ3_checkIndex_8e157 11 = .ok (.iload_n 1, 1) := by decide +kernel
theorem dJ3_checkIndex_8e157_12 : decode cJ3_checkIndex_8e157 12 = .ok (.invokestatic 95, 3) := by decide +kernel
theorem dJ3_checkIndex_8e157_15 : decode cJ3_checkIndex_8e157 15 = .ok (.athrow, 1) := by decide +kernel
theorem dJ3_checkIndex_8e157_16 : decode cJ3_checkIndex_8e157 16 = .ok (.iload_n 0, 1) := by decide +kernel
theorem dJ3_checkIndex_8e157_17 : decode cJ3_checkIndex_8e157 17 = .ok (.ireturn, 1) := by decide +kernel
theorem dJ3_checkFromToIndex_8c36e_0 : decode cJ3_checkFromToIndex_8c36e 0 = .ok (.iload_n 0, 1) := by decide +kernel
theorem dJ3_checkFromToIndex_8c36e_1 : decode cJ3_checkFromToIndex_8c36e 1 = .ok (.ifCond .lt 13, 3) := by decide +kernel
theorem dJ3_checkFromToIndex_8c36e_4 : decode cJ3_checkFromToIndex_8c36e 4 = .ok (.iload_n 0, 1) := by decide +kernel
theorem dJ3_checkFromToIndex_8c36e_5 : decode cJ3_checkFromToIndex_8c36e 5 = .ok (.iload_n 1, 1) := by decide +kernel
theorem dJ3_checkFromToIndex_8c36e_6 : decode cJ3_checkFromToIndex_8c36e 6 = .ok (.if_icmp .gt 8, 3) := by decide +kernel
theorem dJ3_checkFromToIndex_8c36e_9 : decode cJ3_checkFromToIndex_8c36e 9 = .ok (.iload_n 1, 1) := by decide +kernel
theorem dJ3_checkFromToIndex_8c36e_10 : decode cJ3_checkFromToIndex_8c36e 10 = .ok (.iload_n 2, 1) := by decide +kernel
theorem dJ3_checkFromToIndex_8c36e_11 : decode cJ3_checkFromToIndex_8c36e 11 = .ok (.if_icmp .le 11, 3) := by decide +kernel
theorem dJ3_checkFromToIndex_8c36e_14 : decode cJ3_checkFromToIndex_8c36e 14 = .ok (.aload_n 3, 1) := by decide +kernel
theorem dJ3_checkFromToIndex_8c36e_15 : decode cJ3_checkFromToIndex_8c36e 15 = .ok (.iload_n 0, 1) := by decide +kernel
theorem dJ3_checkFromToIndex_8c36e_16 : decode cJ3_checkFromToIndex_8c36e 16 = .ok (.iload_n 1, 1) := by decide +kernel
theorem dJ3_checkFromToIndex_8c36e_17 : decode cJ3_checkFromToIndex_8c36e 17 = .ok (.iload_n 2, 1) := by decide +kernel
theorem dJ3_checkFromToIndex_8c36e_18 : decode cJ3_checkFromToIndex_8c36e 18 = .ok (.invokestatic 99, 3) := by decide +kernel
theorem dJ3_checkFromToIndex_8c36e_21 : decode cJ3_checkFromToIndex_8c36e 21 = .ok (.athrow, 1) := by decide +kernel
theorem dJ3_checkFromToIndex_8c36e_22 : decode cJ3_checkFromToIndex_8c36e 22 = .ok (.iload_n 0, 1) := by decide +kernel
theorem dJ3_checkFromToIndex_8c36e_23 : decode cJ3_checkFromToIndex_8c36e 23 = .ok (.ireturn, 1) := by decide +kernel
theorem dJ3_checkFromIndexSize_8c36e_0 : decode cJ3_checkFromIndexSize_8c36e 0 = .ok (.iload_n 2, 1) := by decide +kernel
theorem dJ3_checkFromIndexSize_8c36e_1 : decode cJ3_checkFromIndexSize_8c36e 1 = .ok (.iload_n 0, 1) := by decide +kernel
theorem dJ3_checkFromIndexSize_8c36e_2 : decode cJ3_checkFromIndexSize_8c36e 2 = .ok (.ior, 1) := by decide +kernel
theorem dJ3_checkFromIndexSize_8c36e_3 : decode cJ3_checkFromIndexSize_8c36e 3 = .ok (.iload_n 1, 1) := by decide +kernel
theorem dJ3_checkFromIndexSize_8c36e_4 : decode cJ3_checkFromIndexSize_8c36e 4 = .ok (.ior, 1) := by decide +kernel
theorem dJ3_checkFromIndexSize_8c36e_5 : decode cJ3_checkFromIndexSize_8c36e 5 = .ok (.ifCond .lt 10, 3) := by decide +kernel
theorem dJ3_checkFromIndexSize_8c36e_8 : decode cJ3_checkFromIndexSize_8c36e 8 = .ok (.iload_n 1, 1) := by decide +kernel
theorem dJ3_checkFromIndexSize_8c36e_9 : decode cJ3_checkFromIndexSize_8c36e 9 = .ok (.iload_n 2, 1) := by decide +kernel
theorem dJ3_checkFromIndexSize_8c36e_10 : decode cJ3_checkFromIndexSize_8c36e 10 = .ok (.iload_n 0, 1) := by decide +kernel
theorem dJ3_checkFromIndexSize_8c36e_11 : decode cJ3_checkFromIndexSize_8c36e 11 = .ok (.isub, 1) := by decide +kernel
theorem dJ3_checkFromIndexSize_8c36e_12 : decode cJ3_checkFromIndexSize_8c36e 12 = .ok (.if_icmp .le 11, 3) := by decide +kernel
theorem dJ3_checkFromIndexSize_8c36e_15 : decode cJ3_checkFromIndexSize_8c36e 15 = .ok (.aload_n 3, 1) := by decide +kernel
theorem dJ3_checkFromIndexSize_8c36e_16 : decode cJ3_checkFromIndexSize_8c36e 16 = .ok (.iload_n 0, 1) := by decide +kernel
theorem dJ3_checkFromIndexSize_8c36e_17 : decode cJ3_checkFromIndexSize_8c36e 17 = .ok (.iload_n 1, 1) := by decide +kernel
theorem dJ3_checkFromIndexSize_8c36e_18 : decode cJ3_checkFromIndexSize_8c36e 18 = .ok (.iload_n 2, 1) := by decide +kernel
theorem dJ3_checkFromIndexSize_8c36e_19 : decode cJ3_checkFromIndexSize_8c36e 19 = .ok (.invokestatic 103, 3) := by decide +kernel
theorem dJ3_checkFromIndexSize_8c36e_22 : decode cJ3_checkFromIndexSize_8c36e 22 = .ok (.athrow, 1) := by decide +kernel
theorem dJ3_checkFromIndexSize_8c36e_23 : decode cJ3_checkFromIndexSize_8c36e 23 = .ok (.iload_n 0, 1) := by decide +kernel
theorem dJ3_checkFromIndexSize_8c36e_24 : decode cJ3_checkFromIndexSize_8c36e 24 = .ok (.ireturn, 1) := by decide +kernel
theorem dL_draw_0 : decode cL_draw 0 = .ok (.iload_n 1, 1) := by decide +kernel
theorem dL_draw_1 : decode cL_draw 1 = .ok (.aload_n 0, 1) := by decide +kernel
theorem dL_draw_2 : decode cL_draw 2 = .ok (.arraylength, 1) := by decide +kernel
theorem dL_draw_3 : decode cL_draw 3 = .ok (.if_icmp .ge 12, 3) := by decide +kernel
theorem dL_draw_6 : decode cL_draw 6 = .ok (.aload_n 0, 1) := by decide +kernel
theorem dL_draw_7 : decode cL_draw 7 = .ok (.iload_n 1, 1) := by decide +kernel
theorem dL_draw_8 : decode cL_draw 8 = .ok (.iaload, 1) := by decide +kernel
theorem dL_draw_9 : decode cL_draw 9 = .ok (.ldc 7, 2) := by decide +kernel
theorem dL_draw_11 : decode cL_draw 11 = .ok (.iand, 1) := by decide +kernel
theorem dL_draw_12 : decode cL_draw 12 = .ok (.goto 4, 3) := by decide +kernel
theorem dL_draw_15 : decode cL_draw 15 = .ok (.iconst 0, 1) := by decide +kernel
theorem dL_draw_16 : decode cL_draw 16 = .ok (.ireturn, 1) := by decide +kernel
theorem dL_lays_0 : decode cL_lays 0 = .ok (.aload_n 0, 1) := by decide +kernel
theorem dL_lays_1 : decode cL_lays 1 = .ok (.iconst 0, 1) := by decide +kernel
theorem dL_lays_2 : decode cL_lays 2 = .ok (.invokevirtual 8, 3) := by decide +kernel
theorem dL_lays_5 : decode cL_lays 5 = .ok (.ifCond .ne 5, 3) := by decide +kernel
theorem dL_lays_8 : decode cL_lays 8 = .ok (.iconst 0, 1) := by decide +kernel
theorem dL_lays_9 : decode cL_lays 9 = .ok (.ireturn, 1) := by decide +kernel
theorem dL_lays_10 : decode cL_lays 10 = .ok (.iconst 0, 1) := by decide +kernel
theorem dL_lays_11 : decode cL_lays 11 = .ok (.istore_n 2, 1) := by decide +kernel
theorem dL_lays_12 : decode cL_lays 12 = .ok (.iconst 0, 1) := by decide +kernel
theorem dL_lays_13 : decode cL_lays 13 = .ok (.istore_n 3, 1) := by decide +kernel
theorem dL_lays_14 : decode cL_lays 14 = .ok (.iload_n 3, 1) := by decide +kernel
theorem dL_lays_15 : decode cL_lays 15 = .ok (.aload_n 1, 1) := by decide +kernel
theorem dL_lays_16 : decode cL_lays 16 = .ok (.invokeinterface 14 1, 5) := by decide +kernel
theorem dL_lays_21 : decode cL_lays 21 = .ok (.if_icmp .ge 107, 3) := by decide +kernel
theorem dL_lays_24 : decode cL_lays 24 = .ok (.iconst 5, 1) := by decide +kernel
theorem dL_lays_25 : decode cL_lays 25 = .ok (.newarray .int, 2) := by decide +kernel
theorem dL_lays_27 : decode cL_lays 27 = .ok (.astore 4, 2) := by decide +kernel
theorem dL_lays_29 : decode cL_lays 29 = .ok (.iconst 0, 1) := by decide +kernel
theorem dL_lays_30 : decode cL_lays 30 = .ok (.istore 5, 2) := by decide +kernel
theorem dL_lays_32 : decode cL_lays 32 = .ok (.iload 5, 2) := by decide +kernel
theorem dL_lays_34 : decode cL_lays 34 = .ok (.bipush 20, 2) := by decide +kernel
theorem dL_lays_36 : decode cL_lays 36 = .ok (.if_icmp .ge 53, 3) := by decide +kernel
theorem dL_lays_39 : decode cL_lays 39 = .ok (.iload_n 3, 1) := by decide +kernel
theorem dL_lays_40 : decode cL_lays 40 = .ok (.iload 5, 2) := by decide +kernel
theorem dL_lays_42 : decode cL_lays 42 = .ok (.iadd, 1) := by decide +kernel
theorem dL_lays_43 : decode cL_lays 43 = .ok (.aload_n 1, 1) := by decide +kernel
theorem dL_lays_44 : decode cL_lays 44 = .ok (.invokeinterface 14 1, 5) := by decide +kernel
theorem dL_lays_49 : decode cL_lays 49 = .ok (.if_icmp .ge 40, 3) := by decide +kernel
theorem dL_lays_52 : decode cL_lays 52 = .ok (.aload 4, 2) := by decide +kernel
theorem dL_lays_54 : decode cL_lays 54 = .ok (.iload 5, 2) := by decide +kernel
theorem dL_lays_56 : decode cL_lays 56 = .ok (.iconst 4, 1) := by decide +kernel
theorem dL_lays_57 : decode cL_lays 57 = .ok (.idiv, 1) := by decide +kernel
theorem dL_lays_58 : decode cL_lays 58 = .ok (.dup2, 1) := by decide +kernel
theorem dL_lays_59 : decode cL_lays 59 = .ok (.iaload, 1) := by decide +kernel
theorem dL_lays_60 : decode cL_lays 60 = .ok (.aload_n 1, 1) := by decide +kernel
theorem dL_lays_61 : decode cL_lays 61 = .ok (.iload_n 3, 1) := by decide +kernel
theorem dL_lays_62 : decode cL_lays 62 = .ok (.iload 5, 2) := by decide +kernel
theorem dL_lays_64 : decode cL_lays 64 = .ok (.iadd, 1) := by decide +kernel
theorem dL_lays_65 : decode cL_lays 65 = .ok (.invokeinterface 20 2, 5) := by decide +kernel
theorem dL_lays_70 : decode cL_lays 70 = .ok (.bipush 24, 2) := by decide +kernel
theorem dL_lays_72 : decode cL_lays 72 = .ok (.bipush 8, 2) := by decide +kernel
theorem dL_lays_74 : decode cL_lays 74 = .ok (.iload 5, 2) := by decide +kernel
theorem dL_lays_76 : decode cL_lays 76 = .ok (.iconst 4, 1) := by decide +kernel
theorem dL_lays_77 : decode cL_lays 77 = .ok (.irem, 1) := by decide +kernel
theorem dL_lays_78 : decode cL_lays 78 = .ok (.imul, 1) := by decide +kernel
theorem dL_lays_79 : decode cL_lays 79 = .ok (.isub, 1) := by decide +kernel
theorem dL_lays_80 : decode cL_lays 80 = .ok (.ishl, 1) := by decide +kernel
theorem dL_lays_81 : decode cL_lays 81 = .ok (.ior, 1) := by decide +kernel
theorem dL_lays_82 : decode cL_lays 82 = .ok (.iastore, 1) := by decide +kernel
theorem dL_lays_83 : decode cL_lays 83 = .ok (.iinc 5 1, 3) := by decide +kernel
theorem dL_lays_86 : decode cL_lays 86 = .ok (.goto (-54), 3) := by decide +kernel
theorem dL_lays_89 : decode cL_lays 89 = .ok (.iinc 2 20, 3) := by decide +kernel
theorem dL_lays_92 : decode cL_lays 92 = .ok (.aload_n 0, 1) := by decide +kernel
theorem dL_lays_93 : decode cL_lays 93 = .ok (.aload 4, 2) := by decide +kernel
theorem dL_lays_95 : decode cL_lays 95 = .ok (.iconst 0, 1) := by decide +kernel
theorem dL_lays_96 : decode cL_lays 96 = .ok (.iaload, 1) := by decide +kernel
theorem dL_lays_97 : decode cL_lays 97 = .ok (.aload 4, 2) := by decide +kernel
theorem dL_lays_99 : decode cL_lays 99 = .ok (.iconst 1, 1) := by decide +kernel
theorem dL_lays_100 : decode cL_lays 100 = .ok (.iaload, 1) := by decide +kernel
theorem dL_lays_101 : decode cL_lays 101 = .ok (.aload 4, 2) := by decide +kernel
theorem dL_lays_103 : decode cL_lays 103 = .ok (.iconst 2, 1) := by decide +kernel
theorem dL_lays_104 : decode cL_lays 104 = .ok (.iaload, 1) := by decide +kernel
theorem dL_lays_105 : decode cL_lays 105 = .ok (.aload 4, 2) := by decide +kernel
theorem dL_lays_107 : decode cL_lays 107 = .ok (.iconst 3, 1) := by decide +kernel
theorem dL_lays_108 : decode cL_lays 108 = .ok (.iaload, 1) := by decide +kernel
theorem dL_lays_109 : decode cL_lays 109 = .ok (.aload 4, 2) := by decide +kernel
theorem dL_lays_111 : decode cL_lays 111 = .ok (.iconst 4, 1) := by decide +kernel
theorem dL_lays_112 : decode cL_lays 112 = .ok (.iaload, 1) := by decide +kernel
theorem dL_lays_113 : decode cL_lays 113 = .ok (.invokevirtual 24, 3) := by decide +kernel
theorem dL_lays_116 : decode cL_lays 116 = .ok (.iload_n 2, 1) := by decide +kernel
theorem dL_lays_117 : decode cL_lays 117 = .ok (.if_icmp .eq 5, 3) := by decide +kernel
theorem dL_lays_120 : decode cL_lays 120 = .ok (.iconst 0, 1) := by decide +kernel
theorem dL_lays_121 : decode cL_lays 121 = .ok (.ireturn, 1) := by decide +kernel
theorem dL_lays_122 : decode cL_lays 122 = .ok (.iinc 3 20, 3) := by decide +kernel
theorem dL_lays_125 : decode cL_lays 125 = .ok (.goto (-111), 3) := by decide +kernel
theorem dL_lays_128 : decode cL_lays 128 = .ok (.aload_n 0, 1) := by decide +kernel
theorem dL_lays_129 : decode cL_lays 129 = .ok (.aload_n 1, 1) := by decide +kernel
theorem dL_lays_130 : decode cL_lays 130 = .ok (.invokeinterface 14 1, 5) := by decide +kernel
theorem dL_lays_135 : decode cL_lays 135 = .ok (.invokevirtual 8, 3) := by decide +kernel
theorem dL_lays_138 : decode cL_lays 138 = .ok (.ireturn, 1) := by decide +kernel
theorem dL_loads_0 : decode cL_loads 0 = .ok (.aload_n 1, 1) := by decide +kernel
theorem dL_loads_1 : decode cL_loads 1 = .ok (.iconst 3, 1) := by decide +kernel
theorem dL_loads_2 : decode cL_loads 2 = .ok (.invokevirtual 28, 3) := by decide +kernel
theorem dL_loads_5 : decode cL_loads 5 = .ok (.istore 4, 2) := by decide +kernel
theorem dL_loads_7 : decode cL_loads 7 = .ok (.new 34, 3) := by decide +kernel
theorem dL_loads_10 : decode cL_loads 10 = .ok (.dup, 1) := by decide +kernel
theorem dL_loads_11 : decode cL_loads 11 = .ok (.ldc 36, 2) := by decide +kernel
theorem dL_loads_13 : decode cL_loads 13 = .ok (.invokespecial 38, 3) := by decide +kernel
theorem dL_loads_16 : decode cL_loads 16 = .ok (.iload_n 2, 1) := by decide +kernel
theorem dL_loads_17 : decode cL_loads 17 = .ok (.invokevirtual 41, 3) := by decide +kernel
theorem dL_loads_20 : decode cL_loads 20 = .ok (.bipush 32, 2) := by decide +kernel
theorem dL_loads_22 : decode cL_loads 22 = .ok (.invokevirtual 44, 3) := by decide +kernel
theorem dL_loads_25 : decode cL_loads 25 = .ok (.iconst 1, 1) := by decide +kernel
theorem dL_loads_26 : decode cL_loads 26 = .ok (.aload_n 1, 1) := by decide +kernel
theorem dL_loads_27 : decode cL_loads 27 = .ok (.iconst 4, 1) := by decide +kernel
theorem dL_loads_28 : decode cL_loads 28 = .ok (.invokevirtual 28, 3) := by decide +kernel
theorem dL_loads_31 : decode cL_loads 31 = .ok (.iadd, 1) := by decide +kernel
theorem dL_loads_32 : decode cL_loads 32 = .ok (.invokevirtual 41, 3) := by decide +kernel
theorem dL_loads_35 : decode cL_loads 35 = .ok (.iload 4, 2) := by decide +kernel
theorem dL_loads_37 : decode cL_loads 37 = .ok (.ifCond .ne 8, 3) := by decide +kernel
theorem dL_loads_40 : decode cL_loads 40 = .ok (.ldc 47, 2) := by decide +kernel
theorem dL_loads_42 : decode cL_loads 42 = .ok (.goto 16, 3) := by decide +kernel
theorem dL_loads_45 : decode cL_loads 45 = .ok (.iload 4, 2) := by decide +kernel
theorem dL_loads_47 : decode cL_loads 47 = .ok (.iconst 1, 1) := by decide +kernel
theorem dL_loads_48 : decode cL_loads 48 = .ok (.if_icmp .ne 8, 3) := by decide +kernel
theorem dL_loads_51 : decode cL_loads 51 = .ok (.ldc 49, 2) := by decide +kernel
theorem dL_loads_53 : decode cL_loads 53 = .ok (.goto 5, 3) := by decide +kernel
theorem dL_loads_56 : decode cL_loads 56 = .ok (.ldc 51, 2) := by decide +kernel
theorem dL_loads_58 : decode cL_loads 58 = .ok (.invokevirtual 53, 3) := by decide +kernel
theorem dL_loads_61 : decode cL_loads 61 = .ok (.astore 5, 2) := by decide +kernel
theorem dL_loads_63 : decode cL_loads 63 = .ok (.iconst 0, 1) := by decide +kernel
theorem dL_loads_64 : decode cL_loads 64 = .ok (.istore 6, 2) := by decide +kernel
theorem dL_loads_66 : decode cL_loads 66 = .ok (.iload 6, 2) := by decide +kernel
theorem dL_loads_68 : decode cL_loads 68 = .ok (.iload_n 3, 1) := by decide +kernel
theorem dL_loads_69 : decode cL_loads 69 = .ok (.if_icmp .ge 84, 3) := by decide +kernel
theorem dL_loads_72 : decode cL_loads 72 = .ok (.aload_n 1, 1) := by decide +kernel
theorem dL_loads_73 : decode cL_loads 73 = .ok (.iload_n 2, 1) := by decide +kernel
theorem dL_loads_74 : decode cL_loads 74 = .ok (.invokevirtual 28, 3) := by decide +kernel
theorem dL_loads_77 : decode cL_loads 77 = .ok (.istore 7, 2) := by decide +kernel
theorem dL_loads_79 : decode cL_loads 79 = .ok (.aload 5, 2) := by decide +kernel
theorem dL_loads_81 : decode cL_loads 81 = .ok (.ldc 56, 2) := by decide +kernel
theorem dL_loads_83 : decode cL_loads 83 = .ok (.invokevirtual 53, 3) := by decide +kernel
theorem dL_loads_86 : decode cL_loads 86 = .ok (.iload 7, 2) := by decide +kernel
theorem dL_loads_88 : decode cL_loads 88 = .ok (.invokevirtual 41, 3) := by decide +kernel
theorem dL_loads_91 : decode cL_loads 91 = .ok (.bipush 32, 2) := by decide +kernel
theorem dL_loads_93 : decode cL_loads 93 = .ok (.invokevirtual 44, 3) := by decide +kernel
theorem dL_loads_96 : decode cL_loads 96 = .ok (.iload 7, 2) := by decide +kernel
theorem dL_loads_98 : decode cL_loads 98 = .ok (.iconst 1, 1) := by decide +kernel
theorem dL_loads_99 : decode cL_loads 99 = .ok (.iadd, 1) := by decide +kernel
theorem dL_loads_100 : decode cL_loads 100 = .ok (.aload_n 1, 1) := by decide +kernel
theorem dL_loads_101 : decode cL_loads 101 = .ok (.iload_n 2, 1) := by decide +kernel
theorem dL_loads_102 : decode cL_loads 102 = .ok (.iconst 1, 1) := by decide +kernel
theorem dL_loads_103 : decode cL_loads 103 = .ok (.isub, 1) := by decide +kernel
theorem dL_loads_104 : decode cL_loads 104 = .ok (.invokevirtual 28, 3) := by decide +kernel
theorem dL_loads_107 : decode cL_loads 107 = .ok (.iadd, 1) := by decide +kernel
theorem dL_loads_108 : decode cL_loads 108 = .ok (.iload_n 2, 1) := by decide +kernel
theorem dL_loads_109 : decode cL_loads 109 = .ok (.irem, 1) := by decide +kernel
theorem dL_loads_110 : decode cL_loads 110 = .ok (.invokevirtual 41, 3) := by decide +kernel
theorem dL_loads_113 : decode cL_loads 113 = .ok (.pop, 1) := by decide +kernel
theorem dL_loads_114 : decode cL_loads 114 = .ok (.aload_n 1, 1) := by decide +kernel
theorem dL_loads_115 : decode cL_loads 115 = .ok (.iconst 2, 1) := by decide +kernel
theorem dL_loads_116 : decode cL_loads 116 = .ok (.invokevirtual 28, 3) := by decide +kernel
theorem dL_loads_119 : decode cL_loads 119 = .ok (.ifCond .ne 20, 3) := by decide +kernel
theorem dL_loads_122 : decode cL_loads 122 = .ok (.aload 5, 2) := by decide +kernel
theorem dL_loads_124 : decode cL_loads 124 = .ok (.ldc 58, 2) := by decide +kernel
theorem dL_loads_126 : decode cL_loads 126 = .ok (.invokevirtual 53, 3) := by decide +kernel
theorem dL_loads_129 : decode cL_loads 129 = .ok (.aload_n 1, 1) := by decide +kernel
theorem dL_loads_130 : decode cL_loads 130 = .ok (.bipush 40, 2) := by decide +kernel
theorem dL_loads_132 : decode cL_loads 132 = .ok (.invokevirtual 28, 3) := by decide +kernel
theorem dL_loads_135 : decode cL_loads 135 = .ok (.invokevirtual 41, 3) := by decide +kernel
theorem dL_loads_138 : decode cL_loads 138 = .ok (.pop, 1) := by decide +kernel
theorem dL_loads_139 : decode cL_loads 139 = .ok (.aload 5, 2) := by decide +kernel
theorem dL_loads_141 : decode cL_loads 141 = .ok (.bipush 59, 2) := by decide +kernel
theorem dL_loads_143 : decode cL_loads 143 = .ok (.invokevirtual 44, 3) := by decide +kernel
theorem dL_loads_146 : decode cL_loads 146 = .ok (.pop, 1) := by decide +kernel
theorem dL_loads_147 : decode cL_loads 147 = .ok (.iinc 6 1, 3) := by decide +kernel
theorem dL_loads_150 : decode cL_loads 150 = .ok (.goto (-84), 3) := by decide +kernel
theorem dL_loads_153 : decode cL_loads 153 = .ok (.aload_n 0, 1) := by decide +kernel
theorem dL_loads_154 : decode cL_loads 154 = .ok (.aload 5, 2) := by decide +kernel
theorem dL_loads_156 : decode cL_loads 156 = .ok (.invokestatic 60, 3) := by decide +kernel
theorem dL_loads_159 : decode cL_loads 159 = .ok (.ifCond .eq 46, 3) := by decide +kernel
theorem dL_loads_162 : decode cL_loads 162 = .ok (.aload_n 0, 1) := by decide +kernel
theorem dL_loads_163 : decode cL_loads 163 = .ok (.invokevirtual 66, 3) := by decide +kernel
theorem dL_loads_166 : decode cL_loads 166 = .ok (.iload_n 3, 1) := by decide +kernel
theorem dL_loads_167 : decode cL_loads 167 = .ok (.if_icmp .ne 38, 3) := by decide +kernel
theorem dL_loads_170 : decode cL_loads 170 = .ok (.aload_n 0, 1) := by decide +kernel
theorem dL_loads_171 : decode cL_loads 171 = .ok (.invokevirtual 69, 3) := by decide +kernel
theorem dL_loads_174 : decode cL_loads 174 = .ok (.iload_n 2, 1) := by decide +kernel
theorem dL_loads_175 : decode cL_loads 175 = .ok (.if_icmp .ne 30, 3) := by decide +kernel
theorem dL_loads_178 : decode cL_loads 178 = .ok (.aload_n 0, 1) := by decide +kernel
theorem dL_loads_179 : decode cL_loads 179 = .ok (.invokevirtual 72, 3) := by decide +kernel
theorem dL_loads_182 : decode cL_loads 182 = .ok (.iload 4, 2) := by decide +kernel
theorem dL_loads_184 : decode cL_loads 184 = .ok (.if_icmp .ne 21, 3) := by decide +kernel
theorem dL_loads_187 : decode cL_loads 187 = .ok (.aload_n 0, 1) := by decide +kernel
theorem dL_loads_188 : decode cL_loads 188 = .ok (.invokevirtual 75, 3) := by decide +kernel
theorem dL_loads_191 : decode cL_loads 191 = .ok (.ifCond .ne 14, 3) := by decide +kernel
theorem dL_loads_194 : decode cL_loads 194 = .ok (.aload_n 0, 1) := by decide +kernel
theorem dL_loads_195 : decode cL_loads 195 = .ok (.invokevirtual 78, 3) := by decide +kernel
theorem dL_loads_198 : decode cL_loads 198 = .ok (.ifCond .ne 7, 3) := by decide +kernel
theorem dL_loads_201 : decode cL_loads 201 = .ok (.iconst 1, 1) := by decide +kernel
theorem dL_loads_202 : decode cL_loads 202 = .ok (.goto 4, 3) := by decide +kernel
theorem dL_loads_205 : decode cL_loads 205 = .ok (.iconst 0, 1) := by decide +kernel
theorem dL_loads_206 : decode cL_loads 206 = .ok (.ireturn, 1) := by decide +kernel
theorem dL_law_0 : decode cL_law 0 = .ok (.new 29, 3) := by decide +kernel
theorem dL_law_3 : decode cL_law 3 = .ok (.dup, 1) := by decide +kernel
theorem dL_law_4 : decode cL_law 4 = .ok (.aload_n 0, 1) := by decide +kernel
theorem dL_law_5 : decode cL_law 5 = .ok (.iconst 0, 1) := by decide +kernel
theorem dL_law_6 : decode cL_law 6 = .ok (.invokestatic 81, 3) := by decide +kernel
theorem dL_law_9 : decode cL_law 9 = .ok (.invokespecial 85, 3) := by decide +kernel
theorem dL_law_12 : decode cL_law 12 = .ok (.astore_n 1, 1) := by decide +kernel
theorem dL_law_13 : decode cL_law 13 = .ok (.new 9, 3) := by decide +kernel
theorem dL_law_16 : decode cL_law 16 = .ok (.dup, 1) := by decide +kernel
theorem dL_law_17 : decode cL_law 17 = .ok (.invokespecial 88, 3) := by decide +kernel
theorem dL_law_20 : decode cL_law 20 = .ok (.astore_n 2, 1) := by decide +kernel
theorem dL_law_21 : decode cL_law 21 = .ok (.iconst 2, 1) := by decide +kernel
theorem dL_law_22 : decode cL_law 22 = .ok (.aload_n 0, 1) := by decide +kernel
theorem dL_law_23 : decode cL_law 23 = .ok (.iconst 1, 1) := by decide +kernel
theorem dL_law_24 : decode cL_law 24 = .ok (.invokestatic 81, 3) := by decide +kernel
theorem dL_law_27 : decode cL_law 27 = .ok (.bipush 9, 2) := by decide +kernel
theorem dL_law_29 : decode cL_law 29 = .ok (.irem, 1) := by decide +kernel
theorem dL_law_30 : decode cL_law 30 = .ok (.iadd, 1) := by decide +kernel
theorem dL_law_31 : decode cL_law 31 = .ok (.istore_n 3, 1) := by decide +kernel
theorem dL_law_32 : decode cL_law 32 = .ok (.aload_n 0, 1) := by decide +kernel
theorem dL_law_33 : decode cL_law 33 = .ok (.iconst 1, 1) := by decide +kernel
theorem dL_law_34 : decode cL_law 34 = .ok (.invokestatic 81, 3) := by decide +kernel
theorem dL_law_37 : decode cL_law 37 = .ok (.bipush 16, 2) := by decide +kernel
theorem dL_law_39 : decode cL_law 39 = .ok (.idiv, 1) := by decide +kernel
theorem dL_law_40 : decode cL_law 40 = .ok (.bipush 11, 2) := by decide +kernel
theorem dL_law_42 : decode cL_law 42 = .ok (.irem, 1) := by decide +kernel
theorem dL_law_43 : decode cL_law 43 = .ok (.istore 4, 2) := by decide +kernel
theorem dL_law_45 : decode cL_law 45 = .ok (.aload_n 2, 1) := by decide +kernel
theorem dL_law_46 : decode cL_law 46 = .ok (.aload_n 1, 1) := by decide +kernel
theorem dL_law_47 : decode cL_law 47 = .ok (.iload_n 3, 1) := by decide +kernel
theorem dL_law_48 : decode cL_law 48 = .ok (.iload 4, 2) := by decide +kernel
theorem dL_law_50 : decode cL_law 50 = .ok (.invokestatic 89, 3) := by decide +kernel
theorem dL_law_53 : decode cL_law 53 = .ok (.ifCond .ne 5, 3) := by decide +kernel
theorem dL_law_56 : decode cL_law 56 = .ok (.iconst 0, 1) := by decide +kernel
theorem dL_law_57 : decode cL_law 57 = .ok (.ireturn, 1) := by decide +kernel
theorem dL_law_58 : decode cL_law 58 = .ok (.iconst 2, 1) := by decide +kernel
theorem dL_law_59 : decode cL_law 59 = .ok (.istore 5, 2) := by decide +kernel
theorem dL_law_61 : decode cL_law 61 = .ok (.iload 5, 2) := by decide +kernel
theorem dL_law_63 : decode cL_law 63 = .ok (.aload_n 0, 1) := by decide +kernel
theorem dL_law_64 : decode cL_law 64 = .ok (.arraylength, 1) := by decide +kernel
theorem dL_law_65 : decode cL_law 65 = .ok (.if_icmp .ge 863, 3) := by decide +kernel
theorem dL_law_68 : decode cL_law 68 = .ok (.iload 5, 2) := by decide +kernel
theorem dL_law_70 : decode cL_law 70 = .ok (.bipush 26, 2) := by decide +kernel
theorem dL_law_72 : decode cL_law 72 = .ok (.if_icmp .ge 856, 3) := by decide +kernel
theorem dL_law_75 : decode cL_law 75 = .ok (.aload_n 2, 1) := by decide +kernel
theorem dL_law_76 : decode cL_law 76 = .ok (.iconst 2, 1) := by decide +kernel
theorem dL_law_77 : decode cL_law 77 = .ok (.invokevirtual 93, 3) := by decide +kernel
theorem dL_law_80 : decode cL_law 80 = .ok (.istore 6, 2) := by decide +kernel
theorem dL_law_82 : decode cL_law 82 = .ok (.iload 6, 2) := by decide +kernel
theorem dL_law_84 : decode cL_law 84 = .ok (.aload_n 2, 1) := by decide +kernel
theorem dL_law_85 : decode cL_law 85 = .ok (.invokevirtual 96, 3) := by decide +kernel
theorem dL_law_88 : decode cL_law 88 = .ok (.if_icmp .gt 45, 3) := by decide +kernel
theorem dL_law_91 : decode cL_law 91 = .ok (.aload_n 2, 1) := by decide +kernel
theorem dL_law_92 : decode cL_law 92 = .ok (.invokevirtual 99, 3) := by decide +kernel
theorem dL_law_95 : decode cL_law 95 = .ok (.iload 6, 2) := by decide +kernel
theorem dL_law_97 : decode cL_law 97 = .ok (.aload_n 2, 1) := by decide +kernel
theorem dL_law_98 : decode cL_law 98 = .ok (.invokevirtual 96, 3) := by decide +kernel
theorem dL_law_101 : decode cL_law 101 = .ok (.if_icmp .ne 7, 3) := by decide +kernel
theorem dL_law_104 : decode cL_law 104 = .ok (.iconst 1, 1) := by decide +kernel
theorem dL_law_105 : decode cL_law 105 = .ok (.goto 4, 3) := by decide +kernel
theorem dL_law_108 : decode cL_law 108 = .ok (.iconst 0, 1) := by decide +kernel
theorem dL_law_109 : decode cL_law 109 = .ok (.if_icmp .ne 24, 3) := by decide +kernel
theorem dL_law_112 : decode cL_law 112 = .ok (.aload_n 2, 1) := by decide +kernel
theorem dL_law_113 : decode cL_law 113 = .ok (.invokevirtual 78, 3) := by decide +kernel
theorem dL_law_116 : decode cL_law 116 = .ok (.aload_n 2, 1) := by decide +kernel
theorem dL_law_117 : decode cL_law 117 = .ok (.invokevirtual 103, 3) := by decide +kernel
theorem dL_law_120 : decode cL_law 120 = .ok (.aload_n 2, 1) := by decide +kernel
theorem dL_law_121 : decode cL_law 121 = .ok (.invokevirtual 106, 3) := by decide +kernel
theorem dL_law_124 : decode cL_law 124 = .ok (.iadd, 1) := by decide +kernel
theorem dL_law_125 : decode cL_law 125 = .ok (.aload_n 2, 1) := by decide +kernel
theorem dL_law_126 : decode cL_law 126 = .ok (.invokevirtual 109, 3) := by decide +kernel
theorem dL_law_129 : decode cL_law 129 = .ok (.iadd, 1) := by decide +kernel
theorem dL_law_130 : decode cL_law 130 = .ok (.if_icmp .eq 5, 3) := by decide +kernel
theorem dL_law_133 : decode cL_law 133 = .ok (.iconst 0, 1) := by decide +kernel
theorem dL_law_134 : decode cL_law 134 = .ok (.ireturn, 1) := by decide +kernel
theorem dL_law_135 : decode cL_law 135 = .ok (.aload_n 2, 1) := by decide +kernel
theorem dL_law_136 : decode cL_law 136 = .ok (.iconst 0, 1) := by decide +kernel
theorem dL_law_137 : decode cL_law 137 = .ok (.invokevirtual 93, 3) := by decide +kernel
theorem dL_law_140 : decode cL_law 140 = .ok (.aload_n 2, 1) := by decide +kernel
theorem dL_law_141 : decode cL_law 141 = .ok (.iconst 1, 1) := by decide +kernel
theorem dL_law_142 : decode cL_law 142 = .ok (.invokevirtual 93, 3) := by decide +kernel
theorem dL_law_145 : decode cL_law 145 = .ok (.iadd, 1) := by decide +kernel
theorem dL_law_146 : decode cL_law 146 = .ok (.iload 6, 2) := by decide +kernel
theorem dL_law_148 : decode cL_law 148 = .ok (.iadd, 1) := by decide +kernel
theorem dL_law_149 : decode cL_law 149 = .ok (.aload_n 2, 1) := by decide +kernel
theorem dL_law_150 : decode cL_law 150 = .ok (.iconst 3, 1) := by decide +kernel
theorem dL_law_151 : decode cL_law 151 = .ok (.invokevirtual 93, 3) := by decide +kernel
theorem dL_law_154 : decode cL_law 154 = .ok (.iadd, 1) := by decide +kernel
theorem dL_law_155 : decode cL_law 155 = .ok (.iload 4, 2) := by decide +kernel
theorem dL_law_157 : decode cL_law 157 = .ok (.if_icmp .ne 40, 3) := by decide +kernel
theorem dL_law_160 : decode cL_law 160 = .ok (.aload_n 2, 1) := by decide +kernel
theorem dL_law_161 : decode cL_law 161 = .ok (.invokevirtual 112, 3) := by decide +kernel
theorem dL_law_164 : decode cL_law 164 = .ok (.aload_n 2, 1) := by decide +kernel
theorem dL_law_165 : decode cL_law 165 = .ok (.iconst 3, 1) := by decide +kernel
theorem dL_law_166 : decode cL_law 166 = .ok (.invokevirtual 93, 3) := by decide +kernel
theorem dL_law_169 : decode cL_law 169 = .ok (.iload 4, 2) := by decide +kernel
theorem dL_law_171 : decode cL_law 171 = .ok (.if_icmp .ne 7, 3) := by decide +kernel
theorem dL_law_174 : decode cL_law 174 = .ok (.iconst 1, 1) := by decide +kernel
theorem dL_law_175 : decode cL_law 175 = .ok (.goto 4, 3) := by decide +kernel
theorem dL_law_178 : decode cL_law 178 = .ok (.iconst 0, 1) := by decide +kernel
theorem dL_law_179 : decode cL_law 179 = .ok (.if_icmp .ne 18, 3) := by decide +kernel
theorem dL_law_182 : decode cL_law 182 = .ok (.aload_n 2, 1) := by decide +kernel
theorem dL_law_183 : decode cL_law 183 = .ok (.invokevirtual 115, 3) := by decide +kernel
theorem dL_law_186 : decode cL_law 186 = .ok (.ifCond .lt 11, 3) := by decide +kernel
theorem dL_law_189 : decode cL_law 189 = .ok (.aload_n 2, 1) := by decide +kernel
theorem dL_law_190 : decode cL_law 190 = .ok (.invokevirtual 115, 3) := by decide +kernel
theorem dL_law_193 : decode cL_law 193 = .ok (.iload_n 3, 1) := by decide +kernel
theorem dL_law_194 : decode cL_law 194 = .ok (.if_icmp .lt 5, 3) := by decide +kernel
theorem dL_law_197 : decode cL_law 197 = .ok (.iconst 0, 1) := by decide +kernel
theorem dL_law_198 : decode cL_law 198 = .ok (.ireturn, 1) := by decide +kernel
theorem dL_law_199 : decode cL_law 199 = .ok (.iconst 0, 1) := by decide +kernel
theorem dL_law_200 : decode cL_law 200 = .ok (.istore 7, 2) := by decide +kernel
theorem dL_law_202 : decode cL_law 202 = .ok (.iconst 0, 1) := by decide +kernel
theorem dL_law_203 : decode cL_law 203 = .ok (.istore 8, 2) := by decide +kernel
theorem dL_law_205 : decode cL_law 205 = .ok (.iconst 0, 1) := by decide +kernel
theorem dL_law_206 : decode cL_law 206 = .ok (.istore 9, 2) := by decide +kernel
theorem dL_law_208 : decode cL_law 208 = .ok (.iload 9, 2) := by decide +kernel
theorem dL_law_210 : decode cL_law 210 = .ok (.iload 4, 2) := by decide +kernel
theorem dL_law_212 : decode cL_law 212 = .ok (.if_icmp .ge 356, 3) := by decide +kernel
theorem dL_law_215 : decode cL_law 215 = .ok (.aload_n 2, 1) := by decide +kernel
theorem dL_law_216 : decode cL_law 216 = .ok (.iload 9, 2) := by decide +kernel
theorem dL_law_218 : decode cL_law 218 = .ok (.invokevirtual 118, 3) := by decide +kernel
theorem dL_law_221 : decode cL_law 221 = .ok (.istore 10, 2) := by decide +kernel
theorem dL_law_223 : decode cL_law 223 = .ok (.aload_n 2, 1) := by decide +kernel
theorem dL_law_224 : decode cL_law 224 = .ok (.iload 9, 2) := by decide +kernel
theorem dL_law_226 : decode cL_law 226 = .ok (.invokevirtual 121, 3) := by decide +kernel
theorem dL_law_229 : decode cL_law 229 = .ok (.istore 11, 2) := by decide +kernel
theorem dL_law_231 : decode cL_law 231 = .ok (.aload_n 2, 1) := by decide +kernel
theorem dL_law_232 : decode cL_law 232 = .ok (.iload 9, 2) := by decide +kernel
theorem dL_law_234 : decode cL_law 234 = .ok (.invokevirtual 124, 3) := by decide +kernel
theorem dL_law_237 : decode cL_law 237 = .ok (.istore 12, 2) := by decide +kernel
theorem dL_law_239 : decode cL_law 239 = .ok (.aload_n 2, 1) := by decide +kernel
theorem dL_law_240 : decode cL_law 240 = .ok (.iload 9, 2) := by decide +kernel
theorem dL_law_242 : decode cL_law 242 = .ok (.invokevirtual 127, 3) := by decide +kernel
theorem dL_law_245 : decode cL_law 245 = .ok (.istore 13, 2) := by decide +kernel
theorem dL_law_247 : decode cL_law 247 = .ok (.iload 10, 2) := by decide +kernel
theorem dL_law_249 : decode cL_law 249 = .ok (.ifCond .ne 7, 3) := by decide +kernel
theorem dL_law_252 : decode cL_law 252 = .ok (.iconst 1, 1) := by decide +kernel
theorem dL_law_253 : decode cL_law 253 = .ok (.goto 4, 3) := by decide +kernel
theorem dL_law_256 : decode cL_law 256 = .ok (.iconst 0, 1) := by decide +kernel
theorem dL_law_257 : decode cL_law 257 = .ok (.aload_n 2, 1) := by decide +kernel
theorem dL_law_258 : decode cL_law 258 = .ok (.invokevirtual 78, 3) := by decide +kernel
theorem dL_law_261 : decode cL_law 261 = .ok (.iload 11, 2) := by decide +kernel
theorem dL_law_263 : decode cL_law 263 = .ok (.if_icmp .ge 7, 3) := by decide +kernel
theorem dL_law_266 : decode cL_law 266 = .ok (.iconst 1, 1) := by decide +kernel
theorem dL_law_267 : decode cL_law 267 = .ok (.goto 4, 3) := by decide +kernel
theorem dL_law_270 : decode cL_law 270 = .ok (.iconst 0, 1) := by decide +kernel
theorem dL_law_271 : decode cL_law 271 = .ok (.if_icmp .ne 53, 3) := by decide +kernel
theorem dL_law_274 : decode cL_law 274 = .ok (.iload 10, 2) := by decide +kernel
theorem dL_law_276 : decode cL_law 276 = .ok (.iconst 2, 1) := by decide +kernel
theorem dL_law_277 : decode cL_law 277 = .ok (.if_icmp .ge 7, 3) := by decide +kernel
theorem dL_law_280 : decode cL_law 280 = .ok (.iconst 1, 1) := by decide +kernel
theorem dL_law_281 : decode cL_law 281 = .ok (.goto 4, 3) := by decide +kernel
theorem dL_law_284 : decode cL_law 284 = .ok (.iconst 0, 1) := by decide +kernel
theorem dL_law_285 : decode cL_law 285 = .ok (.iload 12, 2) := by decide +kernel
theorem dL_law_287 : decode cL_law 287 = .ok (.iconst (-1), 1) := by decide +kernel
theorem dL_law_288 : decode cL_law 288 = .ok (.if_icmp .ne 7, 3) := by decide +kernel
theorem dL_law_291 : decode cL_law 291 = .ok (.iconst 1, 1) := by decide +kernel
theorem dL_law_292 : decode cL_law 292 = .ok (.goto 4, 3) := by decide +kernel
theorem dL_law_295 : decode cL_law 295 = .ok (.iconst 0, 1) := by decide +kernel
theorem dL_law_296 : decode cL_law 296 = .ok (.if_icmp .ne 28, 3) := by decide +kernel
theorem dL_law_299 : decode cL_law 299 = .ok (.iload 10, 2) := by decide +kernel
theorem dL_law_301 : decode cL_law 301 = .ok (.iconst 3, 1) := by decide +kernel
theorem dL_law_302 : decode cL_law 302 = .ok (.if_icmp .ne 7, 3) := by decide +kernel
theorem dL_law_305 : decode cL_law 305 = .ok (.iconst 1, 1) := by decide +kernel
theorem dL_law_306 : decode cL_law 306 = .ok (.goto 4, 3) := by decide +kernel
theorem dL_law_309 : decode cL_law 309 = .ok (.iconst 0, 1) := by decide +kernel
theorem dL_law_310 : decode cL_law 310 = .ok (.iload 13, 2) := by decide +kernel
theorem dL_law_312 : decode cL_law 312 = .ok (.iconst (-1), 1) := by decide +kernel
theorem dL_law_313 : decode cL_law 313 = .ok (.if_icmp .eq 7, 3) := by decide +kernel
theorem dL_law_316 : decode cL_law 316 = .ok (.iconst 1, 1) := by decide +kernel
theorem dL_law_317 : decode cL_law 317 = .ok (.goto 4, 3) := by decide +kernel
theorem dL_law_320 : decode cL_law 320 = .ok (.iconst 0, 1) := by decide +kernel
theorem dL_law_321 : decode cL_law 321 = .ok (.if_icmp .eq 5, 3) := by decide +kernel
theorem dL_law_324 : decode cL_law 324 = .ok (.iconst 0, 1) := by decide +kernel
theorem dL_law_325 : decode cL_law 325 = .ok (.ireturn, 1) := by decide +kernel
theorem dL_law_326 : decode cL_law 326 = .ok (.iload 12, 2) := by decide +kernel
theorem dL_law_328 : decode cL_law 328 = .ok (.iconst (-1), 1) := by decide +kernel
theorem dL_law_329 : decode cL_law 329 = .ok (.if_icmp .eq 26, 3) := by decide +kernel
theorem dL_law_332 : decode cL_law 332 = .ok (.iload 12, 2) := by decide +kernel
theorem dL_law_334 : decode cL_law 334 = .ok (.iload 11, 2) := by decide +kernel
theorem dL_law_336 : decode cL_law 336 = .ok (.if_icmp .lt 17, 3) := by decide +kernel
theorem dL_law_339 : decode cL_law 339 = .ok (.aload_n 2, 1) := by decide +kernel
theorem dL_law_340 : decode cL_law 340 = .ok (.iload 9, 2) := by decide +kernel
theorem dL_law_342 : decode cL_law 342 = .ok (.invokevirtual 130, 3) := by decide +kernel
theorem dL_law_345 : decode cL_law 345 = .ok (.iload 12, 2) := by decide +kernel
theorem dL_law_347 : decode cL_law 347 = .ok (.iload 11, 2) := by decide +kernel
theorem dL_law_349 : decode cL_law 349 = .ok (.isub, 1) := by decide +kernel
theorem dL_law_350 : decode cL_law 350 = .ok (.if_icmp .eq 5, 3) := by decide +kernel
theorem dL_law_353 : decode cL_law 353 = .ok (.iconst 0, 1) := by decide +kernel
theorem dL_law_354 : decode cL_law 354 = .ok (.ireturn, 1) := by decide +kernel
theorem dL_law_355 : decode cL_law 355 = .ok (.iload 13, 2) := by decide +kernel
theorem dL_law_357 : decode cL_law 357 = .ok (.iconst (-1), 1) := by decide +kernel
theorem dL_law_358 : decode cL_law 358 = .ok (.if_icmp .eq 35, 3) := by decide +kernel
theorem dL_law_361 : decode cL_law 361 = .ok (.iload 13, 2) := by decide +kernel
theorem dL_law_363 : decode cL_law 363 = .ok (.iload 12, 2) := by decide +kernel
theorem dL_law_365 : decode cL_law 365 = .ok (.if_icmp .le 26, 3) := by decide +kernel
theorem dL_law_368 : decode cL_law 368 = .ok (.aload_n 2, 1) := by decide +kernel
theorem dL_law_369 : decode cL_law 369 = .ok (.iload 9, 2) := by decide +kernel
theorem dL_law_371 : decode cL_law 371 = .ok (.invokevirtual 133, 3) := by decide +kernel
theorem dL_law_374 : decode cL_law 374 = .ok (.iload 13, 2) := by decide +kernel
theorem dL_law_376 : decode cL_law 376 = .ok (.iload 12, 2) := by decide +kernel
theorem dL_law_378 : decode cL_law 378 = .ok (.isub, 1) := by decide +kernel
theorem dL_law_379 : decode cL_law 379 = .ok (.if_icmp .ne 12, 3) := by decide +kernel
theorem dL_law_382 : decode cL_law 382 = .ok (.aload_n 2, 1) := by decide +kernel
theorem dL_law_383 : decode cL_law 383 = .ok (.iload 9, 2) := by decide +kernel
theorem dL_law_385 : decode cL_law 385 = .ok (.invokevirtual 136, 3) := by decide +kernel
theorem dL_law_388 : decode cL_law 388 = .ok (.ifCond .ge 5, 3) := by decide +kernel
theorem dL_law_391 : decode cL_law 391 = .ok (.iconst 0, 1) := by decide +kernel
theorem dL_law_392 : decode cL_law 392 = .ok (.ireturn, 1) := by decide +kernel
theorem dL_law_393 : decode cL_law 393 = .ok (.iload 12, 2) := by decide +kernel
theorem dL_law_395 : decode cL_law 395 = .ok (.iconst (-1), 1) := by decide +kernel
theorem dL_law_396 : decode cL_law 396 = .ok (.if_icmp .eq 13, 3) := by decide +kernel
theorem dL_law_399 : decode cL_law 399 = .ok (.iload 8, 2) := by decide +kernel
theorem dL_law_401 : decode cL_law 401 = .ok (.iload 12, 2) := by decide +kernel
theorem dL_law_403 : decode cL_law 403 = .ok (.iload 11, 2) := by decide +kernel
theorem dL_law_405 : decode cL_law 405 = .ok (.isub, 1) := by decide +kernel
theorem dL_law_406 : decode cL_law 406 = .ok (.iadd, 1) := by decide +kernel
theorem dL_law_407 : decode cL_law 407 = .ok (.istore 8, 2) := by decide +kernel
theorem dL_law_409 : decode cL_law 409 = .ok (.iload 10, 2) := by decide +kernel
theorem dL_law_411 : decode cL_law 411 = .ok (.iconst 2, 1) := by decide +kernel
theorem dL_law_412 : decode cL_law 412 = .ok (.if_icmp .ne 16, 3) := by decide +kernel
theorem dL_law_415 : decode cL_law 415 = .ok (.iload 7, 2) := by decide +kernel
theorem dL_law_417 : decode cL_law 417 = .ok (.iconst 1, 1) := by decide +kernel
theorem dL_law_418 : decode cL_law 418 = .ok (.aload_n 2, 1) := by decide +kernel
theorem dL_law_419 : decode cL_law 419 = .ok (.iload 9, 2) := by decide +kernel
theorem dL_law_421 : decode cL_law 421 = .ok (.invokevirtual 139, 3) := by decide +kernel
theorem dL_law_424 : decode cL_law 424 = .ok (.ishl, 1) := by decide +kernel
theorem dL_law_425 : decode cL_law 425 = .ok (.ior, 1) := by decide +kernel
theorem dL_law_426 : decode cL_law 426 = .ok (.istore 7, 2) := by decide +kernel
theorem dL_law_428 : decode cL_law 428 = .ok (.iload 10, 2) := by decide +kernel
theorem dL_law_430 : decode cL_law 430 = .ok (.iconst 1, 1) := by decide +kernel
theorem dL_law_431 : decode cL_law 431 = .ok (.if_icmp .ne 23, 3) := by decide +kernel
theorem dL_law_434 : decode cL_law 434 = .ok (.aload_n 2, 1) := by decide +kernel
theorem dL_law_435 : decode cL_law 435 = .ok (.invokevirtual 99, 3) := by decide +kernel
theorem dL_law_438 : decode cL_law 438 = .ok (.ifCond .ne 16, 3) := by decide +kernel
theorem dL_law_441 : decode cL_law 441 = .ok (.iload 7, 2) := by decide +kernel
theorem dL_law_443 : decode cL_law 443 = .ok (.iconst 1, 1) := by decide +kernel
theorem dL_law_444 : decode cL_law 444 = .ok (.aload_n 2, 1) := by decide +kernel
theorem dL_law_445 : decode cL_law 445 = .ok (.iload 9, 2) := by decide +kernel
theorem dL_law_447 : decode cL_law 447 = .ok (.invokevirtual 142, 3) := by decide +kernel
theorem dL_law_450 : decode cL_law 450 = .ok (.ishl, 1) := by decide +kernel
theorem dL_law_451 : decode cL_law 451 = .ok (.ior, 1) := by decide +kernel
theorem dL_law_452 : decode cL_law 452 = .ok (.istore 7, 2) := by decide +kernel
theorem dL_law_454 : decode cL_law 454 = .ok (.iconst 0, 1) := by decide +kernel
theorem dL_law_455 : decode cL_law 455 = .ok (.istore 14, 2) := by decide +kernel
theorem dL_law_457 : decode cL_law 457 = .ok (.iload 14, 2) := by decide +kernel
theorem dL_law_459 : decode cL_law 459 = .ok (.iload 4, 2) := by decide +kernel
theorem dL_law_461 : decode cL_law 461 = .ok (.if_icmp .ge 101, 3) := by decide +kernel
theorem dL_law_464 : decode cL_law 464 = .ok (.iload 11, 2) := by decide +kernel
theorem dL_law_466 : decode cL_law 466 = .ok (.aload_n 2, 1) := by decide +kernel
theorem dL_law_467 : decode cL_law 467 = .ok (.iload 14, 2) := by decide +kernel
theorem dL_law_469 : decode cL_law 469 = .ok (.invokevirtual 121, 3) := by decide +kernel
theorem dL_law_472 : decode cL_law 472 = .ok (.if_icmp .lt 21, 3) := by decide +kernel
theorem dL_law_475 : decode cL_law 475 = .ok (.iload 11, 2) := by decide +kernel
theorem dL_law_477 : decode cL_law 477 = .ok (.aload_n 2, 1) := by decide +kernel
theorem dL_law_478 : decode cL_law 478 = .ok (.iload 14, 2) := by decide +kernel
theorem dL_law_480 : decode cL_law 480 = .ok (.invokevirtual 121, 3) := by decide +kernel
theorem dL_law_483 : decode cL_law 483 = .ok (.if_icmp .ne 14, 3) := by decide +kernel
theorem dL_law_486 : decode cL_law 486 = .ok (.iload 9, 2) := by decide +kernel
theorem dL_law_488 : decode cL_law 488 = .ok (.iload 14, 2) := by decide +kernel
theorem dL_law_490 : decode cL_law 490 = .ok (.if_icmp .ge 7, 3) := by decide +kernel
theorem dL_law_493 : decode cL_law 493 = .ok (.iconst 1, 1) := by decide +kernel
theorem dL_law_494 : decode cL_law 494 = .ok (.goto 4, 3) := by decide +kernel
theorem dL_law_497 : decode cL_law 497 = .ok (.iconst 0, 1) := by decide +kernel
theorem dL_law_498 : decode cL_law 498 = .ok (.istore 15, 2) := by decide +kernel
theorem dL_law_500 : decode cL_law 500 = .ok (.iload 9, 2) := by decide +kernel
theorem dL_law_502 : decode cL_law 502 = .ok (.iload 14, 2) := by decide +kernel
theorem dL_law_504 : decode cL_law 504 = .ok (.if_icmp .eq 52, 3) := by decide +kernel
theorem dL_law_507 : decode cL_law 507 = .ok (.iload 15, 2) := by decide +kernel
theorem dL_law_509 : decode cL_law 509 = .ok (.ifCond .eq 47, 3) := by decide +kernel
theorem dL_law_512 : decode cL_law 512 = .ok (.aload_n 2, 1) := by decide +kernel
theorem dL_law_513 : decode cL_law 513 = .ok (.iload 9, 2) := by decide +kernel
theorem dL_law_515 : decode cL_law 515 = .ok (.invokevirtual 142, 3) := by decide +kernel
theorem dL_law_518 : decode cL_law 518 = .ok (.aload_n 2, 1) := by decide +kernel
theorem dL_law_519 : decode cL_law 519 = .ok (.iload 14, 2) := by decide +kernel
theorem dL_law_521 : decode cL_law 521 = .ok (.invokevirtual 142, 3) := by decide +kernel
theorem dL_law_524 : decode cL_law 524 = .ok (.if_icmp .ne 32, 3) := by decide +kernel
theorem dL_law_527 : decode cL_law 527 = .ok (.aload_n 2, 1) := by decide +kernel
theorem dL_law_528 : decode cL_law 528 = .ok (.iload 14, 2) := by decide +kernel
theorem dL_law_530 : decode cL_law 530 = .ok (.invokevirtual 124, 3) := by decide +kernel
theorem dL_law_533 : decode cL_law 533 = .ok (.iconst (-1), 1) := by decide +kernel
theorem dL_law_534 : decode cL_law 534 = .ok (.if_icmp .eq 22, 3) := by decide +kernel
theorem dL_law_537 : decode cL_law 537 = .ok (.iload 12, 2) := by decide +kernel
theorem dL_law_539 : decode cL_law 539 = .ok (.iconst (-1), 1) := by decide +kernel
theorem dL_law_540 : decode cL_law 540 = .ok (.if_icmp .eq 14, 3) := by decide +kernel
theorem dL_law_543 : decode cL_law 543 = .ok (.iload 12, 2) := by decide +kernel
theorem dL_law_545 : decode cL_law 545 = .ok (.aload_n 2, 1) := by decide +kernel
theorem dL_law_546 : decode cL_law 546 = .ok (.iload 14, 2) := by decide +kernel
theorem dL_law_548 : decode cL_law 548 = .ok (.invokevirtual 124, 3) := by decide +kernel
theorem dL_law_551 : decode cL_law 551 = .ok (.if_icmp .le 5, 3) := by decide +kernel
theorem dL_law_554 : decode cL_law 554 = .ok (.iconst 0, 1) := by decide +kernel
theorem dL_law_555 : decode cL_law 555 = .ok (.ireturn, 1) := by decide +kernel
theorem dL_law_556 : decode cL_law 556 = .ok (.iinc 14 1, 3) := by decide +kernel
theorem dL_law_559 : decode cL_law 559 = .ok (.goto (-102), 3) := by decide +kernel
theorem dL_law_562 : decode cL_law 562 = .ok (.iinc 9 1, 3) := by decide +kernel
theorem dL_law_565 : decode cL_law 565 = .ok (.goto (-357), 3) := by decide +kernel
theorem dL_law_568 : decode cL_law 568 = .ok (.iload 8, 2) := by decide +kernel
theorem dL_law_570 : decode cL_law 570 = .ok (.aload_n 2, 1) := by decide +kernel
theorem dL_law_571 : decode cL_law 571 = .ok (.invokevirtual 145, 3) := by decide +kernel
theorem dL_law_574 : decode cL_law 574 = .ok (.if_icmp .ne 12, 3) := by decide +kernel
theorem dL_law_577 : decode cL_law 577 = .ok (.iload 7, 2) := by decide +kernel
theorem dL_law_579 : decode cL_law 579 = .ok (.aload_n 2, 1) := by decide +kernel
theorem dL_law_580 : decode cL_law 580 = .ok (.invokevirtual 148, 3) := by decide +kernel
theorem dL_law_583 : decode cL_law 583 = .ok (.if_icmp .eq 5, 3) := by decide +kernel
theorem dL_law_586 : decode cL_law 586 = .ok (.iconst 0, 1) := by decide +kernel
theorem dL_law_587 : decode cL_law 587 = .ok (.ireturn, 1) := by decide +kernel
theorem dL_law_588 : decode cL_law 588 = .ok (.iconst 0, 1) := by decide +kernel
theorem dL_law_589 : decode cL_law 589 = .ok (.istore 9, 2) := by decide +kernel
theorem dL_law_591 : decode cL_law 591 = .ok (.iconst 0, 1) := by decide +kernel
theorem dL_law_592 : decode cL_law 592 = .ok (.istore 10, 2) := by decide +kernel
theorem dL_law_594 : decode cL_law 594 = .ok (.iload 10, 2) := by decide +kernel
theorem dL_law_596 : decode cL_law 596 = .ok (.iload_n 3, 1) := by decide +kernel
theorem dL_law_597 : decode cL_law 597 = .ok (.if_icmp .ge 70, 3) := by decide +kernel
theorem dL_law_600 : decode cL_law 600 = .ok (.aload_n 2, 1) := by decide +kernel
theorem dL_law_601 : decode cL_law 601 = .ok (.iload 10, 2) := by decide +kernel
theorem dL_law_603 : decode cL_law 603 = .ok (.invokevirtual 151, 3) := by decide +kernel
theorem dL_law_606 : decode cL_law 606 = .ok (.istore 11, 2) := by decide +kernel
theorem dL_law_608 : decode cL_law 608 = .ok (.iload 9, 2) := by decide +kernel
theorem dL_law_610 : decode cL_law 610 = .ok (.iload 11, 2) := by decide +kernel
theorem dL_law_612 : decode cL_law 612 = .ok (.iadd, 1) := by decide +kernel
theorem dL_law_613 : decode cL_law 613 = .ok (.istore 9, 2) := by decide +kernel
theorem dL_law_615 : decode cL_law 615 = .ok (.aload_n 2, 1) := by decide +kernel
theorem dL_law_616 : decode cL_law 616 = .ok (.iload 10, 2) := by decide +kernel
theorem dL_law_618 : decode cL_law 618 = .ok (.iload 11, 2) := by decide +kernel
theorem dL_law_620 : decode cL_law 620 = .ok (.invokevirtual 154, 3) := by decide +kernel
theorem dL_law_623 : decode cL_law 623 = .ok (.iconst (-1), 1) := by decide +kernel
theorem dL_law_624 : decode cL_law 624 = .ok (.if_icmp .ne 35, 3) := by decide +kernel
theorem dL_law_627 : decode cL_law 627 = .ok (.aload_n 2, 1) := by decide +kernel
theorem dL_law_628 : decode cL_law 628 = .ok (.iload 10, 2) := by decide +kernel
theorem dL_law_630 : decode cL_law 630 = .ok (.iconst (-1), 1) := by decide +kernel
theorem dL_law_631 : decode cL_law 631 = .ok (.invokevirtual 154, 3) := by decide +kernel
theorem dL_law_634 : decode cL_law 634 = .ok (.iconst (-1), 1) := by decide +kernel
theorem dL_law_635 : decode cL_law 635 = .ok (.if_icmp .ne 24, 3) := by decide +kernel
theorem dL_law_638 : decode cL_law 638 = .ok (.iload 11, 2) := by decide +kernel
theorem dL_law_640 : decode cL_law 640 = .ok (.ifCond .le 21, 3) := by decide +kernel
theorem dL_law_643 : decode cL_law 643 = .ok (.aload_n 2, 1) := by decide +kernel
theorem dL_law_644 : decode cL_law 644 = .ok (.aload_n 2, 1) := by decide +kernel
theorem dL_law_645 : decode cL_law 645 = .ok (.iload 10, 2) := by decide +kernel
theorem dL_law_647 : decode cL_law 647 = .ok (.iconst 0, 1) := by decide +kernel
theorem dL_law_648 : decode cL_law 648 = .ok (.invokevirtual 154, 3) := by decide +kernel
theorem dL_law_651 : decode cL_law 651 = .ok (.invokevirtual 142, 3) := by decide +kernel
theorem dL_law_654 : decode cL_law 654 = .ok (.iload 10, 2) := by decide +kernel
theorem dL_law_656 : decode cL_law 656 = .ok (.if_icmp .eq 5, 3) := by decide +kernel
theorem dL_law_659 : decode cL_law 659 = .ok (.iconst 0, 1) := by decide +kernel
theorem dL_law_660 : decode cL_law 660 = .ok (.ireturn, 1) := by decide +kernel
theorem dL_law_661 : decode cL_law 661 = .ok (.iinc 10 1, 3) := by decide +kernel
theorem dL_law_664 : decode cL_law 664 = .ok (.goto (-70), 3) := by decide +kernel
theorem dL_law_667 : decode cL_law 667 = .ok (.iload 9, 2) := by decide +kernel
theorem dL_law_669 : decode cL_law 669 = .ok (.aload_n 2, 1) := by decide +kernel
theorem dL_law_670 : decode cL_law 670 = .ok (.iconst 1, 1) := by decide +kernel
theorem dL_law_671 : decode cL_law 671 = .ok (.invokevirtual 93, 3) := by decide +kernel
theorem dL_law_674 : decode cL_law 674 = .ok (.if_icmp .ne 29, 3) := by decide +kernel
theorem dL_law_677 : decode cL_law 677 = .ok (.aload_n 2, 1) := by decide +kernel
theorem dL_law_678 : decode cL_law 678 = .ok (.invokevirtual 158, 3) := by decide +kernel
theorem dL_law_681 : decode cL_law 681 = .ok (.iconst (-1), 1) := by decide +kernel
theorem dL_law_682 : decode cL_law 682 = .ok (.if_icmp .ne 7, 3) := by decide +kernel
theorem dL_law_685 : decode cL_law 685 = .ok (.iconst 1, 1) := by decide +kernel
theorem dL_law_686 : decode cL_law 686 = .ok (.goto 4, 3) := by decide +kernel
theorem dL_law_689 : decode cL_law 689 = .ok (.iconst 0, 1) := by decide +kernel
theorem dL_law_690 : decode cL_law 690 = .ok (.iload 9, 2) := by decide +kernel
theorem dL_law_692 : decode cL_law 692 = .ok (.ifCond .ne 7, 3) := by decide +kernel
theorem dL_law_695 : decode cL_law 695 = .ok (.iconst 1, 1) := by decide +kernel
theorem dL_law_696 : decode cL_law 696 = .ok (.goto 4, 3) := by decide +kernel
theorem dL_law_699 : decode cL_law 699 = .ok (.iconst 0, 1) := by decide +kernel
theorem dL_law_700 : decode cL_law 700 = .ok (.if_icmp .eq 5, 3) := by decide +kernel
theorem dL_law_703 : decode cL_law 703 = .ok (.iconst 0, 1) := by decide +kernel
theorem dL_law_704 : decode cL_law 704 = .ok (.ireturn, 1) := by decide +kernel
theorem dL_law_705 : decode cL_law 705 = .ok (.aload_n 0, 1) := by decide +kernel
theorem dL_law_706 : decode cL_law 706 = .ok (.iload 5, 2) := by decide +kernel
theorem dL_law_708 : decode cL_law 708 = .ok (.invokestatic 81, 3) := by decide +kernel
theorem dL_law_711 : decode cL_law 711 = .ok (.bipush 8, 2) := by decide +kernel
theorem dL_law_713 : decode cL_law 713 = .ok (.irem, 1) := by decide +kernel
theorem dL_law_714 : decode cL_law 714 = .ok (.istore 10, 2) := by decide +kernel
theorem dL_law_716 : decode cL_law 716 = .ok (.aload_n 2, 1) := by decide +kernel
theorem dL_law_717 : decode cL_law 717 = .ok (.invokevirtual 115, 3) := by decide +kernel
theorem dL_law_720 : decode cL_law 720 = .ok (.istore 11, 2) := by decide +kernel
theorem dL_law_722 : decode cL_law 722 = .ok (.iload 7, 2) := by decide +kernel
theorem dL_law_724 : decode cL_law 724 = .ok (.iload 11, 2) := by decide +kernel
theorem dL_law_726 : decode cL_law 726 = .ok (.ishr, 1) := by decide +kernel
theorem dL_law_727 : decode cL_law 727 = .ok (.iconst 1, 1) := by decide +kernel
theorem dL_law_728 : decode cL_law 728 = .ok (.iand, 1) := by decide +kernel
theorem dL_law_729 : decode cL_law 729 = .ok (.iconst 1, 1) := by decide +kernel
theorem dL_law_730 : decode cL_law 730 = .ok (.if_icmp .ne 7, 3) := by decide +kernel
theorem dL_law_733 : decode cL_law 733 = .ok (.iconst 1, 1) := by decide +kernel
theorem dL_law_734 : decode cL_law 734 = .ok (.goto 4, 3) := by decide +kernel
theorem dL_law_737 : decode cL_law 737 = .ok (.iconst 0, 1) := by decide +kernel
theorem dL_law_738 : decode cL_law 738 = .ok (.istore 12, 2) := by decide +kernel
theorem dL_law_740 : decode cL_law 740 = .ok (.aload_n 2, 1) := by decide +kernel
theorem dL_law_741 : decode cL_law 741 = .ok (.invokevirtual 106, 3) := by decide +kernel
theorem dL_law_744 : decode cL_law 744 = .ok (.istore 13, 2) := by decide +kernel
theorem dL_law_746 : decode cL_law 746 = .ok (.aload_n 2, 1) := by decide +kernel
theorem dL_law_747 : decode cL_law 747 = .ok (.invokevirtual 109, 3) := by decide +kernel
theorem dL_law_750 : decode cL_law 750 = .ok (.istore 14, 2) := by decide +kernel
theorem dL_law_752 : decode cL_law 752 = .ok (.aload_n 2, 1) := by decide +kernel
theorem dL_law_753 : decode cL_law 753 = .ok (.aload_n 2, 1) := by decide +kernel
theorem dL_law_754 : decode cL_law 754 = .ok (.invokevirtual 72, 3) := by decide +kernel
theorem dL_law_757 : decode cL_law 757 = .ok (.invokevirtual 161, 3) := by decide +kernel
theorem dL_law_760 : decode cL_law 760 = .ok (.istore 15, 2) := by decide +kernel
theorem dL_law_762 : decode cL_law 762 = .ok (.iload 10, 2) := by decide +kernel
theorem dL_law_764 : decode cL_law 764 = .ok (.bipush 7, 2) := by decide +kernel
theorem dL_law_766 : decode cL_law 766 = .ok (.if_icmp .ne 43, 3) := by decide +kernel
theorem dL_law_769 : decode cL_law 769 = .ok (.iload 6, 2) := by decide +kernel
theorem dL_law_771 : decode cL_law 771 = .ok (.iconst 2, 1) := by decide +kernel
theorem dL_law_772 : decode cL_law 772 = .ok (.if_icmp .gt 37, 3) := by decide +kernel
theorem dL_law_775 : decode cL_law 775 = .ok (.aload_n 2, 1) := by decide +kernel
theorem dL_law_776 : decode cL_law 776 = .ok (.invokevirtual 96, 3) := by decide +kernel
theorem dL_law_779 : decode cL_law 779 = .ok (.istore 16, 2) := by decide +kernel
theorem dL_law_781 : decode cL_law 781 = .ok (.aload_n 2, 1) := by decide +kernel
theorem dL_law_782 : decode cL_law 782 = .ok (.iconst 2, 1) := by decide +kernel
theorem dL_law_783 : decode cL_law 783 = .ok (.aload_n 0, 1) := by decide +kernel
theorem dL_law_784 : decode cL_law 784 = .ok (.iload 5, 2) := by decide +kernel
theorem dL_law_786 : decode cL_law 786 = .ok (.invokestatic 81, 3) := by decide +kernel
theorem dL_law_789 : decode cL_law 789 = .ok (.bipush 8, 2) := by decide +kernel
theorem dL_law_791 : decode cL_law 791 = .ok (.idiv, 1) := by decide +kernel
theorem dL_law_792 : decode cL_law 792 = .ok (.bipush 7, 2) := by decide +kernel
theorem dL_law_794 : decode cL_law 794 = .ok (.irem, 1) := by decide +kernel
theorem dL_law_795 : decode cL_law 795 = .ok (.iadd, 1) := by decide +kernel
theorem dL_law_796 : decode cL_law 796 = .ok (.invokevirtual 164, 3) := by decide +kernel
theorem dL_law_799 : decode cL_law 799 = .ok (.iload 16, 2) := by decide +kernel
theorem dL_law_801 : decode cL_law 801 = .ok (.if_icmp .eq 5, 3) := by decide +kernel
theorem dL_law_804 : decode cL_law 804 = .ok (.iconst 0, 1) := by decide +kernel
theorem dL_law_805 : decode cL_law 805 = .ok (.ireturn, 1) := by decide +kernel
theorem dL_law_806 : decode cL_law 806 = .ok (.goto 116, 3) := by decide +kernel
theorem dL_law_809 : decode cL_law 809 = .ok (.aload_n 2, 1) := by decide +kernel
theorem dL_law_810 : decode cL_law 810 = .ok (.iconst 1, 1) := by decide +kernel
theorem dL_law_811 : decode cL_law 811 = .ok (.invokevirtual 167, 3) := by decide +kernel
theorem dL_law_814 : decode cL_law 814 = .ok (.istore 16, 2) := by decide +kernel
theorem dL_law_816 : decode cL_law 816 = .ok (.iload 12, 2) := by decide +kernel
theorem dL_law_818 : decode cL_law 818 = .ok (.ifCond .eq 31, 3) := by decide +kernel
theorem dL_law_821 : decode cL_law 821 = .ok (.iload 16, 2) := by decide +kernel
theorem dL_law_823 : decode cL_law 823 = .ok (.iload 11, 2) := by decide +kernel
theorem dL_law_825 : decode cL_law 825 = .ok (.if_icmp .ne 95, 3) := by decide +kernel
theorem dL_law_828 : decode cL_law 828 = .ok (.aload_n 2, 1) := by decide +kernel
theorem dL_law_829 : decode cL_law 829 = .ok (.invokevirtual 106, 3) := by decide +kernel
theorem dL_law_832 : decode cL_law 832 = .ok (.iload 13, 2) := by decide +kernel
theorem dL_law_834 : decode cL_law 834 = .ok (.iconst 1, 1) := by decide +kernel
theorem dL_law_835 : decode cL_law 835 = .ok (.iadd, 1) := by decide +kernel
theorem dL_law_836 : decode cL_law 836 = .ok (.if_icmp .ne 84, 3) := by decide +kernel
theorem dL_law_839 : decode cL_law 839 = .ok (.iload 15, 2) := by decide +kernel
theorem dL_law_841 : decode cL_law 841 = .ok (.iload 11, 2) := by decide +kernel
theorem dL_law_843 : decode cL_law 843 = .ok (.if_icmp .eq 79, 3) := by decide +kernel
theorem dL_law_846 : decode cL_law 846 = .ok (.goto 74, 3) := by decide +kernel
theorem dL_law_849 : decode cL_law 849 = .ok (.iload 7, 2) := by decide +kernel
theorem dL_law_851 : decode cL_law 851 = .ok (.ifCond .ne 30, 3) := by decide +kernel
theorem dL_law_854 : decode cL_law 854 = .ok (.iload 16, 2) := by decide +kernel
theorem dL_law_856 : decode cL_law 856 = .ok (.iload 11, 2) := by decide +kernel
theorem dL_law_858 : decode cL_law 858 = .ok (.if_icmp .ne 62, 3) := by decide +kernel
theorem dL_law_861 : decode cL_law 861 = .ok (.aload_n 2, 1) := by decide +kernel
theorem dL_law_862 : decode cL_law 862 = .ok (.invokevirtual 109, 3) := by decide +kernel
theorem dL_law_865 : decode cL_law 865 = .ok (.iload 14, 2) := by decide +kernel
theorem dL_law_867 : decode cL_law 867 = .ok (.iconst 1, 1) := by decide +kernel
theorem dL_law_868 : decode cL_law 868 = .ok (.iadd, 1) := by decide +kernel
theorem dL_law_869 : decode cL_law 869 = .ok (.if_icmp .ne 51, 3) := by decide +kernel
theorem dL_law_872 : decode cL_law 872 = .ok (.iload 15, 2) := by decide +kernel
theorem dL_law_874 : decode cL_law 874 = .ok (.iconst (-1), 1) := by decide +kernel
theorem dL_law_875 : decode cL_law 875 = .ok (.if_icmp .eq 47, 3) := by decide +kernel
theorem dL_law_878 : decode cL_law 878 = .ok (.goto 42, 3) := by decide +kernel
theorem dL_law_881 : decode cL_law 881 = .ok (.iload 16, 2) := by decide +kernel
theorem dL_law_883 : decode cL_law 883 = .ok (.iload 11, 2) := by decide +kernel
theorem dL_law_885 : decode cL_law 885 = .ok (.isub, 1) := by decide +kernel
theorem dL_law_886 : decode cL_law 886 = .ok (.invokestatic 170, 3) := by decide +kernel
theorem dL_law_889 : decode cL_law 889 = .ok (.iconst 1, 1) := by decide +kernel
theorem dL_law_890 : decode cL_law 890 = .ok (.if_icmp .ne 30, 3) := by decide +kernel
theorem dL_law_893 : decode cL_law 893 = .ok (.iload 15, 2) := by decide +kernel
theorem dL_law_895 : decode cL_law 895 = .ok (.iload 11, 2) := by decide +kernel
theorem dL_law_897 : decode cL_law 897 = .ok (.if_icmp .le 7, 3) := by decide +kernel
theorem dL_law_900 : decode cL_law 900 = .ok (.iconst 1, 1) := by decide +kernel
theorem dL_law_901 : decode cL_law 901 = .ok (.goto 4, 3) := by decide +kernel
theorem dL_law_904 : decode cL_law 904 = .ok (.iconst 0, 1) := by decide +kernel
theorem dL_law_905 : decode cL_law 905 = .ok (.iload 16, 2) := by decide +kernel
theorem dL_law_907 : decode cL_law 907 = .ok (.iload 11, 2) := by decide +kernel
theorem dL_law_909 : decode cL_law 909 = .ok (.if_icmp .le 7, 3) := by decide +kernel
theorem dL_law_912 : decode cL_law 912 = .ok (.iconst 1, 1) := by decide +kernel
theorem dL_law_913 : decode cL_law 913 = .ok (.goto 4, 3) := by decide +kernel
theorem dL_law_916 : decode cL_law 916 = .ok (.iconst 0, 1) := by decide +kernel
theorem dL_law_917 : decode cL_law 917 = .ok (.if_icmp .eq 5, 3) := by decide +kernel
theorem dL_law_920 : decode cL_law 920 = .ok (.iconst 0, 1) := by decide +kernel
theorem dL_law_921 : decode cL_law 921 = .ok (.ireturn, 1) := by decide +kernel
theorem dL_law_922 : decode cL_law 922 = .ok (.iinc 5 1, 3) := by decide +kernel
theorem dL_law_925 : decode cL_law 925 = .ok (.goto (-864), 3) := by decide +kernel
theorem dL_law_928 : decode cL_law 928 = .ok (.iconst 1, 1) := by decide +kernel
theorem dL_law_929 : decode cL_law 929 = .ok (.ireturn, 1) := by decide +kernel
end
section
/-! what stands below B at the start, by an address table ad (written by wip/whole/gen/gen_ev.py out of the claim's Statement) -/
def ev_kn : List String := ["LIFT", "FIRST", "NEAREST", "SWEEP", "REPEAT", "CALL", "AT", "RUN", "FINISH", "UNTIL", "REVERSE", "POLICY", "CAPACITY", "EXPECT", "DONE", "RIDING", "WAITING", "FLOOR", "DISTANCE", "TIME", "SEMICOLON", "OPEN", "CLOSE", "NUMBER", "INVALID", "END"]
def ev_tx : List Nat := [16, 28, 29, 30, 18, 31, 21, 32, 33, 34, 35, 36, 37, 38, 22, 23, 24, 25, 26, 27, 17, 19, 20, 15, 15, 15]
def ev_ks : List (String × Nat) := [("LiftScheduler", 271), ("LiftScheduler", 266), ("LiftScheduler", 178), ("LiftScheduler", 269), ("LiftScheduler", 238), ("LiftScheduler", 240), ("LiftScheduler", 273), ("LiftScheduler", 275), ("LiftSchedulerLaw", 36), ("LiftSchedulerLaw", 47), ("LiftSchedulerLaw", 49), ("LiftSchedulerLaw", 51), ("LiftSchedulerLaw", 56), ("LiftSchedulerLaw", 58), ("LiftScheduler", 74), ("LiftScheduler$Kind", 178), ("LiftScheduler$Kind", 106), ("LiftScheduler$Kind", 169), ("LiftScheduler$Kind", 121), ("LiftScheduler$Kind", 172), ("LiftScheduler$Kind", 175), ("LiftScheduler$Kind", 127), ("LiftScheduler$Kind", 151), ("LiftScheduler$Kind", 154), ("LiftScheduler$Kind", 157), ("LiftScheduler$Kind", 160), ("LiftScheduler$Kind", 163), ("LiftScheduler$Kind", 166), ("LiftScheduler$Kind", 112), ("LiftScheduler$Kind", 115), ("LiftScheduler$Kind", 118), ("LiftScheduler$Kind", 124), ("LiftScheduler$Kind", 130), ("LiftScheduler$Kind", 133), ("LiftScheduler$Kind", 136), ("LiftScheduler$Kind", 139), ("LiftScheduler$Kind", 142), ("LiftScheduler$Kind", 145), ("LiftScheduler$Kind", 148)]
def ev_by : List (List Int32) := [[110, 111, 32, 115, 117, 99, 104, 32, 112, 111, 108, 105, 99, 121], [110, 111, 32, 115, 117, 99, 104, 32, 112, 97, 115, 115, 101, 110, 103, 101, 114], [110, 111, 32, 115, 117, 99, 104, 32, 115, 116, 97, 116, 117, 115], [110, 111, 32, 115, 117, 99, 104, 32, 102, 108, 111, 111, 114], [116, 104, 101, 32, 116, 105, 99, 107, 115, 32, 97, 114, 101, 32, 111, 117, 116, 32, 111, 102, 32, 114, 97, 110, 103, 101], [116, 104, 101, 32, 116, 105, 109, 101, 32, 119, 111, 117, 108, 100, 32, 98, 101, 32, 103, 114, 101, 97, 116, 101, 114, 32, 116, 104, 97, 110, 32, 57, 57, 57], [116, 104, 101, 32, 99, 97, 112, 97, 99, 105, 116, 121, 32, 105, 115, 32, 111, 117, 116, 32, 111, 102, 32, 114, 97, 110, 103, 101], [109, 111, 114, 101, 32, 112, 97, 115, 115, 101, 110, 103, 101, 114, 115, 32, 97, 114, 101, 32, 114, 105, 100, 105, 110, 103], [108, 105, 102, 116, 32], [32, 102, 105, 114, 115, 116, 59], [32, 110, 101, 97, 114, 101, 115, 116, 59], [32, 115, 119, 101, 101, 112, 59], [99, 97, 108, 108, 32], [32, 97, 116, 32], [116, 104, 101, 32, 116, 101, 120, 116, 32, 104, 97, 115, 32, 97, 32, 112, 97, 114, 115, 101, 32, 101, 114, 114, 111, 114], [], [108, 105, 102, 116], [59], [114, 101, 112, 101, 97, 116], [40], [41], [97, 116], [100, 111, 110, 101], [114, 105, 100, 105, 110, 103], [119, 97, 105, 116, 105, 110, 103], [102, 108, 111, 111, 114], [100, 105, 115, 116, 97, 110, 99, 101], [116, 105, 109, 101], [102, 105, 114, 115, 116], [110, 101, 97, 114, 101, 115, 116], [115, 119, 101, 101, 112], [99, 97, 108, 108], [114, 117, 110], [102, 105, 110, 105, 115, 104], [117, 110, 116, 105, 108], [114, 101, 118, 101, 114, 115, 101], [112, 111, 108, 105, 99, 121], [99, 97, 112, 97, 99, 105, 116, 121], [101, 120, 112, 101, 99, 116]]
def ev_sw : List Int32 := [0, 14, 15, 16, 0, 1, 0, 2, 3, 4, 5, 6, 7, 8, 9, 10, 11, 12, 13, 0, 0, 0, 0, 0, 0, 0]
def ev_dt : List Int32 := [48, 48, 48, 48, 48, 48, 48, 48, 48, 48, 49, 49, 49, 49, 49, 49, 49, 49, 49, 49, 50, 50, 50, 50, 50, 50, 50, 50, 50, 50, 51, 51, 51, 51, 51, 51, 51, 51, 51, 51, 52, 52, 52, 52, 52, 52, 52, 52, 52, 52, 53, 53, 53, 53, 53, 53, 53, 53, 53, 53, 54, 54, 54, 54, 54, 54, 54, 54, 54, 54, 55, 55, 55, 55, 55, 55, 55, 55, 55, 55, 56, 56, 56, 56, 56, 56, 56, 56, 56, 56, 57, 57, 57, 57, 57, 57, 57, 57, 57, 57]
def ev_do : List Int32 := [48, 49, 50, 51, 52, 53, 54, 55, 56, 57, 48, 49, 50, 51, 52, 53, 54, 55, 56, 57, 48, 49, 50, 51, 52, 53, 54, 55, 56, 57, 48, 49, 50, 51, 52, 53, 54, 55, 56, 57, 48, 49, 50, 51, 52, 53, 54, 55, 56, 57, 48, 49, 50, 51, 52, 53, 54, 55, 56, 57, 48, 49, 50, 51, 52, 53, 54, 55, 56, 57, 48, 49, 50, 51, 52, 53, 54, 55, 56, 57, 48, 49, 50, 51, 52, 53, 54, 55, 56, 57, 48, 49, 50, 51, 52, 53, 54, 55, 56, 57]
def ev_sx : List String := ["no such policy", "no such passenger", "no such status", "no such floor", "the ticks are out of range", "the time would be greater than 999", "the capacity is out of range", "more passengers are riding", "lift ", " first;", " nearest;", " sweep;", "call ", " at ", "the text has a parse error", "", "lift", ";", "repeat", "(", ")", "at", "done", "riding", "waiting", "floor", "distance", "time", "first", "nearest", "sweep", "call", "run", "finish", "until", "reverse", "policy", "capacity", "expect"]
def ev_st (ad : Nat → Nat) : List (String × String × String × Value) := (List.range 26).map (fun i => ("LiftScheduler$Kind", ev_kn.getD i "", "LLiftScheduler$Kind;", Value.ref (ad i))) ++ [("LiftScheduler$1", "$SwitchMap$LiftScheduler$Kind", "[I", .ref (ad 26)), ("LiftScheduler$Script", "KINDS", "[LLiftScheduler$Kind;", .ref (ad 27)), ("java/lang/String", "COMPACT_STRINGS", "Z", .int 1), ("java/lang/Integer", "DigitTens", "[B", .ref (ad 28)), ("java/lang/Integer", "DigitOnes", "[B", .ref (ad 29))]
def ev_of (ad : Nat → Nat) : List (String × String × String × Value × Nat) := (List.range 26).flatMap (fun i => [("java/lang/Enum", "ordinal", "I", Value.int (nI i), ad i), ("LiftScheduler$Kind", "text", "Ljava/lang/String;", .ref (ad (100 + ev_tx.getD i 0)), ad i)]) ++ (List.range ev_ks.length).flatMap (fun j => [("java/lang/String", "coder", "B", Value.int 0, ad (100 + j)), ("java/lang/String", "value", "[B", .ref (ad (200 + j)), ad (100 + j))])
def ev_ob (ad : Nat → Nat) : List (String × Nat) := (List.range 26).map (fun i => ("LiftScheduler$Kind", ad i)) ++ (List.range ev_ks.length).map (fun j => ("java/lang/String", ad (100 + j)))
def ev_ta (ad : Nat → Nat) : List (FieldType × Nat × Nat × (Nat → Value)) := [(.int, ad 26, 26, fun k => .int (ev_sw.getD k 0)), (.object "LiftScheduler$Kind", ad 27, 26, fun k => .ref (ad k)), (.byte, ad 28, 100, fun k => .int (ev_dt.getD k 0)), (.byte, ad 29, 100, fun k => .int (ev_do.getD k 0))] ++ (List.range ev_ks.length).map (fun j => (FieldType.byte, ad (200 + j), (ev_by.getD j []).length, fun k => Value.int ((ev_by.getD j []).getD k 0)))
def ev_ca : List (String × String) := [("[B", "java/lang/Cloneable"), ("java/lang/IllegalArgumentException", "java/lang/IllegalArgumentException"), ("java/lang/IllegalStateException", "java/lang/IllegalStateException"), ("java/lang/IndexOutOfBoundsException", "java/lang/IndexOutOfBoundsException"), ("java/lang/StringBuilder", "java/lang/CharSequence")]
def ev_nc : List (String × String) := [("LiftScheduler", "LiftScheduler$Kind"), ("LiftScheduler", "LiftScheduler$Simulation"), ("LiftScheduler$Kind", "LiftScheduler$Simulation"), ("LiftScheduler$Script", "LiftScheduler$Kind"), ("LiftScheduler$Script", "LiftScheduler$Simulation"), ("LiftScheduler$Simulation", "LiftScheduler$Kind"), ("LiftSchedulerLaw$Random", "LiftScheduler$Kind"), ("LiftSchedulerLaw$Random", "LiftScheduler$Simulation"), ("java/lang/IllegalArgumentException", "LiftScheduler$Kind"), ("java/lang/IllegalArgumentException", "LiftScheduler$Simulation"), ("java/lang/IllegalStateException", "LiftScheduler$Kind"), ("java/lang/IllegalStateException", "LiftScheduler$Simulation"), ("java/lang/IndexOutOfBoundsException", "LiftScheduler$Kind"), ("java/lang/IndexOutOfBoundsException", "LiftScheduler$Simulation"), ("java/lang/String", "LiftScheduler$Kind"), ("java/lang/String", "LiftScheduler$Simulation"), ("java/lang/StringBuilder", "LiftScheduler$Kind"), ("java/lang/StringBuilder", "LiftScheduler$Simulation"), ("java/lang/Throwable", "LiftScheduler$Kind"), ("java/lang/Throwable", "LiftScheduler$Simulation")]
def ev_dc : List MethodName := [⟨"java/lang/Enum", "ordinal", "()I"⟩, ⟨"java/lang/RuntimeException", "<init>", "()V"⟩, ⟨"java/lang/RuntimeException", "<init>", "(Ljava/lang/String;)V"⟩, ⟨"java/lang/Exception", "<init>", "()V"⟩, ⟨"java/lang/Exception", "<init>", "(Ljava/lang/String;)V"⟩, ⟨"java/lang/Throwable", "<init>", "()V"⟩, ⟨"java/lang/Throwable", "<init>", "(Ljava/lang/String;)V"⟩]
def ev_fw : List (MethodName × MethodName) := [(⟨"java/lang/CharSequence", "length", "()I"⟩, ⟨"java/lang/StringBuilder", "length", "()I"⟩), (⟨"java/lang/CharSequence", "charAt", "(I)C"⟩, ⟨"java/lang/StringBuilder", "charAt", "(I)C"⟩)]
theorem ev_fw_ok : ∀ q ∈ ev_fw, q.1.cls ≠ "java/lang/invoke/MethodHandle" ∧ q.1.cls ≠ "java/lang/invoke/VarHandle" := by decide +kernel
def ev_sr (ad : Nat → Nat) (U : State) : Prop := (∀ j, j < ev_ks.length → vk_R (ev_ks.getD j ("", 0)).1 (ev_ks.getD j ("", 0)).2 (ev_sx.getD j "") (ad (100 + j)) U) ∧ (∀ i j, i < 26 → j < 26 → ad i = ad j → i = j) ∧
  (∀ q ∈ ev_ca, va_Nw (.castable q.1 q.2) U) ∧ (∀ q ∈ ev_nc, va_Nc q.1 q.2 U) ∧ va_Nw (.methodLinkNest "LiftScheduler" 46 ⟨"LiftScheduler$Script", "<init>", "()V"⟩ "LiftScheduler") U ∧ va_AO "LiftScheduler$Simulation" U ∧ va_AO "LiftScheduler$Kind" U ∧ (∀ q ∈ ev_dc, va_Nw (.declares q) U) ∧ (∀ q ∈ ev_fw, va_Fw "java/lang/StringBuilder" q.1 q.2 U)
theorem ev_sr.warm {ad : Nat → Nat} {u U : State} (hW : u.WarmedH U.vm) (h : ev_sr ad u) : ev_sr ad U := ⟨fun j hj => (h.1 j hj).warm hW, h.2.1, fun q hq => (h.2.2.1 q hq).warmC hW, fun q hq => (h.2.2.2.1 q hq).moved hW.alike, h.2.2.2.2.1.warmM hW, h.2.2.2.2.2.1.moved hW.alike, h.2.2.2.2.2.2.1.moved hW.alike, fun q hq => (h.2.2.2.2.2.2.2.1 q hq).warmD hW, fun q hq => (h.2.2.2.2.2.2.2.2 q hq).moved (ev_fw_ok q hq) hW.alike⟩
end
section
/-! rows of kit/laws/EXCEPTIONS.to-paste (a starting text): constructors that may throw, a nest mate's, a method of a class above -/
/-! ===== BEGIN a constructor that throws (launches without stack traces) ===== -/
section VXIA
variable {p : Program} {l : Launch} {e : Env} {R : Room} {s : State} {m : MethodId} {args : Array Value} {below : List Frame} {meth : Method} {c : Code} {T : State} {locs : List Loc} {cells slots : Nat}
theorem vx_callI (X : Stand p l e R s m args below meth c T locs cells slots) (hexec : p.tables.exec = Jvm.exec) {own : String} {index : Nat} {y : MethodName} {bytes : ByteArray} {maxL : Nat}
    (hown : s.vm.findClass own = some m.cls) (hy1 : y.name = "<init>") (hlink : (Cond.methodLink own index y).before args s = true) (hinst : (Cond.instanceMethod y).before args s = true)
    (hcode : (Cond.code y bytes maxL none).before args s = true) (hy : y.cls ≠ "java/lang/invoke/MethodHandle" ∧ y.cls ≠ "java/lang/invoke/VarHandle")
    {W9 : Nat} {Pre : Pt → Array Value → Prop} {Post : Pt → Array Value → Option Value → Pt → Prop} {PostX : Pt → Array Value → Addr → Pt → Prop} (hK : vx_Back l R p e below s args y 3 W9 Pre Post PostX)
    {g : JFrame} (hg : g.method = m) (hsize : g.locals.size = c.maxLocals) {a : Addr} {argsL rest : List Value} (hlen : ∀ sig, parseMethodDescriptor y.desc = some sig → argsL.length = sig.parameters.length)
    (hstack : g.stack = argsL.reverse ++ .ref a :: rest) (hW : 2 * g.monitorRoom + (rest.map fun v => v.category).sum ≤ W9) (hdg : decode c.code g.pc = .ok (.invokespecial index, 3))
    (hpre : ∀ vm₁, s.WarmedH vm₁ → Pre ⟨T.setVm vm₁, locs, cells, slots⟩ (Value.ref a :: argsL).toArray) :
    (∃ (v : Option Value) (vm₁ : Vm) (B : Pt), s.WarmedH vm₁ ∧ Stand p l e R s m args below meth c B.U B.locs B.cells B.slots ∧ Post ⟨T.setVm vm₁, locs, cells, slots⟩ (Value.ref a :: argsL).toArray v B ∧
      ∀ target, Steps p.tables e below (B.U.setTop { g with pc := g.pc + 3, stack := v.toList ++ rest }) target → Steps p.tables e below (T.setTop g) target) ∨
    (∃ (q : Addr) (vm₁ : Vm) (B : Pt), s.WarmedH vm₁ ∧ Stand p l e R s m args below meth c B.U B.locs B.cells B.slots ∧ PostX ⟨T.setVm vm₁, locs, cells, slots⟩ (Value.ref a :: argsL).toArray q B ∧
      Steps p.tables e below (T.setTop g) ((B.U.setTop { g with stack := rest }).pushFrame (.throwing q))) := by
  subst hg
  have hpl : e.platform.magicAccessors = ({} : Platform).magicAccessors := by rw [X.admits.platform]
  obtain ⟨mk, methM, cM, kP, vm₁, hnamed, hmethM, hcodeM, -, hlocalsM, -, hkP, -, hW₁, hstep₁⟩ := Steps.initColdArgs (e := e) X.here hexec X.warmed hpl hown hy1 hy hlink hinst hcode (f := g) rfl hlen hstack hdg
  have X₁ := X.noted hW₁
  rcases hK g.method meth c ⟨T.setVm vm₁, locs, cells, slots⟩ { g with stack := rest } (.invokespecial index) mk (Value.ref a :: argsL).toArray X₁ rfl hsize hdg hW (X₁.named hnamed) (hpre vm₁ X₁.warmed) with ⟨v, B, X', hpost, hsteps⟩ | ⟨q, B, X', hpost, hsteps⟩
  · exact Or.inl ⟨v, vm₁, B, X₁.warmed, X', hpost, fun target h => hstep₁ _ fun acts => by rw [doInvoke_state]; exact hsteps.trans h⟩
  · exact Or.inr ⟨q, vm₁, B, X₁.warmed, X', hpost, hstep₁ _ fun acts => by rw [doInvoke_state]; exact hsteps⟩
end VXIA
section VXIB
variable {p : Program} {l : Launch} {e : Env} {R : Room} {s : State} {m : MethodId} {args : Array Value} {below : List Frame} {meth : Method} {c : Code} {H : Heap} {locs : List Loc} {cells slots : Nat}
variable {y : MethodName} {bytes cc : ByteArray} {maxL nL mc ms n index : Nat} {ret : Option FieldType} {ws : List Cond} {rm : Room} {Pc : Array Value → State → Prop} {Qc : Array Value → State → Outcome → State → Prop} {XC : String → State → State → Prop} {free : Addr → Prop} {Ts : List Cond} {own C : String} {b : Addr} {As rest : List Value} {g : JFrame}
theorem vx_runI (S : CallFix p m c cc nL s args Ts own) (hM : vx_Met l y ws rm Pc Qc XC mc ms free) (cw : CallB R s args own index y bytes maxL none ws rm mc ms n ∧ y.name = "<init>" ∧ (Cond.instanceMethod y).before args s = true) (hp : PreS s H Pc (.ref b :: As))
    (hg : g.method = m) (hn : As.length = n) (hsize : g.locals.size = nL) (hstack : g.stack = As.reverse ++ .ref b :: rest) (hW : 2 * g.monitorRoom + (rest.map fun v => v.category).sum ≤ 8) (hdg : decode cc g.pc = .ok (.invokespecial index, 3)) (hf : cells + mc ≤ R.cells ∧ slots + ms ≤ R.slots) :
    vx_Run p l e R s m args below meth c H locs cells slots mc ms g rest (Qc (Value.ref b :: As).toArray) XC free := by
  have hK : vx_Back l R p e below s args y 3 8 (PreOf R mc ms Pc) (PostOf Qc mc ms free) (vx_Post XC mc ms free) := vx_callBack cw.1 hM hp.1
  obtain ⟨⟨-, -, -, -, -, -, hcode, -, hy, hlen, hl⟩, hy1, hin⟩ := cw
  obtain ⟨hx, hb, hml, ho, -⟩ := S
  have hPc := hp.2
  intro T hT X
  rcases vx_callI X hx (bytes := bytes) (maxL := maxL) ho hy1 hl hin hcode hy hK hg (hsize.trans hml.symm) (a := b) (argsL := As) (rest := rest) (fun sig h => hn.trans (hlen sig h)) hstack hW (by rw [hb]; exact hdg)
    (fun vm₁ hW₁ => ⟨hf.1, hf.2, hPc (T.setVm vm₁) hT hW₁⟩) with ⟨v, vm₁, ⟨U', l2, c2, s2⟩, hW₁, X', ⟨g', mk, t, L, e1, e2, hq, h1, hL, h2, h3⟩, st⟩ | ⟨q, vm₁, ⟨U', l2, c2, s2⟩, hW₁, X', ⟨g', mk, t, L, E, ce, e1, e2, hq, hce, hcv, hcl, h1, hL, h2, h3⟩, st⟩
  · dsimp only [Pt.U, Pt.locs, Pt.cells, Pt.slots] at X' e1 e2 h1 h2 h3 st
    subst h1; subst h2; subst h3
    exact Or.inl ⟨v, (T.setVm vm₁).calling g' mk (Value.ref b :: As).toArray, t, U', L, hT, X', hL, e1, e2, hq, st⟩
  · dsimp only [Pt.U, Pt.locs, Pt.cells, Pt.slots] at X' e1 e2 h1 h2 h3 st hcl
    subst h1; subst h2; subst h3
    exact Or.inr ⟨q, (T.setVm vm₁).calling g' mk (Value.ref b :: As).toArray, t, U', L, E, ce, hT, X', hL, e1, e2, hq, hce, hcv, vx_cls hW₁ hcl, st⟩
end VXIB
/-! ===== END ===== -/
/-! ===== BEGIN a private constructor of a nest mate that throws ===== -/
section VXIC
variable {p : Program} {l : Launch} {e : Env} {R : Room} {s : State} {m : MethodId} {args : Array Value} {below : List Frame} {meth : Method} {c : Code} {T : State} {locs : List Loc} {cells slots : Nat}
theorem vx_callIN (X : Stand p l e R s m args below meth c T locs cells slots) (hexec : p.tables.exec = Jvm.exec) {own : String} {index : Nat} {host : String} {y : MethodName} {bytes : ByteArray} {maxL : Nat}
    (hown : s.vm.findClass own = some m.cls) (hy1 : y.name = "<init>") (hlink : (Cond.methodLinkNest own index y host).before args s = true) (hinst : (Cond.instanceMethod y).before args s = true)
    (hcode : (Cond.code y bytes maxL none).before args s = true) (hy : y.cls ≠ "java/lang/invoke/MethodHandle" ∧ y.cls ≠ "java/lang/invoke/VarHandle")
    {W9 : Nat} {Pre : Pt → Array Value → Prop} {Post : Pt → Array Value → Option Value → Pt → Prop} {PostX : Pt → Array Value → Addr → Pt → Prop} (hK : vx_Back l R p e below s args y 3 W9 Pre Post PostX)
    {g : JFrame} (hg : g.method = m) (hsize : g.locals.size = c.maxLocals) {a : Addr} {argsL rest : List Value} (hlen : ∀ sig, parseMethodDescriptor y.desc = some sig → argsL.length = sig.parameters.length)
    (hstack : g.stack = argsL.reverse ++ .ref a :: rest) (hW : 2 * g.monitorRoom + (rest.map fun v => v.category).sum ≤ W9) (hdg : decode c.code g.pc = .ok (.invokespecial index, 3))
    (hpre : ∀ vm₁, s.WarmedH vm₁ → Pre ⟨T.setVm vm₁, locs, cells, slots⟩ (Value.ref a :: argsL).toArray) :
    (∃ (v : Option Value) (vm₁ : Vm) (B : Pt), s.WarmedH vm₁ ∧ Stand p l e R s m args below meth c B.U B.locs B.cells B.slots ∧ Post ⟨T.setVm vm₁, locs, cells, slots⟩ (Value.ref a :: argsL).toArray v B ∧
      ∀ target, Steps p.tables e below (B.U.setTop { g with pc := g.pc + 3, stack := v.toList ++ rest }) target → Steps p.tables e below (T.setTop g) target) ∨
    (∃ (q : Addr) (vm₁ : Vm) (B : Pt), s.WarmedH vm₁ ∧ Stand p l e R s m args below meth c B.U B.locs B.cells B.slots ∧ PostX ⟨T.setVm vm₁, locs, cells, slots⟩ (Value.ref a :: argsL).toArray q B ∧
      Steps p.tables e below (T.setTop g) ((B.U.setTop { g with stack := rest }).pushFrame (.throwing q))) := by
  subst hg
  have hpl : e.platform.magicAccessors = ({} : Platform).magicAccessors := by rw [X.admits.platform]
  obtain ⟨mk, methM, cM, kP, vm₁, hnamed, hmethM, hcodeM, -, hlocalsM, -, hkP, -, hW₁, hstep₁⟩ := Steps.initColdArgsNest (e := e) X.here hexec X.warmed hpl hown hy1 hy hlink hinst hcode (f := g) rfl hlen hstack hdg
  have X₁ := X.noted hW₁
  rcases hK g.method meth c ⟨T.setVm vm₁, locs, cells, slots⟩ { g with stack := rest } (.invokespecial index) mk (Value.ref a :: argsL).toArray X₁ rfl hsize hdg hW (X₁.named hnamed) (hpre vm₁ X₁.warmed) with ⟨v, B, X', hpost, hsteps⟩ | ⟨q, B, X', hpost, hsteps⟩
  · exact Or.inl ⟨v, vm₁, B, X₁.warmed, X', hpost, fun target h => hstep₁ _ fun acts => by rw [doInvoke_state]; exact hsteps.trans h⟩
  · exact Or.inr ⟨q, vm₁, B, X₁.warmed, X', hpost, hstep₁ _ fun acts => by rw [doInvoke_state]; exact hsteps⟩
end VXIC
section VXID
variable {p : Program} {l : Launch} {e : Env} {R : Room} {s : State} {m : MethodId} {args : Array Value} {below : List Frame} {meth : Method} {c : Code} {H : Heap} {locs : List Loc} {cells slots : Nat}
theorem vx_runIN {y : MethodName} {bytes cc : ByteArray} {maxL nL mc ms n index : Nat} {ws : List Cond} {rm : Room} {Pc : Array Value → State → Prop} {Qc : Array Value → State → Outcome → State → Prop} {XC : String → State → State → Prop} {free : Addr → Prop} {Ts : List Cond} {own host : String} {b : Addr} {As rest : List Value} {g : JFrame}
    (S : CallFix p m c cc nL s args Ts own) (hM : vx_Met l y ws rm Pc Qc XC mc ms free) (cw : va_CN R s args own index y host bytes maxL none ws rm mc ms n ∧ y.name = "<init>" ∧ (Cond.instanceMethod y).before args s = true) (hp : PreS s H Pc (.ref b :: As))
    (hg : g.method = m) (hn : As.length = n) (hsize : g.locals.size = nL) (hstack : g.stack = As.reverse ++ .ref b :: rest) (hW : 2 * g.monitorRoom + (rest.map fun v => v.category).sum ≤ 8) (hdg : decode cc g.pc = .ok (.invokespecial index, 3)) (hf : cells + mc ≤ R.cells ∧ slots + ms ≤ R.slots) :
    vx_Run p l e R s m args below meth c H locs cells slots mc ms g rest (Qc (Value.ref b :: As).toArray) XC free := by
  obtain ⟨⟨⟨hrc, hrs, hfr, hlo, hws, hcw⟩, hcode, hini, hy, hlen, hl⟩, hx1, hx2⟩ := cw
  have hK : vx_Back l R p e below s args y 3 8 (PreOf R mc ms Pc) (PostOf Qc mc ms free) (vx_Post XC mc ms free) := vx_back (bytes := bytes) (maxL := maxL) (ret := none) hM hp.1 hrc hrs hfr hlo hws hcw (fun a' U hW => word_at hW (Or.inl (by first | rfl | simp [Cond.onTables, Cond.keeps, Cond.steady])) hini)
  obtain ⟨hx, hb, hml, ho, -⟩ := S
  have hPc := hp.2
  intro T hT X
  rcases vx_callIN X hx (bytes := bytes) (maxL := maxL) ho hx1 hl hx2 hcode hy hK hg (hsize.trans hml.symm) (a := b) (argsL := As) (rest := rest) (fun sig h => hn.trans (hlen sig h)) hstack hW (by rw [hb]; exact hdg)
    (fun vm₁ hW₁ => ⟨hf.1, hf.2, hPc (T.setVm vm₁) hT hW₁⟩) with ⟨v, vm₁, ⟨U', l2, c2, s2⟩, hW₁, X', ⟨g', mk, t, L, e1, e2, hq, h1, hL, h2, h3⟩, st⟩ | ⟨q, vm₁, ⟨U', l2, c2, s2⟩, hW₁, X', ⟨g', mk, t, L, E, ce, e1, e2, hq, hce, hcv, hcl, h1, hL, h2, h3⟩, st⟩
  · dsimp only [Pt.U, Pt.locs, Pt.cells, Pt.slots] at X' e1 e2 h1 h2 h3 st
    subst h1; subst h2; subst h3
    exact Or.inl ⟨v, (T.setVm vm₁).calling g' mk (Value.ref b :: As).toArray, t, U', L, hT, X', hL, e1, e2, hq, st⟩
  · dsimp only [Pt.U, Pt.locs, Pt.cells, Pt.slots] at X' e1 e2 h1 h2 h3 st hcl
    subst h1; subst h2; subst h3
    exact Or.inr ⟨q, (T.setVm vm₁).calling g' mk (Value.ref b :: As).toArray, t, U', L, E, ce, hT, X', hL, e1, e2, hq, hce, hcv, vx_cls hW₁ hcl, st⟩
end VXID
/-! ===== END ===== -/
/-! ===== BEGIN a method of a class above, found by the receiver, that may throw (follows va_callVU, va_runU of this kit) ===== -/
section
variable {p : Program} {l : Launch} {e : Env} {R : Room} {s : State} {m : MethodId} {args : Array Value} {below : List Frame} {meth : Method} {c : Code} {H : Heap} {locs : List Loc} {cells slots : Nat}
theorem vx_callVU {T : State} {locs : List Loc} {cells slots : Nat} (X : Stand p l e R s m args below meth c T locs cells slots) (hexec : p.tables.exec = Jvm.exec) {own C owner : String} {index : Nat} {x y : MethodName} {bytes : ByteArray} {maxL : Nat} {ret : Option FieldType}
    (hown : s.vm.findClass own = some m.cls) (hlink : (Cond.methodLink own index x).before args s = true) (hsame : (Cond.sameMethod x.cls owner x.name x.desc).before args s = true)
    (hd0 : va_Decl s ⟨owner, x.name, x.desc⟩) (howner : owner ≠ "java/lang/invoke/MethodHandle" ∧ owner ≠ "java/lang/invoke/VarHandle")
    (hsel : (Cond.selects C x y).before args s = true) (hinst : (Cond.instanceMethod y).before args s = true) (hcode : (Cond.code y bytes maxL ret).before args s = true)
    {W : Nat} {Pre : Pt → Array Value → Prop} {Post : Pt → Array Value → Option Value → Pt → Prop} {PostX : Pt → Array Value → Addr → Pt → Prop} (hK : vx_Back l R p e below s args y 3 W Pre Post PostX)
    {b : Addr} {cellB : Cell} (hcell : T.heap[b]? = some cellB) (hobj : cellB.vm.isStatics = false) (hcls : s.vm.findClass C = some cellB.cls)
    {g : JFrame} (hg : g.method = m) (hsize : g.locals.size = c.maxLocals) {argsL rest : List Value} (hlen : ∀ sig, parseMethodDescriptor x.desc = some sig → argsL.length = sig.parameters.length)
    (hstack : g.stack = argsL.reverse ++ .ref b :: rest) (hW : 2 * g.monitorRoom + (rest.map fun v => v.category).sum ≤ W) (hdg : decode c.code g.pc = .ok (.invokevirtual index, 3))
    (hpre : ∀ vm₁, s.WarmedH vm₁ → Pre ⟨T.setVm vm₁, locs, cells, slots⟩ (Value.ref b :: argsL).toArray) :
    (∃ (v : Option Value) (vm₁ : Vm) (B : Pt), s.WarmedH vm₁ ∧ Stand p l e R s m args below meth c B.U B.locs B.cells B.slots ∧ Post ⟨T.setVm vm₁, locs, cells, slots⟩ (Value.ref b :: argsL).toArray v B ∧
      ∀ target, Steps p.tables e below (B.U.setTop { g with pc := g.pc + 3, stack := v.toList ++ rest }) target → Steps p.tables e below (T.setTop g) target) ∨
    (∃ (q : Addr) (vm₁ : Vm) (B : Pt), s.WarmedH vm₁ ∧ Stand p l e R s m args below meth c B.U B.locs B.cells B.slots ∧ PostX ⟨T.setVm vm₁, locs, cells, slots⟩ (Value.ref b :: argsL).toArray q B ∧
      Steps p.tables e below (T.setTop g) ((B.U.setTop { g with stack := rest }).pushFrame (.throwing q))) := by
  obtain ⟨r0, r, hn, hrm, hstR, hsigR⟩ := hd0
  obtain ⟨cn, ck, r1, hcn, hck, hni, hf, hn1⟩ := Cond.sameMethod_found hsame
  cases hn.symm.trans hn1
  obtain ⟨mk, methM, hnamed, hmethM, -, habM⟩ := Cond.instanceMethod_spec hinst
  obtain ⟨c2, r2, m2, q1, q2, q3, q4, kP, hkP, hkPi⟩ := Cond.selects_spec hsel
  cases hcls.symm.trans q1
  cases hf.symm.trans q2
  cases hnamed.symm.trans q3
  have hselP : selectMethod e.platform s.vm cellB.cls r0 = .method mk := by rw [Launch.admits_selectMethod X.admits]; exact q4
  obtain ⟨vm₁, X₁, hstep₁⟩ := X.invokevirtualUp hexec hown hlink hsame howner hn hrm hstR (a := b) (cell := cellB) hcell
    (fun z h => by rw [h] at hobj; cases hobj) hselP hmethM habM hkP hkPi (g := g) hg (argsL := argsL) (rest := rest) (hlen _ hsigR) hstack hdg
  rcases hK m meth c ⟨T.setVm vm₁, locs, cells, slots⟩ { g with stack := rest } (.invokevirtual index) mk (Value.ref b :: argsL).toArray X₁ hg hsize hdg hW (X₁.named hnamed) (hpre vm₁ X₁.warmed) with ⟨v, B, X', hpost, hsteps⟩ | ⟨q, B, X', hpost, hsteps⟩
  · exact Or.inl ⟨v, vm₁, B, X₁.warmed, X', hpost, fun target h => hstep₁ _ fun acts => by rw [doInvoke_state]; exact hsteps.trans h⟩
  · exact Or.inr ⟨q, vm₁, B, X₁.warmed, X', hpost, hstep₁ _ fun acts => by rw [doInvoke_state]; exact hsteps⟩
theorem vx_runU {x y : MethodName} {bytes cc : ByteArray} {maxL nL mc ms n index : Nat} {ret : Option FieldType} {ws : List Cond} {rm : Room} {Pc : Array Value → State → Prop} {Qc : Array Value → State → Outcome → State → Prop} {XC : String → State → State → Prop} {free : Addr → Prop} {Ts : List Cond} {own C owner : String} {b : Addr} {As rest : List Value} {g : JFrame}
    (S : CallFix p m c cc nL s args Ts own) (hM : vx_Met l y ws rm Pc Qc XC mc ms free) (cw : va_CU R s args own C owner index x y bytes maxL ret ws rm mc ms n) (hp : PreV s H C b Pc As)
    (hg : g.method = m) (hn : As.length = n) (hsize : g.locals.size = nL) (hstack : g.stack = As.reverse ++ .ref b :: rest) (hW : 2 * g.monitorRoom + (rest.map fun v => v.category).sum ≤ 8) (hdg : decode cc g.pc = .ok (.invokevirtual index, 3)) (hf : cells + mc ≤ R.cells ∧ slots + ms ≤ R.slots) :
    vx_Run p l e R s m args below meth c H locs cells slots mc ms g rest (Qc (Value.ref b :: As).toArray) XC free := by
  obtain ⟨hrc, hrs, hfr, hlo, hws, hcw⟩ := cw.back
  have hini := cw.init
  have hK : vx_Back l R p e below s args y 3 8 (PreOf R mc ms Pc) (PostOf Qc mc ms free) (vx_Post XC mc ms free) := vx_back (bytes := bytes) (maxL := maxL) (ret := ret) hM hp.1 hrc hrs hfr hlo hws hcw (fun a' U hW => word_at hW (Or.inl (by first | rfl | simp [Cond.onTables, Cond.keeps, Cond.steady])) hini)
  obtain ⟨hx, hb, hml, ho, -⟩ := S
  obtain ⟨-, ⟨cellB, hcB, hoB, hclB⟩, hPc⟩ := hp
  intro T hT X
  rcases vx_callVU X hx (C := C) (owner := owner) (bytes := bytes) (maxL := maxL) (ret := ret) ho cw.link cw.same cw.decl cw.notMH cw.sel cw.inst cw.code hK (by rw [hT]; exact hcB) hoB hclB hg (hsize.trans hml.symm) (argsL := As) (rest := rest) (fun sig h => hn.trans (cw.len sig h)) hstack hW (by rw [hb]; exact hdg)
    (fun vm₁ hW₁ => ⟨hf.1, hf.2, hPc (T.setVm vm₁) hT hW₁⟩) with ⟨v, vm₁, ⟨U', l2, c2, s2⟩, hW₁, X', ⟨g', mk, t, L, e1, e2, hq, h1, hL, h2, h3⟩, st⟩ | ⟨q, vm₁, ⟨U', l2, c2, s2⟩, hW₁, X', ⟨g', mk, t, L, E, ce, e1, e2, hq, hce, hcv, hcl, h1, hL, h2, h3⟩, st⟩
  · dsimp only [Pt.U, Pt.locs, Pt.cells, Pt.slots] at X' e1 e2 h1 h2 h3 st
    subst h1; subst h2; subst h3
    exact Or.inl ⟨v, (T.setVm vm₁).calling g' mk (Value.ref b :: As).toArray, t, U', L, hT, X', hL, e1, e2, hq, st⟩
  · dsimp only [Pt.U, Pt.locs, Pt.cells, Pt.slots] at X' e1 e2 h1 h2 h3 st hcl
    subst h1; subst h2; subst h3
    exact Or.inr ⟨q, (T.setVm vm₁).calling g' mk (Value.ref b :: As).toArray, t, U', L, E, ce, hT, X', hL, e1, e2, hq, hce, hcv, vx_cls hW₁ hcl, st⟩
end
/-! ===== END ===== -/
end
section
/-! rows of kit/laws/EXCEPTIONS.to-paste (a starting text): super calls, calls by an interface -/
/-! ===== BEGIN super.m(..) that may throw (follows va_callSU, va_runSU) ===== -/
section
variable {p : Program} {l : Launch} {e : Env} {R : Room} {s : State} {m : MethodId} {args : Array Value} {below : List Frame} {meth : Method} {c : Code} {H : Heap} {locs : List Loc} {cells slots : Nat}
theorem vx_callSU {T : State} {locs : List Loc} {cells slots : Nat} (X : Stand p l e R s m args below meth c T locs cells slots) (hexec : p.tables.exec = Jvm.exec) {own : String} {index : Nat} {y : MethodName} {bytes : ByteArray} {maxL : Nat} {ret : Option FieldType}
    (hown : s.vm.findClass own = some m.cls) (hlink : (Cond.methodLink own index y).before args s = true) (hsame : (Cond.sameMethod y.cls y.cls y.name y.desc).before args s = true) (hsup : (Cond.superclass own y.cls).before args s = true)
    (hinst : (Cond.instanceMethod y).before args s = true) (hcode : (Cond.code y bytes maxL ret).before args s = true) (hno : y.name ≠ "<init>")
    {W : Nat} {Pre : Pt → Array Value → Prop} {Post : Pt → Array Value → Option Value → Pt → Prop} {PostX : Pt → Array Value → Addr → Pt → Prop} (hK : vx_Back l R p e below s args y 3 W Pre Post PostX)
    {b : Addr} {cellB : Cell} {kB : Class} (hcell : T.heap[b]? = some cellB) (hobj : cellB.vm.isStatics = false) (hkB : s.vm.classes[cellB.cls]? = some kB)
    {g : JFrame} (hg : g.method = m) (hsize : g.locals.size = c.maxLocals) {argsL rest : List Value} (hlen : ∀ sig, parseMethodDescriptor y.desc = some sig → argsL.length = sig.parameters.length)
    (hstack : g.stack = argsL.reverse ++ .ref b :: rest) (hW : 2 * g.monitorRoom + (rest.map fun v => v.category).sum ≤ W) (hdg : decode c.code g.pc = .ok (.invokespecial index, 3))
    (hpre : ∀ vm₁, s.WarmedH vm₁ → Pre ⟨T.setVm vm₁, locs, cells, slots⟩ (Value.ref b :: argsL).toArray) :
    (∃ (v : Option Value) (vm₁ : Vm) (B : Pt), s.WarmedH vm₁ ∧ Stand p l e R s m args below meth c B.U B.locs B.cells B.slots ∧ Post ⟨T.setVm vm₁, locs, cells, slots⟩ (Value.ref b :: argsL).toArray v B ∧
      ∀ target, Steps p.tables e below (B.U.setTop { g with pc := g.pc + 3, stack := v.toList ++ rest }) target → Steps p.tables e below (T.setTop g) target) ∨
    (∃ (q : Addr) (vm₁ : Vm) (B : Pt), s.WarmedH vm₁ ∧ Stand p l e R s m args below meth c B.U B.locs B.cells B.slots ∧ PostX ⟨T.setVm vm₁, locs, cells, slots⟩ (Value.ref b :: argsL).toArray q B ∧
      Steps p.tables e below (T.setTop g) ((B.U.setTop { g with stack := rest }).pushFrame (.throwing q))) := by
  obtain ⟨mk, methM, hnamed, hmethM, hstM, habM⟩ := Cond.instanceMethod_spec hinst
  obtain ⟨methM', cM, hmethM', -, -, -, -, -, -, hsigM⟩ := Cond.code_spec hnamed hcode
  cases hmethM.symm.trans hmethM'
  obtain ⟨ps, dk, kp, hps, hdk, hkp, hsuper, -, -, hnid⟩ := Cond.superclass_spec hown hsup
  have hn : s.methodNamed? ⟨y.cls, y.name, y.desc⟩ = some mk := hnamed
  have hpm : ps = mk.cls := Option.some.inj (hps.symm.trans (findClass_of_methodNamed hnamed))
  have hsub : s.vm.isSubclass ps mk.cls = true := by rw [hpm]; simp [Vm.isSubclass, Vm.isSubclassAux]
  obtain ⟨vm₁, X₁, hstep₁⟩ := X.invokespecialUp hexec hown hlink hsame hn hmethM hstM habM hno hdk hnid hps hsuper hsub (a := b) (cell := cellB) hcell
    (fun z h => by rw [h] at hobj; cases hobj) hkB (g := g) hg (argsL := argsL) (rest := rest) (hlen _ hsigM) hstack hdg
  rcases hK m meth c ⟨T.setVm vm₁, locs, cells, slots⟩ { g with stack := rest } (.invokespecial index) mk (Value.ref b :: argsL).toArray X₁ hg hsize hdg hW (X₁.named hnamed) (hpre vm₁ X₁.warmed) with ⟨v, B, X', hpost, hsteps⟩ | ⟨q, B, X', hpost, hsteps⟩
  · exact Or.inl ⟨v, vm₁, B, X₁.warmed, X', hpost, fun target h => hstep₁ _ (by rw [doInvoke_state]; exact hsteps.trans h)⟩
  · exact Or.inr ⟨q, vm₁, B, X₁.warmed, X', hpost, hstep₁ _ (by rw [doInvoke_state]; exact hsteps)⟩
theorem vx_runSU {y : MethodName} {bytes cc : ByteArray} {maxL nL mc ms n index : Nat} {ret : Option FieldType} {ws : List Cond} {rm : Room} {Pc : Array Value → State → Prop} {Qc : Array Value → State → Outcome → State → Prop} {XC : String → State → State → Prop} {free : Addr → Prop} {Ts : List Cond} {own C : String} {cC : ClassId} {b : Addr} {As rest : List Value} {g : JFrame}
    (hat : ClassAt s C cC) (S : CallFix p m c cc nL s args Ts own) (hM : vx_Met l y ws rm Pc Qc XC mc ms free) (cw : va_CS R s args own index y bytes maxL ret ws rm mc ms n) (hp : PreV s H C b Pc As)
    (hg : g.method = m) (hn : As.length = n) (hsize : g.locals.size = nL) (hstack : g.stack = As.reverse ++ .ref b :: rest) (hW : 2 * g.monitorRoom + (rest.map fun v => v.category).sum ≤ 8) (hdg : decode cc g.pc = .ok (.invokespecial index, 3)) (hf : cells + mc ≤ R.cells ∧ slots + ms ≤ R.slots) :
    vx_Run p l e R s m args below meth c H locs cells slots mc ms g rest (Qc (Value.ref b :: As).toArray) XC free := by
  obtain ⟨⟨hrc, hrs, hfr, hlo, hws, hcw⟩, hl1, hl2, hl3, hl4, hini, hcode, hno, hlen⟩ := cw
  have hK : vx_Back l R p e below s args y 3 8 (PreOf R mc ms Pc) (PostOf Qc mc ms free) (vx_Post XC mc ms free) := vx_back (bytes := bytes) (maxL := maxL) (ret := ret) hM hp.1 hrc hrs hfr hlo hws hcw (fun a' U hW => word_at hW (Or.inl (by first | rfl | simp [Cond.onTables, Cond.keeps, Cond.steady])) hini)
  obtain ⟨hx, hb, hml, ho, -⟩ := S
  obtain ⟨-, ⟨cellB, hcB, hoB, hclB⟩, hPc⟩ := hp
  obtain ⟨hfc, kB, hkB, -⟩ := hat
  cases hfc.symm.trans hclB
  intro T hT X
  rcases vx_callSU X hx (bytes := bytes) (maxL := maxL) (ret := ret) ho hl1 hl2 hl3 hl4 hcode hno hK (by rw [hT]; exact hcB) hoB hkB hg (hsize.trans hml.symm) (argsL := As) (rest := rest) (fun sig h => hn.trans (hlen sig h)) hstack hW (by rw [hb]; exact hdg)
    (fun vm₁ hW₁ => ⟨hf.1, hf.2, hPc (T.setVm vm₁) hT hW₁⟩) with ⟨v, vm₁, ⟨U', l2, c2, s2⟩, hW₁, X', ⟨g', mk, t, L, e1, e2, hq, h1, hL, h2, h3⟩, st⟩ | ⟨q, vm₁, ⟨U', l2, c2, s2⟩, hW₁, X', ⟨g', mk, t, L, E, ce, e1, e2, hq, hce, hcv, hcl, h1, hL, h2, h3⟩, st⟩
  · dsimp only [Pt.U, Pt.locs, Pt.cells, Pt.slots] at X' e1 e2 h1 h2 h3 st
    subst h1; subst h2; subst h3
    exact Or.inl ⟨v, (T.setVm vm₁).calling g' mk (Value.ref b :: As).toArray, t, U', L, hT, X', hL, e1, e2, hq, st⟩
  · dsimp only [Pt.U, Pt.locs, Pt.cells, Pt.slots] at X' e1 e2 h1 h2 h3 st hcl
    subst h1; subst h2; subst h3
    exact Or.inr ⟨q, (T.setVm vm₁).calling g' mk (Value.ref b :: As).toArray, t, U', L, E, ce, hT, X', hL, e1, e2, hq, hce, hcv, vx_cls hW₁ hcl, st⟩
end
/-! ===== END ===== -/
/-! ===== BEGIN calls by an interface of methods that may throw (vx_callIF, vx_runF follow va_callIF, va_runF of this kit) ===== -/
section
variable {p : Program} {l : Launch} {e : Env} {R : Room} {s : State} {m : MethodId} {args : Array Value} {below : List Frame} {meth : Method} {c : Code} {H : Heap} {locs : List Loc} {cells slots : Nat} {Q : State → Prop}
variable {mc ms : Nat} {free : Addr → Prop} {A0 A1 : Nat → Prop} {H0 : Heap} {a : Array Value} {pc : Nat} {ls : Array Slot} {st0 rest : List Value}
def vx_Run5 (p : Program) (l : Launch) (e : Env) (R : Room) (s : State) (m : MethodId) (args : Array Value) (below : List Frame) (meth : Method) (c : Code) (H : Heap) (locs : List Loc) (cells slots mc ms : Nat) (g : JFrame) (rest : List Value) (Qa : State → Outcome → State → Prop) (XC : String → State → State → Prop) (free : Addr → Prop) : Prop :=
  ∀ T : State, T.heap = H → Stand p l e R s m args below meth c T locs cells slots →
    (∃ (v : Option Value) (st₀ t T' : State) (L : List Loc), st₀.heap = H ∧ Stand p l e R s m args below meth c T' (locs ++ L) (cells + mc) (slots + ms) ∧ (∀ q ∈ L, free q.base) ∧ T'.heap = t.heap ∧ T'.vm = t.vm ∧ Qa st₀ (.returned v) t ∧
      Goes p e below T g T' { g with pc := g.pc + 5, stack := v.toList ++ rest }) ∨
    (∃ (q : Addr) (st₀ t T' : State) (L : List Loc) (E : String) (ce : Cell), st₀.heap = H ∧ Stand p l e R s m args below meth c T' (locs ++ L) (cells + mc) (slots + ms) ∧ (∀ z ∈ L, free z.base) ∧ T'.heap = t.heap ∧ T'.vm = t.vm ∧ XC E st₀ t ∧ t.heap[q]? = some ce ∧ ce.vm = .none ∧ s.vm.findClass E = some ce.cls ∧
      Steps p.tables e below (T.setTop g) ((T'.setTop { g with stack := rest }).pushFrame (.throwing q)))
theorem vx_callIF {T : State} (X : Stand p l e R s m args below meth c T locs cells slots) (hexec : p.tables.exec = Jvm.exec) {own C : String} {index count : Nat} {x y : MethodName} {bytes : ByteArray} {maxL : Nat} {ret : Option FieldType}
    (hown : s.vm.findClass own = some m.cls) (hlink : (Cond.methodLink own index x).before args s = true) (hdecl : (Cond.declares x).before args s = true) (hface : (Cond.interfaceMethod x.cls x.cls x.name x.desc).before args s = true)
    (hsel : (Cond.selects C x y).before args s = true) (hinst : (Cond.instanceMethod y).before args s = true) (hpub : (Cond.publicMethod y).before args s = true) (hunh : (Cond.unhidden C x.name x.desc).before args s = true)
    (hcast : (Cond.castable C x.cls).before args s = true) (hcode : (Cond.code y bytes maxL ret).before args s = true) (hx : x.cls ≠ "java/lang/invoke/MethodHandle" ∧ x.cls ≠ "java/lang/invoke/VarHandle")
    {W9 : Nat} {Pre : Pt → Array Value → Prop} {Post : Pt → Array Value → Option Value → Pt → Prop} {PostX : Pt → Array Value → Addr → Pt → Prop} (hK : vx_Back l R p e below s args y 5 W9 Pre Post PostX)
    {b : Addr} {cellB : Cell} {kB : Class} (hcell : T.heap[b]? = some cellB) (hobj : cellB.vm.isStatics = false) (hcls : s.vm.findClass C = some cellB.cls) (hkB : s.vm.classes[cellB.cls]? = some kB)
    {g : JFrame} (hg : g.method = m) (hsize : g.locals.size = c.maxLocals) {argsL rest : List Value} (hlen : ∀ sig, parseMethodDescriptor x.desc = some sig → argsL.length = sig.parameters.length)
    (hstack : g.stack = argsL.reverse ++ .ref b :: rest) (hW : 2 * g.monitorRoom + (rest.map fun v => v.category).sum ≤ W9) (hdg : decode c.code g.pc = .ok (.invokeinterface index count, 5))
    (hpre : ∀ vm₁, s.WarmedH vm₁ → Pre ⟨T.setVm vm₁, locs, cells, slots⟩ (Value.ref b :: argsL).toArray) :
    (∃ (v : Option Value) (vm₁ : Vm) (B : Pt), s.WarmedH vm₁ ∧ Stand p l e R s m args below meth c B.U B.locs B.cells B.slots ∧ Post ⟨T.setVm vm₁, locs, cells, slots⟩ (Value.ref b :: argsL).toArray v B ∧
      ∀ target, Steps p.tables e below (B.U.setTop { g with pc := g.pc + 5, stack := v.toList ++ rest }) target → Steps p.tables e below (T.setTop g) target) ∨
    (∃ (q : Addr) (vm₁ : Vm) (B : Pt), s.WarmedH vm₁ ∧ Stand p l e R s m args below meth c B.U B.locs B.cells B.slots ∧ PostX ⟨T.setVm vm₁, locs, cells, slots⟩ (Value.ref b :: argsL).toArray q B ∧
      Steps p.tables e below (T.setTop g) ((B.U.setTop { g with stack := rest }).pushFrame (.throwing q))) := by
  obtain ⟨r0, r, hn, hrm, hstR, hsigR⟩ := Cond.declares_spec hdecl
  obtain ⟨cL, kL, r1, hcL, hkL, hiL, hfoundL, hn1⟩ := Cond.interfaceMethod_spec hface
  cases hn.symm.trans hn1
  have hr0cls : r0.cls = cL := Option.some.inj ((findClass_of_methodNamed hn).symm.trans hcL)
  obtain ⟨hnameR, hdescR⟩ := name_of_methodNamed hn hrm
  obtain ⟨mk, methM, hnamed, hmethM, -, habM⟩ := Cond.instanceMethod_spec hinst
  obtain ⟨c2, r2, m2, q1, q2, q3, q4, -⟩ := Cond.selects_spec hsel
  cases hcls.symm.trans q1
  cases hfoundL.symm.trans q2
  cases hnamed.symm.trans q3
  have hselP : selectMethod e.platform s.vm cellB.cls r0 = .method mk := by rw [Launch.admits_selectMethod X.admits]; exact q4
  have hpubM : hasFlag methM.accessFlags Acc.public_ = true := Cond.publicMethod_spec hnamed hmethM hpub
  have hway : ((cellB.cls :: s.vm.superclasses cellB.cls).any fun k => (declaredIn s.vm r.name r.desc k).any fun (_, z) => z.isPrivate || z.isStatic) = false := by
    rw [hnameR, hdescR]; exact Cond.unhidden_spec hcls hunh
  obtain ⟨c3, t3, w1, w2, w3⟩ := Cond.castable_spec hcast
  cases hcls.symm.trans w1
  cases hcL.symm.trans w2
  obtain ⟨vm₁, X₁, hstep₁⟩ := X.invokeinterface hexec hown hlink hn hrm hstR (by rw [hr0cls]; exact hkL) hiL hx (a := b) (cell := cellB) (kcell := kB) hcell
    (fun z h => by rw [h] at hobj; cases hobj) hkB (by rw [hr0cls]; exact w3) hselP hmethM hway hpubM habM (g := g) hg (argsL := argsL) (rest := rest) (hlen _ hsigR) hstack hdg
  rcases hK m meth c ⟨T.setVm vm₁, locs, cells, slots⟩ { g with stack := rest } (.invokeinterface index count) mk (Value.ref b :: argsL).toArray X₁ hg hsize hdg hW (X₁.named hnamed) (hpre vm₁ X₁.warmed) with ⟨v, B, X', hpost, hsteps⟩ | ⟨q, B, X', hpost, hsteps⟩
  · exact Or.inl ⟨v, vm₁, B, X₁.warmed, X', hpost, fun target h => hstep₁ _ fun acts => by rw [doInvoke_state]; exact hsteps.trans h⟩
  · exact Or.inr ⟨q, vm₁, B, X₁.warmed, X', hpost, hstep₁ _ fun acts => by rw [doInvoke_state]; exact hsteps⟩
theorem vx_runF {x y : MethodName} {bytes cc : ByteArray} {maxL nL mc ms n index count : Nat} {ret : Option FieldType} {ws : List Cond} {rm : Room} {Pc : Array Value → State → Prop} {Qc : Array Value → State → Outcome → State → Prop} {XC : String → State → State → Prop} {free : Addr → Prop} {Ts : List Cond} {own C : String} {cC : ClassId} {b : Addr} {As rest : List Value} {g : JFrame}
    (hat : ClassAt s C cC) (S : CallFix p m c cc nL s args Ts own) (hM : vx_Met l y ws rm Pc Qc XC mc ms free) (cw : va_CI R s args own C index x y bytes maxL ret ws rm mc ms n) (hp : PreV s H C b Pc As)
    (hg : g.method = m) (hn : As.length = n) (hsize : g.locals.size = nL) (hstack : g.stack = As.reverse ++ .ref b :: rest) (hW : 2 * g.monitorRoom + (rest.map fun v => v.category).sum ≤ 8) (hdg : decode cc g.pc = .ok (.invokeinterface index count, 5)) (hf : cells + mc ≤ R.cells ∧ slots + ms ≤ R.slots) :
    vx_Run5 p l e R s m args below meth c H locs cells slots mc ms g rest (Qc (Value.ref b :: As).toArray) XC free := by
  obtain ⟨hrc, hrs, hfr, hlo, hws, hcw⟩ := cw.back
  have hini := cw.init
  have hK : vx_Back l R p e below s args y 5 8 (PreOf R mc ms Pc) (PostOf Qc mc ms free) (vx_Post XC mc ms free) := vx_back (bytes := bytes) (maxL := maxL) (ret := ret) hM hp.1 hrc hrs hfr hlo hws hcw (fun a' U hW => word_at hW (Or.inl (by first | rfl | simp [Cond.onTables, Cond.keeps, Cond.steady])) hini)
  obtain ⟨hx, hb, hml, ho, -⟩ := S
  obtain ⟨-, ⟨cellB, hcB, hoB, hclB⟩, hPc⟩ := hp
  obtain ⟨hfc, kB, hkB, -⟩ := hat
  cases hfc.symm.trans hclB
  intro T hT X
  rcases vx_callIF X hx (C := C) (bytes := bytes) (maxL := maxL) (ret := ret) ho cw.link cw.decl cw.face cw.sel cw.inst cw.pub cw.unh cw.cast cw.code cw.notMH hK (by rw [hT]; exact hcB) hoB hclB hkB hg (hsize.trans hml.symm) (argsL := As) (rest := rest) (fun sig h => hn.trans (cw.len sig h)) hstack hW (by rw [hb]; exact hdg)
    (fun vm₁ hW₁ => ⟨hf.1, hf.2, hPc (T.setVm vm₁) hT hW₁⟩) with ⟨v, vm₁, ⟨U', l2, c2, s2⟩, hW₁, X', ⟨g', mk, t, L, e1, e2, hq, h1, hL, h2, h3⟩, st⟩ | ⟨q, vm₁, ⟨U', l2, c2, s2⟩, hW₁, X', ⟨g', mk, t, L, E, ce, e1, e2, hq, hce, hcv, hcl, h1, hL, h2, h3⟩, st⟩
  · dsimp only [Pt.U, Pt.locs, Pt.cells, Pt.slots] at X' e1 e2 h1 h2 h3 st
    subst h1; subst h2; subst h3
    exact Or.inl ⟨v, (T.setVm vm₁).calling g' mk (Value.ref b :: As).toArray, t, U', L, hT, X', hL, e1, e2, hq, st⟩
  · dsimp only [Pt.U, Pt.locs, Pt.cells, Pt.slots] at X' e1 e2 h1 h2 h3 st hcl
    subst h1; subst h2; subst h3
    exact Or.inr ⟨q, (T.setVm vm₁).calling g' mk (Value.ref b :: As).toArray, t, U', L, E, ce, hT, X', hL, e1, e2, hq, hce, hcv, vx_cls hW₁ hcl, st⟩
end
end
section
/-! V: one method's frame at a pc, over a world whose cells lie at B, B+1, ..: 'h k' is what stands at B + k, for k < n and k < NC; what lies behind NC is forgotten. -/
abbrev GG : Type := va_G × Nat × (Nat → ClassId) × (Nat → Nat) × Nat × Nat × (Nat → Int32)
abbrev gD (G : GG) : va_G := G.1
abbrev gB (G : GG) : Nat := G.2.1
abbrev gC (G : GG) : Nat → ClassId := G.2.2.1
abbrev gA (G : GG) : Nat → Nat := G.2.2.2.1
abbrev gb (G : GG) : Nat := G.2.2.2.2.1
abbrev gL (G : GG) : Nat := G.2.2.2.2.2.1
abbrev gX (G : GG) : Nat → Int32 := G.2.2.2.2.2.2
abbrev HM : Type := Nat → va_E
abbrev Ans : Type := Option Value ⊕ String
abbrev MT : Type := MethodName × ByteArray × Nat × Option FieldType × List (Nat × Nat × Nat × Nat)
abbrev PQ : Type := Ans → HM → Nat → Prop
def NC : Nat := 94
/-- the places: what a method of the class may change of what stood before -/
def FrA (G : GG) : Nat → Prop := fun q => gB G ≤ q ∧ q < gB G + NC
def tysG (G : GG) : List (ClassId × FieldType) := [(gC G 0, .int), (gC G 1, .byte), (gC G 2, .boolean), (gC G 3, .long), (gC G 4, .object "LiftScheduler$Simulation"), (gC G 5, .object "LiftScheduler$Kind")]
def KV (G : GG) (U : State) : Prop := va_K (gD G) vwCl (tysG G) U
def HP (G : GG) (h : HM) (n : Nat) (H : Heap) : Prop := ((H.size = gB G + n ∧ n ≤ NC) ∨ (n = NC ∧ gB G + n ≤ H.size)) ∧ ∀ k, k < n → va_at (gD G) vwCl (gB G + k, h k) H
/-- what stands below B, and never changes: the script, the JDK's two statics, our statics, their objects' fields, classes and arrays -/
def EVr (A : Nat → Prop) (G : GG) (U : State) (H : Heap) : Prop :=
  (va_X (gb G) (gL G) (gX G) U H ∧ ¬ A (gb G)) ∧ vx_Zq Bundle.tN "UNASSIGNED_STACK" Bundle.steD A U H ∧ vx_Zq Bundle.tN "SUPPRESSED_SENTINEL" Bundle.listD A U H ∧
  (∀ q ∈ ev_st (gA G), va_Z q.1 q.2.1 q.2.2.1 q.2.2.2 A U H) ∧ (∀ q ∈ ev_of (gA G), va_OF q.1 q.2.1 q.2.2.1 q.2.2.2.1 q.2.2.2.2 A U H) ∧
  (∀ q ∈ ev_ob (gA G), va_O q.1 q.2 A U H) ∧ (∀ q ∈ ev_ta (gA G), va_T q.1 q.2.1 q.2.2.1 q.2.2.2 A U H) ∧ ev_sr (gA G) U ∧ va_Zq "jdk/internal/util/Preconditions" "SIOOBE_FORMATTER" "Ljava/util/function/BiFunction;" A U H
theorem KV.moved {G : GG} {u U : State} (hvm : u.vm.Alike U.vm) (h : KV G u) : KV G U := va_K.moved hvm h
def EV (G : GG) (U : State) (H : Heap) : Prop := EVr (FrA G) G U H
theorem EVr.at' {A : Nat → Prop} {G : GG} {u U : State} {H H1 : Heap} (hW : u.WarmedH U.vm) (h : EVr A G u H) (hq' : ∀ a : Nat, a < H.size → ¬ A a → H1[a]? = H[a]?) : EVr A G U H1 := by
  obtain ⟨⟨h1, h1b⟩, h2, h3, h4, h5, h6, h7, h8, h9⟩ := h
  have hvm := hW.alike
  have hlt : gb G < H.size := by
    obtain ⟨scr, hs, -⟩ := h1
    exact (Array.getElem?_eq_some_iff.mp hs).1
  exact ⟨⟨(va_X.moved hvm h1).kept (hq' _ hlt h1b), h1b⟩, (vx_Zq.moved hvm h2).kept hq', (vx_Zq.moved hvm h3).kept hq', fun q hm => (va_Z.moved hvm (h4 q hm)).kept hq', fun q hm => (va_OF.moved hvm (h5 q hm)).kept hq',
    fun q hm => (va_O.moved hvm (h6 q hm)).kept hq', fun q hm => (va_T.moved hvm (h7 q hm)).kept hq', ev_sr.warm hW h8, (va_Zq.moved hvm h9).kept hq'⟩
theorem EVr.narrow {A B : Nat → Prop} {G : GG} {U : State} {H : Heap} (h : EVr A G U H) (hAB : ∀ q, B q → A q) : EVr B G U H := by
  obtain ⟨⟨h1, h1b⟩, h2, h3, h4, h5, h6, h7, h8, h9⟩ := h
  exact ⟨⟨h1, fun z => h1b (hAB _ z)⟩, h2.narrow hAB, h3.narrow hAB, fun q hm => (h4 q hm).narrow hAB, fun q hm => (h5 q hm).narrow hAB, fun q hm => (h6 q hm).narrow hAB, fun q hm => (h7 q hm).narrow hAB, h8, h9.narrow hAB⟩
theorem EVr.lt {A : Nat → Prop} {G : GG} {U : State} {H : Heap} (h : EVr A G U H) : gb G < H.size := by
  obtain ⟨scr, hs, -⟩ := h.1.1
  exact (Array.getElem?_eq_some_iff.mp hs).1
/-- the world as the kit's list -/
def wof (G : GG) (h : HM) (n : Nat) : va_W := (List.range n).map fun k => (gB G + k, h k)
theorem wof_get {G : GG} {h : HM} {n k : Nat} (hk : k < n) : (wof G h n)[k]? = some (gB G + k, h k) := by
  simp only [wof, List.getElem?_map]
  rw [List.getElem?_range hk]
  rfl
theorem wof_mem {G : GG} {h : HM} {n k : Nat} {q : Nat × va_E} (hq : (wof G h n)[k]? = some q) : k < n ∧ q = (gB G + k, h k) := by
  have hl := (List.getElem?_eq_some_iff.mp hq).1
  simp only [wof, List.length_map, List.length_range] at hl
  exact ⟨hl, Option.some.inj (hq.symm.trans (wof_get hl))⟩
theorem HP.P {G : GG} {h : HM} {n : Nat} {H : Heap} (hp : HP G h n H) : va_P (gD G) vwCl (wof G h n) H := fun k q hq => by
  obtain ⟨h1, rfl⟩ := wof_mem hq
  exact hp.2 k h1
theorem wof_D {G : GG} {h : HM} {n : Nat} (hn : n ≤ NC) : va_D (FrA G) (wof G h n) := by
  refine ⟨fun i j p q hi hj e => ?_, fun k q hk => ?_⟩
  · obtain ⟨-, rfl⟩ := wof_mem hi
    obtain ⟨-, rfl⟩ := wof_mem hj
    exact Nat.add_left_cancel e
  · obtain ⟨h1, rfl⟩ := wof_mem hk
    exact ⟨Nat.le_add_right _ _, Nat.add_lt_add_left (Nat.lt_of_lt_of_le h1 hn) _⟩
theorem HP.nle {G : GG} {h : HM} {n : Nat} {H : Heap} (hp : HP G h n H) : n ≤ NC := by
  rcases hp.1 with ⟨-, e⟩ | ⟨e, -⟩
  · exact e
  · exact Nat.le_of_eq e
theorem HP.fr {G : GG} {h : HM} {n k : Nat} {H : Heap} (hp : HP G h n H) (hk : k < n) : FrA G (gB G + k) := ⟨Nat.le_add_right _ _, Nat.add_lt_add_left (Nat.lt_of_lt_of_le hk hp.nle) _⟩
theorem HP.le {G : GG} {h : HM} {n : Nat} {H : Heap} (hp : HP G h n H) : gB G + n ≤ H.size := by
  rcases hp.1 with ⟨e, -⟩ | ⟨-, e⟩ <;> omega
def hset (h : HM) (k : Nat) (e : va_E) : HM := fun j => if j = k then e else h j
theorem hset_same {h : HM} {k : Nat} {e : va_E} : hset h k e k = e := by simp [hset]
theorem hset_ne {h : HM} {k j : Nat} {e : va_E} (hj : j ≠ k) : hset h k e j = h j := by simp [hset, hj]
/-- one cell's new contents -/
theorem HP.set {G : GG} {h : HM} {n k : Nat} {e : va_E} {H H1 : Heap} (hp : HP G h n H) (he : va_at (gD G) vwCl (gB G + k, e) H1) (hz : H1.size = H.size) (oq : ∀ q : Nat, q ≠ gB G + k → H1[q]? = H[q]?) : HP G (hset h k e) n H1 := by
  refine ⟨by rw [hz]; exact hp.1, fun j h1 => ?_⟩
  by_cases hj : j = k
  · subst hj
    rw [hset_same]
    exact he
  · rw [hset_ne hj]
    exact (hp.2 j h1).kept (oq _ (fun z => hj (Nat.add_left_cancel z)))
/-- a new cell at the end -/
theorem HP.push {G : GG} {h : HM} {n : Nat} {e : va_E} {H H1 : Heap} (hp : HP G h n H) (hn : n < NC) (he : va_at (gD G) vwCl (gB G + n, e) H1) (hz : H1.size = H.size + 1) (oq : ∀ q : Nat, q < H.size → H1[q]? = H[q]?) : HP G (hset h n e) (n + 1) H1 := by
  have hs : H.size = gB G + n := by
    rcases hp.1 with ⟨e, -⟩ | ⟨e, -⟩
    · exact e
    · omega
  refine ⟨Or.inl ⟨by rw [hz, hs]; omega, hn⟩, fun j h1 => ?_⟩
  by_cases hj : j = n
  · subst hj
    rw [hset_same]
    exact he
  · rw [hset_ne hj]
    exact (hp.2 j (by omega)).kept (oq _ (by rw [hs]; show gB G + j < _; omega))
theorem HP.at_end {G : GG} {h : HM} {n : Nat} {H : Heap} (hp : HP G h n H) (hn : n < NC) : H.size = gB G + n := by
  rcases hp.1 with ⟨e, -⟩ | ⟨e, -⟩
  · exact e
  · omega
/-- the heap has grown, what was there is there -/
theorem HP.grow {G : GG} {h : HM} {n : Nat} {H H1 : Heap} (hp : HP G h n H) (hn : n = NC) (hz : H.size ≤ H1.size) (oq : ∀ q : Nat, q < H.size → H1[q]? = H[q]?) : HP G h n H1 := by
  have h2 := hp.le
  refine ⟨Or.inr ⟨hn, by omega⟩, fun j h1 => (hp.2 j h1).kept (oq _ (by show gB G + j < _; omega))⟩
/-- out of the kit's list again, when all is made -/
theorem HP.ofP {G : GG} {h : HM} {H : Heap} (hp : va_P (gD G) vwCl (wof G h NC) H) : HP G h NC H := by
  have h1 : ∀ k, k < NC → va_at (gD G) vwCl (gB G + k, h k) H := fun k hk => hp k _ (wof_get hk)
  have h2 := (h1 93 (by decide)).lt
  exact ⟨Or.inr ⟨rfl, by show gB G + 94 ≤ _; have h3 : gB G + 93 < H.size := h2; omega⟩, h1⟩
theorem wof_set {G : GG} {h : HM} {n k : Nat} {e : va_E} (hk : k < n) : (wof G h n).set k (gB G + k, e) = wof G (hset h k e) n := by
  apply List.ext_getElem?
  intro j
  by_cases hj : j = k
  · subst hj
    rw [List.getElem?_set_self (by simp [wof]; exact hk), wof_get hk, hset_same]
  · rw [List.getElem?_set_ne (fun z => hj z.symm)]
    by_cases hl : j < n
    · rw [wof_get hl, wof_get hl, hset_ne hj]
    · rw [List.getElem?_eq_none (by simp [wof]; omega), List.getElem?_eq_none (by simp [wof]; omega)]
/-! locals, by place -/
def lvo (ls : Array Slot) (nL : Nat) (L : List (Option Value)) : Prop := ls.size = nL ∧ lv_wf ls ∧ ∀ (i : Nat) (v : Value), L[i]? = some (some v) → ls[i]? = some (.val v)
def asc (L : List (Option Value)) : List (Nat × Value) := (List.range L.length).filterMap fun i => match L[i]? with
  | some (some v) => some (i, v)
  | _ => none
theorem asc_mem {L : List (Option Value)} {q : Nat × Value} : q ∈ asc L ↔ L[q.1]? = some (some q.2) := by
  obtain ⟨i, v⟩ := q
  simp only [asc, List.mem_filterMap, List.mem_range]
  constructor
  · rintro ⟨a, ha, h⟩
    split at h
    · cases h; assumption
    · cases h
  · intro h
    exact ⟨i, (List.getElem?_eq_some_iff.mp h).1, by rw [h]⟩
theorem lvo.has {ls : Array Slot} {nL : Nat} {L : List (Option Value)} (h : lvo ls nL L) : lv_has ls nL (asc L) := ⟨h.1, h.2.1, fun q hq => h.2.2 q.1 q.2 (asc_mem.mp hq)⟩
theorem lvo.get {ls : Array Slot} {nL : Nat} {L : List (Option Value)} {i : Nat} {v : Value} (h : lvo ls nL L) (hi : L[i]? = some (some v)) : ls[i]? = some (.val v) := h.2.2 i v hi
/-- no value of two slots ends at i -/
def c1 (L : List (Option Value)) : Nat → Bool
  | 0 => true
  | i + 1 => match L[i]? with
    | some (some v) => v.category == 1
    | _ => true
theorem c1_ne {L : List (Option Value)} {i j : Nat} {v : Value} (h : c1 L i = true) (hj : j + 1 = i) (hv : L[j]? = some (some v)) : ¬ v.category = 2 := by
  subst hj
  simp only [c1, hv, beq_iff_eq] at h
  omega
theorem lvo.set {ls' : Array Slot} {nL : Nat} {L : List (Option Value)} {i : Nat} {v : Value} (hc : c1 L i = true) (hh : lv_has ls' nL ((i, v) :: (asc L).filter (fun q => !(q.1 == i) && !(q.1 + 1 == i && q.2.category == 2)))) : lvo ls' nL (L.set i (some v)) := by
  refine ⟨hh.1, hh.2.1, fun j x hj => ?_⟩
  by_cases e : j = i
  · subst e
    have hl : j < L.length := by
      have := (List.getElem?_eq_some_iff.mp hj).1
      rwa [List.length_set] at this
    rw [List.getElem?_set_self hl] at hj
    cases hj
    exact hh.2.2 (j, v) List.mem_cons_self
  · rw [List.getElem?_set_ne (fun z => e z.symm)] at hj
    refine hh.2.2 (j, x) (List.mem_cons_of_mem _ (List.mem_filter.mpr ⟨asc_mem.mpr hj, ?_⟩))
    by_cases e2 : j + 1 = i
    · have h9 := c1_ne hc e2 hj
      simp [e, h9]
    · simp [e, e2]
theorem lvo.set2 {ls' : Array Slot} {nL : Nat} {L : List (Option Value)} {i : Nat} {v : Value} (hc : c1 L i = true) (hh : lv_has ls' nL ((i, v) :: (asc L).filter (fun q => !(q.1 == i) && (!(q.1 == i + 1) && !(q.1 + 1 == i && q.2.category == 2))))) : lvo ls' nL ((L.set i (some v)).set (i + 1) none) := by
  refine ⟨hh.1, hh.2.1, fun j x hj => ?_⟩
  by_cases e1 : j = i + 1
  · subst e1
    have hl : i + 1 < (L.set i (some v)).length := by
      have := (List.getElem?_eq_some_iff.mp hj).1
      rwa [List.length_set] at this
    rw [List.getElem?_set_self hl] at hj
    cases hj
  · rw [List.getElem?_set_ne (fun z => e1 z.symm)] at hj
    by_cases e : j = i
    · subst e
      have hl : j < L.length := by
        have := (List.getElem?_eq_some_iff.mp hj).1
        rwa [List.length_set] at this
      rw [List.getElem?_set_self hl] at hj
      cases hj
      exact hh.2.2 (j, v) List.mem_cons_self
    · rw [List.getElem?_set_ne (fun z => e z.symm)] at hj
      refine hh.2.2 (j, x) (List.mem_cons_of_mem _ (List.mem_filter.mpr ⟨asc_mem.mpr hj, ?_⟩))
      by_cases e2 : j + 1 = i
      · have h9 := c1_ne hc e2 hj
        simp [e, e1, h9]
      · simp [e, e1, e2]
/-- fewer known locals -/
def lle : List (Option Value) → List (Option Value) → Prop
  | [], [] => True
  | a :: r, b :: t => (a = none ∨ a = b) ∧ lle r t
  | _, _ => False
theorem lle.get : ∀ {A B : List (Option Value)}, lle A B → ∀ (i : Nat) (v : Value), A[i]? = some (some v) → B[i]? = some (some v)
  | [], [], _, i, v, h => by simp at h
  | a :: r, b :: t, hl, 0, v, h => by
    simp only [List.getElem?_cons_zero] at h ⊢
    cases h
    rcases hl.1 with q | q
    · cases q
    · rw [← q]
  | a :: r, b :: t, hl, i + 1, v, h => by
    simp only [List.getElem?_cons_succ] at h ⊢
    exact lle.get hl.2 i v h
  | [], _ :: _, hl, _, _, _ => hl.elim
  | _ :: _, [], hl, _, _, _ => hl.elim
theorem lvo.less {ls : Array Slot} {nL : Nat} {A B : List (Option Value)} (h : lvo ls nL B) (hl : lle A B) : lvo ls nL A := ⟨h.1, h.2.1, fun i v hi => h.2.2 i v (hl.get i v hi)⟩
/-! the judgement -/
/-- words that follow from the tables': a private method of AbstractStringBuilder is what a StringBuilder's call of it finds -/
def sxM : List MethodName := [⟨"java/lang/AbstractStringBuilder", "ensureCapacityInternal", "(I)V"⟩, ⟨"java/lang/AbstractStringBuilder", "newCapacity", "(I)I"⟩, ⟨"java/lang/AbstractStringBuilder", "putStringAt", "(ILjava/lang/String;)V"⟩, ⟨"java/lang/AbstractStringBuilder", "inflateIfNeededFor", "(Ljava/lang/String;)V"⟩]
def sxW : List Cond := sxM.map fun y => Cond.selects "java/lang/StringBuilder" y y
def BW : List Cond := (lw_tbl ++ sxW).filter goodWord
theorem bw_good : ∀ w ∈ BW, goodWord w = true := fun w h => (List.mem_filter.mp h).2
def wsT (T : MT) : List Cond := (if T.2.2.2.2.isEmpty then Cond.code T.1 T.2.1 T.2.2.1 T.2.2.2.1 else Cond.codeWith T.1 T.2.1 T.2.2.1 T.2.2.2.1 T.2.2.2.2) :: BW
def rmV (d mc ms : Nat) : Room := { frames := d, cells := mc, slots := ms, locals := 38 * d }
/-- the law stands with the mark [(0, 0, 0, 0)]: of its own table nothing is known, nor asked -/
def tabOk (T : MT) (c : Code) : Prop := T.2.2.2.2 ≠ [(0, 0, 0, 0)] → c.exceptionTable.toList = tableOf T.2.2.2.2
theorem tabOk.no {T : MT} {c : Code} (h : tabOk T c) (hh : T.2.2.2.2 = []) : c.exceptionTable.toList = tableOf T.2.2.2.2 := h (by rw [hh]; exact fun z => by cases z)
def Fx (l : Launch) (G : GG) (T : MT) (p : Program) (s : State) (m : MethodId) (args : Array Value) (meth : Method) (c : Code) : Prop :=
  p.tables.exec = Jvm.exec ∧ c.code = T.2.1 ∧ c.maxLocals = T.2.2.1 ∧ s.vm.findClass T.1.cls = some m.cls ∧ (∀ w ∈ BW, w.before args s = true) ∧ meth.sig.returnType = T.2.2.2.1 ∧ meth.locks = false ∧ (T.1.name = "<init>" → meth.name = "<init>") ∧ KV G s ∧ EV G s s.heap ∧ gB G ≤ s.heap.size ∧ tabOk T c ∧ l.stackTraces = false
def QcV (G : GG) (Q : PQ) : Array Value → State → Outcome → State → Prop := fun _ st o t => (∃ (v : Option Value) (h : HM) (n : Nat), o = .returned v ∧ HP G h n t.heap ∧ Q (.inl v) h n) ∧ va_F (FrA G) st t
def XcV (G : GG) (Q : PQ) : String → State → State → Prop := fun E st t => (∃ (h : HM) (n : Nat), HP G h n t.heap ∧ Q (.inr E) h n) ∧ va_F (FrA G) st t
def V (l : Launch) (G : GG) (T : MT) (d mc ms : Nat) (Q : PQ) (ce sl pc : Nat) (L : List (Option Value)) (st : List Value) (h : HM) (n : Nat) : Prop :=
  ∀ (p : Program) (e : Env) (s : State) (m : MethodId) (args : Array Value) (below : List Frame) (meth : Method) (c : Code) (H : Heap) (locs : List Loc) (ls : Array Slot),
    Fx l G T p s m args meth c → lvo ls T.2.2.1 L → HP G h n H → va_S (FrA G) s.heap H locs →
    W p l e (rmV d mc ms) s m args below meth c H locs ce sl (vx_MQ below (QcV G Q) (XcV G Q) args s mc ms (FrA G)) (F0 m pc ls st)
/-- thrown, the cell at q being of class E -/
def VX (l : Launch) (G : GG) (T : MT) (d mc ms : Nat) (Q : PQ) (ce sl pc : Nat) (L : List (Option Value)) (E : String) (h : HM) (n : Nat) : Prop :=
  ∀ (p : Program) (e : Env) (s : State) (m : MethodId) (args : Array Value) (below : List Frame) (meth : Method) (c : Code) (H : Heap) (locs : List Loc) (ls : Array Slot) (q : Addr) (ce9 : Cell) (rest : List Value),
    Fx l G T p s m args meth c → lvo ls T.2.2.1 L → HP G h n H → va_S (FrA G) s.heap H locs → H[q]? = some ce9 → ce9.vm = .none → s.vm.findClass E = some ce9.cls →
    vx_W p l e (rmV d mc ms) s m args below meth c H locs ce sl (vx_MQ below (QcV G Q) (XcV G Q) args s mc ms (FrA G)) (F0 m pc ls rest) q
/-- a method's start -/
def Sat (G : GG) (h : HM) (n : Nat) (U : State) : Prop := HP G h n U.heap ∧ KV G U ∧ EV G U U.heap
/-- a method's contract -/
def Ct (l : Launch) (G : GG) (T : MT) (d mc ms : Nat) (args : List Value) (h : HM) (n : Nat) (Q : PQ) : Prop :=
  l.stackTraces = false → vx_Met l T.1 (wsT T) (rmV d mc ms) (va_Pc args (Sat G h n)) (QcV G Q) (XcV G Q) mc ms (FrA G)

section VR
variable {l : Launch} {G : GG} {T : MT} {d mc ms ce sl : Nat} {Q : PQ} {pc q : Nat} {L : List (Option Value)} {st : List Value} {h : HM} {n : Nat}
theorem V.iconst {i : Int} {v : Int32} (hd : decode T.2.1 pc = .ok (.iconst i, 1)) (hv : Int32.ofInt i = v) (hq : pc + 1 = q) (k : V l G T d mc ms Q ce sl q L (.int v :: st) h n) : V l G T d mc ms Q ce sl pc L (st) h n := by
  intro p e s m args below meth c H locs ls F hl hP hS
  subst hq
  exact lv_iconst F.1 F.2.1 hd hv (k p e s m args below meth c H locs ls F hl hP hS)
theorem V.bipush {i : Int} {v : Int32} (hd : decode T.2.1 pc = .ok (.bipush i, 2)) (hv : (Int8.ofInt i).toInt32 = v) (hq : pc + 2 = q) (k : V l G T d mc ms Q ce sl q L (.int v :: st) h n) : V l G T d mc ms Q ce sl pc L (st) h n := by
  intro p e s m args below meth c H locs ls F hl hP hS
  subst hq
  exact lv_bipush F.1 F.2.1 hd hv (k p e s m args below meth c H locs ls F hl hP hS)
theorem V.sipush {i : Int} {v : Int32} (hd : decode T.2.1 pc = .ok (.sipush i, 3)) (hv : (Int16.ofInt i).toInt32 = v) (hq : pc + 3 = q) (k : V l G T d mc ms Q ce sl q L (.int v :: st) h n) : V l G T d mc ms Q ce sl pc L (st) h n := by
  intro p e s m args below meth c H locs ls F hl hP hS
  subst hq
  exact lv_sipush F.1 F.2.1 hd hv (k p e s m args below meth c H locs ls F hl hP hS)
theorem V.lconst {i : Fin 2} {v : Int64} (hd : decode T.2.1 pc = .ok (.lconst i, 1)) (hv : Int64.ofNat (i : Nat) = v) (hq : pc + 1 = q) (k : V l G T d mc ms Q ce sl q L (.long v :: st) h n) : V l G T d mc ms Q ce sl pc L (st) h n := by
  intro p e s m args below meth c H locs ls F hl hP hS
  subst hq
  exact lv_lconst F.1 F.2.1 hd hv (k p e s m args below meth c H locs ls F hl hP hS)
theorem V.iload_n {i : Fin 4} {x : Int32} (hd : decode T.2.1 pc = .ok (.iload_n i, 1)) (hx : L[(i : Nat)]? = some (some (.int x))) (hq : pc + 1 = q) (k : V l G T d mc ms Q ce sl q L (.int x :: st) h n) : V l G T d mc ms Q ce sl pc L (st) h n := by
  intro p e s m args below meth c H locs ls F hl hP hS
  subst hq
  exact lv_iload_n F.1 F.2.1 hd rfl (hl.get hx) (k p e s m args below meth c H locs ls F hl hP hS)
theorem V.iload {i : Nat} {x : Int32} (hd : decode T.2.1 pc = .ok (.iload i, 2)) (hx : L[i]? = some (some (.int x))) (hq : pc + 2 = q) (k : V l G T d mc ms Q ce sl q L (.int x :: st) h n) : V l G T d mc ms Q ce sl pc L (st) h n := by
  intro p e s m args below meth c H locs ls F hl hP hS
  subst hq
  exact lv_iload F.1 F.2.1 hd (hl.get hx) (k p e s m args below meth c H locs ls F hl hP hS)
theorem V.aload_n {i : Fin 4} {x : Nat} (hd : decode T.2.1 pc = .ok (.aload_n i, 1)) (hx : L[(i : Nat)]? = some (some (.ref x))) (hq : pc + 1 = q) (k : V l G T d mc ms Q ce sl q L (.ref x :: st) h n) : V l G T d mc ms Q ce sl pc L (st) h n := by
  intro p e s m args below meth c H locs ls F hl hP hS
  subst hq
  exact lv_aload_n F.1 F.2.1 hd rfl (hl.get hx) (k p e s m args below meth c H locs ls F hl hP hS)
theorem V.aload {i : Nat} {x : Nat} (hd : decode T.2.1 pc = .ok (.aload i, 2)) (hx : L[i]? = some (some (.ref x))) (hq : pc + 2 = q) (k : V l G T d mc ms Q ce sl q L (.ref x :: st) h n) : V l G T d mc ms Q ce sl pc L (st) h n := by
  intro p e s m args below meth c H locs ls F hl hP hS
  subst hq
  exact lv_aload F.1 F.2.1 hd (hl.get hx) (k p e s m args below meth c H locs ls F hl hP hS)
theorem V.dload_n {i : Fin 4} {x : UInt64} (hd : decode T.2.1 pc = .ok (.dload_n i, 1)) (hx : L[(i : Nat)]? = some (some (.double x))) (hq : pc + 1 = q) (k : V l G T d mc ms Q ce sl q L (.double x :: st) h n) : V l G T d mc ms Q ce sl pc L (st) h n := by
  intro p e s m args below meth c H locs ls F hl hP hS
  subst hq
  exact lv_dload_n F.1 F.2.1 hd rfl (hl.get hx) (k p e s m args below meth c H locs ls F hl hP hS)
theorem V.dload {i : Nat} {x : UInt64} (hd : decode T.2.1 pc = .ok (.dload i, 2)) (hx : L[i]? = some (some (.double x))) (hq : pc + 2 = q) (k : V l G T d mc ms Q ce sl q L (.double x :: st) h n) : V l G T d mc ms Q ce sl pc L (st) h n := by
  intro p e s m args below meth c H locs ls F hl hP hS
  subst hq
  exact lv_dload F.1 F.2.1 hd (hl.get hx) (k p e s m args below meth c H locs ls F hl hP hS)
theorem V.iadd {x y : Int32} (hd : decode T.2.1 pc = .ok (.iadd, 1)) (hq : pc + 1 = q) (k : V l G T d mc ms Q ce sl q L (.int (x + y) :: st) h n) : V l G T d mc ms Q ce sl pc L (.int y :: .int x :: st) h n := by
  intro p e s m args below meth c H locs ls F hl hP hS
  subst hq
  exact lv_iadd F.1 F.2.1 hd (k p e s m args below meth c H locs ls F hl hP hS)
theorem V.isub {x y : Int32} (hd : decode T.2.1 pc = .ok (.isub, 1)) (hq : pc + 1 = q) (k : V l G T d mc ms Q ce sl q L (.int (x - y) :: st) h n) : V l G T d mc ms Q ce sl pc L (.int y :: .int x :: st) h n := by
  intro p e s m args below meth c H locs ls F hl hP hS
  subst hq
  exact lv_isub F.1 F.2.1 hd (k p e s m args below meth c H locs ls F hl hP hS)
theorem V.imul {x y : Int32} (hd : decode T.2.1 pc = .ok (.imul, 1)) (hq : pc + 1 = q) (k : V l G T d mc ms Q ce sl q L (.int (x * y) :: st) h n) : V l G T d mc ms Q ce sl pc L (.int y :: .int x :: st) h n := by
  intro p e s m args below meth c H locs ls F hl hP hS
  subst hq
  exact lv_imul F.1 F.2.1 hd (k p e s m args below meth c H locs ls F hl hP hS)
theorem V.iand {x y : Int32} (hd : decode T.2.1 pc = .ok (.iand, 1)) (hq : pc + 1 = q) (k : V l G T d mc ms Q ce sl q L (.int (x &&& y) :: st) h n) : V l G T d mc ms Q ce sl pc L (.int y :: .int x :: st) h n := by
  intro p e s m args below meth c H locs ls F hl hP hS
  subst hq
  exact lv_iand F.1 F.2.1 hd (k p e s m args below meth c H locs ls F hl hP hS)
theorem V.ior {x y : Int32} (hd : decode T.2.1 pc = .ok (.ior, 1)) (hq : pc + 1 = q) (k : V l G T d mc ms Q ce sl q L (.int (x ||| y) :: st) h n) : V l G T d mc ms Q ce sl pc L (.int y :: .int x :: st) h n := by
  intro p e s m args below meth c H locs ls F hl hP hS
  subst hq
  exact lv_ior F.1 F.2.1 hd (k p e s m args below meth c H locs ls F hl hP hS)
theorem V.ishl {x y : Int32} (hd : decode T.2.1 pc = .ok (.ishl, 1)) (hq : pc + 1 = q) (k : V l G T d mc ms Q ce sl q L (.int (x <<< (y &&& 31)) :: st) h n) : V l G T d mc ms Q ce sl pc L (.int y :: .int x :: st) h n := by
  intro p e s m args below meth c H locs ls F hl hP hS
  subst hq
  exact lv_ishl F.1 F.2.1 hd (k p e s m args below meth c H locs ls F hl hP hS)
theorem V.ishr {x y : Int32} (hd : decode T.2.1 pc = .ok (.ishr, 1)) (hq : pc + 1 = q) (k : V l G T d mc ms Q ce sl q L (.int (x >>> (y &&& 31)) :: st) h n) : V l G T d mc ms Q ce sl pc L (.int y :: .int x :: st) h n := by
  intro p e s m args below meth c H locs ls F hl hP hS
  subst hq
  exact lv_ishr F.1 F.2.1 hd (k p e s m args below meth c H locs ls F hl hP hS)
theorem V.iushr {x y : Int32} (hd : decode T.2.1 pc = .ok (.iushr, 1)) (hq : pc + 1 = q) (k : V l G T d mc ms Q ce sl q L (.int (x.toUInt32 >>> (y.toUInt32 &&& Int32.toUInt32 31)).toInt32 :: st) h n) : V l G T d mc ms Q ce sl pc L (.int y :: .int x :: st) h n := by
  intro p e s m args below meth c H locs ls F hl hP hS
  subst hq
  exact lv_iushr F.1 F.2.1 hd rfl (k p e s m args below meth c H locs ls F hl hP hS)
theorem V.idiv {x y : Int32} (hd : decode T.2.1 pc = .ok (.idiv, 1)) (hne : ¬ y = 0) (hq : pc + 1 = q) (k : V l G T d mc ms Q ce sl q L (.int (x / y) :: st) h n) : V l G T d mc ms Q ce sl pc L (.int y :: .int x :: st) h n := by
  intro p e s m args below meth c H locs ls F hl hP hS
  subst hq
  exact lv_idiv F.1 F.2.1 hd hne (k p e s m args below meth c H locs ls F hl hP hS)
theorem V.irem {x y : Int32} (hd : decode T.2.1 pc = .ok (.irem, 1)) (hne : ¬ y = 0) (hq : pc + 1 = q) (k : V l G T d mc ms Q ce sl q L (.int (x - (x / y) * y) :: st) h n) : V l G T d mc ms Q ce sl pc L (.int y :: .int x :: st) h n := by
  intro p e s m args below meth c H locs ls F hl hP hS
  subst hq
  exact lv_irem F.1 F.2.1 hd hne (k p e s m args below meth c H locs ls F hl hP hS)
theorem V.ineg {x : Int32} (hd : decode T.2.1 pc = .ok (.ineg, 1)) (hq : pc + 1 = q) (k : V l G T d mc ms Q ce sl q L (.int (-x) :: st) h n) : V l G T d mc ms Q ce sl pc L (.int x :: st) h n := by
  intro p e s m args below meth c H locs ls F hl hP hS
  subst hq
  exact lv_ineg F.1 F.2.1 hd (k p e s m args below meth c H locs ls F hl hP hS)
theorem V.i2b {x : Int32} (hd : decode T.2.1 pc = .ok (.i2b, 1)) (hq : pc + 1 = q) (k : V l G T d mc ms Q ce sl q L (.int x.toInt8.toInt32 :: st) h n) : V l G T d mc ms Q ce sl pc L (.int x :: st) h n := by
  intro p e s m args below meth c H locs ls F hl hP hS
  subst hq
  exact lv_i2b F.1 F.2.1 hd rfl (k p e s m args below meth c H locs ls F hl hP hS)
theorem V.i2l {x : Int32} (hd : decode T.2.1 pc = .ok (.i2l, 1)) (hq : pc + 1 = q) (k : V l G T d mc ms Q ce sl q L (.long x.toInt64 :: st) h n) : V l G T d mc ms Q ce sl pc L (.int x :: st) h n := by
  intro p e s m args below meth c H locs ls F hl hP hS
  subst hq
  exact lv_i2l F.1 F.2.1 hd rfl (k p e s m args below meth c H locs ls F hl hP hS)
theorem V.lcmp {x y : Int64} (hd : decode T.2.1 pc = .ok (.lcmp, 1)) (hq : pc + 1 = q) (k : V l G T d mc ms Q ce sl q L (.int (lg_cmp x y) :: st) h n) : V l G T d mc ms Q ce sl pc L (.long y :: .long x :: st) h n := by
  intro p e s m args below meth c H locs ls F hl hP hS
  subst hq
  exact W.lcmp F.1 F.2.1 hd (k p e s m args below meth c H locs ls F hl hP hS)
theorem V.dup {x : Value} (hd : decode T.2.1 pc = .ok (.dup, 1)) (hx : x.category = 1) (hq : pc + 1 = q) (k : V l G T d mc ms Q ce sl q L (x :: x :: st) h n) : V l G T d mc ms Q ce sl pc L (x :: st) h n := by
  intro p e s m args below meth c H locs ls F hl hP hS
  subst hq
  exact lv_dup F.1 F.2.1 hd hx (k p e s m args below meth c H locs ls F hl hP hS)
theorem V.dup2 {x y : Value} (hd : decode T.2.1 pc = .ok (.dup2, 1)) (hx : x.category = 1) (hy : y.category = 1) (hq : pc + 1 = q) (k : V l G T d mc ms Q ce sl q L (x :: y :: x :: y :: st) h n) : V l G T d mc ms Q ce sl pc L (x :: y :: st) h n := by
  intro p e s m args below meth c H locs ls F hl hP hS
  subst hq
  exact lv_dup2_11 F.1 F.2.1 hd hx hy (k p e s m args below meth c H locs ls F hl hP hS)
theorem V.pop {x : Value} (hd : decode T.2.1 pc = .ok (.pop, 1)) (hx : x.category = 1) (hq : pc + 1 = q) (k : V l G T d mc ms Q ce sl q L (st) h n) : V l G T d mc ms Q ce sl pc L (x :: st) h n := by
  intro p e s m args below meth c H locs ls F hl hP hS
  subst hq
  exact lv_pop F.1 F.2.1 hd hx (k p e s m args below meth c H locs ls F hl hP hS)
theorem V.i2f {x : Int32} (hd : decode T.2.1 pc = .ok (.i2f, 1)) (hq : pc + 1 = q) (k : V l G T d mc ms Q ce sl q L (.float (FP.i2f x) :: st) h n) : V l G T d mc ms Q ce sl pc L (.int x :: st) h n := by
  intro p e s m args below meth c H locs ls F hl hP hS
  subst hq
  exact lv_i2f F.1 F.2.1 hd (k p e s m args below meth c H locs ls F hl hP hS)
theorem V.i2d {x : Int32} (hd : decode T.2.1 pc = .ok (.i2d, 1)) (hq : pc + 1 = q) (k : V l G T d mc ms Q ce sl q L (.double (FP.i2d x) :: st) h n) : V l G T d mc ms Q ce sl pc L (.int x :: st) h n := by
  intro p e s m args below meth c H locs ls F hl hP hS
  subst hq
  exact lv_i2d F.1 F.2.1 hd (k p e s m args below meth c H locs ls F hl hP hS)
theorem V.fdiv {x y : UInt32} (hd : decode T.2.1 pc = .ok (.fdiv, 1)) (hne : vf_n32 (FP.fdiv x y)) (hq : pc + 1 = q) (k : V l G T d mc ms Q ce sl q L (.float (FP.fdiv x y) :: st) h n) : V l G T d mc ms Q ce sl pc L (.float y :: .float x :: st) h n := by
  intro p e s m args below meth c H locs ls F hl hP hS
  subst hq
  exact lv_fdiv F.1 F.2.1 hd hne (k p e s m args below meth c H locs ls F hl hP hS)
theorem V.ddiv {x y : UInt64} (hd : decode T.2.1 pc = .ok (.ddiv, 1)) (hne : vf_n64 (FP.ddiv x y)) (hq : pc + 1 = q) (k : V l G T d mc ms Q ce sl q L (.double (FP.ddiv x y) :: st) h n) : V l G T d mc ms Q ce sl pc L (.double y :: .double x :: st) h n := by
  intro p e s m args below meth c H locs ls F hl hP hS
  subst hq
  exact lv_ddiv F.1 F.2.1 hd hne (k p e s m args below meth c H locs ls F hl hP hS)
theorem V.f2d {x : UInt32} (hd : decode T.2.1 pc = .ok (.f2d, 1)) (hne : vf_n64 (FP.f2d x)) (hq : pc + 1 = q) (k : V l G T d mc ms Q ce sl q L (.double (FP.f2d x) :: st) h n) : V l G T d mc ms Q ce sl pc L (.float x :: st) h n := by
  intro p e s m args below meth c H locs ls F hl hP hS
  subst hq
  exact lv_f2d F.1 F.2.1 hd hne (k p e s m args below meth c H locs ls F hl hP hS)
theorem V.dcmp {x y : UInt64} {op : CmpOp} (hd : decode T.2.1 pc = .ok (.dcmp op, 1)) (hq : pc + 1 = q) (k : V l G T d mc ms Q ce sl q L (.int (Op.cmpValue (FP.dcmp x y) op) :: st) h n) : V l G T d mc ms Q ce sl pc L (.double y :: .double x :: st) h n := by
  intro p e s m args below meth c H locs ls F hl hP hS
  subst hq
  exact lv_dcmp F.1 F.2.1 hd (k p e s m args below meth c H locs ls F hl hP hS)
theorem V.fconst0  (hd : decode T.2.1 pc = .ok (.fconst 0, 1)) (hq : pc + 1 = q) (k : V l G T d mc ms Q ce sl q L (.float 0 :: st) h n) : V l G T d mc ms Q ce sl pc L (st) h n := by
  intro p e s m args below meth c H locs ls F hl hP hS
  subst hq
  exact lv_fconst0 F.1 F.2.1 hd (k p e s m args below meth c H locs ls F hl hP hS)
theorem V.dconst0  (hd : decode T.2.1 pc = .ok (.dconst 0, 1)) (hq : pc + 1 = q) (k : V l G T d mc ms Q ce sl q L (.double 0 :: st) h n) : V l G T d mc ms Q ce sl pc L (st) h n := by
  intro p e s m args below meth c H locs ls F hl hP hS
  subst hq
  exact lv_dconst0 F.1 F.2.1 hd (k p e s m args below meth c H locs ls F hl hP hS)
theorem V.ldc {i : Nat} {v : Int32} (hd : decode T.2.1 pc = .ok (.ldc i, 2)) (hw : Cond.constant T.1.cls i v ∈ BW) (hq : pc + 2 = q) (k : V l G T d mc ms Q ce sl q L (.int v :: st) h n) : V l G T d mc ms Q ce sl pc L (st) h n := by
  intro p e s m args below meth c H locs ls F hl hP hS
  subst hq
  exact lv_ldc F.1 F.2.1 F.2.2.2.1 (F.2.2.2.2.1 _ hw) hd (k p e s m args below meth c H locs ls F hl hP hS)
theorem V.istore {i : Nat} {x : Int32} (hd : decode T.2.1 pc = .ok (.istore i, 2)) (hn : decide (i < T.2.2.1) = true) (hc : c1 L i = true) (hq : pc + 2 = q) (k : V l G T d mc ms Q ce sl q (L.set i (some (.int x))) st h n) : V l G T d mc ms Q ce sl pc L (.int x :: st) h n := by
  intro p e s m args below meth c H locs ls F hl hP hS
  subst hq
  exact lv_istore F.1 F.2.1 hd hl.has (of_decide_eq_true hn) rfl (fun ls2 hh => k p e s m args below meth c H locs ls2 F (lvo.set hc hh) hP hS)
theorem V.astore {i : Nat} {x : Nat} (hd : decode T.2.1 pc = .ok (.astore i, 2)) (hn : decide (i < T.2.2.1) = true) (hc : c1 L i = true) (hq : pc + 2 = q) (k : V l G T d mc ms Q ce sl q (L.set i (some (.ref x))) st h n) : V l G T d mc ms Q ce sl pc L (.ref x :: st) h n := by
  intro p e s m args below meth c H locs ls F hl hP hS
  subst hq
  exact lv_astore F.1 F.2.1 hd hl.has (of_decide_eq_true hn) rfl (fun ls2 hh => k p e s m args below meth c H locs ls2 F (lvo.set hc hh) hP hS)
theorem V.dstore {i : Nat} {x : UInt64} (hd : decode T.2.1 pc = .ok (.dstore i, 2)) (hn : decide (i + 1 < T.2.2.1) = true) (hc : c1 L i = true) (hq : pc + 2 = q) (k : V l G T d mc ms Q ce sl q ((L.set i (some (.double x))).set (i + 1) none) st h n) : V l G T d mc ms Q ce sl pc L (.double x :: st) h n := by
  intro p e s m args below meth c H locs ls F hl hP hS
  subst hq
  exact lv_dstore F.1 F.2.1 hd hl.has (of_decide_eq_true hn) rfl (fun ls2 hh => k p e s m args below meth c H locs ls2 F (lvo.set2 hc hh) hP hS)
theorem V.istore_n {i : Nat} {x : Int32} {f : Fin 4} (hd : decode T.2.1 pc = .ok (.istore_n f, 1)) (hf : (f : Nat) = i) (hn : decide (i < T.2.2.1) = true) (hc : c1 L i = true) (hq : pc + 1 = q) (k : V l G T d mc ms Q ce sl q (L.set i (some (.int x))) st h n) : V l G T d mc ms Q ce sl pc L (.int x :: st) h n := by
  intro p e s m args below meth c H locs ls F hl hP hS
  subst hq
  exact lv_istore_n F.1 F.2.1 hd hf hl.has (of_decide_eq_true hn) rfl (fun ls2 hh => k p e s m args below meth c H locs ls2 F (lvo.set hc hh) hP hS)
theorem V.astore_n {i : Nat} {x : Nat} {f : Fin 4} (hd : decode T.2.1 pc = .ok (.astore_n f, 1)) (hf : (f : Nat) = i) (hn : decide (i < T.2.2.1) = true) (hc : c1 L i = true) (hq : pc + 1 = q) (k : V l G T d mc ms Q ce sl q (L.set i (some (.ref x))) st h n) : V l G T d mc ms Q ce sl pc L (.ref x :: st) h n := by
  intro p e s m args below meth c H locs ls F hl hP hS
  subst hq
  exact lv_astore_n F.1 F.2.1 hd hf hl.has (of_decide_eq_true hn) rfl (fun ls2 hh => k p e s m args below meth c H locs ls2 F (lvo.set hc hh) hP hS)
theorem V.iinc {i : Nat} {a : Int} {x v : Int32} (hd : decode T.2.1 pc = .ok (.iinc i a, 3)) (hx : L[i]? = some (some (.int x))) (hv : x + Int32.ofInt a = v) (hn : decide (i < T.2.2.1) = true) (hc : c1 L i = true) (hq : pc + 3 = q) (k : V l G T d mc ms Q ce sl q (L.set i (some (.int v))) st h n) : V l G T d mc ms Q ce sl pc L st h n := by
  intro p e s m args below meth c H locs ls F hl hP hS
  subst hq
  obtain ⟨j, hj⟩ := List.getElem?_of_mem (asc_mem (q := (i, Value.int x)).mpr hx)
  exact lv_iinc F.1 F.2.1 hd hl.has hj hv (of_decide_eq_true hn) rfl (fun ls2 hh => k p e s m args below meth c H locs ls2 F (lvo.set hc hh) hP hS)
theorem V.if_eq {x : Int32} {off : Int} {tgt : Nat} (hd : decode T.2.1 pc = .ok (.ifCond .eq off, 3)) (ht : (pc : Int) + off = (tgt : Int)) (hq : pc + 3 = q) (kt : x = 0 → V l G T d mc ms Q ce sl tgt L st h n) (kf : ¬ x = 0 → V l G T d mc ms Q ce sl q L st h n) : V l G T d mc ms Q ce sl pc L (.int x :: st) h n := by
  intro p e s m args below meth c H locs ls F hl hP hS
  subst hq
  exact lv_if_eq F.1 F.2.1 hd ht (fun z => kt z p e s m args below meth c H locs ls F hl hP hS) (fun z => kf z p e s m args below meth c H locs ls F hl hP hS)
theorem V.icmp_eq {x y : Int32} {off : Int} {tgt : Nat} (hd : decode T.2.1 pc = .ok (.if_icmp .eq off, 3)) (ht : (pc : Int) + off = (tgt : Int)) (hq : pc + 3 = q) (kt : x = y → V l G T d mc ms Q ce sl tgt L st h n) (kf : ¬ x = y → V l G T d mc ms Q ce sl q L st h n) : V l G T d mc ms Q ce sl pc L (.int y :: .int x :: st) h n := by
  intro p e s m args below meth c H locs ls F hl hP hS
  subst hq
  exact lv_icmp_eq F.1 F.2.1 hd ht (fun z => kt z p e s m args below meth c H locs ls F hl hP hS) (fun z => kf z p e s m args below meth c H locs ls F hl hP hS)
theorem V.if_ne {x : Int32} {off : Int} {tgt : Nat} (hd : decode T.2.1 pc = .ok (.ifCond .ne off, 3)) (ht : (pc : Int) + off = (tgt : Int)) (hq : pc + 3 = q) (kt : ¬ x = 0 → V l G T d mc ms Q ce sl tgt L st h n) (kf : x = 0 → V l G T d mc ms Q ce sl q L st h n) : V l G T d mc ms Q ce sl pc L (.int x :: st) h n := by
  intro p e s m args below meth c H locs ls F hl hP hS
  subst hq
  exact lv_if_ne F.1 F.2.1 hd ht (fun z => kt z p e s m args below meth c H locs ls F hl hP hS) (fun z => kf z p e s m args below meth c H locs ls F hl hP hS)
theorem V.icmp_ne {x y : Int32} {off : Int} {tgt : Nat} (hd : decode T.2.1 pc = .ok (.if_icmp .ne off, 3)) (ht : (pc : Int) + off = (tgt : Int)) (hq : pc + 3 = q) (kt : ¬ x = y → V l G T d mc ms Q ce sl tgt L st h n) (kf : x = y → V l G T d mc ms Q ce sl q L st h n) : V l G T d mc ms Q ce sl pc L (.int y :: .int x :: st) h n := by
  intro p e s m args below meth c H locs ls F hl hP hS
  subst hq
  exact lv_icmp_ne F.1 F.2.1 hd ht (fun z => kt z p e s m args below meth c H locs ls F hl hP hS) (fun z => kf z p e s m args below meth c H locs ls F hl hP hS)
theorem V.if_lt {x : Int32} {off : Int} {tgt : Nat} (hd : decode T.2.1 pc = .ok (.ifCond .lt off, 3)) (ht : (pc : Int) + off = (tgt : Int)) (hq : pc + 3 = q) (kt : x < 0 → V l G T d mc ms Q ce sl tgt L st h n) (kf : ¬ x < 0 → V l G T d mc ms Q ce sl q L st h n) : V l G T d mc ms Q ce sl pc L (.int x :: st) h n := by
  intro p e s m args below meth c H locs ls F hl hP hS
  subst hq
  exact lv_if_lt F.1 F.2.1 hd ht (fun z => kt z p e s m args below meth c H locs ls F hl hP hS) (fun z => kf z p e s m args below meth c H locs ls F hl hP hS)
theorem V.icmp_lt {x y : Int32} {off : Int} {tgt : Nat} (hd : decode T.2.1 pc = .ok (.if_icmp .lt off, 3)) (ht : (pc : Int) + off = (tgt : Int)) (hq : pc + 3 = q) (kt : x < y → V l G T d mc ms Q ce sl tgt L st h n) (kf : ¬ x < y → V l G T d mc ms Q ce sl q L st h n) : V l G T d mc ms Q ce sl pc L (.int y :: .int x :: st) h n := by
  intro p e s m args below meth c H locs ls F hl hP hS
  subst hq
  exact lv_icmp_lt F.1 F.2.1 hd ht (fun z => kt z p e s m args below meth c H locs ls F hl hP hS) (fun z => kf z p e s m args below meth c H locs ls F hl hP hS)
theorem V.if_ge {x : Int32} {off : Int} {tgt : Nat} (hd : decode T.2.1 pc = .ok (.ifCond .ge off, 3)) (ht : (pc : Int) + off = (tgt : Int)) (hq : pc + 3 = q) (kt : 0 ≤ x → V l G T d mc ms Q ce sl tgt L st h n) (kf : ¬ 0 ≤ x → V l G T d mc ms Q ce sl q L st h n) : V l G T d mc ms Q ce sl pc L (.int x :: st) h n := by
  intro p e s m args below meth c H locs ls F hl hP hS
  subst hq
  exact lv_if_ge F.1 F.2.1 hd ht (fun z => kt z p e s m args below meth c H locs ls F hl hP hS) (fun z => kf z p e s m args below meth c H locs ls F hl hP hS)
theorem V.icmp_ge {x y : Int32} {off : Int} {tgt : Nat} (hd : decode T.2.1 pc = .ok (.if_icmp .ge off, 3)) (ht : (pc : Int) + off = (tgt : Int)) (hq : pc + 3 = q) (kt : y ≤ x → V l G T d mc ms Q ce sl tgt L st h n) (kf : ¬ y ≤ x → V l G T d mc ms Q ce sl q L st h n) : V l G T d mc ms Q ce sl pc L (.int y :: .int x :: st) h n := by
  intro p e s m args below meth c H locs ls F hl hP hS
  subst hq
  exact lv_icmp_ge F.1 F.2.1 hd ht (fun z => kt z p e s m args below meth c H locs ls F hl hP hS) (fun z => kf z p e s m args below meth c H locs ls F hl hP hS)
theorem V.if_gt {x : Int32} {off : Int} {tgt : Nat} (hd : decode T.2.1 pc = .ok (.ifCond .gt off, 3)) (ht : (pc : Int) + off = (tgt : Int)) (hq : pc + 3 = q) (kt : 0 < x → V l G T d mc ms Q ce sl tgt L st h n) (kf : ¬ 0 < x → V l G T d mc ms Q ce sl q L st h n) : V l G T d mc ms Q ce sl pc L (.int x :: st) h n := by
  intro p e s m args below meth c H locs ls F hl hP hS
  subst hq
  exact lv_if_gt F.1 F.2.1 hd ht (fun z => kt z p e s m args below meth c H locs ls F hl hP hS) (fun z => kf z p e s m args below meth c H locs ls F hl hP hS)
theorem V.icmp_gt {x y : Int32} {off : Int} {tgt : Nat} (hd : decode T.2.1 pc = .ok (.if_icmp .gt off, 3)) (ht : (pc : Int) + off = (tgt : Int)) (hq : pc + 3 = q) (kt : y < x → V l G T d mc ms Q ce sl tgt L st h n) (kf : ¬ y < x → V l G T d mc ms Q ce sl q L st h n) : V l G T d mc ms Q ce sl pc L (.int y :: .int x :: st) h n := by
  intro p e s m args below meth c H locs ls F hl hP hS
  subst hq
  exact lv_icmp_gt F.1 F.2.1 hd ht (fun z => kt z p e s m args below meth c H locs ls F hl hP hS) (fun z => kf z p e s m args below meth c H locs ls F hl hP hS)
theorem V.if_le {x : Int32} {off : Int} {tgt : Nat} (hd : decode T.2.1 pc = .ok (.ifCond .le off, 3)) (ht : (pc : Int) + off = (tgt : Int)) (hq : pc + 3 = q) (kt : x ≤ 0 → V l G T d mc ms Q ce sl tgt L st h n) (kf : ¬ x ≤ 0 → V l G T d mc ms Q ce sl q L st h n) : V l G T d mc ms Q ce sl pc L (.int x :: st) h n := by
  intro p e s m args below meth c H locs ls F hl hP hS
  subst hq
  exact lv_if_le F.1 F.2.1 hd ht (fun z => kt z p e s m args below meth c H locs ls F hl hP hS) (fun z => kf z p e s m args below meth c H locs ls F hl hP hS)
theorem V.icmp_le {x y : Int32} {off : Int} {tgt : Nat} (hd : decode T.2.1 pc = .ok (.if_icmp .le off, 3)) (ht : (pc : Int) + off = (tgt : Int)) (hq : pc + 3 = q) (kt : x ≤ y → V l G T d mc ms Q ce sl tgt L st h n) (kf : ¬ x ≤ y → V l G T d mc ms Q ce sl q L st h n) : V l G T d mc ms Q ce sl pc L (.int y :: .int x :: st) h n := by
  intro p e s m args below meth c H locs ls F hl hP hS
  subst hq
  exact lv_icmp_le F.1 F.2.1 hd ht (fun z => kt z p e s m args below meth c H locs ls F hl hP hS) (fun z => kf z p e s m args below meth c H locs ls F hl hP hS)
theorem V.goto {off : Int} {tgt : Nat} (hd : decode T.2.1 pc = .ok (.goto off, 3)) (ht : (pc : Int) + off = (tgt : Int)) (k : V l G T d mc ms Q ce sl tgt L st h n) : V l G T d mc ms Q ce sl pc L st h n := by
  intro p e s m args below meth c H locs ls F hl hP hS
  exact lv_goto F.1 F.2.1 hd ht (k p e s m args below meth c H locs ls F hl hP hS)
theorem V.acmp_eq {x y : Nat} {off : Int} {tgt : Nat} (hd : decode T.2.1 pc = .ok (.if_acmp .eq off, 3)) (ht : (pc : Int) + off = (tgt : Int)) (hq : pc + 3 = q) (kt : x = y → V l G T d mc ms Q ce sl tgt L st h n) (kf : ¬ x = y → V l G T d mc ms Q ce sl q L st h n) : V l G T d mc ms Q ce sl pc L (.ref y :: .ref x :: st) h n := by
  intro p e s m args below meth c H locs ls F hl hP hS
  subst hq
  exact lv_acmp_eq (rx := some x) (ry := some y) F.1 F.2.1 hd ht (fun z => kt (Option.some.inj z) p e s m args below meth c H locs ls F hl hP hS) (fun z => kf (fun w => z (by rw [w])) p e s m args below meth c H locs ls F hl hP hS)
theorem V.acmp_ne {x y : Nat} {off : Int} {tgt : Nat} (hd : decode T.2.1 pc = .ok (.if_acmp .ne off, 3)) (ht : (pc : Int) + off = (tgt : Int)) (hq : pc + 3 = q) (kt : ¬ x = y → V l G T d mc ms Q ce sl tgt L st h n) (kf : x = y → V l G T d mc ms Q ce sl q L st h n) : V l G T d mc ms Q ce sl pc L (.ref y :: .ref x :: st) h n := by
  intro p e s m args below meth c H locs ls F hl hP hS
  subst hq
  exact lv_acmp_ne (rx := some x) (ry := some y) F.1 F.2.1 hd ht (fun z => kt (fun w => z (by rw [w])) p e s m args below meth c H locs ls F hl hP hS) (fun z => kf (Option.some.inj z) p e s m args below meth c H locs ls F hl hP hS)
theorem V.tableOut {dflt lo hi : Int} {offs : Array Int} {len : Nat} {x : Int32} {tgt : Nat} (hd : decode T.2.1 pc = .ok (.tableswitch dflt lo hi offs, len)) (hx : x.toInt < lo ∨ hi < x.toInt) (ht : (pc : Int) + dflt = (tgt : Int)) (k : V l G T d mc ms Q ce sl tgt L st h n) : V l G T d mc ms Q ce sl pc L (.int x :: st) h n := by
  intro p e s m args below meth c H locs ls F hl hP hS
  exact lv_tableOut F.1 F.2.1 hd hx ht (k p e s m args below meth c H locs ls F hl hP hS)
theorem V.tableIn {dflt lo hi off : Int} {offs : Array Int} {len : Nat} {x : Int32} {tgt : Nat} (hd : decode T.2.1 pc = .ok (.tableswitch dflt lo hi offs, len)) (h1 : ¬ x.toInt < lo) (h2 : ¬ hi < x.toInt) (ho : offs[(x.toInt - lo).toNat]? = some off) (ht : (pc : Int) + off = (tgt : Int)) (k : V l G T d mc ms Q ce sl tgt L st h n) : V l G T d mc ms Q ce sl pc L (.int x :: st) h n := by
  intro p e s m args below meth c H locs ls F hl hP hS
  exact lv_tableIn F.1 F.2.1 hd h1 h2 ho ht (k p e s m args below meth c H locs ls F hl hP hS)
/-- fewer known locals -/
theorem V.less {L2 : List (Option Value)} (hl2 : lle L2 L) (k : V l G T d mc ms Q ce sl pc L2 st h n) : V l G T d mc ms Q ce sl pc L st h n := by
  intro p e s m args below meth c H locs ls F hl hP hS
  exact k p e s m args below meth c H locs ls F (hl.less hl2) hP hS
/-- another name for what stands there -/
theorem V.to {L2 : List (Option Value)} {st2 : List Value} {h2 : HM} {n2 : Nat} (e1 : L = L2) (e2 : st = st2) (e3 : h = h2) (e4 : n = n2) (k : V l G T d mc ms Q ce sl pc L2 st2 h2 n2) : V l G T d mc ms Q ce sl pc L st h n := by
  subst e1; subst e2; subst e3; subst e4; exact k
theorem V.wide {ce2 sl2 : Nat} (h1 : ce ≤ ce2) (h2 : sl ≤ sl2) (k : V l G T d mc ms Q ce2 sl2 pc L st h n) : V l G T d mc ms Q ce sl pc L st h n := by
  intro p e s m args below meth c H locs ls F hl hP hS
  exact W.widen h1 h2 (k p e s m args below meth c H locs ls F hl hP hS)

theorem V.iret {x : Int32} (hd : decode T.2.1 pc = .ok (.ireturn, 1)) (hr : T.2.2.2.1 = some .int) (hQ : Q (.inl (some (.int x))) h n) (hc : ce ≤ mc := by omega) (hs : sl ≤ ms := by omega) : V l G T d mc ms Q ce sl pc L [.int x] h n := by
  intro p e s m args below meth c H locs ls F hl hP hS
  refine W.widen hc hs (vx_ret ?_)
  refine W.iret F.1 F.2.1 (F.2.2.2.2.2.1.trans hr) ?_ hS.2.2 hd F.2.2.2.2.2.2.1
  intro t ht hW
  exact ⟨⟨_, h, n, rfl, by rw [ht]; exact hP, hQ⟩, hS.F ht⟩
theorem V.zret {ty : FieldType} {x : Int32} (hn : narrow ty (.int x) = .int x) (hd : decode T.2.1 pc = .ok (.ireturn, 1)) (hr : T.2.2.2.1 = some ty) (hQ : Q (.inl (some (.int x))) h n) (hc : ce ≤ mc := by omega) (hs : sl ≤ ms := by omega) : V l G T d mc ms Q ce sl pc L [.int x] h n := by
  intro p e s m args below meth c H locs ls F hl hP hS
  refine W.widen hc hs (vx_ret ?_)
  refine W.zret F.1 F.2.1 (F.2.2.2.2.2.1.trans hr) hn ?_ hS.2.2 hd F.2.2.2.2.2.2.1
  intro t ht hW
  exact ⟨⟨_, h, n, rfl, by rw [ht]; exact hP, hQ⟩, hS.F ht⟩
theorem V.vret  (hd : decode T.2.1 pc = .ok (.return_, 1)) (hr : T.2.2.2.1 = none) (hQ : Q (.inl none) h n) (hc : ce ≤ mc := by omega) (hs : sl ≤ ms := by omega) : V l G T d mc ms Q ce sl pc L [] h n := by
  intro p e s m args below meth c H locs ls F hl hP hS
  refine W.widen hc hs (vx_ret ?_)
  refine W.vret F.1 F.2.1 (F.2.2.2.2.2.1.trans hr) ?_ hS.2.2 hd F.2.2.2.2.2.2.1
  intro t ht hW
  exact ⟨⟨_, h, n, rfl, by rw [ht]; exact hP, hQ⟩, hS.F ht⟩
theorem V.fret {x : UInt32} (hd : decode T.2.1 pc = .ok (.freturn, 1)) (hr : T.2.2.2.1 = some .float) (hQ : Q (.inl (some (.float x))) h n) (hc : ce ≤ mc := by omega) (hs : sl ≤ ms := by omega) : V l G T d mc ms Q ce sl pc L [.float x] h n := by
  intro p e s m args below meth c H locs ls F hl hP hS
  refine W.widen hc hs (vx_ret ?_)
  refine W.fret F.1 F.2.1 (F.2.2.2.2.2.1.trans hr) ?_ hS.2.2 hd F.2.2.2.2.2.2.1
  intro t ht hW
  exact ⟨⟨_, h, n, rfl, by rw [ht]; exact hP, hQ⟩, hS.F ht⟩
theorem V.dret {x : UInt64} (hd : decode T.2.1 pc = .ok (.dreturn, 1)) (hr : T.2.2.2.1 = some .double) (hQ : Q (.inl (some (.double x))) h n) (hc : ce ≤ mc := by omega) (hs : sl ≤ ms := by omega) : V l G T d mc ms Q ce sl pc L [.double x] h n := by
  intro p e s m args below meth c H locs ls F hl hP hS
  refine W.widen hc hs (vx_ret ?_)
  refine W.dret F.1 F.2.1 (F.2.2.2.2.2.1.trans hr) ?_ hS.2.2 hd F.2.2.2.2.2.2.1
  intro t ht hW
  exact ⟨⟨_, h, n, rfl, by rw [ht]; exact hP, hQ⟩, hS.F ht⟩
theorem V.aret {x : Nat} {C : String} (hd : decode T.2.1 pc = .ok (.areturn, 1)) (hr : T.2.2.2.1 = some (.object C)) (hQ : Q (.inl (some (.ref x))) h n) (hc : ce ≤ mc := by omega) (hs : sl ≤ ms := by omega) : V l G T d mc ms Q ce sl pc L [.ref x] h n := by
  intro p e s m args below meth c H locs ls F hl hP hS
  refine W.widen hc hs (vx_ret ?_)
  refine W.aret F.1 F.2.1 (F.2.2.2.2.2.1.trans hr) (Or.inl ⟨C, rfl⟩) (Or.inr ⟨x, rfl⟩) ?_ hS.2.2 hd F.2.2.2.2.2.2.1
  intro t ht hW
  exact ⟨⟨_, h, n, rfl, by rw [ht]; exact hP, hQ⟩, hS.F ht⟩
end VR
end
section
/-! contracts out of bodies; calls -/
theorem Sat.blind {G : GG} {h : HM} {n : Nat} {av : List Value} : FrameBlind (va_Pc av (Sat G h n)) := fun a U g mk hp =>
  ⟨hp.1, hp.2.1, hp.2.2.1.moved (Vm.Alike.refl U.vm), hp.2.2.2.at' (State.WarmedH.refl U) (fun _ _ _ => rfl)⟩
def L0 (args : List Value) (nL : Nat) : List (Option Value) := args.map some ++ List.replicate (nL - args.length) none
theorem lv_args_get : ∀ (vs : List Value) (k : Nat), (vs.all fun v => v.category == 1) = true → ∀ (i : Nat) (v : Value), vs[i]? = some v → (k + i, v) ∈ lv_args k vs
  | [], _, _, i, v, h => by simp at h
  | x :: vs, k, hc, 0, v, h => by
    simp only [List.getElem?_cons_zero] at h
    cases h
    exact List.mem_cons_self
  | x :: vs, k, hc, i + 1, v, h => by
    simp only [List.all_cons, Bool.and_eq_true, beq_iff_eq] at hc
    simp only [List.getElem?_cons_succ] at h
    have h2 := lv_args_get vs (k + 1) hc.2 i v h
    show _ ∈ (k, x) :: lv_args (if x.category = 2 then k + 2 else k + 1) vs
    rw [if_neg (by omega)]
    rw [show k + (i + 1) = k + 1 + i by omega]
    exact List.mem_cons_of_mem _ h2
theorem lg_sl_one : ∀ (vs : List Value), (vs.all fun v => v.category == 1) = true → (lg_sl vs).length = vs.length
  | [], _ => rfl
  | x :: vs, hc => by
    simp only [List.all_cons, Bool.and_eq_true, beq_iff_eq] at hc
    have h2 := lg_sl_one vs hc.2
    have e : lg_sl (x :: vs) = lg_sl [x] ++ lg_sl vs := by simp [lg_sl]
    rw [e, List.length_append, h2]
    simp [lg_sl, hc.1]
    omega
theorem lvo_entry {args : List Value} {nL : Nat} (hc : (args.all fun v => v.category == 1) = true) (hn : args.length ≤ nL) : lvo ((lg_sl args ++ List.replicate (nL - (lg_sl args).length) Slot.unset).toArray) nL (L0 args nL) := by
  have h := lv_entry args (n := nL) (by rw [lg_sl_one args hc]; exact hn)
  refine ⟨h.1, h.2.1, fun i v hi => ?_⟩
  by_cases hl : i < args.length
  · rw [L0, List.getElem?_append_left (by simpa using hl), List.getElem?_map] at hi
    cases ha : args[i]? with
    | none => rw [ha] at hi; cases hi
    | some x =>
      rw [ha] at hi
      cases hi
      have h2 := lv_args_get args 0 hc i v ha
      rw [Nat.zero_add] at h2
      exact h.2.2 (i, v) h2
  · rw [L0, List.getElem?_append_right (by simpa using hl)] at hi
    have := List.eq_of_mem_replicate (List.mem_of_getElem? hi)
    cases this
theorem Fx.of {l : Launch} {G : GG} {T : MT} {rm : Room} {h : HM} {n : Nat} {p : Program} {e : Env} {s s₁ : State} {m : MethodId} {args : Array Value} {below : List Frame} {meth : Method} {c : Code} (B : BodyLoose p l T.1 (headSpec (wsT T) rm) T.2.1 T.2.2.1 T.2.2.2.1 e s m args below meth c s₁) (hml : c.maxLocals = T.2.2.1) (ht : c.exceptionTable.toList = tableOf T.2.2.2.2) (hs : Sat G h n s) (hl : l.stackTraces = false) : Fx l G T p s m args meth c := by
  have hts := atoms_spec (ws := wsT T) B.pre
  refine ⟨B.exec, B.bytes, hml, findClass_of_methodNamed B.named, fun w hw => hts w (List.mem_cons_of_mem _ hw), B.returns, B.notSynchronized, fun hi => ?_, hs.2.1, hs.2.2, ?_, fun _ => ht, hl⟩
  · exact ((name_of_methodNamed B.named B.method).1).trans hi
  · have := hs.1.le
    omega
section CTV
variable {l : Launch} {G : GG} {T : MT} {d mc ms : Nat} {Q : PQ} {h : HM} {n : Nat} {av : List Value}
theorem Ct.ofV (hy : plainName T.1.cls = true) (hh : T.2.2.2.2 = []) (hc : (av.all fun v => v.category == 1) = true) (hn : av.length ≤ T.2.2.1) (body : V l G T d mc ms Q 0 0 0 (L0 av T.2.2.1) [] h n) : Ct l G T d mc ms av h n Q := by
  intro hst
  have hw : wsT T = Cond.code T.1 T.2.1 T.2.2.1 T.2.2.2.1 :: BW := by simp [wsT, hh]
  refine vx_ofW (cc := T.2.1) (maxL := T.2.2.1) (ret := T.2.2.2.1) hy hw ?_
  intro p e s m args below meth c s₁ B hml htab hv
  obtain ⟨rfl, hs⟩ := hv
  have ht : c.exceptionTable.toList = tableOf T.2.2.2.2 := by
    rw [hh]
    cases hx : c.exceptionTable.toList with
    | nil => rfl
    | cons a r => exact (htab a (by rw [hx]; exact List.mem_cons_self)).elim
  rw [lg_entry_eq]
  exact body p e s m _ below meth c s.heap [] _ (Fx.of B hml ht hs hst) (lvo_entry hc hn) hs.1 va_S.rf
theorem Ct.ofVH {x : Nat × Nat × Nat × Nat} {xs : List (Nat × Nat × Nat × Nat)} (hy : plainName T.1.cls = true) (hh : T.2.2.2.2 = x :: xs) (hc : (av.all fun v => v.category == 1) = true) (hn : av.length ≤ T.2.2.1) (body : V l G T d mc ms Q 0 0 0 (L0 av T.2.2.1) [] h n) : Ct l G T d mc ms av h n Q := by
  intro hst
  have hw : wsT T = Cond.codeWith T.1 T.2.1 T.2.2.1 T.2.2.2.1 T.2.2.2.2 :: BW := by simp [wsT, hh]
  refine vx_ofWH (cc := T.2.1) (maxL := T.2.2.1) (ret := T.2.2.2.1) (hh := T.2.2.2.2) hy hw ?_
  intro p e s m args below meth c s₁ B hml hv
  obtain ⟨rfl, hs⟩ := hv
  have hts := atoms_spec (ws := wsT T) B.pre
  have ht : c.exceptionTable.toList = tableOf T.2.2.2.2 := vx_table (x := T.1) (y := T.1) B (hts _ (by rw [hw]; exact List.mem_cons_self))
  rw [lg_entry_eq]
  exact body p e s m _ below meth c s.heap [] _ (Fx.of B hml ht hs hst) (lvo_entry hc hn) hs.1 va_S.rf
/-- a method that is called, by its words -/
def MWb (T : MT) (np : Nat) : Prop := (T.1.cls ≠ "java/lang/invoke/MethodHandle" ∧ T.1.cls ≠ "java/lang/invoke/VarHandle") ∧ (parseMethodDescriptor T.1.desc).map (fun d => d.parameters.length) = some np ∧ T.2.2.1 ≤ 19 ∧ Cond.initialized T.1.cls ∈ BW ∧ Cond.code T.1 T.2.1 T.2.2.1 T.2.2.2.1 ∈ BW ∧ T.2.2.2.2 = []
def MWv (T : MT) (np : Nat) : Prop := MWb T np ∧ Cond.instanceMethod T.1 ∈ BW ∧ Cond.selects T.1.cls T.1 T.1 ∈ BW
def MWs (T : MT) (np : Nat) : Prop := MWb T np ∧ Cond.static T.1 ∈ BW
def MWi (T : MT) (np : Nat) : Prop := MWb T np ∧ Cond.instanceMethod T.1 ∈ BW ∧ T.1.name = "<init>"
theorem pay_bw {s : State} {args : Array Value} (F : ∀ w ∈ BW, w.before args s = true) : ∀ w ∈ BW, ∀ (a' : Array Value) (U : State), s.WarmedH U.vm → w.before a' U = true :=
  fun w hw a' U hW => word_at hW (good_of_word (bw_good w hw)) (F w hw)
theorem wsT_code {T : MT} (h : T.2.2.2.2 = []) : wsT T = Cond.code T.1 T.2.1 T.2.2.1 T.2.2.2.1 :: BW := by simp [wsT, h]
theorem MWb.call {T' : MT} {np d' mc' ms' : Nat} {own : String} {idx : Nat} {s : State} {args : Array Value} (M : MWb T' np) (F : ∀ w ∈ BW, w.before args s = true) (hd : d' + 1 ≤ d) (hl : Cond.methodLink own idx T'.1 ∈ BW) : CallB (rmV d mc ms) s args own idx T'.1 T'.2.1 T'.2.2.1 T'.2.2.2.1 (wsT T') (rmV d' mc' ms') mc' ms' np := by
  obtain ⟨hy, hp, h19, hini, hcode, hh⟩ := M
  have hm : ∀ w ∈ wsT T', w ∈ BW := by
    rw [wsT_code hh]
    exact fun w hw => (List.mem_cons.mp hw).elim (fun e => e ▸ hcode) id
  refine ⟨rfl, rfl, ?_, ?_, fun w hw => pay_bw F w (hm w hw), by rw [wsT_code hh]; exact List.mem_cons_self, F _ hcode, F _ hini, hy, fun sig hs => ?_, F _ hl⟩
  · exact hd
  · show 8 + (T'.2.2.1 + 11) + 38 * d' ≤ 38 * d
    omega
  · rw [hs] at hp
    exact (Option.some.inj hp).symm
theorem Sat.start {s : State} {H : Heap} {locs : List Loc} {U : State} {p : Program} {m : MethodId} {args : Array Value} {meth : Method} {c : Code} (F : Fx l G T p s m args meth c) (hP : HP G h n H) (hS : va_S (FrA G) s.heap H locs) (hU : U.heap = H) (hW : s.WarmedH U.vm) : Sat G h n U := by
  obtain ⟨-, -, -, -, -, -, -, -, hK, hE, hz, -⟩ := F
  exact ⟨by rw [hU]; exact hP, hK.moved hW.alike, hE.at' hW (fun a ha hn => by rw [hU]; exact hS.2.1 a ha hn)⟩
/-- behind a call -/
theorem Run.done {p : Program} {e : Env} {s : State} {m : MethodId} {args : Array Value} {below : List Frame} {meth : Method} {c : Code} {H : Heap} {locs : List Loc} {ls : Array Slot} {mc' ms' ce sl pc q : Nat} {st0 rest : List Value} {Q' : PQ} {a : Array Value} {L : List (Option Value)}
    (F : Fx l G T p s m args meth c) (hl : lvo ls T.2.2.1 L) (hP : HP G h n H) (hS : va_S (FrA G) s.heap H locs) (hq : pc + 3 = q)
    (hr : vx_Run p l e (rmV d mc ms) s m args below meth c H locs ce sl mc' ms' (F0 m pc ls st0) rest (QcV G Q' a) (XcV G Q') (FrA G))
    (kr : ∀ (v : Option Value) (h2 : HM) (n2 : Nat), Q' (.inl v) h2 n2 → V l G T d mc ms Q (ce + mc') (sl + ms') q L (v.toList ++ rest) h2 n2)
    (kx : ∀ (E : String) (h2 : HM) (n2 : Nat), Q' (.inr E) h2 n2 → VX l G T d mc ms Q (ce + mc') (sl + ms') pc L E h2 n2) :
    W p l e (rmV d mc ms) s m args below meth c H locs ce sl (vx_MQ below (QcV G Q) (XcV G Q) args s mc ms (FrA G)) (F0 m pc ls st0) := by
  subst hq
  intro T9 hT X
  rcases hr T9 hT X with ⟨v, st₀, t, T', L9, h0, X', hL, e1, e2, ⟨⟨v2, h2, n2, ho, hp2, hq2⟩, hF⟩, st⟩ | ⟨q, st₀, t, T', L9, E, ce9, h0, X', hL, e1, e2, ⟨⟨h2, n2, hp2, hq2⟩, hF⟩, hce, hcv, hcl, st⟩
  · cases ho
    obtain ⟨-, -, k3⟩ := vx_keep h0 e1 hS (fun _ _ z => z) (fun _ z => z) hL hF
    obtain ⟨t2, a1, b1⟩ := kr v h2 n2 hq2 p e s m args below meth c T'.heap (locs ++ L9) ls F hl (by rw [e1]; exact hp2) k3 T' rfl X'
    exact ⟨t2, st t2 a1, b1⟩
  · obtain ⟨-, -, k3⟩ := vx_keep h0 e1 hS (fun _ _ z => z) (fun _ z => z) hL hF
    obtain ⟨t2, a1, b1⟩ := kx E h2 n2 hq2 p e s m args below meth c T'.heap (locs ++ L9) ls q ce9 rest F hl (by rw [e1]; exact hp2) k3 (by rw [e1]; exact hce) hcv hcl T' rfl X'
    exact ⟨t2, st.trans a1, b1⟩
variable {ce sl pc q : Nat} {L : List (Option Value)} {st st0 : List Value}
def cat8 (st : List Value) : Bool := decide ((st.map fun v => v.category).sum ≤ 8)
theorem V.callV {T' : MT} {np d' mc' ms' idx k : Nat} {Q' : PQ} {As : List Value} {ci : Nat} {fs : List Value} {TT : u_T} {N : Nat} (hC : Ct l G T' d' mc' ms' (.ref (gB G + k) :: As) h n Q') (M : MWv T' np) (hw : Cond.methodLink T.1.cls idx T'.1 ∈ BW) (hd : decode T.2.1 pc = .ok (.invokevirtual idx, 3)) (hst : st0 = As.reverse ++ .ref (gB G + k) :: st)
    (hk : h k = .inr (ci, fs)) (hkn : k < n) (hci : vwCl[ci]? = some (T'.1.cls, TT, N)) (hnp : As.length = np) (h8 : cat8 st = true) (hdd : d' + 1 ≤ d) (hm1 : ce + mc' ≤ mc) (hm2 : sl + ms' ≤ ms) (hq : pc + 3 = q)
    (kr : ∀ (v : Option Value) (h2 : HM) (n2 : Nat), Q' (.inl v) h2 n2 → V l G T d mc ms Q (ce + mc') (sl + ms') q L (v.toList ++ st) h2 n2)
    (kx : ∀ (E : String) (h2 : HM) (n2 : Nat), Q' (.inr E) h2 n2 → VX l G T d mc ms Q (ce + mc') (sl + ms') pc L E h2 n2) : V l G T d mc ms Q ce sl pc L st0 h n := by
  intro p e s m args below meth c H locs ls F hl hP hS
  subst hst
  refine Run.done F hl hP hS hq (vx_runV (As := As) (rest := st) (b := gB G + k) (C := T'.1.cls) ⟨F.1, F.2.1, F.2.2.1, F.2.2.2.1, F.2.2.2.2.1⟩ (hC F.2.2.2.2.2.2.2.2.2.2.2.2) ⟨M.1.call F.2.2.2.2.1 hdd hw, F.2.2.2.2.1 _ M.2.1, F.2.2.2.2.1 _ M.2.2⟩ ⟨Sat.blind, ?_, fun U hU hW => ⟨rfl, Sat.start F hP hS hU hW⟩⟩ rfl hnp hl.1 rfl (lv_room (of_decide_eq_true h8)) hd ⟨hm1, hm2⟩) kr kx
  have hKV : KV G s := F.2.2.2.2.2.2.2.2.1
  exact va_recv hKV hP.P (q0 := k) hci (by rw [wof_get hkn, hk])
theorem V.callS {T' : MT} {np d' mc' ms' idx : Nat} {Q' : PQ} {As : List Value} (hC : Ct l G T' d' mc' ms' As h n Q') (M : MWs T' np) (hw : Cond.methodLink T.1.cls idx T'.1 ∈ BW) (hd : decode T.2.1 pc = .ok (.invokestatic idx, 3)) (hst : st0 = As.reverse ++ st)
    (hnp : As.length = np) (h8 : cat8 st = true) (hdd : d' + 1 ≤ d) (hm1 : ce + mc' ≤ mc) (hm2 : sl + ms' ≤ ms) (hq : pc + 3 = q)
    (kr : ∀ (v : Option Value) (h2 : HM) (n2 : Nat), Q' (.inl v) h2 n2 → V l G T d mc ms Q (ce + mc') (sl + ms') q L (v.toList ++ st) h2 n2)
    (kx : ∀ (E : String) (h2 : HM) (n2 : Nat), Q' (.inr E) h2 n2 → VX l G T d mc ms Q (ce + mc') (sl + ms') pc L E h2 n2) : V l G T d mc ms Q ce sl pc L st0 h n := by
  intro p e s m args below meth c H locs ls F hl hP hS
  subst hst
  exact Run.done F hl hP hS hq (vx_runS (As := As) (rest := st) ⟨F.1, F.2.1, F.2.2.1, F.2.2.2.1, F.2.2.2.2.1⟩ (hC F.2.2.2.2.2.2.2.2.2.2.2.2) ⟨M.1.call F.2.2.2.2.1 hdd hw, F.2.2.2.2.1 _ M.2⟩ ⟨Sat.blind, fun U hU hW => ⟨rfl, Sat.start F hP hS hU hW⟩⟩ rfl hnp hl.1 rfl (lv_room (of_decide_eq_true h8)) hd ⟨hm1, hm2⟩) kr kx
theorem V.callI {T' : MT} {np d' mc' ms' idx : Nat} {Q' : PQ} {As : List Value} {b : Nat} (hC : Ct l G T' d' mc' ms' (.ref b :: As) h n Q') (M : MWi T' np) (hret : T'.2.2.2.1 = none) (hw : Cond.methodLink T.1.cls idx T'.1 ∈ BW) (hd : decode T.2.1 pc = .ok (.invokespecial idx, 3)) (hst : st0 = As.reverse ++ .ref b :: st)
    (hnp : As.length = np) (h8 : cat8 st = true) (hdd : d' + 1 ≤ d) (hm1 : ce + mc' ≤ mc) (hm2 : sl + ms' ≤ ms) (hq : pc + 3 = q)
    (kr : ∀ (v : Option Value) (h2 : HM) (n2 : Nat), Q' (.inl v) h2 n2 → V l G T d mc ms Q (ce + mc') (sl + ms') q L (v.toList ++ st) h2 n2)
    (kx : ∀ (E : String) (h2 : HM) (n2 : Nat), Q' (.inr E) h2 n2 → VX l G T d mc ms Q (ce + mc') (sl + ms') pc L E h2 n2) : V l G T d mc ms Q ce sl pc L st0 h n := by
  intro p e s m args below meth c H locs ls F hl hP hS
  subst hst
  have hcb := M.1.call (d := d) (mc := mc) (ms := ms) (d' := d') (mc' := mc') (ms' := ms') F.2.2.2.2.1 hdd hw
  rw [hret] at hcb
  exact Run.done F hl hP hS hq (vx_runI (As := As) (rest := st) (b := b) ⟨F.1, F.2.1, F.2.2.1, F.2.2.2.1, F.2.2.2.2.1⟩ (hC F.2.2.2.2.2.2.2.2.2.2.2.2) ⟨hcb, M.2.2, F.2.2.2.2.1 _ M.2.1⟩ ⟨Sat.blind, fun U hU hW => ⟨rfl, Sat.start F hP hS hU hW⟩⟩ rfl hnp hl.1 rfl (lv_room (of_decide_eq_true h8)) hd ⟨hm1, hm2⟩) kr kx
/-- what is thrown goes on to the caller -/
theorem VX.out {E : String} (hh : T.2.2.2.2 = []) (hc : ce ≤ mc) (hs : sl ≤ ms) (hQ : Q (.inr E) h n) : VX l G T d mc ms Q ce sl pc L E h n := by
  intro p e s m args below meth c H locs ls q ce9 rest F hl hP hS h1 h2 h3
  refine vx_out (E := E) (ce := ce9) ?_ F.2.2.2.2.2.2.1 h1 h2 h3 (fun t ht _ => ⟨⟨h, n, by rw [ht]; exact hP, hQ⟩, hS.F ht⟩) hS.2.2 hc hs
  rw [F.2.2.2.2.2.2.2.2.2.2.2.1.no hh, hh]
  intro x hx
  cases hx
theorem Ct.mono {Q2 : PQ} (hC : Ct l G T d mc ms av h n Q) (hQ : ∀ a h2 n2, Q a h2 n2 → Q2 a h2 n2) : Ct l G T d mc ms av h n Q2 := by
  intro hst
  intro p e ha hc hk s m args below hf happ hP hK
  obtain ⟨n9, o, h1, h2, h3, hq⟩ := hC hst p e ha hc hk s m args below hf happ hP hK
  refine ⟨n9, o, h1, h2, h3, ?_⟩
  rcases hq with ⟨⟨⟨v, h2, n2, e1, e2, e3⟩, hF⟩, hL⟩ | ⟨q, e1, E, ce, L9, ⟨⟨h2, n2, e2, e3⟩, hF⟩, hr⟩
  · exact Or.inl ⟨⟨⟨v, h2, n2, e1, e2, hQ _ _ _ e3⟩, hF⟩, hL⟩
  · exact Or.inr ⟨q, e1, E, ce, L9, ⟨⟨h2, n2, e2, hQ _ _ _ e3⟩, hF⟩, hr⟩
end CTV
end
section
/-! rows on the world: fields, arrays, what stands below B, makings, throws, members of the library -/
section VH
variable {l : Launch} {G : GG} {T : MT} {d mc ms ce sl : Nat} {Q : PQ} {pc q : Nat} {L : List (Option Value)} {st : List Value} {h : HM} {n : Nat}
theorem V.get {idx k ci j : Nat} {fs : List Value} {C : String} {TT : u_T} {N : Nat} {v : Value} (hd : decode T.2.1 pc = .ok (.getfield idx, 3)) (hk : h k = .inr (ci, fs)) (hkn : k < n) (hci : vwCl[ci]? = some (C, TT, N)) (hin : ∀ w ∈ u_ws C TT N, w ∈ BW) (hj : j < N) (hdc : (TT j).1 = C) (hw : Cond.fieldLink T.1.cls idx C (TT j).2.1 (TT j).2.2.1 ∈ BW) (hv : fs[j]? = some v) (hq : pc + 3 = q) (kk : V l G T d mc ms Q ce sl q L (v :: st) h n) : V l G T d mc ms Q ce sl pc L (.ref (gB G + k) :: st) h n := by
  intro p e s m args below meth c H locs ls F hl hP hS
  subst hq
  have hKV : KV G s := F.2.2.2.2.2.2.2.2.1
  exact va_get F.1 F.2.1 F.2.2.2.2.1 hin F.2.2.2.1 hKV hP.P k (by rw [wof_get hkn, hk]) hci j hj (F.2.2.2.2.1 _ hw) (fun x hx => by rw [hdc] at hx; exact hx) hv hd (kk p e s m args below meth c H locs ls F hl hP hS)
theorem V.put {idx k ci j : Nat} {fs : List Value} {C : String} {TT : u_T} {tt : Nat → FieldType} {N : Nat} {v : Value} (hd : decode T.2.1 pc = .ok (.putfield idx, 3)) (hk : h k = .inr (ci, fs)) (hkn : k < n) (hci : vwCl[ci]? = some (C, TT, N)) (hin : ∀ w ∈ u_ws C TT N, w ∈ BW) (hty : ∀ k, k < N → parseFieldDescriptor (TT k).2.2.1 = some (tt k)) (hnm : ∀ a, a < N → ∀ b, b < N → a ≠ b → (TT a).2.1 ≠ (TT b).2.1) (hj : j < N) (hdc : (TT j).1 = C) (hw : Cond.fieldLink T.1.cls idx C (TT j).2.1 (TT j).2.2.1 ∈ BW) (hfin : (TT j).2.2.2 = false ∨ (T.1.name = "<init>" ∧ (TT j).1 = T.1.cls)) (hn : narrow (tt j) v = v) (hfit : fits (tt j) v = true) (hjl : j < fs.length) (hq : pc + 3 = q) (kk : V l G T d mc ms Q ce sl q L st (hset h k (.inr (ci, fs.set j v))) n) : V l G T d mc ms Q ce sl pc L (v :: .ref (gB G + k) :: st) h n := by
  intro p e s m args below meth c H locs ls F hl hP hS0
  subst hq
  have hKV : KV G s := F.2.2.2.2.2.2.2.2.1
  have hts := F.2.2.2.2.1
  have hown := F.2.2.2.1
  have hap := va_apart (own := T.1.cls) hts hin tt hty hnm hKV hci
  have hq9 := hP.2 k hkn
  rw [hk] at hq9
  obtain ⟨r, h1, cell, q1, q2, q3, q4⟩ := hq9
  have hr : r = (C, TT, N) := Option.some.inj (h1.symm.trans hci)
  subst hr
  obtain ⟨hS, hfc, kC, hkC, hkind⟩ := hKV.1 ci _ hci
  obtain ⟨cf, kf, fi, f, hi, hsl⟩ := hS j hj
  have hlay := hts _ (hin _ (u_in_lay hj))
  unfold u_lay at hlay
  have hst := (u_facts hfc hkC (u_lays hts hin hj) hi).1
  have hlink := hts _ hw
  have hi2 : s.fieldFound? C (TT j).2.1 (TT j).2.2.1 = some (cf, kf, fi, f) := by rw [← hdc]; exact hi
  have key : ∀ H' : Heap, H'[gB G + k]? = some (cell.setSlot f.slot v) → H'.size = H.size → (∀ q, q ≠ gB G + k → H'[q]? = H[q]?) → W p l e (rmV d mc ms) s m args below meth c H' (locs ++ [⟨gB G + k, f.slot⟩]) ce sl (vx_MQ below (QcV G Q) (XcV G Q) args s mc ms (FrA G)) (F0 m (pc + 3) ls st) := by
    intro H' e1 e2 e3
    refine kk p e s m args below meth c H' _ ls F hl (hP.set ⟨_, hci, ?_⟩ e2 e3) (hS0.put e2 e3 (hP.fr hkn))
    rw [hsl] at e1
    exact t_OB.to (V := updV (vp_V fs) j v) ⟨_, e1, q2, q3, t_set q4 hap hj v⟩ (fun i _ => vp_updV_set hjl v i)
  rcases hfin with hfin | ⟨hini, hdecl⟩
  · rw [if_neg (by rw [hfin]; decide)] at hlay
    have h6 := u_store hfc hkC hkind hlay hi (hty j hj) hn hfit
    exact W.putK F.1 F.2.1 (f := f) ⟨hown, hlink, ⟨_, _, _, hi2⟩, hst⟩ (by rw [q2]; exact h6) q1 q3 (by rw [hsl]; exact k2_hasslot (q4 j hj)) rfl rfl hd key
  · by_cases hf : (TT j).2.2.2 = true
    · rw [if_pos hf] at hlay
      have hcf : m.cls = cf := by
        obtain ⟨_, _, c', _, _, _, -, -, hf', -, -, -, hown2, -⟩ := Cond.laysFinal_spec hlay
        have e1 : c' = cf := by have := hi.symm.trans hf'; simp at this; exact this.1.symm
        rw [hdecl] at hown2
        rw [← e1]; exact Option.some.inj (hown.symm.trans hown2)
      have h6 := u_fits hfc hkC hkind (Or.inr hlay) hi (hty j hj) hn hfit
      exact W.putFinK F.1 F.2.1 hown hlink hi2 hst hcf (F.2.2.2.2.2.2.2.1 hini) (by rw [q2]; exact h6) q1 q3 (by rw [hsl]; exact k2_hasslot (q4 j hj)) rfl rfl hd key
    · rw [if_neg hf] at hlay
      have h6 := u_store hfc hkC hkind hlay hi (hty j hj) hn hfit
      exact W.putK F.1 F.2.1 (f := f) ⟨hown, hlink, ⟨_, _, _, hi2⟩, hst⟩ (by rw [q2]; exact h6) q1 q3 (by rw [hsl]; exact k2_hasslot (q4 j hj)) rfl rfl hd key
/-! arrays: an index is a natural -/
theorem V.iald {k N i : Nat} {f : Nat → Int32} {x : Int32} (hd : decode T.2.1 pc = .ok (.iaload, 1)) (hk : h k = .inl (gC G 0, N, .inl f)) (hkn : k < n) (hi : i < N) (hN : N < 2 ^ 31) (hx : x = nI i) (hq : pc + 1 = q) (kk : V l G T d mc ms Q ce sl q L (.int (f i) :: st) h n) : V l G T d mc ms Q ce sl pc L (.int x :: .ref (gB G + k) :: st) h n := by
  intro p e s m args below meth c H locs ls F hl hP hS
  subst hq; subst hx
  have hKV : KV G s := F.2.2.2.2.2.2.2.2.1
  refine va_iald F.1 F.2.1 hKV hP.P k 0 (by rw [wof_get hkn, hk]) rfl (vp_in_nI hi hN) hd ?_
  rw [nI_clamp (by omega)]
  exact kk p e s m args below meth c H locs ls F hl hP hS
theorem V.bald {k N i : Nat} {f : Nat → Int32} {x : Int32} (hd : decode T.2.1 pc = .ok (.baload, 1)) (hk : h k = .inl (gC G 1, N, .inl f)) (hkn : k < n) (hi : i < N) (hN : N < 2 ^ 31) (hx : x = nI i) (hq : pc + 1 = q) (kk : V l G T d mc ms Q ce sl q L (.int (f i) :: st) h n) : V l G T d mc ms Q ce sl pc L (.int x :: .ref (gB G + k) :: st) h n := by
  intro p e s m args below meth c H locs ls F hl hP hS
  subst hq; subst hx
  have hKV : KV G s := F.2.2.2.2.2.2.2.2.1
  refine va_bald F.1 F.2.1 hKV hP.P k 1 (by rw [wof_get hkn, hk]) rfl (vp_in_nI hi hN) hd ?_
  rw [nI_clamp (by omega)]
  exact kk p e s m args below meth c H locs ls F hl hP hS
theorem V.zald {k N i : Nat} {f : Nat → Int32} {x : Int32} (hd : decode T.2.1 pc = .ok (.baload, 1)) (hk : h k = .inl (gC G 2, N, .inl f)) (hkn : k < n) (hi : i < N) (hN : N < 2 ^ 31) (hx : x = nI i) (hq : pc + 1 = q) (kk : V l G T d mc ms Q ce sl q L (.int (f i) :: st) h n) : V l G T d mc ms Q ce sl pc L (.int x :: .ref (gB G + k) :: st) h n := by
  intro p e s m args below meth c H locs ls F hl hP hS
  subst hq; subst hx
  have hKV : KV G s := F.2.2.2.2.2.2.2.2.1
  refine va_zald F.1 F.2.1 hKV hP.P k 2 (by rw [wof_get hkn, hk]) rfl (vp_in_nI hi hN) hd ?_
  rw [nI_clamp (by omega)]
  exact kk p e s m args below meth c H locs ls F hl hP hS
theorem V.lald {k N i : Nat} {f : Nat → Int64} {x : Int32} (hd : decode T.2.1 pc = .ok (.laload, 1)) (hk : h k = .inl (gC G 3, N, .inr (.inl f))) (hkn : k < n) (hi : i < N) (hN : N < 2 ^ 31) (hx : x = nI i) (hq : pc + 1 = q) (kk : V l G T d mc ms Q ce sl q L (.long (f i) :: st) h n) : V l G T d mc ms Q ce sl pc L (.int x :: .ref (gB G + k) :: st) h n := by
  intro p e s m args below meth c H locs ls F hl hP hS
  subst hq; subst hx
  have hKV : KV G s := F.2.2.2.2.2.2.2.2.1
  refine va_lald F.1 F.2.1 hKV hP.P k 3 (by rw [wof_get hkn, hk]) rfl (vp_in_nI hi hN) hd ?_
  rw [nI_clamp (by omega)]
  exact kk p e s m args below meth c H locs ls F hl hP hS
theorem V.aald {k N i t0 : Nat} {C : String} {f : Nat → Option Nat} {a : Nat} {x : Int32} (hd : decode T.2.1 pc = .ok (.aaload, 1)) (hk : h k = .inl (gC G t0, N, .inr (.inr (.inr (.inr f))))) (hkn : k < n) (ht : (tysG G)[t0]? = some (gC G t0, .object C)) (hi : i < N) (hN : N < 2 ^ 31) (hx : x = nI i) (hf : f i = some a) (hq : pc + 1 = q) (kk : V l G T d mc ms Q ce sl q L (.ref a :: st) h n) : V l G T d mc ms Q ce sl pc L (.int x :: .ref (gB G + k) :: st) h n := by
  intro p e s m args below meth c H locs ls F hl hP hS
  subst hq; subst hx
  have hKV : KV G s := F.2.2.2.2.2.2.2.2.1
  refine va_aldq F.1 F.2.1 hKV hP.P k t0 (by rw [wof_get hkn, hk]) ht (vp_in_nI hi hN) hd ?_
  rw [nI_clamp (by omega), hf]
  exact kk p e s m args below meth c H locs ls F hl hP hS
theorem V.iast {k N i : Nat} {f : Nat → Int32} {x y : Int32} (hd : decode T.2.1 pc = .ok (.iastore, 1)) (hk : h k = .inl (gC G 0, N, .inl f)) (hkn : k < n) (hi : i < N) (hN : N < 2 ^ 31) (hx : x = nI i) (hq : pc + 1 = q) (kk : V l G T d mc ms Q ce sl q L st (hset h k (.inl (gC G 0, N, .inl (upd f i y)))) n) : V l G T d mc ms Q ce sl pc L (.int y :: .int x :: .ref (gB G + k) :: st) h n := by
  intro p e s m args below meth c H locs ls F hl hP hS
  subst hq; subst hx
  have hKV : KV G s := F.2.2.2.2.2.2.2.2.1
  have hc := hP.2 k hkn
  rw [hk] at hc
  refine W.iast F.1 F.2.1 hc ((hKV.2 0 _ rfl).1 N (fun j => .int (f j))) (fun q => by cases q) (by show ¬ (nI i < 0 ∨ (arrV _ _ _).slots.size ≤ _); rw [arrV_size]; exact vp_in_nI hi hN) rfl rfl hd fun H1 e1 z oq => ?_
  refine kk p e s m args below meth c H1 _ ls F hl (hP.set ?_ z oq) (hS.put z oq (hP.fr hkn))
  show H1[gB G + k]? = some (vp_cell _ _)
  rw [e1, vp_cell_i, vp_cell_i, arrV_store, nI_clamp (by omega)]
  congr 2
  funext j
  by_cases hj : j = i
  · subst hj; simp [updV, upd]
  · simp [updV, upd, hj]
theorem V.bast {k N i : Nat} {f : Nat → Int32} {x y : Int32} (hd : decode T.2.1 pc = .ok (.bastore, 1)) (hk : h k = .inl (gC G 1, N, .inl f)) (hkn : k < n) (hi : i < N) (hN : N < 2 ^ 31) (hx : x = nI i) (hq : pc + 1 = q) (kk : V l G T d mc ms Q ce sl q L st (hset h k (.inl (gC G 1, N, .inl (upd f i (vp_nar .byte y))))) n) : V l G T d mc ms Q ce sl pc L (.int y :: .int x :: .ref (gB G + k) :: st) h n := by
  intro p e s m args below meth c H locs ls F hl hP hS
  subst hq; subst hx
  have hKV : KV G s := F.2.2.2.2.2.2.2.2.1
  have hc := hP.2 k hkn
  rw [hk] at hc
  refine W.bast F.1 F.2.1 hc ((hKV.2 1 _ rfl).1 N (fun j => .int (f j))) (fun q => by cases q) (by show ¬ (nI i < 0 ∨ (arrV _ _ _).slots.size ≤ _); rw [arrV_size]; exact vp_in_nI hi hN) rfl rfl hd fun H1 e1 z oq => ?_
  refine kk p e s m args below meth c H1 _ ls F hl (hP.set ?_ z oq) (hS.put z oq (hP.fr hkn))
  show H1[gB G + k]? = some (vp_cell _ _)
  rw [e1, vp_cell_i, vp_cell_i, arrV_store, nI_clamp (by omega)]
  congr 2
  funext j
  by_cases hj : j = i
  · subst hj; simp [updV, upd, vp_nar, narrow]
  · simp [updV, upd, hj]
theorem V.zast {k N i : Nat} {f : Nat → Int32} {x y : Int32} (hd : decode T.2.1 pc = .ok (.bastore, 1)) (hk : h k = .inl (gC G 2, N, .inl f)) (hkn : k < n) (hi : i < N) (hN : N < 2 ^ 31) (hx : x = nI i) (hq : pc + 1 = q) (kk : V l G T d mc ms Q ce sl q L st (hset h k (.inl (gC G 2, N, .inl (upd f i (vp_nar .boolean y))))) n) : V l G T d mc ms Q ce sl pc L (.int y :: .int x :: .ref (gB G + k) :: st) h n := by
  intro p e s m args below meth c H locs ls F hl hP hS
  subst hq; subst hx
  have hKV : KV G s := F.2.2.2.2.2.2.2.2.1
  have hc := hP.2 k hkn
  rw [hk] at hc
  refine W.zast F.1 F.2.1 hc ((hKV.2 2 _ rfl).1 N (fun j => .int (f j))) (fun q => by cases q) (by show ¬ (nI i < 0 ∨ (arrV _ _ _).slots.size ≤ _); rw [arrV_size]; exact vp_in_nI hi hN) rfl rfl hd fun H1 e1 z oq => ?_
  refine kk p e s m args below meth c H1 _ ls F hl (hP.set ?_ z oq) (hS.put z oq (hP.fr hkn))
  show H1[gB G + k]? = some (vp_cell _ _)
  rw [e1, vp_cell_i, vp_cell_i, arrV_store, nI_clamp (by omega)]
  congr 2
  funext j
  by_cases hj : j = i
  · subst hj; simp [updV, upd, vp_nar, narrow]
  · simp [updV, upd, hj]
theorem V.last {k N i : Nat} {f : Nat → Int64} {x : Int32} {y : Int64} (hd : decode T.2.1 pc = .ok (.lastore, 1)) (hk : h k = .inl (gC G 3, N, .inr (.inl f))) (hkn : k < n) (hi : i < N) (hN : N < 2 ^ 31) (hx : x = nI i) (hq : pc + 1 = q) (kk : V l G T d mc ms Q ce sl q L st (hset h k (.inl (gC G 3, N, .inr (.inl (vp_updL f i y))))) n) : V l G T d mc ms Q ce sl pc L (.long y :: .int x :: .ref (gB G + k) :: st) h n := by
  intro p e s m args below meth c H locs ls F hl hP hS
  subst hq; subst hx
  have hKV : KV G s := F.2.2.2.2.2.2.2.2.1
  have hc := hP.2 k hkn
  rw [hk] at hc
  refine W.last F.1 F.2.1 hc ((hKV.2 3 _ rfl).1 N (fun j => .long (f j))) (fun q => by cases q) (by show ¬ (nI i < 0 ∨ (arrV _ _ _).slots.size ≤ _); rw [arrV_size]; exact vp_in_nI hi hN) rfl rfl hd fun H1 e1 z oq => ?_
  refine kk p e s m args below meth c H1 _ ls F hl (hP.set ?_ z oq) (hS.put z oq (hP.fr hkn))
  show H1[gB G + k]? = some (vp_cell _ _)
  rw [e1, vp_cell_l, vp_cell_l, arrV_store, nI_clamp (by omega)]
  congr 2
  funext j
  by_cases hj : j = i
  · subst hj; simp [updV, vp_updL]
  · simp [updV, vp_updL, hj]
/-- a reference to one of our own objects into an array of its class -/
theorem V.aast {k N i t0 k2 ci : Nat} {r : vw_C} {vs : List Value} {f : Nat → Option Nat} {x : Int32} (hd : decode T.2.1 pc = .ok (.aastore, 1)) (hk : h k = .inl (gC G t0, N, .inr (.inr (.inr (.inr f))))) (hkn : k < n) (ht : (tysG G)[t0]? = some (gC G t0, .object r.1)) (hk2 : h k2 = .inr (ci, vs)) (hkn2 : k2 < n) (hc : vwCl[ci]? = some r) (hi : i < N) (hN : N < 2 ^ 31) (hx : x = nI i) (hq : pc + 1 = q) (kk : V l G T d mc ms Q ce sl q L st (hset h k (.inl (gC G t0, N, .inr (.inr (.inr (.inr (va_up f i (some (gB G + k2)))))))) ) n) : V l G T d mc ms Q ce sl pc L (.ref (gB G + k2) :: .int x :: .ref (gB G + k) :: st) h n := by
  intro p e s m args below meth c H locs ls F hl hP hS
  subst hq; subst hx
  have hKV : KV G s := F.2.2.2.2.2.2.2.2.1
  have hca := hP.2 k hkn
  rw [hk] at hca
  have hcv := hP.2 k2 hkn2
  rw [hk2] at hcv
  obtain ⟨r', hr', cellV, g1, g2, g3, -⟩ := hcv
  have hcls := (hKV.1 ci r hc).2
  obtain ⟨kA, comp, k1, k2', k3, -⟩ := (hKV.2 t0 _ ht).2
  have hcomp : comp = (gD G).1 ci := Option.some.inj (k3.symm.trans hcls.1)
  subst hcomp
  obtain ⟨kC, hkC, -⟩ := hcls.2
  have h0 : ¬ nI i < 0 := nI_pos (by omega)
  refine W.aast F.1 F.2.1 hca (fun q h => by cases h) (fun h => by cases h) k1 k2' rfl hkC ⟨h0, by show _ < (arrV _ _ _).slots.size; rw [arrV_size, nI_clamp (by omega)]; exact hi⟩ g1 (fun q h => by rw [g3] at h; cases h) (by rw [g2]; exact hkC) (by rw [g2]; exact va_assign hcls) rfl rfl hd fun H1 e1 z oq => ?_
  refine kk p e s m args below meth c H1 _ ls F hl (hP.set ?_ z oq) (hS.put z oq (hP.fr hkn))
  show H1[gB G + k]? = some (vp_cell _ _)
  rw [e1, vp_cell_q, vp_cell_q, arrV_store, nI_clamp (by omega)]
  congr 2
  funext j
  by_cases hj : j = i
  · subst hj; simp [updV, va_up, va_rf]
  · simp [updV, va_up, hj]
/-! what stands below B -/
theorem V.gets {idx : Nat} {C nm ds : String} {v : Value} (hd : decode T.2.1 pc = .ok (.getstatic idx, 3)) (hm : (C, nm, ds, v) ∈ ev_st (gA G)) (hw : Cond.fieldLink T.1.cls idx C nm ds ∈ BW) (hq : pc + 3 = q) (kk : V l G T d mc ms Q ce sl q L (v :: st) h n) : V l G T d mc ms Q ce sl pc L st h n := by
  intro p e s m args below meth c H locs ls F hl hP hS
  subst hq
  have hE : EV G s s.heap := F.2.2.2.2.2.2.2.2.2.1
  exact va_gets F.1 F.2.1 (hE.2.2.2.1 _ hm) hS F.2.2.2.1 (F.2.2.2.2.1 _ hw) (fun x hx => hx) hd (kk p e s m args below meth c H locs ls F hl hP hS)
theorem V.getO {idx a : Nat} {o C nm ds : String} {v : Value} (hd : decode T.2.1 pc = .ok (.getfield idx, 3)) (hm : (o, nm, ds, v, a) ∈ ev_of (gA G)) (ho : o = C) (hw : Cond.fieldLink T.1.cls idx C nm ds ∈ BW) (hq : pc + 3 = q) (kk : V l G T d mc ms Q ce sl q L (v :: st) h n) : V l G T d mc ms Q ce sl pc L (.ref a :: st) h n := by
  intro p e s m args below meth c H locs ls F hl hP hS
  subst hq
  subst ho
  have hE : EV G s s.heap := F.2.2.2.2.2.2.2.2.2.1
  exact vk_getf F.1 F.2.1 (hE.2.2.2.2.1 _ hm) hS F.2.2.2.1 (F.2.2.2.2.1 _ hw) (fun x hx => hx) hd (kk p e s m args below meth c H locs ls F hl hP hS)
theorem V.tald {a N i : Nat} {f : Nat → Value} {x : Int32} {v : Value} (hd : decode T.2.1 pc = .ok (.iaload, 1)) (hm : (FieldType.int, a, N, f) ∈ ev_ta (gA G)) (hi : i < N) (hN : N < 2 ^ 31) (hx : x = nI i) (hf : f i = v) (hq : pc + 1 = q) (kk : V l G T d mc ms Q ce sl q L (v :: st) h n) : V l G T d mc ms Q ce sl pc L (.int x :: .ref a :: st) h n := by
  intro p e s m args below meth c H locs ls F hl hP hS
  subst hq; subst hx
  have hE : EV G s s.heap := F.2.2.2.2.2.2.2.2.2.1
  exact va_ti F.1 F.2.1 (hE.2.2.2.2.2.2.1 _ hm) hS (vp_in_nI hi hN) (by rw [nI_clamp (by omega)]; exact hf) hd (kk p e s m args below meth c H locs ls F hl hP hS)
theorem V.tbald {a N i : Nat} {f : Nat → Value} {x : Int32} {v : Value} (hd : decode T.2.1 pc = .ok (.baload, 1)) (hm : (FieldType.byte, a, N, f) ∈ ev_ta (gA G)) (hi : i < N) (hN : N < 2 ^ 31) (hx : x = nI i) (hf : f i = v) (hq : pc + 1 = q) (kk : V l G T d mc ms Q ce sl q L (v :: st) h n) : V l G T d mc ms Q ce sl pc L (.int x :: .ref a :: st) h n := by
  intro p e s m args below meth c H locs ls F hl hP hS
  subst hq; subst hx
  have hE : EV G s s.heap := F.2.2.2.2.2.2.2.2.2.1
  exact va_tb F.1 F.2.1 (hE.2.2.2.2.2.2.1 _ hm) hS (vp_in_nI hi hN) (by rw [nI_clamp (by omega)]; exact hf) hd (kk p e s m args below meth c H locs ls F hl hP hS)
theorem V.taald {a N i : Nat} {C : String} {f : Nat → Value} {x : Int32} {v : Value} (hd : decode T.2.1 pc = .ok (.aaload, 1)) (hm : (FieldType.object C, a, N, f) ∈ ev_ta (gA G)) (hi : i < N) (hN : N < 2 ^ 31) (hx : x = nI i) (hf : f i = v) (hq : pc + 1 = q) (kk : V l G T d mc ms Q ce sl q L (v :: st) h n) : V l G T d mc ms Q ce sl pc L (.int x :: .ref a :: st) h n := by
  intro p e s m args below meth c H locs ls F hl hP hS
  subst hq; subst hx
  have hE : EV G s s.heap := F.2.2.2.2.2.2.2.2.2.1
  exact vb_tq F.1 F.2.1 (hE.2.2.2.2.2.2.1 _ hm) hS (vp_in_nI hi hN) (by rw [nI_clamp (by omega)]; exact hf) hd (kk p e s m args below meth c H locs ls F hl hP hS)
theorem V.tlen {a N : Nat} {ty : FieldType} {f : Nat → Value} {v : Int32} (hd : decode T.2.1 pc = .ok (.arraylength, 1)) (hm : (ty, a, N, f) ∈ ev_ta (gA G)) (hv : Int32.ofNat N = v) (hq : pc + 1 = q) (kk : V l G T d mc ms Q ce sl q L (.int v :: st) h n) : V l G T d mc ms Q ce sl pc L (.ref a :: st) h n := by
  intro p e s m args below meth c H locs ls F hl hP hS
  subst hq
  have hE : EV G s s.heap := F.2.2.2.2.2.2.2.2.2.1
  exact va_tlen F.1 F.2.1 (hE.2.2.2.2.2.2.1 _ hm) hS hv hd (kk p e s m args below meth c H locs ls F hl hP hS)
/-- the script -/
theorem V.sld {i : Nat} {x : Int32} (hd : decode T.2.1 pc = .ok (.iaload, 1)) (hi : i < gL G) (hN : gL G < 2 ^ 31) (hx : x = nI i) (hq : pc + 1 = q) (kk : V l G T d mc ms Q ce sl q L (.int (gX G i) :: st) h n) : V l G T d mc ms Q ce sl pc L (.int x :: .ref (gb G) :: st) h n := by
  intro p e s m args below meth c H locs ls F hl hP hS
  subst hq; subst hx
  have hE : EV G s s.heap := F.2.2.2.2.2.2.2.2.2.1
  refine va_sld F.1 F.2.1 hE.1.1 hE.lt hE.1.2 hS (vp_in_nI hi hN) hd ?_
  rw [nI_clamp (by omega)]
  exact kk p e s m args below meth c H locs ls F hl hP hS
theorem V.slen (hd : decode T.2.1 pc = .ok (.arraylength, 1)) (hq : pc + 1 = q) (kk : V l G T d mc ms Q ce sl q L (.int (nI (gL G)) :: st) h n) : V l G T d mc ms Q ce sl pc L (.ref (gb G) :: st) h n := by
  intro p e s m args below meth c H locs ls F hl hP hS
  subst hq
  have hE : EV G s s.heap := F.2.2.2.2.2.2.2.2.2.1
  exact va_slen F.1 F.2.1 hE.1.1 hE.lt hE.1.2 hS hd (kk p e s m args below meth c H locs ls F hl hP hS)
/-- a text's constant -/
theorem V.ldcS {i j : Nat} {tx : String} (hd : decode T.2.1 pc = .ok (.ldc i, 2)) (hj : j < ev_ks.length) (hk : ev_ks.getD j ("", 0) = (T.1.cls, i)) (hq : pc + 2 = q) (kk : V l G T d mc ms Q ce sl q L (.ref (gA G (100 + j)) :: st) h n) : V l G T d mc ms Q ce sl pc L st h n := by
  intro p e s m args below meth c H locs ls F hl hP hS
  subst hq
  have hE : EV G s s.heap := F.2.2.2.2.2.2.2.2.2.1
  have hR := hE.2.2.2.2.2.2.2.1.1 j hj
  rw [hk] at hR
  exact va_ldcS F.1 F.2.1 F.2.2.2.1 hR hd (kk p e s m args below meth c H locs ls F hl hP hS)
end VH
end
section
/-! makings, throws, catches, members of the library -/
section VM
variable {l : Launch} {G : GG} {T : MT} {d mc ms ce sl : Nat} {Q : PQ} {pc q : Nat} {L : List (Option Value)} {st : List Value} {h : HM} {n : Nat}
theorem V.new {idx ci N : Nat} {C : String} {TT : u_T} {tt : Nat → FieldType} {fs : List Value} (hd : decode T.2.1 pc = .ok (.new idx, 3)) (hci : vwCl[ci]? = some (C, TT, N)) (hin : ∀ w ∈ u_ws C TT N, w ∈ BW) (hty : ∀ k, k < N → parseFieldDescriptor (TT k).2.2.1 = some (tt k)) (hcl : Cond.classLink T.1.cls idx C ∈ BW) (hins : Cond.instantiable C N ∈ BW) (hini : Cond.initialized C ∈ BW) (hfs : ∀ j, j < N → defaultValue (tt j) = vp_V fs j) (hn : n < NC) (hm1 : ce + 1 ≤ mc) (hm2 : sl + N ≤ ms) (hq : pc + 3 = q) (kk : V l G T d mc ms Q (ce + 1) (sl + N) q L (.ref (gB G + n) :: st) (hset h n (.inr (ci, fs))) (n + 1)) : V l G T d mc ms Q ce sl pc L st h n := by
  intro p e s m args below meth c H locs ls F hl hP hS
  subst hq
  have hKV : KV G s := F.2.2.2.2.2.2.2.2.1
  have hts := F.2.2.2.2.1
  have hKn := hKV.1 ci _ hci
  have hsz := hP.at_end hn
  refine W.newcK F.1 F.2.1 F.2.2.2.1 (hts _ hcl) (hts _ hins) (hts _ hini) rfl hd hm1 hm2 hKn.2.1 rfl fun H1 kC hkC e1 z1 o1 => ?_
  have hk := kk p e s m args below meth c H1 locs ls F hl (hP.push hn ⟨_, hci, by
    have e2 := e1
    rw [hsz] at e2
    exact (u_born tt hts hin hKn hkC e2 hty).to hfs⟩ z1 o1) ⟨Nat.le_trans hS.1 (by omega), fun x h1 h2 => (o1 x (Nat.lt_of_lt_of_le h1 hS.1)).trans (hS.2.1 x h1 h2), hS.2.2⟩
  rw [hsz]
  exact hk
theorem V.newarr {atype : ArrayType} {t0 N : Nat} {ty : FieldType} {a0 : vp_A} {x : Int32} (hd : decode T.2.1 pc = .ok (.newarray atype, 2)) (harr : (Cond.arrayClass (newarray.typeOf atype)) ∈ BW) (hty : newarray.typeOf atype = ty) (hpr : match ty with | .object _ => False | _ => True) (ht : (tysG G)[t0]? = some (gC G t0, ty)) (ha : ∀ cA : ClassId, vp_cell cA a0 = arrV cA N (fun _ => defaultValue ty)) (hx : x = nI N) (hN : N < 65536) (hb9 : N * componentBytes ty ≤ 536870912) (hn : n < NC) (hm1 : ce + 1 ≤ mc) (hm2 : sl + N ≤ ms) (hq : pc + 2 = q) (kk : V l G T d mc ms Q (ce + 1) (sl + N) q L (.ref (gB G + n) :: st) (hset h n (.inl (gC G t0, a0))) (n + 1)) : V l G T d mc ms Q ce sl pc L (.int x :: st) h n := by
  intro p e s m args below meth c H locs ls F hl hP hS
  subst hq; subst hty; subst hx
  have hKV : KV G s := F.2.2.2.2.2.2.2.2.1
  have hts := F.2.2.2.2.1
  have hsz := hP.at_end hn
  refine va_newaK F.1 F.2.1 (hts _ harr) rfl hd rfl (nI_pos (by omega)) (nI_clamp (by omega)) hb9 hm1 hm2 hsz fun H1 cA e1 z1 o1 hAr hNm => ?_
  have hcA : cA = gC G t0 := by
    have h2 := (hKV.2 t0 _ ht).2
    have h3 : s.vm.findClass ("[" ++ (newarray.typeOf atype).toString) = some (gC G t0) := by
      cases atype <;> exact h2
    exact Option.some.inj (hNm.symm.trans h3)
  subst hcA
  refine kk p e s m args below meth c H1 locs ls F hl (hP.push hn ?_ (by rw [z1, hsz]) (fun q hq => o1 q (by rw [← hsz]; exact hq))) ⟨Nat.le_trans hS.1 (by omega), fun x h1 h2 => (o1 x (by have := hS.1; omega)).trans (hS.2.1 x h1 h2), hS.2.2⟩
  show H1[gB G + n]? = some (vp_cell _ _)
  rw [ha]
  exact e1
theorem V.newarrQ {idx t0 N : Nat} {C : String} {x : Int32} (hd : decode T.2.1 pc = .ok (.anewarray idx, 3)) (hcl : Cond.classLink T.1.cls idx C ∈ BW) (hov : ∀ U : State, ev_sr (gA G) U → va_AO C U) (ht : (tysG G)[t0]? = some (gC G t0, .object C)) (hx : x = nI N) (hN : N < 65536) (hn : n < NC) (hm1 : ce + 1 ≤ mc) (hm2 : sl + N ≤ ms) (hq : pc + 3 = q) (kk : V l G T d mc ms Q (ce + 1) (sl + N) q L (.ref (gB G + n) :: st) (hset h n (.inl (gC G t0, N, .inr (.inr (.inr (.inr (fun _ => none))))))) (n + 1)) : V l G T d mc ms Q ce sl pc L (.int x :: st) h n := by
  intro p e s m args below meth c H locs ls F hl hP hS
  subst hq; subst hx
  have hKV : KV G s := F.2.2.2.2.2.2.2.2.1
  have hE : EV G s s.heap := F.2.2.2.2.2.2.2.2.2.1
  have hts := F.2.2.2.2.1
  have hsz := hP.at_end hn
  have hcl9 : (nI N).toNatClampNeg = N := nI_clamp (by omega)
  refine W.anew F.1 F.2.1 F.2.2.2.1 (hts _ hcl) (va_AO.use (hov s hE.2.2.2.2.2.2.2.1)) rfl hd rfl (nI_pos (by omega)) (by rw [hcl9]; omega) hm1 (by rw [hcl9]; exact hm2) fun cA kA comp f1 f2 f3 f4 => ?_
  rw [hcl9]
  generalize hH1 : H.push ({ cls := cA, slots := Array.replicate N .null, vm := .none } : Cell) = H1
  have z1 : H1.size = H.size + 1 := by rw [← hH1, Array.size_push]
  have e1 : H1[H.size]? = some (arrV cA N (fun _ => .null)) := by rw [← hH1, Array.getElem?_push_size, ← arrV_new]
  have o1 : ∀ q : Nat, q < H.size → H1[q]? = H[q]? := fun q hq => by rw [← hH1, Array.getElem?_push, if_neg (Nat.ne_of_lt hq)]
  have hcA : cA = gC G t0 := by
    obtain ⟨kA2, comp2, g1, g2, g3, g4⟩ := (hKV.2 t0 _ ht).2
    exact Option.some.inj (f1.symm.trans g4)
  subst hcA
  have hk := kk p e s m args below meth c H1 locs ls F hl (hP.push hn (by
    show H1[gB G + n]? = some (vp_cell _ _)
    rw [vp_cell_q, ← hsz]
    exact e1) z1 o1) ⟨Nat.le_trans hS.1 (by omega), fun x h1 h2 => (o1 x (Nat.lt_of_lt_of_le h1 hS.1)).trans (hS.2.1 x h1 h2), hS.2.2⟩
  rw [hsz]
  exact hk
theorem V.objInit {idx a : Nat} (hd : decode T.2.1 pc = .ok (.invokespecial idx, 3)) (hw : Cond.methodLink T.1.cls idx Lib.objectInit ∈ BW) (h1 : Cond.instanceMethod Lib.objectInit ∈ BW) (h2 : Cond.code Lib.objectInit ⟨#[0xb1]⟩ 1 none ∈ BW) (h8 : cat8 st = true) (hdd : 1 ≤ d) (hq : pc + 3 = q) (kk : V l G T d mc ms Q ce sl q L st h n) : V l G T d mc ms Q ce sl pc L (.ref a :: st) h n := by
  intro p e s m args below meth c H locs ls F hl hP hS
  subst hq
  have hts := F.2.2.2.2.1
  have h9 := lv_room (pc := pc) (m := m) (ls := ls) (rest := .ref a :: st) (of_decide_eq_true h8)
  refine W.objInit F.1 F.2.1 F.2.2.2.1 (hts _ hw) (hts _ h1) (hts _ h2) rfl (hl.1.trans F.2.2.1.symm) rfl hd hdd ?_ (kk p e s m args below meth c H locs ls F hl hP hS)
  show _ ≤ 38 * d
  omega
theorem V.copy {k0 k1 N0 N1 x y z t0 idx : Nat} {ty : FieldType} {f g : Nat → Int32} {sp dp nn : Int32} (hd : decode T.2.1 pc = .ok (.invokestatic idx, 3)) (hw : Cond.methodLink T.1.cls idx arraycopyName ∈ BW) (hnat : Cond.native arraycopyName ∈ BW) (hstt : Cond.static arraycopyName ∈ BW) (hini : Cond.initialized "java/lang/System" ∈ BW) (hk0 : h k0 = .inl (gC G t0, N0, .inl f)) (hk1 : h k1 = .inl (gC G t0, N1, .inl g)) (hn : n = NC) (hkn0 : k0 < NC) (hkn1 : k1 < NC) (ht : (tysG G)[t0]? = some (gC G t0, ty)) (hpr : refKind ty = false) (hx : sp = nI x) (hy : dp = nI y) (hz : nn = nI z) (h4 : x + z ≤ N0) (h5 : y + z ≤ N1) (hN0 : N0 < 65536) (hN1 : N1 < 65536) (hfit : ∀ i, fits ty (.int (f i)) = true) (h8 : cat8 st = true) (hdd : 2 ≤ d) (hq : pc + 3 = q) (kk : V l G T d mc ms Q ce sl q L st (hset h k1 (.inl (gC G t0, N1, .inl (va_cpy f g x y z)))) n) : V l G T d mc ms Q ce sl pc L (.int nn :: .int dp :: .ref (gB G + k1) :: .int sp :: .ref (gB G + k0) :: st) h n := by
  intro p e s m args below meth c H locs ls F hl hP hS
  subst hq; subst hx; subst hy; subst hz; subst hn
  have hKV : KV G s := F.2.2.2.2.2.2.2.2.1
  have hts := F.2.2.2.2.1
  have c1 : (nI x).toNatClampNeg = x := nI_clamp (by omega)
  have c2 : (nI y).toNatClampNeg = y := nI_clamp (by omega)
  have c3 : (nI z).toNatClampNeg = z := nI_clamp (by omega)
  refine va_copyi F.1 F.2.1 (F.2.2.1.trans hl.1.symm) F.2.2.2.1 (hts _ hw) (hts _ hnat) (hts _ hstt) (hts _ hini) hKV hP.P (wof_D (Nat.le_refl _)) hS k0 k1 t0 t0 (by rw [wof_get hkn0, hk0]) (by rw [wof_get hkn1, hk1]) ht ht hpr (nI_pos (by omega)) (nI_pos (by omega)) (nI_pos (by omega)) (by rw [c1, c3]; exact h4) (by rw [c2, c3]; exact h5) (fun i _ => hfit _) ?_ ?_ hd (fun H1 locs1 hP1 hD1 hS1 => ?_)
  · show 1 ≤ d
    omega
  · show _ ≤ 38 * d
    have h9 := of_decide_eq_true h8
    have h10 : nativeFrameWords "java/lang/System" "arraycopy" 5 + 11 ≤ 60 := by decide +kernel
    omega
  · rw [c1, c2, c3, wof_set hkn1] at hP1
    exact kk p e s m args below meth c H1 locs1 ls F hl (HP.ofP hP1) hS1
theorem V.mmax {idx : Nat} {x y : Int32} (hd : decode T.2.1 pc = .ok (.invokestatic idx, 3)) (hw : Cond.methodLink T.1.cls idx Lib.Math.max.name ∈ BW) (hs : Cond.static Lib.Math.max.name ∈ BW) (hini : Cond.initialized "java/lang/Math" ∈ BW) (hc : Cond.code Lib.Math.max.name Lib.Math.max.code 2 (some .int) ∈ BW) (h8 : cat8 st = true) (hdd : 1 ≤ d) (hm1 : ce ≤ mc) (hm2 : sl ≤ ms) (hq : pc + 3 = q) (kk : V l G T d mc ms Q ce sl q L (.int (if x < y then y else x) :: st) h n) : V l G T d mc ms Q ce sl pc L (.int y :: .int x :: st) h n := by
  intro p e s m args below meth c H locs ls F hl hP hS
  subst hq
  have hts := F.2.2.2.2.1
  refine va_mmax F.1 F.2.1 (F.2.2.1.trans hl.1.symm) F.2.2.2.1 (hts _ hw) (hts _ hs) (hts _ hini) (hts _ hc) hdd ?_ hm1 hm2 hd (kk p e s m args below meth c H locs ls F hl hP hS)
  show _ ≤ 38 * d
  have h9 := of_decide_eq_true h8
  omega
theorem V.mmin {idx : Nat} {x y : Int32} (hd : decode T.2.1 pc = .ok (.invokestatic idx, 3)) (hw : Cond.methodLink T.1.cls idx Lib.Math.min.name ∈ BW) (hs : Cond.static Lib.Math.min.name ∈ BW) (hini : Cond.initialized "java/lang/Math" ∈ BW) (hc : Cond.code Lib.Math.min.name Lib.Math.min.code 2 (some .int) ∈ BW) (h8 : cat8 st = true) (hdd : 1 ≤ d) (hm1 : ce ≤ mc) (hm2 : sl ≤ ms) (hq : pc + 3 = q) (kk : V l G T d mc ms Q ce sl q L (.int (if y < x then y else x) :: st) h n) : V l G T d mc ms Q ce sl pc L (.int y :: .int x :: st) h n := by
  intro p e s m args below meth c H locs ls F hl hP hS
  subst hq
  have hts := F.2.2.2.2.1
  refine va_mmin F.1 F.2.1 (F.2.2.1.trans hl.1.symm) F.2.2.2.1 (hts _ hw) (hts _ hs) (hts _ hini) (hts _ hc) hdd ?_ hm1 hm2 hd (kk p e s m args below meth c H locs ls F hl hP hS)
  show _ ≤ 38 * d
  have h9 := of_decide_eq_true h8
  omega
theorem V.mabs {idx : Nat} {x : Int32} (hd : decode T.2.1 pc = .ok (.invokestatic idx, 3)) (hw : Cond.methodLink T.1.cls idx Lib.Math.abs.name ∈ BW) (hs : Cond.static Lib.Math.abs.name ∈ BW) (hini : Cond.initialized "java/lang/Math" ∈ BW) (hc : Cond.code Lib.Math.abs.name Lib.Math.abs.code 1 (some .int) ∈ BW) (h8 : cat8 st = true) (hdd : 1 ≤ d) (hm1 : ce ≤ mc) (hm2 : sl ≤ ms) (hq : pc + 3 = q) (kk : V l G T d mc ms Q ce sl q L (.int (if 0 ≤ x then x else 0 - x) :: st) h n) : V l G T d mc ms Q ce sl pc L (.int x :: st) h n := by
  intro p e s m args below meth c H locs ls F hl hP hS
  subst hq
  have hts := F.2.2.2.2.1
  refine va_mabs F.1 F.2.1 (F.2.2.1.trans hl.1.symm) F.2.2.2.1 (hts _ hw) (hts _ hs) (hts _ hini) (hts _ hc) hdd ?_ hm1 hm2 hd (kk p e s m args below meth c H locs ls F hl hP hS)
  show _ ≤ 38 * d
  have h9 := of_decide_eq_true h8
  omega
/-- what a throw of one of the three classes needs of the tables -/
def thN : List String := ["java/lang/RuntimeException", "java/lang/Exception"]
def ThrowOk (own : String) (ik ic : Nat) (cls : String) : Prop := Bundle.fit cls = true ∧ (∀ w ∈ (vx_atS own ic cls thN).filter goodWord, w ∈ BW) ∧ (∀ w ∈ (vx_atS own ic cls thN).filter (fun w => !goodWord w), w ∈ Cond.castable cls cls :: ev_dc.map Cond.declares) ∧ (cls, cls) ∈ ev_ca ∧ Cond.classLink own ik cls ∈ BW ∧ Cond.initialized cls ∈ BW ∧ (∀ w ∈ Cond.classLink own ik cls :: Cond.initialized cls :: vx_atS own ic cls thN, vx_ot w = true)
theorem thN_fit : ∀ n ∈ thN, Bundle.fit n = true := by decide +kernel
theorem V.throw {ik is ic j : Nat} {cls : String} (ho : ThrowOk T.1.cls ik ic cls) (d0 : decode T.2.1 pc = .ok (.new ik, 3)) (d3 : decode T.2.1 (pc + 3) = .ok (.dup, 1)) (d4 : decode T.2.1 (pc + 4) = .ok (.ldc is, 2)) (d6 : decode T.2.1 (pc + 6) = .ok (.invokespecial ic, 3)) (d9 : decode T.2.1 (pc + 9) = .ok (.athrow, 1)) (hj : j < ev_ks.length) (hk : ev_ks.getD j ("", 0) = (T.1.cls, is)) (hh : T.2.2.2.2 = []) (h8 : cat8 st = true) (hdd : 6 ≤ d) (hm1 : ce + 1 ≤ mc) (hm2 : sl + 6 ≤ ms) (hn : n = NC) (hQ : Q (.inr cls) h n) : V l G T d mc ms Q ce sl pc L st h n := by
  intro p e s m args below meth c H locs ls F hl hP hS
  obtain ⟨o1, o2, o3, o4, o5, o6, o7⟩ := ho
  have hts := F.2.2.2.2.1
  have hE : EV G s s.heap := F.2.2.2.2.2.2.2.2.2.1
  have hsr := hE.2.2.2.2.2.2.2.1
  have hR := hsr.1 j hj
  rw [hk] at hR
  have hat : ∀ w ∈ vx_atS T.1.cls ic cls thN, w.before args s = true := vx_hat (fun w hw => hts w (o2 w hw)) o3 (fun w hw => by
    rcases List.mem_cons.mp hw with e9 | e9
    · rw [e9]
      exact va_Nw.use rfl (hsr.2.2.1 _ o4)
    · obtain ⟨q9, hq9, rfl⟩ := List.mem_map.mp e9
      exact va_Nw.use rfl (hsr.2.2.2.2.2.2.2.1 _ hq9))
  have h9 := of_decide_eq_true h8
  refine vx_throwS F.1 F.2.1 F.2.2.2.2.2.2.2.2.2.2.2.2 F.2.2.2.1 o1 thN_fit (hts _ o5) (hts _ o6) hR hat o7 hE.2.1 hE.2.2.1 hS (hl.1.trans F.2.2.1.symm) d0 d3 d4 d6 d9 ?_ ?_ ?_ hm1 hm2 F.2.2.2.2.2.2.1 (fun t ht hz hq => ?_) hS.2.2 hm1 hm2
  · rw [F.2.2.2.2.2.2.2.2.2.2.2.1.no hh, hh]
    intro x hx
    cases hx
  · show 2 + 3 < d
    omega
  · show _ + (13 * (2 + 1) + 43) ≤ 38 * d
    omega
  · exact ⟨⟨h, n, hP.grow hn hz hq, hQ⟩, Nat.le_trans hS.1 hz, fun x h1 h2 => (hq x (Nat.lt_of_lt_of_le h1 hS.1)).trans (hS.2.1 x h1 h2)⟩
theorem V.throwW {ik is ic j : Nat} {cls : String} (ho : ThrowOk T.1.cls ik ic cls) (d0 : decode T.2.1 pc = .ok (.new ik, 3)) (d3 : decode T.2.1 (pc + 3) = .ok (.dup, 1)) (d4 : decode T.2.1 (pc + 4) = .ok (.ldc_w is, 3)) (d7 : decode T.2.1 (pc + 7) = .ok (.invokespecial ic, 3)) (d10 : decode T.2.1 (pc + 10) = .ok (.athrow, 1)) (hj : j < ev_ks.length) (hk : ev_ks.getD j ("", 0) = (T.1.cls, is)) (hh : T.2.2.2.2 = []) (h8 : cat8 st = true) (hdd : 6 ≤ d) (hm1 : ce + 1 ≤ mc) (hm2 : sl + 6 ≤ ms) (hn : n = NC) (hQ : Q (.inr cls) h n) : V l G T d mc ms Q ce sl pc L st h n := by
  intro p e s m args below meth c H locs ls F hl hP hS
  obtain ⟨o1, o2, o3, o4, o5, o6, o7⟩ := ho
  have hts := F.2.2.2.2.1
  have hE : EV G s s.heap := F.2.2.2.2.2.2.2.2.2.1
  have hsr := hE.2.2.2.2.2.2.2.1
  have hR := hsr.1 j hj
  rw [hk] at hR
  have hat : ∀ w ∈ vx_atS T.1.cls ic cls thN, w.before args s = true := vx_hat (fun w hw => hts w (o2 w hw)) o3 (fun w hw => by
    rcases List.mem_cons.mp hw with e9 | e9
    · rw [e9]
      exact va_Nw.use rfl (hsr.2.2.1 _ o4)
    · obtain ⟨q9, hq9, rfl⟩ := List.mem_map.mp e9
      exact va_Nw.use rfl (hsr.2.2.2.2.2.2.2.1 _ hq9))
  have h9 := of_decide_eq_true h8
  refine vx_throwSW F.1 F.2.1 F.2.2.2.2.2.2.2.2.2.2.2.2 F.2.2.2.1 o1 thN_fit (hts _ o5) (hts _ o6) hR hat o7 hE.2.1 hE.2.2.1 hS (hl.1.trans F.2.2.1.symm) d0 d3 d4 d7 d10 ?_ ?_ ?_ hm1 hm2 F.2.2.2.2.2.2.1 (fun t ht hz hq => ?_) hS.2.2 hm1 hm2
  · rw [F.2.2.2.2.2.2.2.2.2.2.2.1.no hh, hh]
    intro x hx
    cases hx
  · show 2 + 3 < d
    omega
  · show _ + (13 * (2 + 1) + 43) ≤ 38 * d
    omega
  · exact ⟨⟨h, n, hP.grow hn hz hq, hQ⟩, Nat.le_trans hS.1 hz, fun x h1 h2 => (hq x (Nat.lt_of_lt_of_le h1 hS.1)).trans (hS.2.1 x h1 h2)⟩
/-- caught by the k-th row of the table; the rows ahead of it are of classes that E isn't -/
theorem VX.catch {E : String} {pre suf : List (Nat × Nat × Nat × Nat)} {a b hp ct : Nat} {q9 : Nat} (hh : T.2.2.2.2 = pre ++ (a, b, hp, ct) :: suf) (hr : decide (a ≤ pc ∧ pc < b) = true) (h0 : decide (ct ≠ 0) = true) (hpre : ∀ z ∈ pre, z.2.2.2 ≠ 0 ∧ ∃ nm, Cond.classLink T.1.cls z.2.2.2 nm ∈ BW ∧ (E, nm) ∈ ev_nc) (hcl : Cond.classLink T.1.cls ct E ∈ BW) (hca : (E, E) ∈ ev_ca) (kk : ∀ x : Nat, V l G T d mc ms Q ce sl hp L [.ref x] h n) : VX l G T d mc ms Q ce sl pc L E h n := by
  intro p e s m args below meth c H locs ls q ce9 rest F hl hP hS h1 h2 h3
  have hts := F.2.2.2.2.1
  have hE : EV G s s.heap := F.2.2.2.2.2.2.2.2.2.1
  have hsr := hE.2.2.2.2.2.2.2.1
  have hr2 := of_decide_eq_true hr
  have htab := F.2.2.2.2.2.2.2.2.2.2.2.1 (fun z => by
    have hm : (a, b, hp, ct) ∈ [((0 : Nat), (0 : Nat), (0 : Nat), (0 : Nat))] := by
      rw [← z, hh]
      exact List.mem_append_right _ List.mem_cons_self
    have e2 : b = 0 := congrArg (fun q => q.2.1) (List.mem_singleton.mp hm)
    omega)
  rw [hh] at htab
  simp only [tableOf, List.map_append, List.map_cons] at htab
  refine vx_catch (E := E) (name := E) (ce := ce9) F.2.2.2.1 (pre.map fun q => ⟨q.1, q.2.1, q.2.2.1, q.2.2.2⟩) ⟨a, b, hp, ct⟩ (suf.map fun q => ⟨q.1, q.2.1, q.2.2.1, q.2.2.2⟩) htab ?_ (by simp [covers, hr2.1, hr2.2]) (of_decide_eq_true h0) (hts _ hcl) (va_Nw.use rfl (hsr.2.2.1 _ hca)) h1 h2 h3 (kk q p e s m args below meth c H locs ls F hl hP hS)
  intro z hz
  obtain ⟨w, hw, rfl⟩ := List.mem_map.mp hz
  obtain ⟨hw0, nm, hw1, hw2⟩ := hpre w hw
  exact Or.inr ⟨hw0, nm, hts _ hw1, hsr.2.2.2.1 _ hw2⟩
end VM
end
section
/-! the tables' words by their places, the methods' records (written by wip/whole/gen/gen_words.py) -/
theorem bw_t {w : Cond} (i : Nat) (h : tables_1[i]? = some w) (g : goodWord w = true) : w ∈ BW := List.mem_filter.mpr ⟨List.mem_append_left _ (List.mem_append_right _ (List.mem_of_getElem? h)), g⟩
theorem bw_s {w : Cond} (i : Nat) (h : (k2_sels lw_privs)[i]? = some w) (g : goodWord w = true) : w ∈ BW := List.mem_filter.mpr ⟨List.mem_append_left _ (List.mem_append_left _ (List.mem_of_getElem? h)), g⟩
theorem bw_0 : (Jvm.Cond.initialized "LiftSchedulerLaw") ∈ BW := bw_t 0 (by decide +kernel) rfl
theorem bw_1 : (Jvm.Cond.initialized "LiftSchedulerLaw$Random") ∈ BW := bw_t 1 (by decide +kernel) rfl
theorem bw_2 : (Jvm.Cond.initialized "LiftScheduler") ∈ BW := bw_t 2 (by decide +kernel) rfl
theorem bw_3 : (Jvm.Cond.initialized "LiftScheduler$Simulation") ∈ BW := bw_t 3 (by decide +kernel) rfl
theorem bw_4 : (Jvm.Cond.initialized "LiftScheduler$Script") ∈ BW := bw_t 4 (by decide +kernel) rfl
theorem bw_5 : (Jvm.Cond.initialized "java/lang/AbstractStringBuilder") ∈ BW := bw_t 5 (by decide +kernel) rfl
theorem bw_6 : (Jvm.Cond.initialized "java/lang/StringBuilder") ∈ BW := bw_t 6 (by decide +kernel) rfl
theorem bw_7 : (Jvm.Cond.initialized "java/lang/String") ∈ BW := bw_t 7 (by decide +kernel) rfl
theorem bw_8 : (Jvm.Cond.initialized "java/lang/StringUTF16") ∈ BW := bw_t 8 (by decide +kernel) rfl
theorem bw_9 : (Jvm.Cond.initialized "jdk/internal/util/ArraysSupport") ∈ BW := bw_t 9 (by decide +kernel) rfl
theorem bw_10 : (Jvm.Cond.initialized "java/lang/Math") ∈ BW := bw_t 10 (by decide +kernel) rfl
theorem bw_11 : (Jvm.Cond.initialized "java/util/Arrays") ∈ BW := bw_t 11 (by decide +kernel) rfl
theorem bw_12 : (Jvm.Cond.initialized "java/lang/System") ∈ BW := bw_t 12 (by decide +kernel) rfl
theorem bw_13 : (Jvm.Cond.initialized "jdk/internal/util/Preconditions") ∈ BW := bw_t 13 (by decide +kernel) rfl
theorem bw_14 : (Jvm.Cond.initialized "java/lang/StringLatin1") ∈ BW := bw_t 14 (by decide +kernel) rfl
theorem bw_15 : (Jvm.Cond.initialized "java/lang/Integer") ∈ BW := bw_t 15 (by decide +kernel) rfl
theorem bw_16 : (Jvm.Cond.initialized "java/lang/Enum") ∈ BW := bw_t 16 (by decide +kernel) rfl
theorem bw_17 : (Jvm.Cond.initialized "LiftScheduler$Kind") ∈ BW := bw_t 17 (by decide +kernel) rfl
theorem bw_18 : (Jvm.Cond.initialized "LiftScheduler$1") ∈ BW := bw_t 18 (by decide +kernel) rfl
theorem bw_19 : (Jvm.Cond.initialized "java/lang/Throwable") ∈ BW := bw_t 19 (by decide +kernel) rfl
theorem bw_20 : (Jvm.Cond.initialized "java/lang/Exception") ∈ BW := bw_t 20 (by decide +kernel) rfl
theorem bw_21 : (Jvm.Cond.initialized "java/lang/RuntimeException") ∈ BW := bw_t 21 (by decide +kernel) rfl
theorem bw_22 : (Jvm.Cond.initialized "java/lang/IllegalArgumentException") ∈ BW := bw_t 22 (by decide +kernel) rfl
theorem bw_23 : (Jvm.Cond.initialized "java/lang/IndexOutOfBoundsException") ∈ BW := bw_t 23 (by decide +kernel) rfl
theorem bw_24 : (Jvm.Cond.initialized "java/lang/IllegalStateException") ∈ BW := bw_t 24 (by decide +kernel) rfl
theorem bw_25 : (Jvm.Cond.classLink "LiftSchedulerLaw" (9 : Nat) "LiftScheduler") ∈ BW := bw_t 25 (by decide +kernel) rfl
theorem bw_26 : (Jvm.Cond.instantiable "LiftScheduler" (12 : Nat)) ∈ BW := bw_t 26 (by decide +kernel) rfl
theorem bw_27 : (Jvm.Cond.methodLink "LiftSchedulerLaw" (88 : Nat) ({ cls := "LiftScheduler", name := "<init>", desc := "()V" } : Jvm.MethodName)) ∈ BW := bw_t 27 (by decide +kernel) rfl
theorem bw_28 : (Jvm.Cond.instanceMethod ({ cls := "LiftScheduler", name := "<init>", desc := "()V" } : Jvm.MethodName)) ∈ BW := bw_t 28 (by decide +kernel) rfl
theorem bw_29 : (Jvm.Cond.code ({ cls := "LiftScheduler", name := "<init>", desc := "()V" } : Jvm.MethodName) prog_1_method_1_code (2 : Nat) (Option.none : Option Jvm.ClassFile.FieldType)) ∈ BW := bw_t 29 (by decide +kernel) rfl
theorem bw_30 : (Jvm.Cond.methodLink "LiftScheduler" (1 : Nat) ({ cls := "java/lang/Object", name := "<init>", desc := "()V" } : Jvm.MethodName)) ∈ BW := bw_t 30 (by decide +kernel) rfl
theorem bw_31 : (Jvm.Cond.instanceMethod ({ cls := "java/lang/Object", name := "<init>", desc := "()V" } : Jvm.MethodName)) ∈ BW := bw_t 31 (by decide +kernel) rfl
theorem bw_32 : (Jvm.Cond.code ({ cls := "java/lang/Object", name := "<init>", desc := "()V" } : Jvm.MethodName) object_method_1_code (1 : Nat) (Option.none : Option Jvm.ClassFile.FieldType)) ∈ BW := bw_t 32 (by decide +kernel) rfl
theorem bw_33 : (Jvm.Cond.classLink "LiftScheduler" (7 : Nat) "LiftScheduler$Simulation") ∈ BW := bw_t 33 (by decide +kernel) rfl
theorem bw_34 : (Jvm.Cond.instantiable "LiftScheduler$Simulation" (19 : Nat)) ∈ BW := bw_t 34 (by decide +kernel) rfl
theorem bw_35 : (Jvm.Cond.methodLink "LiftScheduler" (9 : Nat) ({ cls := "LiftScheduler$Simulation", name := "<init>", desc := "()V" } : Jvm.MethodName)) ∈ BW := bw_t 35 (by decide +kernel) rfl
theorem bw_36 : (Jvm.Cond.instanceMethod ({ cls := "LiftScheduler$Simulation", name := "<init>", desc := "()V" } : Jvm.MethodName)) ∈ BW := bw_t 36 (by decide +kernel) rfl
theorem bw_37 : (Jvm.Cond.code ({ cls := "LiftScheduler$Simulation", name := "<init>", desc := "()V" } : Jvm.MethodName) prog_5_method_1_code (1 : Nat) (Option.none : Option Jvm.ClassFile.FieldType)) ∈ BW := bw_t 37 (by decide +kernel) rfl
theorem bw_38 : (Jvm.Cond.methodLink "LiftScheduler$Simulation" (3 : Nat) ({ cls := "java/lang/Object", name := "<init>", desc := "()V" } : Jvm.MethodName)) ∈ BW := bw_t 38 (by decide +kernel) rfl
theorem bw_39 : (Jvm.Cond.methodLink "LiftScheduler$Simulation" (30 : Nat) ({ cls := "LiftScheduler$Simulation", name := "begin", desc := "(III)V" } : Jvm.MethodName)) ∈ BW := bw_t 39 (by decide +kernel) rfl
theorem bw_40 : (Jvm.Cond.instanceMethod ({ cls := "LiftScheduler$Simulation", name := "begin", desc := "(III)V" } : Jvm.MethodName)) ∈ BW := bw_t 40 (by decide +kernel) rfl
theorem bw_41 : (Jvm.Cond.selects "LiftScheduler$Simulation" ({ cls := "LiftScheduler$Simulation", name := "begin", desc := "(III)V" } : Jvm.MethodName) ({ cls := "LiftScheduler$Simulation", name := "begin", desc := "(III)V" } : Jvm.MethodName)) ∈ BW := bw_t 41 (by decide +kernel) rfl
theorem bw_42 : (Jvm.Cond.code ({ cls := "LiftScheduler$Simulation", name := "begin", desc := "(III)V" } : Jvm.MethodName) prog_5_method_2_code (4 : Nat) (Option.none : Option Jvm.ClassFile.FieldType)) ∈ BW := bw_t 42 (by decide +kernel) rfl
theorem bw_43 : (Jvm.Cond.fieldLink "LiftScheduler$Simulation" (34 : Nat) "LiftScheduler$Simulation" "floors" "I") ∈ BW := bw_t 43 (by decide +kernel) rfl
theorem bw_44 : (Jvm.Cond.fieldLink "LiftScheduler" (100 : Nat) "LiftScheduler$Simulation" "floors" "I") ∈ BW := bw_t 44 (by decide +kernel) rfl
theorem bw_45 : (Jvm.Cond.fieldLink "LiftScheduler$Script" (187 : Nat) "LiftScheduler$Simulation" "floors" "I") ∈ BW := bw_t 45 (by decide +kernel) rfl
theorem bw_46 : (Jvm.Cond.fieldLink "LiftScheduler$Simulation" (38 : Nat) "LiftScheduler$Simulation" "capacity" "I") ∈ BW := bw_t 46 (by decide +kernel) rfl
theorem bw_47 : (Jvm.Cond.fieldLink "LiftScheduler" (103 : Nat) "LiftScheduler$Simulation" "capacity" "I") ∈ BW := bw_t 47 (by decide +kernel) rfl
theorem bw_48 : (Jvm.Cond.fieldLink "LiftScheduler$Script" (211 : Nat) "LiftScheduler$Simulation" "capacity" "I") ∈ BW := bw_t 48 (by decide +kernel) rfl
theorem bw_49 : (Jvm.Cond.fieldLink "LiftScheduler$Simulation" (41 : Nat) "LiftScheduler$Simulation" "policy" "I") ∈ BW := bw_t 49 (by decide +kernel) rfl
theorem bw_50 : (Jvm.Cond.fieldLink "LiftScheduler" (106 : Nat) "LiftScheduler$Simulation" "policy" "I") ∈ BW := bw_t 50 (by decide +kernel) rfl
theorem bw_51 : (Jvm.Cond.fieldLink "LiftScheduler$Script" (205 : Nat) "LiftScheduler$Simulation" "policy" "I") ∈ BW := bw_t 51 (by decide +kernel) rfl
theorem bw_52 : (Jvm.Cond.fieldLink "LiftScheduler$Simulation" (44 : Nat) "LiftScheduler$Simulation" "time" "I") ∈ BW := bw_t 52 (by decide +kernel) rfl
theorem bw_53 : (Jvm.Cond.fieldLink "LiftScheduler" (109 : Nat) "LiftScheduler$Simulation" "time" "I") ∈ BW := bw_t 53 (by decide +kernel) rfl
theorem bw_54 : (Jvm.Cond.fieldLink "LiftScheduler$Script" (158 : Nat) "LiftScheduler$Simulation" "time" "I") ∈ BW := bw_t 54 (by decide +kernel) rfl
theorem bw_55 : (Jvm.Cond.fieldLink "LiftScheduler$Simulation" (47 : Nat) "LiftScheduler$Simulation" "floor" "I") ∈ BW := bw_t 55 (by decide +kernel) rfl
theorem bw_56 : (Jvm.Cond.fieldLink "LiftScheduler" (112 : Nat) "LiftScheduler$Simulation" "floor" "I") ∈ BW := bw_t 56 (by decide +kernel) rfl
theorem bw_57 : (Jvm.Cond.fieldLink "LiftScheduler$Script" (220 : Nat) "LiftScheduler$Simulation" "floor" "I") ∈ BW := bw_t 57 (by decide +kernel) rfl
theorem bw_58 : (Jvm.Cond.fieldLink "LiftScheduler$Simulation" (50 : Nat) "LiftScheduler$Simulation" "upward" "Z") ∈ BW := bw_t 58 (by decide +kernel) rfl
theorem bw_59 : (Jvm.Cond.fieldLink "LiftScheduler$Script" (168 : Nat) "LiftScheduler$Simulation" "upward" "Z") ∈ BW := bw_t 59 (by decide +kernel) rfl
theorem bw_60 : (Jvm.Cond.fieldLink "LiftScheduler$Simulation" (54 : Nat) "LiftScheduler$Simulation" "distance" "I") ∈ BW := bw_t 60 (by decide +kernel) rfl
theorem bw_61 : (Jvm.Cond.fieldLink "LiftScheduler" (133 : Nat) "LiftScheduler$Simulation" "distance" "I") ∈ BW := bw_t 61 (by decide +kernel) rfl
theorem bw_62 : (Jvm.Cond.fieldLink "LiftScheduler$Script" (223 : Nat) "LiftScheduler$Simulation" "distance" "I") ∈ BW := bw_t 62 (by decide +kernel) rfl
theorem bw_63 : (Jvm.Cond.fieldLink "LiftScheduler$Simulation" (57 : Nat) "LiftScheduler$Simulation" "doorTicks" "I") ∈ BW := bw_t 63 (by decide +kernel) rfl
theorem bw_64 : (Jvm.Cond.fieldLink "LiftScheduler" (136 : Nat) "LiftScheduler$Simulation" "doorTicks" "I") ∈ BW := bw_t 64 (by decide +kernel) rfl
theorem bw_65 : (Jvm.Cond.fieldLink "LiftScheduler$Simulation" (60 : Nat) "LiftScheduler$Simulation" "idleTicks" "I") ∈ BW := bw_t 65 (by decide +kernel) rfl
theorem bw_66 : (Jvm.Cond.fieldLink "LiftScheduler" (139 : Nat) "LiftScheduler$Simulation" "idleTicks" "I") ∈ BW := bw_t 66 (by decide +kernel) rfl
theorem bw_67 : (Jvm.Cond.fieldLink "LiftScheduler$Simulation" (63 : Nat) "LiftScheduler$Simulation" "reversals" "I") ∈ BW := bw_t 67 (by decide +kernel) rfl
theorem bw_68 : (Jvm.Cond.fieldLink "LiftScheduler$Simulation" (66 : Nat) "LiftScheduler$Simulation" "count" "I") ∈ BW := bw_t 68 (by decide +kernel) rfl
theorem bw_69 : (Jvm.Cond.fieldLink "LiftScheduler" (83 : Nat) "LiftScheduler$Simulation" "count" "I") ∈ BW := bw_t 69 (by decide +kernel) rfl
theorem bw_70 : (Jvm.Cond.fieldLink "LiftScheduler$Script" (184 : Nat) "LiftScheduler$Simulation" "count" "I") ∈ BW := bw_t 70 (by decide +kernel) rfl
theorem bw_71 : (Jvm.Cond.fieldLink "LiftScheduler$Simulation" (69 : Nat) "LiftScheduler$Simulation" "riding" "I") ∈ BW := bw_t 71 (by decide +kernel) rfl
theorem bw_72 : (Jvm.Cond.fieldLink "LiftScheduler" (119 : Nat) "LiftScheduler$Simulation" "riding" "I") ∈ BW := bw_t 72 (by decide +kernel) rfl
theorem bw_73 : (Jvm.Cond.fieldLink "LiftScheduler$Script" (208 : Nat) "LiftScheduler$Simulation" "riding" "I") ∈ BW := bw_t 73 (by decide +kernel) rfl
theorem bw_74 : (Jvm.Cond.fieldLink "LiftScheduler$Simulation" (72 : Nat) "LiftScheduler$Simulation" "done" "I") ∈ BW := bw_t 74 (by decide +kernel) rfl
theorem bw_75 : (Jvm.Cond.fieldLink "LiftScheduler$Script" (214 : Nat) "LiftScheduler$Simulation" "done" "I") ∈ BW := bw_t 75 (by decide +kernel) rfl
theorem bw_76 : (Jvm.Cond.fieldLink "LiftScheduler$Simulation" (9 : Nat) "LiftScheduler$Simulation" "origin" "[I") ∈ BW := bw_t 76 (by decide +kernel) rfl
theorem bw_77 : (Jvm.Cond.fieldLink "LiftScheduler" (151 : Nat) "LiftScheduler$Simulation" "origin" "[I") ∈ BW := bw_t 77 (by decide +kernel) rfl
theorem bw_78 : (Jvm.Cond.fieldLink "LiftScheduler$Simulation" (15 : Nat) "LiftScheduler$Simulation" "destination" "[I") ∈ BW := bw_t 78 (by decide +kernel) rfl
theorem bw_79 : (Jvm.Cond.fieldLink "LiftScheduler" (155 : Nat) "LiftScheduler$Simulation" "destination" "[I") ∈ BW := bw_t 79 (by decide +kernel) rfl
theorem bw_80 : (Jvm.Cond.fieldLink "LiftScheduler$Simulation" (18 : Nat) "LiftScheduler$Simulation" "arrival" "[I") ∈ BW := bw_t 80 (by decide +kernel) rfl
theorem bw_81 : (Jvm.Cond.fieldLink "LiftScheduler" (158 : Nat) "LiftScheduler$Simulation" "arrival" "[I") ∈ BW := bw_t 81 (by decide +kernel) rfl
theorem bw_82 : (Jvm.Cond.fieldLink "LiftScheduler$Simulation" (21 : Nat) "LiftScheduler$Simulation" "boarded" "[I") ∈ BW := bw_t 82 (by decide +kernel) rfl
theorem bw_83 : (Jvm.Cond.fieldLink "LiftScheduler" (161 : Nat) "LiftScheduler$Simulation" "boarded" "[I") ∈ BW := bw_t 83 (by decide +kernel) rfl
theorem bw_84 : (Jvm.Cond.fieldLink "LiftScheduler$Simulation" (24 : Nat) "LiftScheduler$Simulation" "left" "[I") ∈ BW := bw_t 84 (by decide +kernel) rfl
theorem bw_85 : (Jvm.Cond.fieldLink "LiftScheduler" (164 : Nat) "LiftScheduler$Simulation" "left" "[I") ∈ BW := bw_t 85 (by decide +kernel) rfl
theorem bw_86 : (Jvm.Cond.fieldLink "LiftScheduler$Simulation" (27 : Nat) "LiftScheduler$Simulation" "queue" "[I") ∈ BW := bw_t 86 (by decide +kernel) rfl
theorem bw_87 : (Jvm.Cond.fieldLink "LiftScheduler" (189 : Nat) "LiftScheduler$Simulation" "queue" "[I") ∈ BW := bw_t 87 (by decide +kernel) rfl
theorem bw_126 : (Jvm.Cond.superclass "LiftScheduler$Simulation" "java/lang/Object") ∈ BW := bw_t 126 (by decide +kernel) rfl
theorem bw_127 : (Jvm.Cond.arrayClass Jvm.ClassFile.FieldType.int) ∈ BW := bw_t 127 (by decide +kernel) rfl
theorem bw_129 : (Jvm.Cond.classLink "LiftScheduler" (44 : Nat) "LiftScheduler$Script") ∈ BW := bw_t 129 (by decide +kernel) rfl
theorem bw_130 : (Jvm.Cond.instantiable "LiftScheduler$Script" (9 : Nat)) ∈ BW := bw_t 130 (by decide +kernel) rfl
theorem bw_132 : (Jvm.Cond.instanceMethod ({ cls := "LiftScheduler$Script", name := "<init>", desc := "()V" } : Jvm.MethodName)) ∈ BW := bw_t 132 (by decide +kernel) rfl
theorem bw_133 : (Jvm.Cond.code ({ cls := "LiftScheduler$Script", name := "<init>", desc := "()V" } : Jvm.MethodName) prog_4_method_1_code (1 : Nat) (Option.none : Option Jvm.ClassFile.FieldType)) ∈ BW := bw_t 133 (by decide +kernel) rfl
theorem bw_134 : (Jvm.Cond.methodLink "LiftScheduler$Script" (3 : Nat) ({ cls := "java/lang/Object", name := "<init>", desc := "()V" } : Jvm.MethodName)) ∈ BW := bw_t 134 (by decide +kernel) rfl
theorem bw_135 : (Jvm.Cond.classLink "LiftScheduler$Script" (11 : Nat) "LiftScheduler$Kind") ∈ BW := bw_t 135 (by decide +kernel) rfl
theorem bw_137 : (Jvm.Cond.fieldLink "LiftScheduler$Script" (13 : Nat) "LiftScheduler$Script" "kinds" "[LLiftScheduler$Kind;") ∈ BW := bw_t 137 (by decide +kernel) rfl
theorem bw_138 : (Jvm.Cond.fieldLink "LiftScheduler$Script" (17 : Nat) "LiftScheduler$Script" "starts" "[I") ∈ BW := bw_t 138 (by decide +kernel) rfl
theorem bw_139 : (Jvm.Cond.fieldLink "LiftScheduler$Script" (21 : Nat) "LiftScheduler$Script" "values" "[I") ∈ BW := bw_t 139 (by decide +kernel) rfl
theorem bw_140 : (Jvm.Cond.fieldLink "LiftScheduler$Script" (24 : Nat) "LiftScheduler$Script" "tokens" "I") ∈ BW := bw_t 140 (by decide +kernel) rfl
theorem bw_141 : (Jvm.Cond.fieldLink "LiftScheduler$Script" (28 : Nat) "LiftScheduler$Script" "at" "I") ∈ BW := bw_t 141 (by decide +kernel) rfl
theorem bw_142 : (Jvm.Cond.fieldLink "LiftScheduler$Script" (120 : Nat) "LiftScheduler$Script" "simulation" "LLiftScheduler$Simulation;") ∈ BW := bw_t 142 (by decide +kernel) rfl
theorem bw_143 : (Jvm.Cond.fieldLink "LiftScheduler$Script" (31 : Nat) "LiftScheduler$Script" "executed" "I") ∈ BW := bw_t 143 (by decide +kernel) rfl
theorem bw_144 : (Jvm.Cond.fieldLink "LiftScheduler$Script" (34 : Nat) "LiftScheduler$Script" "errorCode" "I") ∈ BW := bw_t 144 (by decide +kernel) rfl
theorem bw_145 : (Jvm.Cond.fieldLink "LiftScheduler" (94 : Nat) "LiftScheduler$Script" "errorCode" "I") ∈ BW := bw_t 145 (by decide +kernel) rfl
theorem bw_146 : (Jvm.Cond.fieldLink "LiftScheduler$Script" (37 : Nat) "LiftScheduler$Script" "errorPosition" "I") ∈ BW := bw_t 146 (by decide +kernel) rfl
theorem bw_165 : (Jvm.Cond.superclass "LiftScheduler$Script" "java/lang/Object") ∈ BW := bw_t 165 (by decide +kernel) rfl
theorem bw_166 : (Jvm.Cond.arrayClass Jvm.ClassFile.FieldType.boolean) ∈ BW := bw_t 166 (by decide +kernel) rfl
theorem bw_167 : (Jvm.Cond.arrayClass Jvm.ClassFile.FieldType.byte) ∈ BW := bw_t 167 (by decide +kernel) rfl
theorem bw_168 : (Jvm.Cond.fieldLink "LiftScheduler" (10 : Nat) "LiftScheduler" "now" "LLiftScheduler$Simulation;") ∈ BW := bw_t 168 (by decide +kernel) rfl
theorem bw_169 : (Jvm.Cond.fieldLink "LiftScheduler" (16 : Nat) "LiftScheduler" "trial" "LLiftScheduler$Simulation;") ∈ BW := bw_t 169 (by decide +kernel) rfl
theorem bw_170 : (Jvm.Cond.fieldLink "LiftScheduler" (19 : Nat) "LiftScheduler" "past" "[LLiftScheduler$Simulation;") ∈ BW := bw_t 170 (by decide +kernel) rfl
theorem bw_171 : (Jvm.Cond.fieldLink "LiftScheduler" (23 : Nat) "LiftScheduler" "nextPast" "I") ∈ BW := bw_t 171 (by decide +kernel) rfl
theorem bw_172 : (Jvm.Cond.fieldLink "LiftScheduler" (27 : Nat) "LiftScheduler" "changes" "I") ∈ BW := bw_t 172 (by decide +kernel) rfl
theorem bw_173 : (Jvm.Cond.fieldLink "LiftScheduler" (30 : Nat) "LiftScheduler" "slots" "[LLiftScheduler$Simulation;") ∈ BW := bw_t 173 (by decide +kernel) rfl
theorem bw_174 : (Jvm.Cond.fieldLink "LiftScheduler" (33 : Nat) "LiftScheduler" "slotFilled" "[Z") ∈ BW := bw_t 174 (by decide +kernel) rfl
theorem bw_175 : (Jvm.Cond.fieldLink "LiftScheduler" (37 : Nat) "LiftScheduler" "input" "[B") ∈ BW := bw_t 175 (by decide +kernel) rfl
theorem bw_176 : (Jvm.Cond.fieldLink "LiftScheduler" (41 : Nat) "LiftScheduler" "inputLength" "I") ∈ BW := bw_t 176 (by decide +kernel) rfl
theorem bw_177 : (Jvm.Cond.fieldLink "LiftScheduler" (47 : Nat) "LiftScheduler" "script" "LLiftScheduler$Script;") ∈ BW := bw_t 177 (by decide +kernel) rfl
theorem bw_178 : (Jvm.Cond.fieldLink "LiftScheduler" (51 : Nat) "LiftScheduler" "output" "[B") ∈ BW := bw_t 178 (by decide +kernel) rfl
theorem bw_179 : (Jvm.Cond.fieldLink "LiftScheduler" (54 : Nat) "LiftScheduler" "outputLength" "I") ∈ BW := bw_t 179 (by decide +kernel) rfl
theorem bw_204 : (Jvm.Cond.superclass "LiftScheduler" "java/lang/Object") ∈ BW := bw_t 204 (by decide +kernel) rfl
theorem bw_205 : (Jvm.Cond.methodLink "LiftSchedulerLaw" (96 : Nat) ({ cls := "LiftScheduler", name := "capacity", desc := "()I" } : Jvm.MethodName)) ∈ BW := bw_t 205 (by decide +kernel) rfl
theorem bw_206 : (Jvm.Cond.instanceMethod ({ cls := "LiftScheduler", name := "capacity", desc := "()I" } : Jvm.MethodName)) ∈ BW := bw_t 206 (by decide +kernel) rfl
theorem bw_207 : (Jvm.Cond.selects "LiftScheduler" ({ cls := "LiftScheduler", name := "capacity", desc := "()I" } : Jvm.MethodName) ({ cls := "LiftScheduler", name := "capacity", desc := "()I" } : Jvm.MethodName)) ∈ BW := bw_t 207 (by decide +kernel) rfl
theorem bw_208 : (Jvm.Cond.code ({ cls := "LiftScheduler", name := "capacity", desc := "()I" } : Jvm.MethodName) prog_1_method_10_code (1 : Nat) (Option.some Jvm.ClassFile.FieldType.int)) ∈ BW := bw_t 208 (by decide +kernel) rfl
theorem bw_209 : (Jvm.Cond.methodLink "LiftSchedulerLaw" (72 : Nat) ({ cls := "LiftScheduler", name := "policy", desc := "()I" } : Jvm.MethodName)) ∈ BW := bw_t 209 (by decide +kernel) rfl
theorem bw_210 : (Jvm.Cond.instanceMethod ({ cls := "LiftScheduler", name := "policy", desc := "()I" } : Jvm.MethodName)) ∈ BW := bw_t 210 (by decide +kernel) rfl
theorem bw_211 : (Jvm.Cond.selects "LiftScheduler" ({ cls := "LiftScheduler", name := "policy", desc := "()I" } : Jvm.MethodName) ({ cls := "LiftScheduler", name := "policy", desc := "()I" } : Jvm.MethodName)) ∈ BW := bw_t 211 (by decide +kernel) rfl
theorem bw_212 : (Jvm.Cond.code ({ cls := "LiftScheduler", name := "policy", desc := "()I" } : Jvm.MethodName) prog_1_method_11_code (1 : Nat) (Option.some Jvm.ClassFile.FieldType.int)) ∈ BW := bw_t 212 (by decide +kernel) rfl
theorem bw_213 : (Jvm.Cond.methodLink "LiftSchedulerLaw" (78 : Nat) ({ cls := "LiftScheduler", name := "time", desc := "()I" } : Jvm.MethodName)) ∈ BW := bw_t 213 (by decide +kernel) rfl
theorem bw_214 : (Jvm.Cond.instanceMethod ({ cls := "LiftScheduler", name := "time", desc := "()I" } : Jvm.MethodName)) ∈ BW := bw_t 214 (by decide +kernel) rfl
theorem bw_215 : (Jvm.Cond.selects "LiftScheduler" ({ cls := "LiftScheduler", name := "time", desc := "()I" } : Jvm.MethodName) ({ cls := "LiftScheduler", name := "time", desc := "()I" } : Jvm.MethodName)) ∈ BW := bw_t 215 (by decide +kernel) rfl
theorem bw_216 : (Jvm.Cond.code ({ cls := "LiftScheduler", name := "time", desc := "()I" } : Jvm.MethodName) prog_1_method_12_code (1 : Nat) (Option.some Jvm.ClassFile.FieldType.int)) ∈ BW := bw_t 216 (by decide +kernel) rfl
theorem bw_217 : (Jvm.Cond.methodLink "LiftSchedulerLaw" (115 : Nat) ({ cls := "LiftScheduler", name := "floor", desc := "()I" } : Jvm.MethodName)) ∈ BW := bw_t 217 (by decide +kernel) rfl
theorem bw_218 : (Jvm.Cond.instanceMethod ({ cls := "LiftScheduler", name := "floor", desc := "()I" } : Jvm.MethodName)) ∈ BW := bw_t 218 (by decide +kernel) rfl
theorem bw_219 : (Jvm.Cond.selects "LiftScheduler" ({ cls := "LiftScheduler", name := "floor", desc := "()I" } : Jvm.MethodName) ({ cls := "LiftScheduler", name := "floor", desc := "()I" } : Jvm.MethodName)) ∈ BW := bw_t 219 (by decide +kernel) rfl
theorem bw_220 : (Jvm.Cond.code ({ cls := "LiftScheduler", name := "floor", desc := "()I" } : Jvm.MethodName) prog_1_method_13_code (1 : Nat) (Option.some Jvm.ClassFile.FieldType.int)) ∈ BW := bw_t 220 (by decide +kernel) rfl
theorem bw_221 : (Jvm.Cond.methodLink "LiftSchedulerLaw" (99 : Nat) ({ cls := "LiftScheduler", name := "isFull", desc := "()Z" } : Jvm.MethodName)) ∈ BW := bw_t 221 (by decide +kernel) rfl
theorem bw_222 : (Jvm.Cond.instanceMethod ({ cls := "LiftScheduler", name := "isFull", desc := "()Z" } : Jvm.MethodName)) ∈ BW := bw_t 222 (by decide +kernel) rfl
theorem bw_223 : (Jvm.Cond.selects "LiftScheduler" ({ cls := "LiftScheduler", name := "isFull", desc := "()Z" } : Jvm.MethodName) ({ cls := "LiftScheduler", name := "isFull", desc := "()Z" } : Jvm.MethodName)) ∈ BW := bw_t 223 (by decide +kernel) rfl
theorem bw_224 : (Jvm.Cond.code ({ cls := "LiftScheduler", name := "isFull", desc := "()Z" } : Jvm.MethodName) prog_1_method_15_code (1 : Nat) (Option.some Jvm.ClassFile.FieldType.boolean)) ∈ BW := bw_t 224 (by decide +kernel) rfl
theorem bw_225 : (Jvm.Cond.methodLink "LiftSchedulerLaw" (148 : Nat) ({ cls := "LiftScheduler", name := "stopMask", desc := "()I" } : Jvm.MethodName)) ∈ BW := bw_t 225 (by decide +kernel) rfl
theorem bw_226 : (Jvm.Cond.instanceMethod ({ cls := "LiftScheduler", name := "stopMask", desc := "()I" } : Jvm.MethodName)) ∈ BW := bw_t 226 (by decide +kernel) rfl
theorem bw_227 : (Jvm.Cond.selects "LiftScheduler" ({ cls := "LiftScheduler", name := "stopMask", desc := "()I" } : Jvm.MethodName) ({ cls := "LiftScheduler", name := "stopMask", desc := "()I" } : Jvm.MethodName)) ∈ BW := bw_t 227 (by decide +kernel) rfl
theorem bw_228 : (Jvm.Cond.code ({ cls := "LiftScheduler", name := "stopMask", desc := "()I" } : Jvm.MethodName) prog_1_method_16_code (1 : Nat) (Option.some Jvm.ClassFile.FieldType.int)) ∈ BW := bw_t 228 (by decide +kernel) rfl
theorem bw_229 : (Jvm.Cond.methodLink "LiftScheduler" (122 : Nat) ({ cls := "LiftScheduler$Simulation", name := "findStops", desc := "()I" } : Jvm.MethodName)) ∈ BW := bw_t 229 (by decide +kernel) rfl
theorem bw_230 : (Jvm.Cond.instanceMethod ({ cls := "LiftScheduler$Simulation", name := "findStops", desc := "()I" } : Jvm.MethodName)) ∈ BW := bw_t 230 (by decide +kernel) rfl
theorem bw_231 : (Jvm.Cond.selects "LiftScheduler$Simulation" ({ cls := "LiftScheduler$Simulation", name := "findStops", desc := "()I" } : Jvm.MethodName) ({ cls := "LiftScheduler$Simulation", name := "findStops", desc := "()I" } : Jvm.MethodName)) ∈ BW := bw_t 231 (by decide +kernel) rfl
theorem bw_232 : (Jvm.Cond.code ({ cls := "LiftScheduler$Simulation", name := "findStops", desc := "()I" } : Jvm.MethodName) prog_5_method_14_code (4 : Nat) (Option.some Jvm.ClassFile.FieldType.int)) ∈ BW := bw_t 232 (by decide +kernel) rfl
theorem bw_233 : (Jvm.Cond.methodLink "LiftSchedulerLaw" (161 : Nat) ({ cls := "LiftScheduler", name := "targetBy", desc := "(I)I" } : Jvm.MethodName)) ∈ BW := bw_t 233 (by decide +kernel) rfl
theorem bw_234 : (Jvm.Cond.instanceMethod ({ cls := "LiftScheduler", name := "targetBy", desc := "(I)I" } : Jvm.MethodName)) ∈ BW := bw_t 234 (by decide +kernel) rfl
theorem bw_235 : (Jvm.Cond.selects "LiftScheduler" ({ cls := "LiftScheduler", name := "targetBy", desc := "(I)I" } : Jvm.MethodName) ({ cls := "LiftScheduler", name := "targetBy", desc := "(I)I" } : Jvm.MethodName)) ∈ BW := bw_t 235 (by decide +kernel) rfl
theorem bw_236 : (Jvm.Cond.code ({ cls := "LiftScheduler", name := "targetBy", desc := "(I)I" } : Jvm.MethodName) prog_1_method_17_code (2 : Nat) (Option.some Jvm.ClassFile.FieldType.int)) ∈ BW := bw_t 236 (by decide +kernel) rfl
theorem bw_237 : (Jvm.Cond.methodLink "LiftScheduler" (126 : Nat) ({ cls := "LiftScheduler", name := "requirePolicy", desc := "(I)V" } : Jvm.MethodName)) ∈ BW := bw_t 237 (by decide +kernel) rfl
theorem bw_239 : (Jvm.Cond.instanceMethod ({ cls := "LiftScheduler", name := "requirePolicy", desc := "(I)V" } : Jvm.MethodName)) ∈ BW := bw_t 239 (by decide +kernel) rfl
theorem bw_240 : (Jvm.Cond.code ({ cls := "LiftScheduler", name := "requirePolicy", desc := "(I)V" } : Jvm.MethodName) prog_1_method_75_code (2 : Nat) (Option.none : Option Jvm.ClassFile.FieldType)) ∈ BW := bw_t 240 (by decide +kernel) rfl
theorem bw_241 : (Jvm.Cond.classLink "LiftScheduler" (72 : Nat) "java/lang/IllegalArgumentException") ∈ BW := bw_t 241 (by decide +kernel) rfl
theorem bw_242 : (Jvm.Cond.instantiable "java/lang/IllegalArgumentException" (6 : Nat)) ∈ BW := bw_t 242 (by decide +kernel) rfl
theorem bw_250 : (Jvm.Cond.selects "java/lang/IllegalArgumentException" ({ cls := "java/lang/Throwable", name := "fillInStackTrace", desc := "(I)Ljava/lang/Throwable;" } : Jvm.MethodName) ({ cls := "java/lang/Throwable", name := "fillInStackTrace", desc := "(I)Ljava/lang/Throwable;" } : Jvm.MethodName)) ∈ BW := bw_t 250 (by decide +kernel) rfl
theorem bw_251 : (Jvm.Cond.selects "java/lang/IllegalArgumentException" ({ cls := "java/lang/Throwable", name := "fillInStackTrace", desc := "()Ljava/lang/Throwable;" } : Jvm.MethodName) ({ cls := "java/lang/Throwable", name := "fillInStackTrace", desc := "()Ljava/lang/Throwable;" } : Jvm.MethodName)) ∈ BW := bw_t 251 (by decide +kernel) rfl
theorem bw_262 : (Jvm.Cond.fieldLink "java/lang/Throwable" (198 : Nat) "java/lang/Throwable" "backtrace" "Ljava/lang/Object;") ∈ BW := bw_t 262 (by decide +kernel) rfl
theorem bw_263 : (Jvm.Cond.superclass "java/lang/Throwable" "java/lang/Object") ∈ BW := bw_t 263 (by decide +kernel) rfl
theorem bw_264 : (Jvm.Cond.instanceMethod ({ cls := "java/lang/Throwable", name := "<init>", desc := "()V" } : Jvm.MethodName)) ∈ BW := bw_t 264 (by decide +kernel) rfl
theorem bw_265 : (Jvm.Cond.code ({ cls := "java/lang/Throwable", name := "<init>", desc := "()V" } : Jvm.MethodName) prog_25_method_1_code (1 : Nat) (Option.none : Option Jvm.ClassFile.FieldType)) ∈ BW := bw_t 265 (by decide +kernel) rfl
theorem bw_266 : (Jvm.Cond.methodLink "java/lang/Throwable" (1 : Nat) ({ cls := "java/lang/Object", name := "<init>", desc := "()V" } : Jvm.MethodName)) ∈ BW := bw_t 266 (by decide +kernel) rfl
theorem bw_267 : (Jvm.Cond.fieldLink "java/lang/Throwable" (13 : Nat) "java/lang/Throwable" "UNASSIGNED_STACK" "[Ljava/lang/StackTraceElement;") ∈ BW := bw_t 267 (by decide +kernel) rfl
theorem bw_269 : (Jvm.Cond.fieldLink "java/lang/Throwable" (20 : Nat) "java/lang/Throwable" "SUPPRESSED_SENTINEL" "Ljava/util/List;") ∈ BW := bw_t 269 (by decide +kernel) rfl
theorem bw_271 : (Jvm.Cond.methodLink "java/lang/Throwable" (27 : Nat) ({ cls := "java/lang/Throwable", name := "fillInStackTrace", desc := "()Ljava/lang/Throwable;" } : Jvm.MethodName)) ∈ BW := bw_t 271 (by decide +kernel) rfl
theorem bw_272 : (Jvm.Cond.instanceMethod ({ cls := "java/lang/Throwable", name := "fillInStackTrace", desc := "()Ljava/lang/Throwable;" } : Jvm.MethodName)) ∈ BW := bw_t 272 (by decide +kernel) rfl
theorem bw_273 : (Jvm.Cond.sameMethod "java/lang/Throwable" "java/lang/Throwable" "fillInStackTrace" "()Ljava/lang/Throwable;") ∈ BW := bw_t 273 (by decide +kernel) rfl
theorem bw_274 : (Jvm.Cond.selects "java/lang/IllegalStateException" ({ cls := "java/lang/Throwable", name := "fillInStackTrace", desc := "()Ljava/lang/Throwable;" } : Jvm.MethodName) ({ cls := "java/lang/Throwable", name := "fillInStackTrace", desc := "()Ljava/lang/Throwable;" } : Jvm.MethodName)) ∈ BW := bw_t 274 (by decide +kernel) rfl
theorem bw_275 : (Jvm.Cond.selects "java/lang/IndexOutOfBoundsException" ({ cls := "java/lang/Throwable", name := "fillInStackTrace", desc := "()Ljava/lang/Throwable;" } : Jvm.MethodName) ({ cls := "java/lang/Throwable", name := "fillInStackTrace", desc := "()Ljava/lang/Throwable;" } : Jvm.MethodName)) ∈ BW := bw_t 275 (by decide +kernel) rfl
theorem bw_277 : (Jvm.Cond.methodLink "java/lang/Throwable" (202 : Nat) ({ cls := "java/lang/Throwable", name := "fillInStackTrace", desc := "(I)Ljava/lang/Throwable;" } : Jvm.MethodName)) ∈ BW := bw_t 277 (by decide +kernel) rfl
theorem bw_279 : (Jvm.Cond.instanceMethod ({ cls := "java/lang/Throwable", name := "fillInStackTrace", desc := "(I)Ljava/lang/Throwable;" } : Jvm.MethodName)) ∈ BW := bw_t 279 (by decide +kernel) rfl
theorem bw_280 : (Jvm.Cond.instantiable "java/lang/Throwable" (6 : Nat)) ∈ BW := bw_t 280 (by decide +kernel) rfl
theorem bw_281 : (Jvm.Cond.native ({ cls := "java/lang/Throwable", name := "fillInStackTrace", desc := "(I)Ljava/lang/Throwable;" } : Jvm.MethodName)) ∈ BW := bw_t 281 (by decide +kernel) rfl
theorem bw_283 : (Jvm.Cond.methodLink "LiftScheduler" (76 : Nat) ({ cls := "java/lang/IllegalArgumentException", name := "<init>", desc := "(Ljava/lang/String;)V" } : Jvm.MethodName)) ∈ BW := bw_t 283 (by decide +kernel) rfl
theorem bw_284 : (Jvm.Cond.instanceMethod ({ cls := "java/lang/IllegalArgumentException", name := "<init>", desc := "(Ljava/lang/String;)V" } : Jvm.MethodName)) ∈ BW := bw_t 284 (by decide +kernel) rfl
theorem bw_285 : (Jvm.Cond.code ({ cls := "java/lang/IllegalArgumentException", name := "<init>", desc := "(Ljava/lang/String;)V" } : Jvm.MethodName) prog_14_method_2_code (2 : Nat) (Option.none : Option Jvm.ClassFile.FieldType)) ∈ BW := bw_t 285 (by decide +kernel) rfl
theorem bw_286 : (Jvm.Cond.methodLink "java/lang/IllegalArgumentException" (7 : Nat) ({ cls := "java/lang/RuntimeException", name := "<init>", desc := "(Ljava/lang/String;)V" } : Jvm.MethodName)) ∈ BW := bw_t 286 (by decide +kernel) rfl
theorem bw_287 : (Jvm.Cond.instanceMethod ({ cls := "java/lang/RuntimeException", name := "<init>", desc := "(Ljava/lang/String;)V" } : Jvm.MethodName)) ∈ BW := bw_t 287 (by decide +kernel) rfl
theorem bw_288 : (Jvm.Cond.code ({ cls := "java/lang/RuntimeException", name := "<init>", desc := "(Ljava/lang/String;)V" } : Jvm.MethodName) prog_19_method_2_code (2 : Nat) (Option.none : Option Jvm.ClassFile.FieldType)) ∈ BW := bw_t 288 (by decide +kernel) rfl
theorem bw_289 : (Jvm.Cond.methodLink "java/lang/RuntimeException" (7 : Nat) ({ cls := "java/lang/Exception", name := "<init>", desc := "(Ljava/lang/String;)V" } : Jvm.MethodName)) ∈ BW := bw_t 289 (by decide +kernel) rfl
theorem bw_290 : (Jvm.Cond.instanceMethod ({ cls := "java/lang/Exception", name := "<init>", desc := "(Ljava/lang/String;)V" } : Jvm.MethodName)) ∈ BW := bw_t 290 (by decide +kernel) rfl
theorem bw_291 : (Jvm.Cond.code ({ cls := "java/lang/Exception", name := "<init>", desc := "(Ljava/lang/String;)V" } : Jvm.MethodName) prog_13_method_2_code (2 : Nat) (Option.none : Option Jvm.ClassFile.FieldType)) ∈ BW := bw_t 291 (by decide +kernel) rfl
theorem bw_292 : (Jvm.Cond.methodLink "java/lang/Exception" (7 : Nat) ({ cls := "java/lang/Throwable", name := "<init>", desc := "(Ljava/lang/String;)V" } : Jvm.MethodName)) ∈ BW := bw_t 292 (by decide +kernel) rfl
theorem bw_293 : (Jvm.Cond.instanceMethod ({ cls := "java/lang/Throwable", name := "<init>", desc := "(Ljava/lang/String;)V" } : Jvm.MethodName)) ∈ BW := bw_t 293 (by decide +kernel) rfl
theorem bw_294 : (Jvm.Cond.code ({ cls := "java/lang/Throwable", name := "<init>", desc := "(Ljava/lang/String;)V" } : Jvm.MethodName) prog_25_method_2_code (2 : Nat) (Option.none : Option Jvm.ClassFile.FieldType)) ∈ BW := bw_t 294 (by decide +kernel) rfl
theorem bw_295 : (Jvm.Cond.fieldLink "java/lang/Throwable" (198 : Nat) "java/lang/Throwable" "backtrace" "Ljava/lang/Object;") ∈ BW := bw_t 295 (by decide +kernel) rfl
theorem bw_296 : (Jvm.Cond.fieldLink "java/lang/Throwable" (31 : Nat) "java/lang/Throwable" "detailMessage" "Ljava/lang/String;") ∈ BW := bw_t 296 (by decide +kernel) rfl
theorem bw_297 : (Jvm.Cond.fieldLink "java/lang/Throwable" (7 : Nat) "java/lang/Throwable" "cause" "Ljava/lang/Throwable;") ∈ BW := bw_t 297 (by decide +kernel) rfl
theorem bw_298 : (Jvm.Cond.fieldLink "java/lang/Throwable" (17 : Nat) "java/lang/Throwable" "stackTrace" "[Ljava/lang/StackTraceElement;") ∈ BW := bw_t 298 (by decide +kernel) rfl
theorem bw_299 : (Jvm.Cond.fieldLink "java/lang/Throwable" (24 : Nat) "java/lang/Throwable" "suppressedExceptions" "Ljava/util/List;") ∈ BW := bw_t 299 (by decide +kernel) rfl
theorem bw_307 : (Jvm.Cond.superclass "java/lang/IllegalArgumentException" "java/lang/RuntimeException") ∈ BW := bw_t 307 (by decide +kernel) rfl
theorem bw_308 : (Jvm.Cond.methodLink "LiftScheduler" (129 : Nat) ({ cls := "LiftScheduler$Simulation", name := "findTarget", desc := "(I)I" } : Jvm.MethodName)) ∈ BW := bw_t 308 (by decide +kernel) rfl
theorem bw_309 : (Jvm.Cond.instanceMethod ({ cls := "LiftScheduler$Simulation", name := "findTarget", desc := "(I)I" } : Jvm.MethodName)) ∈ BW := bw_t 309 (by decide +kernel) rfl
theorem bw_310 : (Jvm.Cond.selects "LiftScheduler$Simulation" ({ cls := "LiftScheduler$Simulation", name := "findTarget", desc := "(I)I" } : Jvm.MethodName) ({ cls := "LiftScheduler$Simulation", name := "findTarget", desc := "(I)I" } : Jvm.MethodName)) ∈ BW := bw_t 310 (by decide +kernel) rfl
theorem bw_311 : (Jvm.Cond.code ({ cls := "LiftScheduler$Simulation", name := "findTarget", desc := "(I)I" } : Jvm.MethodName) prog_5_method_15_code (5 : Nat) (Option.some Jvm.ClassFile.FieldType.int)) ∈ BW := bw_t 311 (by decide +kernel) rfl
theorem bw_312 : (Jvm.Cond.methodLink "LiftScheduler$Simulation" (94 : Nat) ({ cls := "LiftScheduler$Simulation", name := "findStops", desc := "()I" } : Jvm.MethodName)) ∈ BW := bw_t 312 (by decide +kernel) rfl
theorem bw_313 : (Jvm.Cond.methodLink "LiftScheduler$Simulation" (98 : Nat) ({ cls := "LiftScheduler$Simulation", name := "findFirstRiding", desc := "()I" } : Jvm.MethodName)) ∈ BW := bw_t 313 (by decide +kernel) rfl
theorem bw_315 : (Jvm.Cond.instanceMethod ({ cls := "LiftScheduler$Simulation", name := "findFirstRiding", desc := "()I" } : Jvm.MethodName)) ∈ BW := bw_t 315 (by decide +kernel) rfl
theorem bw_316 : (Jvm.Cond.code ({ cls := "LiftScheduler$Simulation", name := "findFirstRiding", desc := "()I" } : Jvm.MethodName) prog_5_method_16_code (2 : Nat) (Option.some Jvm.ClassFile.FieldType.int)) ∈ BW := bw_t 316 (by decide +kernel) rfl
theorem bw_317 : (Jvm.Cond.methodLink "LiftScheduler$Simulation" (101 : Nat) ({ cls := "LiftScheduler$Simulation", name := "findFirstWaiting", desc := "()I" } : Jvm.MethodName)) ∈ BW := bw_t 317 (by decide +kernel) rfl
theorem bw_318 : (Jvm.Cond.instanceMethod ({ cls := "LiftScheduler$Simulation", name := "findFirstWaiting", desc := "()I" } : Jvm.MethodName)) ∈ BW := bw_t 318 (by decide +kernel) rfl
theorem bw_319 : (Jvm.Cond.selects "LiftScheduler$Simulation" ({ cls := "LiftScheduler$Simulation", name := "findFirstWaiting", desc := "()I" } : Jvm.MethodName) ({ cls := "LiftScheduler$Simulation", name := "findFirstWaiting", desc := "()I" } : Jvm.MethodName)) ∈ BW := bw_t 319 (by decide +kernel) rfl
theorem bw_320 : (Jvm.Cond.code ({ cls := "LiftScheduler$Simulation", name := "findFirstWaiting", desc := "()I" } : Jvm.MethodName) prog_5_method_10_code (3 : Nat) (Option.some Jvm.ClassFile.FieldType.int)) ∈ BW := bw_t 320 (by decide +kernel) rfl
theorem bw_321 : (Jvm.Cond.methodLink "LiftScheduler$Simulation" (104 : Nat) ({ cls := "LiftScheduler$Simulation", name := "findStopBelow", desc := "(I)I" } : Jvm.MethodName)) ∈ BW := bw_t 321 (by decide +kernel) rfl
theorem bw_323 : (Jvm.Cond.instanceMethod ({ cls := "LiftScheduler$Simulation", name := "findStopBelow", desc := "(I)I" } : Jvm.MethodName)) ∈ BW := bw_t 323 (by decide +kernel) rfl
theorem bw_324 : (Jvm.Cond.code ({ cls := "LiftScheduler$Simulation", name := "findStopBelow", desc := "(I)I" } : Jvm.MethodName) prog_5_method_17_code (3 : Nat) (Option.some Jvm.ClassFile.FieldType.int)) ∈ BW := bw_t 324 (by decide +kernel) rfl
theorem bw_325 : (Jvm.Cond.methodLink "LiftScheduler$Simulation" (107 : Nat) ({ cls := "LiftScheduler$Simulation", name := "findStopAbove", desc := "(I)I" } : Jvm.MethodName)) ∈ BW := bw_t 325 (by decide +kernel) rfl
theorem bw_327 : (Jvm.Cond.instanceMethod ({ cls := "LiftScheduler$Simulation", name := "findStopAbove", desc := "(I)I" } : Jvm.MethodName)) ∈ BW := bw_t 327 (by decide +kernel) rfl
theorem bw_328 : (Jvm.Cond.code ({ cls := "LiftScheduler$Simulation", name := "findStopAbove", desc := "(I)I" } : Jvm.MethodName) prog_5_method_18_code (3 : Nat) (Option.some Jvm.ClassFile.FieldType.int)) ∈ BW := bw_t 328 (by decide +kernel) rfl
theorem bw_329 : (Jvm.Cond.methodLink "LiftSchedulerLaw" (103 : Nat) ({ cls := "LiftScheduler", name := "distance", desc := "()I" } : Jvm.MethodName)) ∈ BW := bw_t 329 (by decide +kernel) rfl
theorem bw_330 : (Jvm.Cond.instanceMethod ({ cls := "LiftScheduler", name := "distance", desc := "()I" } : Jvm.MethodName)) ∈ BW := bw_t 330 (by decide +kernel) rfl
theorem bw_331 : (Jvm.Cond.selects "LiftScheduler" ({ cls := "LiftScheduler", name := "distance", desc := "()I" } : Jvm.MethodName) ({ cls := "LiftScheduler", name := "distance", desc := "()I" } : Jvm.MethodName)) ∈ BW := bw_t 331 (by decide +kernel) rfl
theorem bw_332 : (Jvm.Cond.code ({ cls := "LiftScheduler", name := "distance", desc := "()I" } : Jvm.MethodName) prog_1_method_18_code (1 : Nat) (Option.some Jvm.ClassFile.FieldType.int)) ∈ BW := bw_t 332 (by decide +kernel) rfl
theorem bw_333 : (Jvm.Cond.methodLink "LiftSchedulerLaw" (106 : Nat) ({ cls := "LiftScheduler", name := "doorTicks", desc := "()I" } : Jvm.MethodName)) ∈ BW := bw_t 333 (by decide +kernel) rfl
theorem bw_334 : (Jvm.Cond.instanceMethod ({ cls := "LiftScheduler", name := "doorTicks", desc := "()I" } : Jvm.MethodName)) ∈ BW := bw_t 334 (by decide +kernel) rfl
theorem bw_335 : (Jvm.Cond.selects "LiftScheduler" ({ cls := "LiftScheduler", name := "doorTicks", desc := "()I" } : Jvm.MethodName) ({ cls := "LiftScheduler", name := "doorTicks", desc := "()I" } : Jvm.MethodName)) ∈ BW := bw_t 335 (by decide +kernel) rfl
theorem bw_336 : (Jvm.Cond.code ({ cls := "LiftScheduler", name := "doorTicks", desc := "()I" } : Jvm.MethodName) prog_1_method_19_code (1 : Nat) (Option.some Jvm.ClassFile.FieldType.int)) ∈ BW := bw_t 336 (by decide +kernel) rfl
theorem bw_337 : (Jvm.Cond.methodLink "LiftSchedulerLaw" (109 : Nat) ({ cls := "LiftScheduler", name := "idleTicks", desc := "()I" } : Jvm.MethodName)) ∈ BW := bw_t 337 (by decide +kernel) rfl
theorem bw_338 : (Jvm.Cond.instanceMethod ({ cls := "LiftScheduler", name := "idleTicks", desc := "()I" } : Jvm.MethodName)) ∈ BW := bw_t 338 (by decide +kernel) rfl
theorem bw_339 : (Jvm.Cond.selects "LiftScheduler" ({ cls := "LiftScheduler", name := "idleTicks", desc := "()I" } : Jvm.MethodName) ({ cls := "LiftScheduler", name := "idleTicks", desc := "()I" } : Jvm.MethodName)) ∈ BW := bw_t 339 (by decide +kernel) rfl
theorem bw_340 : (Jvm.Cond.code ({ cls := "LiftScheduler", name := "idleTicks", desc := "()I" } : Jvm.MethodName) prog_1_method_20_code (1 : Nat) (Option.some Jvm.ClassFile.FieldType.int)) ∈ BW := bw_t 340 (by decide +kernel) rfl
theorem bw_341 : (Jvm.Cond.methodLink "LiftSchedulerLaw" (118 : Nat) ({ cls := "LiftScheduler", name := "statusOf", desc := "(I)I" } : Jvm.MethodName)) ∈ BW := bw_t 341 (by decide +kernel) rfl
theorem bw_342 : (Jvm.Cond.instanceMethod ({ cls := "LiftScheduler", name := "statusOf", desc := "(I)I" } : Jvm.MethodName)) ∈ BW := bw_t 342 (by decide +kernel) rfl
theorem bw_343 : (Jvm.Cond.selects "LiftScheduler" ({ cls := "LiftScheduler", name := "statusOf", desc := "(I)I" } : Jvm.MethodName) ({ cls := "LiftScheduler", name := "statusOf", desc := "(I)I" } : Jvm.MethodName)) ∈ BW := bw_t 343 (by decide +kernel) rfl
theorem bw_344 : (Jvm.Cond.code ({ cls := "LiftScheduler", name := "statusOf", desc := "(I)I" } : Jvm.MethodName) prog_1_method_23_code (2 : Nat) (Option.some Jvm.ClassFile.FieldType.int)) ∈ BW := bw_t 344 (by decide +kernel) rfl
theorem bw_345 : (Jvm.Cond.methodLink "LiftScheduler" (145 : Nat) ({ cls := "LiftScheduler", name := "requirePassenger", desc := "(I)V" } : Jvm.MethodName)) ∈ BW := bw_t 345 (by decide +kernel) rfl
theorem bw_347 : (Jvm.Cond.instanceMethod ({ cls := "LiftScheduler", name := "requirePassenger", desc := "(I)V" } : Jvm.MethodName)) ∈ BW := bw_t 347 (by decide +kernel) rfl
theorem bw_348 : (Jvm.Cond.code ({ cls := "LiftScheduler", name := "requirePassenger", desc := "(I)V" } : Jvm.MethodName) prog_1_method_73_code (2 : Nat) (Option.none : Option Jvm.ClassFile.FieldType)) ∈ BW := bw_t 348 (by decide +kernel) rfl
theorem bw_349 : (Jvm.Cond.classLink "LiftScheduler" (264 : Nat) "java/lang/IndexOutOfBoundsException") ∈ BW := bw_t 349 (by decide +kernel) rfl
theorem bw_350 : (Jvm.Cond.instantiable "java/lang/IndexOutOfBoundsException" (6 : Nat)) ∈ BW := bw_t 350 (by decide +kernel) rfl
theorem bw_352 : (Jvm.Cond.selects "java/lang/IndexOutOfBoundsException" ({ cls := "java/lang/Throwable", name := "fillInStackTrace", desc := "(I)Ljava/lang/Throwable;" } : Jvm.MethodName) ({ cls := "java/lang/Throwable", name := "fillInStackTrace", desc := "(I)Ljava/lang/Throwable;" } : Jvm.MethodName)) ∈ BW := bw_t 352 (by decide +kernel) rfl
theorem bw_359 : (Jvm.Cond.methodLink "LiftScheduler" (268 : Nat) ({ cls := "java/lang/IndexOutOfBoundsException", name := "<init>", desc := "(Ljava/lang/String;)V" } : Jvm.MethodName)) ∈ BW := bw_t 359 (by decide +kernel) rfl
theorem bw_360 : (Jvm.Cond.instanceMethod ({ cls := "java/lang/IndexOutOfBoundsException", name := "<init>", desc := "(Ljava/lang/String;)V" } : Jvm.MethodName)) ∈ BW := bw_t 360 (by decide +kernel) rfl
theorem bw_361 : (Jvm.Cond.code ({ cls := "java/lang/IndexOutOfBoundsException", name := "<init>", desc := "(Ljava/lang/String;)V" } : Jvm.MethodName) prog_16_method_2_code (2 : Nat) (Option.none : Option Jvm.ClassFile.FieldType)) ∈ BW := bw_t 361 (by decide +kernel) rfl
theorem bw_362 : (Jvm.Cond.methodLink "java/lang/IndexOutOfBoundsException" (7 : Nat) ({ cls := "java/lang/RuntimeException", name := "<init>", desc := "(Ljava/lang/String;)V" } : Jvm.MethodName)) ∈ BW := bw_t 362 (by decide +kernel) rfl
theorem bw_364 : (Jvm.Cond.superclass "java/lang/IndexOutOfBoundsException" "java/lang/RuntimeException") ∈ BW := bw_t 364 (by decide +kernel) rfl
theorem bw_365 : (Jvm.Cond.methodLink "LiftScheduler" (148 : Nat) ({ cls := "LiftScheduler$Simulation", name := "findStatus", desc := "(I)I" } : Jvm.MethodName)) ∈ BW := bw_t 365 (by decide +kernel) rfl
theorem bw_366 : (Jvm.Cond.instanceMethod ({ cls := "LiftScheduler$Simulation", name := "findStatus", desc := "(I)I" } : Jvm.MethodName)) ∈ BW := bw_t 366 (by decide +kernel) rfl
theorem bw_367 : (Jvm.Cond.selects "LiftScheduler$Simulation" ({ cls := "LiftScheduler$Simulation", name := "findStatus", desc := "(I)I" } : Jvm.MethodName) ({ cls := "LiftScheduler$Simulation", name := "findStatus", desc := "(I)I" } : Jvm.MethodName)) ∈ BW := bw_t 367 (by decide +kernel) rfl
theorem bw_368 : (Jvm.Cond.code ({ cls := "LiftScheduler$Simulation", name := "findStatus", desc := "(I)I" } : Jvm.MethodName) prog_5_method_5_code (2 : Nat) (Option.some Jvm.ClassFile.FieldType.int)) ∈ BW := bw_t 368 (by decide +kernel) rfl
theorem bw_369 : (Jvm.Cond.methodLink "LiftSchedulerLaw" (142 : Nat) ({ cls := "LiftScheduler", name := "originOf", desc := "(I)I" } : Jvm.MethodName)) ∈ BW := bw_t 369 (by decide +kernel) rfl
theorem bw_370 : (Jvm.Cond.instanceMethod ({ cls := "LiftScheduler", name := "originOf", desc := "(I)I" } : Jvm.MethodName)) ∈ BW := bw_t 370 (by decide +kernel) rfl
theorem bw_371 : (Jvm.Cond.selects "LiftScheduler" ({ cls := "LiftScheduler", name := "originOf", desc := "(I)I" } : Jvm.MethodName) ({ cls := "LiftScheduler", name := "originOf", desc := "(I)I" } : Jvm.MethodName)) ∈ BW := bw_t 371 (by decide +kernel) rfl
theorem bw_372 : (Jvm.Cond.code ({ cls := "LiftScheduler", name := "originOf", desc := "(I)I" } : Jvm.MethodName) prog_1_method_24_code (2 : Nat) (Option.some Jvm.ClassFile.FieldType.int)) ∈ BW := bw_t 372 (by decide +kernel) rfl
theorem bw_373 : (Jvm.Cond.methodLink "LiftSchedulerLaw" (139 : Nat) ({ cls := "LiftScheduler", name := "destinationOf", desc := "(I)I" } : Jvm.MethodName)) ∈ BW := bw_t 373 (by decide +kernel) rfl
theorem bw_374 : (Jvm.Cond.instanceMethod ({ cls := "LiftScheduler", name := "destinationOf", desc := "(I)I" } : Jvm.MethodName)) ∈ BW := bw_t 374 (by decide +kernel) rfl
theorem bw_375 : (Jvm.Cond.selects "LiftScheduler" ({ cls := "LiftScheduler", name := "destinationOf", desc := "(I)I" } : Jvm.MethodName) ({ cls := "LiftScheduler", name := "destinationOf", desc := "(I)I" } : Jvm.MethodName)) ∈ BW := bw_t 375 (by decide +kernel) rfl
theorem bw_376 : (Jvm.Cond.code ({ cls := "LiftScheduler", name := "destinationOf", desc := "(I)I" } : Jvm.MethodName) prog_1_method_25_code (2 : Nat) (Option.some Jvm.ClassFile.FieldType.int)) ∈ BW := bw_t 376 (by decide +kernel) rfl
theorem bw_377 : (Jvm.Cond.methodLink "LiftSchedulerLaw" (121 : Nat) ({ cls := "LiftScheduler", name := "arrivalOf", desc := "(I)I" } : Jvm.MethodName)) ∈ BW := bw_t 377 (by decide +kernel) rfl
theorem bw_378 : (Jvm.Cond.instanceMethod ({ cls := "LiftScheduler", name := "arrivalOf", desc := "(I)I" } : Jvm.MethodName)) ∈ BW := bw_t 378 (by decide +kernel) rfl
theorem bw_379 : (Jvm.Cond.selects "LiftScheduler" ({ cls := "LiftScheduler", name := "arrivalOf", desc := "(I)I" } : Jvm.MethodName) ({ cls := "LiftScheduler", name := "arrivalOf", desc := "(I)I" } : Jvm.MethodName)) ∈ BW := bw_t 379 (by decide +kernel) rfl
theorem bw_380 : (Jvm.Cond.code ({ cls := "LiftScheduler", name := "arrivalOf", desc := "(I)I" } : Jvm.MethodName) prog_1_method_26_code (2 : Nat) (Option.some Jvm.ClassFile.FieldType.int)) ∈ BW := bw_t 380 (by decide +kernel) rfl
theorem bw_381 : (Jvm.Cond.methodLink "LiftSchedulerLaw" (124 : Nat) ({ cls := "LiftScheduler", name := "boardedAt", desc := "(I)I" } : Jvm.MethodName)) ∈ BW := bw_t 381 (by decide +kernel) rfl
theorem bw_382 : (Jvm.Cond.instanceMethod ({ cls := "LiftScheduler", name := "boardedAt", desc := "(I)I" } : Jvm.MethodName)) ∈ BW := bw_t 382 (by decide +kernel) rfl
theorem bw_383 : (Jvm.Cond.selects "LiftScheduler" ({ cls := "LiftScheduler", name := "boardedAt", desc := "(I)I" } : Jvm.MethodName) ({ cls := "LiftScheduler", name := "boardedAt", desc := "(I)I" } : Jvm.MethodName)) ∈ BW := bw_t 383 (by decide +kernel) rfl
theorem bw_384 : (Jvm.Cond.code ({ cls := "LiftScheduler", name := "boardedAt", desc := "(I)I" } : Jvm.MethodName) prog_1_method_27_code (2 : Nat) (Option.some Jvm.ClassFile.FieldType.int)) ∈ BW := bw_t 384 (by decide +kernel) rfl
theorem bw_385 : (Jvm.Cond.methodLink "LiftSchedulerLaw" (127 : Nat) ({ cls := "LiftScheduler", name := "leftAt", desc := "(I)I" } : Jvm.MethodName)) ∈ BW := bw_t 385 (by decide +kernel) rfl
theorem bw_386 : (Jvm.Cond.instanceMethod ({ cls := "LiftScheduler", name := "leftAt", desc := "(I)I" } : Jvm.MethodName)) ∈ BW := bw_t 386 (by decide +kernel) rfl
theorem bw_387 : (Jvm.Cond.selects "LiftScheduler" ({ cls := "LiftScheduler", name := "leftAt", desc := "(I)I" } : Jvm.MethodName) ({ cls := "LiftScheduler", name := "leftAt", desc := "(I)I" } : Jvm.MethodName)) ∈ BW := bw_t 387 (by decide +kernel) rfl
theorem bw_388 : (Jvm.Cond.code ({ cls := "LiftScheduler", name := "leftAt", desc := "(I)I" } : Jvm.MethodName) prog_1_method_28_code (2 : Nat) (Option.some Jvm.ClassFile.FieldType.int)) ∈ BW := bw_t 388 (by decide +kernel) rfl
theorem bw_389 : (Jvm.Cond.methodLink "LiftSchedulerLaw" (130 : Nat) ({ cls := "LiftScheduler", name := "waitOf", desc := "(I)I" } : Jvm.MethodName)) ∈ BW := bw_t 389 (by decide +kernel) rfl
theorem bw_390 : (Jvm.Cond.instanceMethod ({ cls := "LiftScheduler", name := "waitOf", desc := "(I)I" } : Jvm.MethodName)) ∈ BW := bw_t 390 (by decide +kernel) rfl
theorem bw_391 : (Jvm.Cond.selects "LiftScheduler" ({ cls := "LiftScheduler", name := "waitOf", desc := "(I)I" } : Jvm.MethodName) ({ cls := "LiftScheduler", name := "waitOf", desc := "(I)I" } : Jvm.MethodName)) ∈ BW := bw_t 391 (by decide +kernel) rfl
theorem bw_392 : (Jvm.Cond.code ({ cls := "LiftScheduler", name := "waitOf", desc := "(I)I" } : Jvm.MethodName) prog_1_method_29_code (2 : Nat) (Option.some Jvm.ClassFile.FieldType.int)) ∈ BW := bw_t 392 (by decide +kernel) rfl
theorem bw_393 : (Jvm.Cond.methodLink "LiftScheduler" (167 : Nat) ({ cls := "LiftScheduler$Simulation", name := "findWait", desc := "(I)I" } : Jvm.MethodName)) ∈ BW := bw_t 393 (by decide +kernel) rfl
theorem bw_394 : (Jvm.Cond.instanceMethod ({ cls := "LiftScheduler$Simulation", name := "findWait", desc := "(I)I" } : Jvm.MethodName)) ∈ BW := bw_t 394 (by decide +kernel) rfl
theorem bw_395 : (Jvm.Cond.selects "LiftScheduler$Simulation" ({ cls := "LiftScheduler$Simulation", name := "findWait", desc := "(I)I" } : Jvm.MethodName) ({ cls := "LiftScheduler$Simulation", name := "findWait", desc := "(I)I" } : Jvm.MethodName)) ∈ BW := bw_t 395 (by decide +kernel) rfl
theorem bw_396 : (Jvm.Cond.code ({ cls := "LiftScheduler$Simulation", name := "findWait", desc := "(I)I" } : Jvm.MethodName) prog_5_method_6_code (2 : Nat) (Option.some Jvm.ClassFile.FieldType.int)) ∈ BW := bw_t 396 (by decide +kernel) rfl
theorem bw_397 : (Jvm.Cond.methodLink "LiftSchedulerLaw" (133 : Nat) ({ cls := "LiftScheduler", name := "rideOf", desc := "(I)I" } : Jvm.MethodName)) ∈ BW := bw_t 397 (by decide +kernel) rfl
theorem bw_398 : (Jvm.Cond.instanceMethod ({ cls := "LiftScheduler", name := "rideOf", desc := "(I)I" } : Jvm.MethodName)) ∈ BW := bw_t 398 (by decide +kernel) rfl
theorem bw_399 : (Jvm.Cond.selects "LiftScheduler" ({ cls := "LiftScheduler", name := "rideOf", desc := "(I)I" } : Jvm.MethodName) ({ cls := "LiftScheduler", name := "rideOf", desc := "(I)I" } : Jvm.MethodName)) ∈ BW := bw_t 399 (by decide +kernel) rfl
theorem bw_400 : (Jvm.Cond.code ({ cls := "LiftScheduler", name := "rideOf", desc := "(I)I" } : Jvm.MethodName) prog_1_method_30_code (2 : Nat) (Option.some Jvm.ClassFile.FieldType.int)) ∈ BW := bw_t 400 (by decide +kernel) rfl
theorem bw_401 : (Jvm.Cond.methodLink "LiftScheduler" (170 : Nat) ({ cls := "LiftScheduler$Simulation", name := "findRide", desc := "(I)I" } : Jvm.MethodName)) ∈ BW := bw_t 401 (by decide +kernel) rfl
theorem bw_402 : (Jvm.Cond.instanceMethod ({ cls := "LiftScheduler$Simulation", name := "findRide", desc := "(I)I" } : Jvm.MethodName)) ∈ BW := bw_t 402 (by decide +kernel) rfl
theorem bw_403 : (Jvm.Cond.selects "LiftScheduler$Simulation" ({ cls := "LiftScheduler$Simulation", name := "findRide", desc := "(I)I" } : Jvm.MethodName) ({ cls := "LiftScheduler$Simulation", name := "findRide", desc := "(I)I" } : Jvm.MethodName)) ∈ BW := bw_t 403 (by decide +kernel) rfl
theorem bw_404 : (Jvm.Cond.code ({ cls := "LiftScheduler$Simulation", name := "findRide", desc := "(I)I" } : Jvm.MethodName) prog_5_method_7_code (2 : Nat) (Option.some Jvm.ClassFile.FieldType.int)) ∈ BW := bw_t 404 (by decide +kernel) rfl
theorem bw_405 : (Jvm.Cond.methodLink "LiftSchedulerLaw" (136 : Nat) ({ cls := "LiftScheduler", name := "detourOf", desc := "(I)I" } : Jvm.MethodName)) ∈ BW := bw_t 405 (by decide +kernel) rfl
theorem bw_406 : (Jvm.Cond.instanceMethod ({ cls := "LiftScheduler", name := "detourOf", desc := "(I)I" } : Jvm.MethodName)) ∈ BW := bw_t 406 (by decide +kernel) rfl
theorem bw_407 : (Jvm.Cond.selects "LiftScheduler" ({ cls := "LiftScheduler", name := "detourOf", desc := "(I)I" } : Jvm.MethodName) ({ cls := "LiftScheduler", name := "detourOf", desc := "(I)I" } : Jvm.MethodName)) ∈ BW := bw_t 407 (by decide +kernel) rfl
theorem bw_408 : (Jvm.Cond.code ({ cls := "LiftScheduler", name := "detourOf", desc := "(I)I" } : Jvm.MethodName) prog_1_method_31_code (3 : Nat) (Option.some Jvm.ClassFile.FieldType.int)) ∈ BW := bw_t 408 (by decide +kernel) rfl
theorem bw_409 : (Jvm.Cond.methodLink "LiftScheduler" (173 : Nat) ({ cls := "java/lang/Math", name := "abs", desc := "(I)I" } : Jvm.MethodName)) ∈ BW := bw_t 409 (by decide +kernel) rfl
theorem bw_410 : (Jvm.Cond.static ({ cls := "java/lang/Math", name := "abs", desc := "(I)I" } : Jvm.MethodName)) ∈ BW := bw_t 410 (by decide +kernel) rfl
theorem bw_411 : (Jvm.Cond.code ({ cls := "java/lang/Math", name := "abs", desc := "(I)I" } : Jvm.MethodName) prog_18_method_59_code (1 : Nat) (Option.some Jvm.ClassFile.FieldType.int)) ∈ BW := bw_t 411 (by decide +kernel) rfl
theorem bw_412 : (Jvm.Cond.methodLink "LiftSchedulerLaw" (93 : Nat) ({ cls := "LiftScheduler", name := "countStatus", desc := "(I)I" } : Jvm.MethodName)) ∈ BW := bw_t 412 (by decide +kernel) rfl
theorem bw_413 : (Jvm.Cond.instanceMethod ({ cls := "LiftScheduler", name := "countStatus", desc := "(I)I" } : Jvm.MethodName)) ∈ BW := bw_t 413 (by decide +kernel) rfl
theorem bw_414 : (Jvm.Cond.selects "LiftScheduler" ({ cls := "LiftScheduler", name := "countStatus", desc := "(I)I" } : Jvm.MethodName) ({ cls := "LiftScheduler", name := "countStatus", desc := "(I)I" } : Jvm.MethodName)) ∈ BW := bw_t 414 (by decide +kernel) rfl
theorem bw_415 : (Jvm.Cond.code ({ cls := "LiftScheduler", name := "countStatus", desc := "(I)I" } : Jvm.MethodName) prog_1_method_32_code (2 : Nat) (Option.some Jvm.ClassFile.FieldType.int)) ∈ BW := bw_t 415 (by decide +kernel) rfl
theorem bw_417 : (Jvm.Cond.methodLink "LiftScheduler" (180 : Nat) ({ cls := "LiftScheduler$Simulation", name := "countWith", desc := "(I)I" } : Jvm.MethodName)) ∈ BW := bw_t 417 (by decide +kernel) rfl
theorem bw_418 : (Jvm.Cond.instanceMethod ({ cls := "LiftScheduler$Simulation", name := "countWith", desc := "(I)I" } : Jvm.MethodName)) ∈ BW := bw_t 418 (by decide +kernel) rfl
theorem bw_419 : (Jvm.Cond.selects "LiftScheduler$Simulation" ({ cls := "LiftScheduler$Simulation", name := "countWith", desc := "(I)I" } : Jvm.MethodName) ({ cls := "LiftScheduler$Simulation", name := "countWith", desc := "(I)I" } : Jvm.MethodName)) ∈ BW := bw_t 419 (by decide +kernel) rfl
theorem bw_420 : (Jvm.Cond.code ({ cls := "LiftScheduler$Simulation", name := "countWith", desc := "(I)I" } : Jvm.MethodName) prog_5_method_8_code (4 : Nat) (Option.some Jvm.ClassFile.FieldType.int)) ∈ BW := bw_t 420 (by decide +kernel) rfl
theorem bw_421 : (Jvm.Cond.methodLink "LiftScheduler$Simulation" (81 : Nat) ({ cls := "LiftScheduler$Simulation", name := "findStatus", desc := "(I)I" } : Jvm.MethodName)) ∈ BW := bw_t 421 (by decide +kernel) rfl
theorem bw_422 : (Jvm.Cond.methodLink "LiftSchedulerLaw" (151 : Nat) ({ cls := "LiftScheduler", name := "waitingAt", desc := "(I)I" } : Jvm.MethodName)) ∈ BW := bw_t 422 (by decide +kernel) rfl
theorem bw_423 : (Jvm.Cond.instanceMethod ({ cls := "LiftScheduler", name := "waitingAt", desc := "(I)I" } : Jvm.MethodName)) ∈ BW := bw_t 423 (by decide +kernel) rfl
theorem bw_424 : (Jvm.Cond.selects "LiftScheduler" ({ cls := "LiftScheduler", name := "waitingAt", desc := "(I)I" } : Jvm.MethodName) ({ cls := "LiftScheduler", name := "waitingAt", desc := "(I)I" } : Jvm.MethodName)) ∈ BW := bw_t 424 (by decide +kernel) rfl
theorem bw_425 : (Jvm.Cond.code ({ cls := "LiftScheduler", name := "waitingAt", desc := "(I)I" } : Jvm.MethodName) prog_1_method_33_code (2 : Nat) (Option.some Jvm.ClassFile.FieldType.int)) ∈ BW := bw_t 425 (by decide +kernel) rfl
theorem bw_426 : (Jvm.Cond.methodLink "LiftScheduler" (183 : Nat) ({ cls := "LiftScheduler", name := "requireFloor", desc := "(I)V" } : Jvm.MethodName)) ∈ BW := bw_t 426 (by decide +kernel) rfl
theorem bw_428 : (Jvm.Cond.instanceMethod ({ cls := "LiftScheduler", name := "requireFloor", desc := "(I)V" } : Jvm.MethodName)) ∈ BW := bw_t 428 (by decide +kernel) rfl
theorem bw_429 : (Jvm.Cond.code ({ cls := "LiftScheduler", name := "requireFloor", desc := "(I)V" } : Jvm.MethodName) prog_1_method_74_code (2 : Nat) (Option.none : Option Jvm.ClassFile.FieldType)) ∈ BW := bw_t 429 (by decide +kernel) rfl
theorem bw_431 : (Jvm.Cond.methodLink "LiftScheduler" (186 : Nat) ({ cls := "LiftScheduler$Simulation", name := "countWaiting", desc := "(I)I" } : Jvm.MethodName)) ∈ BW := bw_t 431 (by decide +kernel) rfl
theorem bw_432 : (Jvm.Cond.instanceMethod ({ cls := "LiftScheduler$Simulation", name := "countWaiting", desc := "(I)I" } : Jvm.MethodName)) ∈ BW := bw_t 432 (by decide +kernel) rfl
theorem bw_433 : (Jvm.Cond.selects "LiftScheduler$Simulation" ({ cls := "LiftScheduler$Simulation", name := "countWaiting", desc := "(I)I" } : Jvm.MethodName) ({ cls := "LiftScheduler$Simulation", name := "countWaiting", desc := "(I)I" } : Jvm.MethodName)) ∈ BW := bw_t 433 (by decide +kernel) rfl
theorem bw_434 : (Jvm.Cond.code ({ cls := "LiftScheduler$Simulation", name := "countWaiting", desc := "(I)I" } : Jvm.MethodName) prog_5_method_9_code (4 : Nat) (Option.some Jvm.ClassFile.FieldType.int)) ∈ BW := bw_t 434 (by decide +kernel) rfl
theorem bw_435 : (Jvm.Cond.methodLink "LiftSchedulerLaw" (154 : Nat) ({ cls := "LiftScheduler", name := "queueAt", desc := "(II)I" } : Jvm.MethodName)) ∈ BW := bw_t 435 (by decide +kernel) rfl
theorem bw_436 : (Jvm.Cond.instanceMethod ({ cls := "LiftScheduler", name := "queueAt", desc := "(II)I" } : Jvm.MethodName)) ∈ BW := bw_t 436 (by decide +kernel) rfl
theorem bw_437 : (Jvm.Cond.selects "LiftScheduler" ({ cls := "LiftScheduler", name := "queueAt", desc := "(II)I" } : Jvm.MethodName) ({ cls := "LiftScheduler", name := "queueAt", desc := "(II)I" } : Jvm.MethodName)) ∈ BW := bw_t 437 (by decide +kernel) rfl
theorem bw_438 : (Jvm.Cond.code ({ cls := "LiftScheduler", name := "queueAt", desc := "(II)I" } : Jvm.MethodName) prog_1_method_34_code (6 : Nat) (Option.some Jvm.ClassFile.FieldType.int)) ∈ BW := bw_t 438 (by decide +kernel) rfl
theorem bw_439 : (Jvm.Cond.methodLink "LiftSchedulerLaw" (158 : Nat) ({ cls := "LiftScheduler", name := "firstWaiting", desc := "()I" } : Jvm.MethodName)) ∈ BW := bw_t 439 (by decide +kernel) rfl
theorem bw_440 : (Jvm.Cond.instanceMethod ({ cls := "LiftScheduler", name := "firstWaiting", desc := "()I" } : Jvm.MethodName)) ∈ BW := bw_t 440 (by decide +kernel) rfl
theorem bw_441 : (Jvm.Cond.selects "LiftScheduler" ({ cls := "LiftScheduler", name := "firstWaiting", desc := "()I" } : Jvm.MethodName) ({ cls := "LiftScheduler", name := "firstWaiting", desc := "()I" } : Jvm.MethodName)) ∈ BW := bw_t 441 (by decide +kernel) rfl
theorem bw_442 : (Jvm.Cond.code ({ cls := "LiftScheduler", name := "firstWaiting", desc := "()I" } : Jvm.MethodName) prog_1_method_35_code (1 : Nat) (Option.some Jvm.ClassFile.FieldType.int)) ∈ BW := bw_t 442 (by decide +kernel) rfl
theorem bw_443 : (Jvm.Cond.methodLink "LiftScheduler" (192 : Nat) ({ cls := "LiftScheduler$Simulation", name := "findFirstWaiting", desc := "()I" } : Jvm.MethodName)) ∈ BW := bw_t 443 (by decide +kernel) rfl
theorem bw_444 : (Jvm.Cond.methodLink "LiftSchedulerLaw" (145 : Nat) ({ cls := "LiftScheduler", name := "totalWait", desc := "()I" } : Jvm.MethodName)) ∈ BW := bw_t 444 (by decide +kernel) rfl
theorem bw_445 : (Jvm.Cond.instanceMethod ({ cls := "LiftScheduler", name := "totalWait", desc := "()I" } : Jvm.MethodName)) ∈ BW := bw_t 445 (by decide +kernel) rfl
theorem bw_446 : (Jvm.Cond.selects "LiftScheduler" ({ cls := "LiftScheduler", name := "totalWait", desc := "()I" } : Jvm.MethodName) ({ cls := "LiftScheduler", name := "totalWait", desc := "()I" } : Jvm.MethodName)) ∈ BW := bw_t 446 (by decide +kernel) rfl
theorem bw_447 : (Jvm.Cond.code ({ cls := "LiftScheduler", name := "totalWait", desc := "()I" } : Jvm.MethodName) prog_1_method_44_code (1 : Nat) (Option.some Jvm.ClassFile.FieldType.int)) ∈ BW := bw_t 447 (by decide +kernel) rfl
theorem bw_448 : (Jvm.Cond.methodLink "LiftScheduler" (199 : Nat) ({ cls := "LiftScheduler$Simulation", name := "sumWaits", desc := "()I" } : Jvm.MethodName)) ∈ BW := bw_t 448 (by decide +kernel) rfl
theorem bw_449 : (Jvm.Cond.instanceMethod ({ cls := "LiftScheduler$Simulation", name := "sumWaits", desc := "()I" } : Jvm.MethodName)) ∈ BW := bw_t 449 (by decide +kernel) rfl
theorem bw_450 : (Jvm.Cond.selects "LiftScheduler$Simulation" ({ cls := "LiftScheduler$Simulation", name := "sumWaits", desc := "()I" } : Jvm.MethodName) ({ cls := "LiftScheduler$Simulation", name := "sumWaits", desc := "()I" } : Jvm.MethodName)) ∈ BW := bw_t 450 (by decide +kernel) rfl
theorem bw_451 : (Jvm.Cond.code ({ cls := "LiftScheduler$Simulation", name := "sumWaits", desc := "()I" } : Jvm.MethodName) prog_5_method_11_code (3 : Nat) (Option.some Jvm.ClassFile.FieldType.int)) ∈ BW := bw_t 451 (by decide +kernel) rfl
theorem bw_452 : (Jvm.Cond.methodLink "LiftScheduler$Simulation" (85 : Nat) ({ cls := "LiftScheduler$Simulation", name := "findWait", desc := "(I)I" } : Jvm.MethodName)) ∈ BW := bw_t 452 (by decide +kernel) rfl
theorem bw_453 : (Jvm.Cond.methodLink "LiftScheduler$Simulation" (88 : Nat) ({ cls := "java/lang/Math", name := "max", desc := "(II)I" } : Jvm.MethodName)) ∈ BW := bw_t 453 (by decide +kernel) rfl
theorem bw_454 : (Jvm.Cond.static ({ cls := "java/lang/Math", name := "max", desc := "(II)I" } : Jvm.MethodName)) ∈ BW := bw_t 454 (by decide +kernel) rfl
theorem bw_455 : (Jvm.Cond.code ({ cls := "java/lang/Math", name := "max", desc := "(II)I" } : Jvm.MethodName) prog_18_method_65_code (2 : Nat) (Option.some Jvm.ClassFile.FieldType.int)) ∈ BW := bw_t 455 (by decide +kernel) rfl
theorem bw_456 : (Jvm.Cond.methodLink "LiftSchedulerLaw" (112 : Nat) ({ cls := "LiftScheduler", name := "isFinished", desc := "()Z" } : Jvm.MethodName)) ∈ BW := bw_t 456 (by decide +kernel) rfl
theorem bw_457 : (Jvm.Cond.instanceMethod ({ cls := "LiftScheduler", name := "isFinished", desc := "()Z" } : Jvm.MethodName)) ∈ BW := bw_t 457 (by decide +kernel) rfl
theorem bw_458 : (Jvm.Cond.selects "LiftScheduler" ({ cls := "LiftScheduler", name := "isFinished", desc := "()Z" } : Jvm.MethodName) ({ cls := "LiftScheduler", name := "isFinished", desc := "()Z" } : Jvm.MethodName)) ∈ BW := bw_t 458 (by decide +kernel) rfl
theorem bw_459 : (Jvm.Cond.code ({ cls := "LiftScheduler", name := "isFinished", desc := "()Z" } : Jvm.MethodName) prog_1_method_47_code (1 : Nat) (Option.some Jvm.ClassFile.FieldType.boolean)) ∈ BW := bw_t 459 (by decide +kernel) rfl
theorem bw_460 : (Jvm.Cond.methodLink "LiftScheduler" (208 : Nat) ({ cls := "LiftScheduler$Simulation", name := "isOver", desc := "()Z" } : Jvm.MethodName)) ∈ BW := bw_t 460 (by decide +kernel) rfl
theorem bw_461 : (Jvm.Cond.instanceMethod ({ cls := "LiftScheduler$Simulation", name := "isOver", desc := "()Z" } : Jvm.MethodName)) ∈ BW := bw_t 461 (by decide +kernel) rfl
theorem bw_462 : (Jvm.Cond.selects "LiftScheduler$Simulation" ({ cls := "LiftScheduler$Simulation", name := "isOver", desc := "()Z" } : Jvm.MethodName) ({ cls := "LiftScheduler$Simulation", name := "isOver", desc := "()Z" } : Jvm.MethodName)) ∈ BW := bw_t 462 (by decide +kernel) rfl
theorem bw_463 : (Jvm.Cond.code ({ cls := "LiftScheduler$Simulation", name := "isOver", desc := "()Z" } : Jvm.MethodName) prog_5_method_13_code (1 : Nat) (Option.some Jvm.ClassFile.FieldType.boolean)) ∈ BW := bw_t 463 (by decide +kernel) rfl
theorem bw_464 : (Jvm.Cond.methodLink "LiftSchedulerLaw" (167 : Nat) ({ cls := "LiftScheduler", name := "run", desc := "(I)I" } : Jvm.MethodName)) ∈ BW := bw_t 464 (by decide +kernel) rfl
theorem bw_465 : (Jvm.Cond.instanceMethod ({ cls := "LiftScheduler", name := "run", desc := "(I)I" } : Jvm.MethodName)) ∈ BW := bw_t 465 (by decide +kernel) rfl
theorem bw_466 : (Jvm.Cond.selects "LiftScheduler" ({ cls := "LiftScheduler", name := "run", desc := "(I)I" } : Jvm.MethodName) ({ cls := "LiftScheduler", name := "run", desc := "(I)I" } : Jvm.MethodName)) ∈ BW := bw_t 466 (by decide +kernel) rfl
theorem bw_467 : (Jvm.Cond.code ({ cls := "LiftScheduler", name := "run", desc := "(I)I" } : Jvm.MethodName) prog_1_method_58_code (3 : Nat) (Option.some Jvm.ClassFile.FieldType.int)) ∈ BW := bw_t 467 (by decide +kernel) rfl
theorem bw_469 : (Jvm.Cond.classLink "LiftScheduler" (229 : Nat) "java/lang/IllegalStateException") ∈ BW := bw_t 469 (by decide +kernel) rfl
theorem bw_470 : (Jvm.Cond.instantiable "java/lang/IllegalStateException" (6 : Nat)) ∈ BW := bw_t 470 (by decide +kernel) rfl
theorem bw_472 : (Jvm.Cond.selects "java/lang/IllegalStateException" ({ cls := "java/lang/Throwable", name := "fillInStackTrace", desc := "(I)Ljava/lang/Throwable;" } : Jvm.MethodName) ({ cls := "java/lang/Throwable", name := "fillInStackTrace", desc := "(I)Ljava/lang/Throwable;" } : Jvm.MethodName)) ∈ BW := bw_t 472 (by decide +kernel) rfl
theorem bw_479 : (Jvm.Cond.methodLink "LiftScheduler" (233 : Nat) ({ cls := "java/lang/IllegalStateException", name := "<init>", desc := "(Ljava/lang/String;)V" } : Jvm.MethodName)) ∈ BW := bw_t 479 (by decide +kernel) rfl
theorem bw_480 : (Jvm.Cond.instanceMethod ({ cls := "java/lang/IllegalStateException", name := "<init>", desc := "(Ljava/lang/String;)V" } : Jvm.MethodName)) ∈ BW := bw_t 480 (by decide +kernel) rfl
theorem bw_481 : (Jvm.Cond.code ({ cls := "java/lang/IllegalStateException", name := "<init>", desc := "(Ljava/lang/String;)V" } : Jvm.MethodName) prog_15_method_2_code (2 : Nat) (Option.none : Option Jvm.ClassFile.FieldType)) ∈ BW := bw_t 481 (by decide +kernel) rfl
theorem bw_482 : (Jvm.Cond.methodLink "java/lang/IllegalStateException" (7 : Nat) ({ cls := "java/lang/RuntimeException", name := "<init>", desc := "(Ljava/lang/String;)V" } : Jvm.MethodName)) ∈ BW := bw_t 482 (by decide +kernel) rfl
theorem bw_484 : (Jvm.Cond.superclass "java/lang/IllegalStateException" "java/lang/RuntimeException") ∈ BW := bw_t 484 (by decide +kernel) rfl
theorem bw_485 : (Jvm.Cond.methodLink "LiftScheduler" (88 : Nat) ({ cls := "LiftScheduler", name := "rememberState", desc := "()V" } : Jvm.MethodName)) ∈ BW := bw_t 485 (by decide +kernel) rfl
theorem bw_487 : (Jvm.Cond.instanceMethod ({ cls := "LiftScheduler", name := "rememberState", desc := "()V" } : Jvm.MethodName)) ∈ BW := bw_t 487 (by decide +kernel) rfl
theorem bw_488 : (Jvm.Cond.code ({ cls := "LiftScheduler", name := "rememberState", desc := "()V" } : Jvm.MethodName) prog_1_method_64_code (1 : Nat) (Option.none : Option Jvm.ClassFile.FieldType)) ∈ BW := bw_t 488 (by decide +kernel) rfl
theorem bw_489 : (Jvm.Cond.methodLink "LiftScheduler" (79 : Nat) ({ cls := "LiftScheduler$Simulation", name := "copyFrom", desc := "(LLiftScheduler$Simulation;)V" } : Jvm.MethodName)) ∈ BW := bw_t 489 (by decide +kernel) rfl
theorem bw_490 : (Jvm.Cond.instanceMethod ({ cls := "LiftScheduler$Simulation", name := "copyFrom", desc := "(LLiftScheduler$Simulation;)V" } : Jvm.MethodName)) ∈ BW := bw_t 490 (by decide +kernel) rfl
theorem bw_491 : (Jvm.Cond.selects "LiftScheduler$Simulation" ({ cls := "LiftScheduler$Simulation", name := "copyFrom", desc := "(LLiftScheduler$Simulation;)V" } : Jvm.MethodName) ({ cls := "LiftScheduler$Simulation", name := "copyFrom", desc := "(LLiftScheduler$Simulation;)V" } : Jvm.MethodName)) ∈ BW := bw_t 491 (by decide +kernel) rfl
theorem bw_492 : (Jvm.Cond.code ({ cls := "LiftScheduler$Simulation", name := "copyFrom", desc := "(LLiftScheduler$Simulation;)V" } : Jvm.MethodName) prog_5_method_3_code (2 : Nat) (Option.none : Option Jvm.ClassFile.FieldType)) ∈ BW := bw_t 492 (by decide +kernel) rfl
theorem bw_493 : (Jvm.Cond.methodLink "LiftScheduler$Simulation" (75 : Nat) ({ cls := "java/lang/System", name := "arraycopy", desc := "(Ljava/lang/Object;ILjava/lang/Object;II)V" } : Jvm.MethodName)) ∈ BW := bw_t 493 (by decide +kernel) rfl
theorem bw_494 : (Jvm.Cond.static ({ cls := "java/lang/System", name := "arraycopy", desc := "(Ljava/lang/Object;ILjava/lang/Object;II)V" } : Jvm.MethodName)) ∈ BW := bw_t 494 (by decide +kernel) rfl
theorem bw_495 : (Jvm.Cond.native ({ cls := "java/lang/System", name := "arraycopy", desc := "(Ljava/lang/Object;ILjava/lang/Object;II)V" } : Jvm.MethodName)) ∈ BW := bw_t 495 (by decide +kernel) rfl
theorem bw_496 : (Jvm.Cond.methodLink "LiftScheduler" (247 : Nat) ({ cls := "java/lang/Math", name := "min", desc := "(II)I" } : Jvm.MethodName)) ∈ BW := bw_t 496 (by decide +kernel) rfl
theorem bw_497 : (Jvm.Cond.static ({ cls := "java/lang/Math", name := "min", desc := "(II)I" } : Jvm.MethodName)) ∈ BW := bw_t 497 (by decide +kernel) rfl
theorem bw_498 : (Jvm.Cond.code ({ cls := "java/lang/Math", name := "min", desc := "(II)I" } : Jvm.MethodName) prog_18_method_69_code (2 : Nat) (Option.some Jvm.ClassFile.FieldType.int)) ∈ BW := bw_t 498 (by decide +kernel) rfl
theorem bw_499 : (Jvm.Cond.methodLink "LiftScheduler" (242 : Nat) ({ cls := "LiftScheduler$Simulation", name := "tick", desc := "()V" } : Jvm.MethodName)) ∈ BW := bw_t 499 (by decide +kernel) rfl
theorem bw_500 : (Jvm.Cond.instanceMethod ({ cls := "LiftScheduler$Simulation", name := "tick", desc := "()V" } : Jvm.MethodName)) ∈ BW := bw_t 500 (by decide +kernel) rfl
theorem bw_501 : (Jvm.Cond.selects "LiftScheduler$Simulation" ({ cls := "LiftScheduler$Simulation", name := "tick", desc := "()V" } : Jvm.MethodName) ({ cls := "LiftScheduler$Simulation", name := "tick", desc := "()V" } : Jvm.MethodName)) ∈ BW := bw_t 501 (by decide +kernel) rfl
theorem bw_502 : (Jvm.Cond.code ({ cls := "LiftScheduler$Simulation", name := "tick", desc := "()V" } : Jvm.MethodName) prog_5_method_19_code (2 : Nat) (Option.none : Option Jvm.ClassFile.FieldType)) ∈ BW := bw_t 502 (by decide +kernel) rfl
theorem bw_503 : (Jvm.Cond.methodLink "LiftScheduler$Simulation" (110 : Nat) ({ cls := "LiftScheduler$Simulation", name := "findTarget", desc := "(I)I" } : Jvm.MethodName)) ∈ BW := bw_t 503 (by decide +kernel) rfl
theorem bw_504 : (Jvm.Cond.methodLink "LiftScheduler$Simulation" (113 : Nat) ({ cls := "LiftScheduler$Simulation", name := "openDoors", desc := "()V" } : Jvm.MethodName)) ∈ BW := bw_t 504 (by decide +kernel) rfl
theorem bw_506 : (Jvm.Cond.instanceMethod ({ cls := "LiftScheduler$Simulation", name := "openDoors", desc := "()V" } : Jvm.MethodName)) ∈ BW := bw_t 506 (by decide +kernel) rfl
theorem bw_507 : (Jvm.Cond.code ({ cls := "LiftScheduler$Simulation", name := "openDoors", desc := "()V" } : Jvm.MethodName) prog_5_method_21_code (3 : Nat) (Option.none : Option Jvm.ClassFile.FieldType)) ∈ BW := bw_t 507 (by decide +kernel) rfl
theorem bw_508 : (Jvm.Cond.methodLink "LiftScheduler$Simulation" (116 : Nat) ({ cls := "LiftScheduler$Simulation", name := "moveTowards", desc := "(I)V" } : Jvm.MethodName)) ∈ BW := bw_t 508 (by decide +kernel) rfl
theorem bw_510 : (Jvm.Cond.instanceMethod ({ cls := "LiftScheduler$Simulation", name := "moveTowards", desc := "(I)V" } : Jvm.MethodName)) ∈ BW := bw_t 510 (by decide +kernel) rfl
theorem bw_511 : (Jvm.Cond.code ({ cls := "LiftScheduler$Simulation", name := "moveTowards", desc := "(I)V" } : Jvm.MethodName) prog_5_method_22_code (3 : Nat) (Option.none : Option Jvm.ClassFile.FieldType)) ∈ BW := bw_t 511 (by decide +kernel) rfl
theorem bw_512 : (Jvm.Cond.methodLink "LiftSchedulerLaw" (164 : Nat) ({ cls := "LiftScheduler", name := "setCapacity", desc := "(I)I" } : Jvm.MethodName)) ∈ BW := bw_t 512 (by decide +kernel) rfl
theorem bw_513 : (Jvm.Cond.instanceMethod ({ cls := "LiftScheduler", name := "setCapacity", desc := "(I)I" } : Jvm.MethodName)) ∈ BW := bw_t 513 (by decide +kernel) rfl
theorem bw_514 : (Jvm.Cond.selects "LiftScheduler" ({ cls := "LiftScheduler", name := "setCapacity", desc := "(I)I" } : Jvm.MethodName) ({ cls := "LiftScheduler", name := "setCapacity", desc := "(I)I" } : Jvm.MethodName)) ∈ BW := bw_t 514 (by decide +kernel) rfl
theorem bw_515 : (Jvm.Cond.code ({ cls := "LiftScheduler", name := "setCapacity", desc := "(I)I" } : Jvm.MethodName) prog_1_method_61_code (3 : Nat) (Option.some Jvm.ClassFile.FieldType.int)) ∈ BW := bw_t 515 (by decide +kernel) rfl
theorem bw_516 : (Jvm.Cond.methodLink "LiftScheduler" (218 : Nat) ({ cls := "LiftScheduler", name := "requireCapacity", desc := "(I)V" } : Jvm.MethodName)) ∈ BW := bw_t 516 (by decide +kernel) rfl
theorem bw_518 : (Jvm.Cond.instanceMethod ({ cls := "LiftScheduler", name := "requireCapacity", desc := "(I)V" } : Jvm.MethodName)) ∈ BW := bw_t 518 (by decide +kernel) rfl
theorem bw_519 : (Jvm.Cond.code ({ cls := "LiftScheduler", name := "requireCapacity", desc := "(I)V" } : Jvm.MethodName) prog_1_method_76_code (2 : Nat) (Option.none : Option Jvm.ClassFile.FieldType)) ∈ BW := bw_t 519 (by decide +kernel) rfl
theorem bw_522 : (Jvm.Cond.classLink "LiftSchedulerLaw" (29 : Nat) "LiftSchedulerLaw$Random") ∈ BW := bw_t 522 (by decide +kernel) rfl
theorem bw_523 : (Jvm.Cond.instantiable "LiftSchedulerLaw$Random" (1 : Nat)) ∈ BW := bw_t 523 (by decide +kernel) rfl
theorem bw_524 : (Jvm.Cond.methodLink "LiftSchedulerLaw" (85 : Nat) ({ cls := "LiftSchedulerLaw$Random", name := "<init>", desc := "(I)V" } : Jvm.MethodName)) ∈ BW := bw_t 524 (by decide +kernel) rfl
theorem bw_525 : (Jvm.Cond.instanceMethod ({ cls := "LiftSchedulerLaw$Random", name := "<init>", desc := "(I)V" } : Jvm.MethodName)) ∈ BW := bw_t 525 (by decide +kernel) rfl
theorem bw_526 : (Jvm.Cond.code ({ cls := "LiftSchedulerLaw$Random", name := "<init>", desc := "(I)V" } : Jvm.MethodName) prog_7_method_1_code (2 : Nat) (Option.none : Option Jvm.ClassFile.FieldType)) ∈ BW := bw_t 526 (by decide +kernel) rfl
theorem bw_527 : (Jvm.Cond.methodLink "LiftSchedulerLaw$Random" (1 : Nat) ({ cls := "java/lang/Object", name := "<init>", desc := "()V" } : Jvm.MethodName)) ∈ BW := bw_t 527 (by decide +kernel) rfl
theorem bw_528 : (Jvm.Cond.fieldLink "LiftSchedulerLaw$Random" (7 : Nat) "LiftSchedulerLaw$Random" "v" "I") ∈ BW := bw_t 528 (by decide +kernel) rfl
theorem bw_531 : (Jvm.Cond.superclass "LiftSchedulerLaw$Random" "java/lang/Object") ∈ BW := bw_t 531 (by decide +kernel) rfl
theorem bw_532 : (Jvm.Cond.methodLink "LiftSchedulerLaw" (81 : Nat) ({ cls := "LiftSchedulerLaw", name := "draw", desc := "([II)I" } : Jvm.MethodName)) ∈ BW := bw_t 532 (by decide +kernel) rfl
theorem bw_533 : (Jvm.Cond.static ({ cls := "LiftSchedulerLaw", name := "draw", desc := "([II)I" } : Jvm.MethodName)) ∈ BW := bw_t 533 (by decide +kernel) rfl
theorem bw_534 : (Jvm.Cond.code ({ cls := "LiftSchedulerLaw", name := "draw", desc := "([II)I" } : Jvm.MethodName) method_2_code (2 : Nat) (Option.some Jvm.ClassFile.FieldType.int)) ∈ BW := bw_t 534 (by decide +kernel) rfl
theorem bw_535 : (Jvm.Cond.constant "LiftSchedulerLaw" (7 : Nat) (2147483647 : Int32)) ∈ BW := bw_t 535 (by decide +kernel) rfl
theorem bw_536 : (Jvm.Cond.methodLink "LiftSchedulerLaw" (89 : Nat) ({ cls := "LiftSchedulerLaw", name := "loads", desc := "(LLiftScheduler;LLiftSchedulerLaw$Random;II)Z" } : Jvm.MethodName)) ∈ BW := bw_t 536 (by decide +kernel) rfl
theorem bw_537 : (Jvm.Cond.static ({ cls := "LiftSchedulerLaw", name := "loads", desc := "(LLiftScheduler;LLiftSchedulerLaw$Random;II)Z" } : Jvm.MethodName)) ∈ BW := bw_t 537 (by decide +kernel) rfl
theorem bw_538 : (Jvm.Cond.code ({ cls := "LiftSchedulerLaw", name := "loads", desc := "(LLiftScheduler;LLiftSchedulerLaw$Random;II)Z" } : Jvm.MethodName) method_4_code (8 : Nat) (Option.some Jvm.ClassFile.FieldType.boolean)) ∈ BW := bw_t 538 (by decide +kernel) rfl
theorem bw_539 : (Jvm.Cond.methodLink "LiftSchedulerLaw" (28 : Nat) ({ cls := "LiftSchedulerLaw$Random", name := "next", desc := "(I)I" } : Jvm.MethodName)) ∈ BW := bw_t 539 (by decide +kernel) rfl
theorem bw_540 : (Jvm.Cond.instanceMethod ({ cls := "LiftSchedulerLaw$Random", name := "next", desc := "(I)I" } : Jvm.MethodName)) ∈ BW := bw_t 540 (by decide +kernel) rfl
theorem bw_541 : (Jvm.Cond.selects "LiftSchedulerLaw$Random" ({ cls := "LiftSchedulerLaw$Random", name := "next", desc := "(I)I" } : Jvm.MethodName) ({ cls := "LiftSchedulerLaw$Random", name := "next", desc := "(I)I" } : Jvm.MethodName)) ∈ BW := bw_t 541 (by decide +kernel) rfl
theorem bw_542 : (Jvm.Cond.code ({ cls := "LiftSchedulerLaw$Random", name := "next", desc := "(I)I" } : Jvm.MethodName) prog_7_method_2_code (2 : Nat) (Option.some Jvm.ClassFile.FieldType.int)) ∈ BW := bw_t 542 (by decide +kernel) rfl
theorem bw_543 : (Jvm.Cond.constant "LiftSchedulerLaw$Random" (13 : Nat) (1103515245 : Int32)) ∈ BW := bw_t 543 (by decide +kernel) rfl
theorem bw_544 : (Jvm.Cond.classLink "LiftSchedulerLaw" (34 : Nat) "java/lang/StringBuilder") ∈ BW := bw_t 544 (by decide +kernel) rfl
theorem bw_545 : (Jvm.Cond.instantiable "java/lang/StringBuilder" (4 : Nat)) ∈ BW := bw_t 545 (by decide +kernel) rfl
theorem bw_547 : (Jvm.Cond.methodLink "LiftSchedulerLaw" (38 : Nat) ({ cls := "java/lang/StringBuilder", name := "<init>", desc := "(Ljava/lang/String;)V" } : Jvm.MethodName)) ∈ BW := bw_t 547 (by decide +kernel) rfl
theorem bw_548 : (Jvm.Cond.instanceMethod ({ cls := "java/lang/StringBuilder", name := "<init>", desc := "(Ljava/lang/String;)V" } : Jvm.MethodName)) ∈ BW := bw_t 548 (by decide +kernel) rfl
theorem bw_549 : (Jvm.Cond.code ({ cls := "java/lang/StringBuilder", name := "<init>", desc := "(Ljava/lang/String;)V" } : Jvm.MethodName) prog_21_method_3_code (2 : Nat) (Option.none : Option Jvm.ClassFile.FieldType)) ∈ BW := bw_t 549 (by decide +kernel) rfl
theorem bw_550 : (Jvm.Cond.methodLink "java/lang/StringBuilder" (7 : Nat) ({ cls := "java/lang/AbstractStringBuilder", name := "<init>", desc := "(Ljava/lang/String;)V" } : Jvm.MethodName)) ∈ BW := bw_t 550 (by decide +kernel) rfl
theorem bw_551 : (Jvm.Cond.instanceMethod ({ cls := "java/lang/AbstractStringBuilder", name := "<init>", desc := "(Ljava/lang/String;)V" } : Jvm.MethodName)) ∈ BW := bw_t 551 (by decide +kernel) rfl
theorem bw_552 : (Jvm.Cond.code ({ cls := "java/lang/AbstractStringBuilder", name := "<init>", desc := "(Ljava/lang/String;)V" } : Jvm.MethodName) prog_9_method_3_code (5 : Nat) (Option.none : Option Jvm.ClassFile.FieldType)) ∈ BW := bw_t 552 (by decide +kernel) rfl
theorem bw_553 : (Jvm.Cond.methodLink "java/lang/AbstractStringBuilder" (3 : Nat) ({ cls := "java/lang/Object", name := "<init>", desc := "()V" } : Jvm.MethodName)) ∈ BW := bw_t 553 (by decide +kernel) rfl
theorem bw_554 : (Jvm.Cond.methodLink "java/lang/AbstractStringBuilder" (32 : Nat) ({ cls := "java/lang/String", name := "length", desc := "()I" } : Jvm.MethodName)) ∈ BW := bw_t 554 (by decide +kernel) rfl
theorem bw_555 : (Jvm.Cond.instanceMethod ({ cls := "java/lang/String", name := "length", desc := "()I" } : Jvm.MethodName)) ∈ BW := bw_t 555 (by decide +kernel) rfl
theorem bw_556 : (Jvm.Cond.selects "java/lang/String" ({ cls := "java/lang/String", name := "length", desc := "()I" } : Jvm.MethodName) ({ cls := "java/lang/String", name := "length", desc := "()I" } : Jvm.MethodName)) ∈ BW := bw_t 556 (by decide +kernel) rfl
theorem bw_557 : (Jvm.Cond.code ({ cls := "java/lang/String", name := "length", desc := "()I" } : Jvm.MethodName) prog_20_method_54_code (1 : Nat) (Option.some Jvm.ClassFile.FieldType.int)) ∈ BW := bw_t 557 (by decide +kernel) rfl
theorem bw_558 : (Jvm.Cond.methodLink "java/lang/String" (335 : Nat) ({ cls := "java/lang/String", name := "coder", desc := "()B" } : Jvm.MethodName)) ∈ BW := bw_t 558 (by decide +kernel) rfl
theorem bw_559 : (Jvm.Cond.instanceMethod ({ cls := "java/lang/String", name := "coder", desc := "()B" } : Jvm.MethodName)) ∈ BW := bw_t 559 (by decide +kernel) rfl
theorem bw_560 : (Jvm.Cond.selects "java/lang/String" ({ cls := "java/lang/String", name := "coder", desc := "()B" } : Jvm.MethodName) ({ cls := "java/lang/String", name := "coder", desc := "()B" } : Jvm.MethodName)) ∈ BW := bw_t 560 (by decide +kernel) rfl
theorem bw_561 : (Jvm.Cond.code ({ cls := "java/lang/String", name := "coder", desc := "()B" } : Jvm.MethodName) prog_20_method_152_code (1 : Nat) (Option.some Jvm.ClassFile.FieldType.byte)) ∈ BW := bw_t 561 (by decide +kernel) rfl
theorem bw_562 : (Jvm.Cond.fieldLink "java/lang/String" (38 : Nat) "java/lang/String" "COMPACT_STRINGS" "Z") ∈ BW := bw_t 562 (by decide +kernel) rfl
theorem bw_564 : (Jvm.Cond.constant "java/lang/AbstractStringBuilder" (38 : Nat) (2147483631 : Int32)) ∈ BW := bw_t 564 (by decide +kernel) rfl
theorem bw_565 : (Jvm.Cond.constant "java/lang/AbstractStringBuilder" (39 : Nat) (2147483647 : Int32)) ∈ BW := bw_t 565 (by decide +kernel) rfl
theorem bw_566 : (Jvm.Cond.methodLink "java/lang/AbstractStringBuilder" (40 : Nat) ({ cls := "java/lang/String", name := "coder", desc := "()B" } : Jvm.MethodName)) ∈ BW := bw_t 566 (by decide +kernel) rfl
theorem bw_567 : (Jvm.Cond.methodLink "java/lang/AbstractStringBuilder" (26 : Nat) ({ cls := "java/lang/StringUTF16", name := "newBytesFor", desc := "(I)[B" } : Jvm.MethodName)) ∈ BW := bw_t 567 (by decide +kernel) rfl
theorem bw_568 : (Jvm.Cond.static ({ cls := "java/lang/StringUTF16", name := "newBytesFor", desc := "(I)[B" } : Jvm.MethodName)) ∈ BW := bw_t 568 (by decide +kernel) rfl
theorem bw_569 : (Jvm.Cond.code ({ cls := "java/lang/StringUTF16", name := "newBytesFor", desc := "(I)[B" } : Jvm.MethodName) prog_23_method_2_code (1 : Nat) (Option.some (Jvm.ClassFile.FieldType.array Jvm.ClassFile.FieldType.byte))) ∈ BW := bw_t 569 (by decide +kernel) rfl
theorem bw_570 : (Jvm.Cond.methodLink "java/lang/StringUTF16" (11 : Nat) ({ cls := "java/lang/StringUTF16", name := "newBytesLength", desc := "(I)I" } : Jvm.MethodName)) ∈ BW := bw_t 570 (by decide +kernel) rfl
theorem bw_571 : (Jvm.Cond.static ({ cls := "java/lang/StringUTF16", name := "newBytesLength", desc := "(I)I" } : Jvm.MethodName)) ∈ BW := bw_t 571 (by decide +kernel) rfl
theorem bw_572 : (Jvm.Cond.code ({ cls := "java/lang/StringUTF16", name := "newBytesLength", desc := "(I)I" } : Jvm.MethodName) prog_23_method_3_code (1 : Nat) (Option.some Jvm.ClassFile.FieldType.int)) ∈ BW := bw_t 572 (by decide +kernel) rfl
theorem bw_573 : (Jvm.Cond.constant "java/lang/StringUTF16" (20 : Nat) (1073741823 : Int32)) ∈ BW := bw_t 573 (by decide +kernel) rfl
theorem bw_574 : (Jvm.Cond.methodLink "java/lang/AbstractStringBuilder" (43 : Nat) ({ cls := "java/lang/AbstractStringBuilder", name := "append", desc := "(Ljava/lang/String;)Ljava/lang/AbstractStringBuilder;" } : Jvm.MethodName)) ∈ BW := bw_t 574 (by decide +kernel) rfl
theorem bw_575 : (Jvm.Cond.instanceMethod ({ cls := "java/lang/AbstractStringBuilder", name := "append", desc := "(Ljava/lang/String;)Ljava/lang/AbstractStringBuilder;" } : Jvm.MethodName)) ∈ BW := bw_t 575 (by decide +kernel) rfl
theorem bw_576 : (Jvm.Cond.sameMethod "java/lang/AbstractStringBuilder" "java/lang/AbstractStringBuilder" "append" "(Ljava/lang/String;)Ljava/lang/AbstractStringBuilder;") ∈ BW := bw_t 576 (by decide +kernel) rfl
theorem bw_577 : (Jvm.Cond.selects "java/lang/StringBuilder" ({ cls := "java/lang/AbstractStringBuilder", name := "append", desc := "(Ljava/lang/String;)Ljava/lang/AbstractStringBuilder;" } : Jvm.MethodName) ({ cls := "java/lang/StringBuilder", name := "append", desc := "(Ljava/lang/String;)Ljava/lang/AbstractStringBuilder;" } : Jvm.MethodName)) ∈ BW := bw_t 577 (by decide +kernel) rfl
theorem bw_578 : (Jvm.Cond.instanceMethod ({ cls := "java/lang/StringBuilder", name := "append", desc := "(Ljava/lang/String;)Ljava/lang/AbstractStringBuilder;" } : Jvm.MethodName)) ∈ BW := bw_t 578 (by decide +kernel) rfl
theorem bw_579 : (Jvm.Cond.code ({ cls := "java/lang/StringBuilder", name := "append", desc := "(Ljava/lang/String;)Ljava/lang/AbstractStringBuilder;" } : Jvm.MethodName) prog_21_method_80_code (2 : Nat) (Option.some (Jvm.ClassFile.FieldType.object "java/lang/AbstractStringBuilder"))) ∈ BW := bw_t 579 (by decide +kernel) rfl
theorem bw_580 : (Jvm.Cond.methodLink "java/lang/StringBuilder" (23 : Nat) ({ cls := "java/lang/StringBuilder", name := "append", desc := "(Ljava/lang/String;)Ljava/lang/StringBuilder;" } : Jvm.MethodName)) ∈ BW := bw_t 580 (by decide +kernel) rfl
theorem bw_581 : (Jvm.Cond.instanceMethod ({ cls := "java/lang/StringBuilder", name := "append", desc := "(Ljava/lang/String;)Ljava/lang/StringBuilder;" } : Jvm.MethodName)) ∈ BW := bw_t 581 (by decide +kernel) rfl
theorem bw_582 : (Jvm.Cond.selects "java/lang/StringBuilder" ({ cls := "java/lang/StringBuilder", name := "append", desc := "(Ljava/lang/String;)Ljava/lang/StringBuilder;" } : Jvm.MethodName) ({ cls := "java/lang/StringBuilder", name := "append", desc := "(Ljava/lang/String;)Ljava/lang/StringBuilder;" } : Jvm.MethodName)) ∈ BW := bw_t 582 (by decide +kernel) rfl
theorem bw_583 : (Jvm.Cond.code ({ cls := "java/lang/StringBuilder", name := "append", desc := "(Ljava/lang/String;)Ljava/lang/StringBuilder;" } : Jvm.MethodName) prog_21_method_7_code (2 : Nat) (Option.some (Jvm.ClassFile.FieldType.object "java/lang/StringBuilder"))) ∈ BW := bw_t 583 (by decide +kernel) rfl
theorem bw_584 : (Jvm.Cond.methodLink "java/lang/StringBuilder" (29 : Nat) ({ cls := "java/lang/AbstractStringBuilder", name := "append", desc := "(Ljava/lang/String;)Ljava/lang/AbstractStringBuilder;" } : Jvm.MethodName)) ∈ BW := bw_t 584 (by decide +kernel) rfl
theorem bw_585 : (Jvm.Cond.superclass "java/lang/StringBuilder" "java/lang/AbstractStringBuilder") ∈ BW := bw_t 585 (by decide +kernel) rfl
theorem bw_586 : (Jvm.Cond.code ({ cls := "java/lang/AbstractStringBuilder", name := "append", desc := "(Ljava/lang/String;)Ljava/lang/AbstractStringBuilder;" } : Jvm.MethodName) prog_9_method_22_code (3 : Nat) (Option.some (Jvm.ClassFile.FieldType.object "java/lang/AbstractStringBuilder"))) ∈ BW := bw_t 586 (by decide +kernel) rfl
theorem bw_587 : (Jvm.Cond.methodLink "java/lang/AbstractStringBuilder" (204 : Nat) ({ cls := "java/lang/AbstractStringBuilder", name := "appendNull", desc := "()Ljava/lang/AbstractStringBuilder;" } : Jvm.MethodName)) ∈ BW := bw_t 587 (by decide +kernel) rfl
theorem bw_589 : (Jvm.Cond.instanceMethod ({ cls := "java/lang/AbstractStringBuilder", name := "appendNull", desc := "()Ljava/lang/AbstractStringBuilder;" } : Jvm.MethodName)) ∈ BW := bw_t 589 (by decide +kernel) rfl
theorem bw_590 : (Jvm.Cond.code ({ cls := "java/lang/AbstractStringBuilder", name := "appendNull", desc := "()Ljava/lang/AbstractStringBuilder;" } : Jvm.MethodName) prog_9_method_26_code (3 : Nat) (Option.some (Jvm.ClassFile.FieldType.object "java/lang/AbstractStringBuilder"))) ∈ BW := bw_t 590 (by decide +kernel) rfl
theorem bw_591 : (Jvm.Cond.methodLink "java/lang/AbstractStringBuilder" (100 : Nat) ({ cls := "java/lang/AbstractStringBuilder", name := "ensureCapacityInternal", desc := "(I)V" } : Jvm.MethodName)) ∈ BW := bw_t 591 (by decide +kernel) rfl
theorem bw_593 : (Jvm.Cond.instanceMethod ({ cls := "java/lang/AbstractStringBuilder", name := "ensureCapacityInternal", desc := "(I)V" } : Jvm.MethodName)) ∈ BW := bw_t 593 (by decide +kernel) rfl
theorem bw_594 : (Jvm.Cond.code ({ cls := "java/lang/AbstractStringBuilder", name := "ensureCapacityInternal", desc := "(I)V" } : Jvm.MethodName) prog_9_method_9_code (3 : Nat) (Option.none : Option Jvm.ClassFile.FieldType)) ∈ BW := bw_t 594 (by decide +kernel) rfl
theorem bw_595 : (Jvm.Cond.methodLink "java/lang/AbstractStringBuilder" (104 : Nat) ({ cls := "java/lang/AbstractStringBuilder", name := "newCapacity", desc := "(I)I" } : Jvm.MethodName)) ∈ BW := bw_t 595 (by decide +kernel) rfl
theorem bw_597 : (Jvm.Cond.instanceMethod ({ cls := "java/lang/AbstractStringBuilder", name := "newCapacity", desc := "(I)I" } : Jvm.MethodName)) ∈ BW := bw_t 597 (by decide +kernel) rfl
theorem bw_598 : (Jvm.Cond.code ({ cls := "java/lang/AbstractStringBuilder", name := "newCapacity", desc := "(I)I" } : Jvm.MethodName) prog_9_method_10_code (6 : Nat) (Option.some Jvm.ClassFile.FieldType.int)) ∈ BW := bw_t 598 (by decide +kernel) rfl
theorem bw_599 : (Jvm.Cond.methodLink "java/lang/AbstractStringBuilder" (114 : Nat) ({ cls := "jdk/internal/util/ArraysSupport", name := "newLength", desc := "(III)I" } : Jvm.MethodName)) ∈ BW := bw_t 599 (by decide +kernel) rfl
theorem bw_600 : (Jvm.Cond.static ({ cls := "jdk/internal/util/ArraysSupport", name := "newLength", desc := "(III)I" } : Jvm.MethodName)) ∈ BW := bw_t 600 (by decide +kernel) rfl
theorem bw_601 : (Jvm.Cond.code ({ cls := "jdk/internal/util/ArraysSupport", name := "newLength", desc := "(III)I" } : Jvm.MethodName) prog_27_method_27_code (4 : Nat) (Option.some Jvm.ClassFile.FieldType.int)) ∈ BW := bw_t 601 (by decide +kernel) rfl
theorem bw_602 : (Jvm.Cond.methodLink "jdk/internal/util/ArraysSupport" (194 : Nat) ({ cls := "java/lang/Math", name := "max", desc := "(II)I" } : Jvm.MethodName)) ∈ BW := bw_t 602 (by decide +kernel) rfl
theorem bw_603 : (Jvm.Cond.constant "jdk/internal/util/ArraysSupport" (200 : Nat) (2147483639 : Int32)) ∈ BW := bw_t 603 (by decide +kernel) rfl
theorem bw_604 : (Jvm.Cond.methodLink "jdk/internal/util/ArraysSupport" (201 : Nat) ({ cls := "jdk/internal/util/ArraysSupport", name := "hugeLength", desc := "(II)I" } : Jvm.MethodName)) ∈ BW := bw_t 604 (by decide +kernel) rfl
theorem bw_605 : (Jvm.Cond.static ({ cls := "jdk/internal/util/ArraysSupport", name := "hugeLength", desc := "(II)I" } : Jvm.MethodName)) ∈ BW := bw_t 605 (by decide +kernel) rfl
theorem bw_606 : (Jvm.Cond.code ({ cls := "jdk/internal/util/ArraysSupport", name := "hugeLength", desc := "(II)I" } : Jvm.MethodName) prog_27_method_28_code (3 : Nat) (Option.some Jvm.ClassFile.FieldType.int)) ∈ BW := bw_t 606 (by decide +kernel) rfl
theorem bw_607 : (Jvm.Cond.methodLink "java/lang/AbstractStringBuilder" (108 : Nat) ({ cls := "java/util/Arrays", name := "copyOf", desc := "([BI)[B" } : Jvm.MethodName)) ∈ BW := bw_t 607 (by decide +kernel) rfl
theorem bw_608 : (Jvm.Cond.static ({ cls := "java/util/Arrays", name := "copyOf", desc := "([BI)[B" } : Jvm.MethodName)) ∈ BW := bw_t 608 (by decide +kernel) rfl
theorem bw_609 : (Jvm.Cond.code ({ cls := "java/util/Arrays", name := "copyOf", desc := "([BI)[B" } : Jvm.MethodName) prog_26_method_121_code (3 : Nat) (Option.some (Jvm.ClassFile.FieldType.array Jvm.ClassFile.FieldType.byte))) ∈ BW := bw_t 609 (by decide +kernel) rfl
theorem bw_610 : (Jvm.Cond.methodLink "java/util/Arrays" (310 : Nat) ({ cls := "[B", name := "clone", desc := "()Ljava/lang/Object;" } : Jvm.MethodName)) ∈ BW := bw_t 610 (by decide +kernel) rfl
theorem bw_611 : (Jvm.Cond.sameMethod "[B" "java/lang/Object" "clone" "()Ljava/lang/Object;") ∈ BW := bw_t 611 (by decide +kernel) rfl
theorem bw_612 : (Jvm.Cond.native ({ cls := "java/lang/Object", name := "clone", desc := "()Ljava/lang/Object;" } : Jvm.MethodName)) ∈ BW := bw_t 612 (by decide +kernel) rfl
theorem bw_613 : (Jvm.Cond.instanceMethod ({ cls := "java/lang/Object", name := "clone", desc := "()Ljava/lang/Object;" } : Jvm.MethodName)) ∈ BW := bw_t 613 (by decide +kernel) rfl
theorem bw_614 : (Jvm.Cond.selects "[B" ({ cls := "[B", name := "clone", desc := "()Ljava/lang/Object;" } : Jvm.MethodName) ({ cls := "java/lang/Object", name := "clone", desc := "()Ljava/lang/Object;" } : Jvm.MethodName)) ∈ BW := bw_t 614 (by decide +kernel) rfl
theorem bw_616 : (Jvm.Cond.classLink "java/util/Arrays" (311 : Nat) "[B") ∈ BW := bw_t 616 (by decide +kernel) rfl
theorem bw_617 : (Jvm.Cond.methodLink "java/util/Arrays" (304 : Nat) ({ cls := "java/lang/Math", name := "min", desc := "(II)I" } : Jvm.MethodName)) ∈ BW := bw_t 617 (by decide +kernel) rfl
theorem bw_618 : (Jvm.Cond.methodLink "java/util/Arrays" (150 : Nat) ({ cls := "java/lang/System", name := "arraycopy", desc := "(Ljava/lang/Object;ILjava/lang/Object;II)V" } : Jvm.MethodName)) ∈ BW := bw_t 618 (by decide +kernel) rfl
theorem bw_619 : (Jvm.Cond.methodLink "java/lang/AbstractStringBuilder" (83 : Nat) ({ cls := "java/lang/AbstractStringBuilder", name := "isLatin1", desc := "()Z" } : Jvm.MethodName)) ∈ BW := bw_t 619 (by decide +kernel) rfl
theorem bw_620 : (Jvm.Cond.instanceMethod ({ cls := "java/lang/AbstractStringBuilder", name := "isLatin1", desc := "()Z" } : Jvm.MethodName)) ∈ BW := bw_t 620 (by decide +kernel) rfl
theorem bw_621 : (Jvm.Cond.sameMethod "java/lang/AbstractStringBuilder" "java/lang/AbstractStringBuilder" "isLatin1" "()Z") ∈ BW := bw_t 621 (by decide +kernel) rfl
theorem bw_622 : (Jvm.Cond.selects "java/lang/StringBuilder" ({ cls := "java/lang/AbstractStringBuilder", name := "isLatin1", desc := "()Z" } : Jvm.MethodName) ({ cls := "java/lang/AbstractStringBuilder", name := "isLatin1", desc := "()Z" } : Jvm.MethodName)) ∈ BW := bw_t 622 (by decide +kernel) rfl
theorem bw_623 : (Jvm.Cond.code ({ cls := "java/lang/AbstractStringBuilder", name := "isLatin1", desc := "()Z" } : Jvm.MethodName) prog_9_method_68_code (1 : Nat) (Option.some Jvm.ClassFile.FieldType.boolean)) ∈ BW := bw_t 623 (by decide +kernel) rfl
theorem bw_624 : (Jvm.Cond.fieldLink "java/lang/AbstractStringBuilder" (18 : Nat) "java/lang/String" "COMPACT_STRINGS" "Z") ∈ BW := bw_t 624 (by decide +kernel) rfl
theorem bw_625 : (Jvm.Cond.methodLink "java/lang/AbstractStringBuilder" (226 : Nat) ({ cls := "java/lang/StringUTF16", name := "putCharsAt", desc := "([BICCCC)I" } : Jvm.MethodName)) ∈ BW := bw_t 625 (by decide +kernel) rfl
theorem bw_626 : (Jvm.Cond.static ({ cls := "java/lang/StringUTF16", name := "putCharsAt", desc := "([BICCCC)I" } : Jvm.MethodName)) ∈ BW := bw_t 626 (by decide +kernel) rfl
theorem bw_627 : (Jvm.Cond.code ({ cls := "java/lang/StringUTF16", name := "putCharsAt", desc := "([BICCCC)I" } : Jvm.MethodName) prog_23_method_81_code (7 : Nat) (Option.some Jvm.ClassFile.FieldType.int)) ∈ BW := bw_t 627 (by decide +kernel) rfl
theorem bw_628 : (Jvm.Cond.methodLink "java/lang/StringUTF16" (96 : Nat) ({ cls := "java/lang/StringUTF16", name := "checkBoundsBeginEnd", desc := "(II[B)V" } : Jvm.MethodName)) ∈ BW := bw_t 628 (by decide +kernel) rfl
theorem bw_629 : (Jvm.Cond.static ({ cls := "java/lang/StringUTF16", name := "checkBoundsBeginEnd", desc := "(II[B)V" } : Jvm.MethodName)) ∈ BW := bw_t 629 (by decide +kernel) rfl
theorem bw_630 : (Jvm.Cond.code ({ cls := "java/lang/StringUTF16", name := "checkBoundsBeginEnd", desc := "(II[B)V" } : Jvm.MethodName) prog_23_method_93_code (3 : Nat) (Option.none : Option Jvm.ClassFile.FieldType)) ∈ BW := bw_t 630 (by decide +kernel) rfl
theorem bw_631 : (Jvm.Cond.methodLink "java/lang/StringUTF16" (48 : Nat) ({ cls := "java/lang/StringUTF16", name := "length", desc := "([B)I" } : Jvm.MethodName)) ∈ BW := bw_t 631 (by decide +kernel) rfl
theorem bw_632 : (Jvm.Cond.static ({ cls := "java/lang/StringUTF16", name := "length", desc := "([B)I" } : Jvm.MethodName)) ∈ BW := bw_t 632 (by decide +kernel) rfl
theorem bw_633 : (Jvm.Cond.code ({ cls := "java/lang/StringUTF16", name := "length", desc := "([B)I" } : Jvm.MethodName) prog_23_method_6_code (1 : Nat) (Option.some Jvm.ClassFile.FieldType.int)) ∈ BW := bw_t 633 (by decide +kernel) rfl
theorem bw_634 : (Jvm.Cond.methodLink "java/lang/StringUTF16" (241 : Nat) ({ cls := "java/lang/String", name := "checkBoundsBeginEnd", desc := "(III)V" } : Jvm.MethodName)) ∈ BW := bw_t 634 (by decide +kernel) rfl
theorem bw_635 : (Jvm.Cond.static ({ cls := "java/lang/String", name := "checkBoundsBeginEnd", desc := "(III)V" } : Jvm.MethodName)) ∈ BW := bw_t 635 (by decide +kernel) rfl
theorem bw_636 : (Jvm.Cond.code ({ cls := "java/lang/String", name := "checkBoundsBeginEnd", desc := "(III)V" } : Jvm.MethodName) prog_20_method_158_code (3 : Nat) (Option.none : Option Jvm.ClassFile.FieldType)) ∈ BW := bw_t 636 (by decide +kernel) rfl
theorem bw_637 : (Jvm.Cond.fieldLink "java/lang/String" (1053 : Nat) "jdk/internal/util/Preconditions" "SIOOBE_FORMATTER" "Ljava/util/function/BiFunction;") ∈ BW := bw_t 637 (by decide +kernel) rfl
theorem bw_639 : (Jvm.Cond.methodLink "java/lang/String" (1062 : Nat) ({ cls := "jdk/internal/util/Preconditions", name := "checkFromToIndex", desc := "(IIILjava/util/function/BiFunction;)I" } : Jvm.MethodName)) ∈ BW := bw_t 639 (by decide +kernel) rfl
theorem bw_640 : (Jvm.Cond.static ({ cls := "jdk/internal/util/Preconditions", name := "checkFromToIndex", desc := "(IIILjava/util/function/BiFunction;)I" } : Jvm.MethodName)) ∈ BW := bw_t 640 (by decide +kernel) rfl
theorem bw_641 : (Jvm.Cond.code ({ cls := "jdk/internal/util/Preconditions", name := "checkFromToIndex", desc := "(IIILjava/util/function/BiFunction;)I" } : Jvm.MethodName) prog_28_method_12_code (4 : Nat) (Option.some Jvm.ClassFile.FieldType.int)) ∈ BW := bw_t 641 (by decide +kernel) rfl
theorem bw_642 : (Jvm.Cond.methodLink "java/lang/StringUTF16" (111 : Nat) ({ cls := "java/lang/StringUTF16", name := "putChar", desc := "([BII)V" } : Jvm.MethodName)) ∈ BW := bw_t 642 (by decide +kernel) rfl
theorem bw_643 : (Jvm.Cond.static ({ cls := "java/lang/StringUTF16", name := "putChar", desc := "([BII)V" } : Jvm.MethodName)) ∈ BW := bw_t 643 (by decide +kernel) rfl
theorem bw_644 : (Jvm.Cond.code ({ cls := "java/lang/StringUTF16", name := "putChar", desc := "([BII)V" } : Jvm.MethodName) prog_23_method_4_code (3 : Nat) (Option.none : Option Jvm.ClassFile.FieldType)) ∈ BW := bw_t 644 (by decide +kernel) rfl
theorem bw_645 : (Jvm.Cond.fieldLink "java/lang/StringUTF16" (44 : Nat) "java/lang/StringUTF16" "$assertionsDisabled" "Z") ∈ BW := bw_t 645 (by decide +kernel) rfl
theorem bw_647 : (Jvm.Cond.fieldLink "java/lang/StringUTF16" (59 : Nat) "java/lang/StringUTF16" "HI_BYTE_SHIFT" "I") ∈ BW := bw_t 647 (by decide +kernel) rfl
theorem bw_649 : (Jvm.Cond.fieldLink "java/lang/StringUTF16" (63 : Nat) "java/lang/StringUTF16" "LO_BYTE_SHIFT" "I") ∈ BW := bw_t 649 (by decide +kernel) rfl
theorem bw_651 : (Jvm.Cond.methodLink "java/lang/AbstractStringBuilder" (208 : Nat) ({ cls := "java/lang/AbstractStringBuilder", name := "putStringAt", desc := "(ILjava/lang/String;)V" } : Jvm.MethodName)) ∈ BW := bw_t 651 (by decide +kernel) rfl
theorem bw_653 : (Jvm.Cond.instanceMethod ({ cls := "java/lang/AbstractStringBuilder", name := "putStringAt", desc := "(ILjava/lang/String;)V" } : Jvm.MethodName)) ∈ BW := bw_t 653 (by decide +kernel) rfl
theorem bw_654 : (Jvm.Cond.code ({ cls := "java/lang/AbstractStringBuilder", name := "putStringAt", desc := "(ILjava/lang/String;)V" } : Jvm.MethodName) prog_9_method_73_code (3 : Nat) (Option.none : Option Jvm.ClassFile.FieldType)) ∈ BW := bw_t 654 (by decide +kernel) rfl
theorem bw_655 : (Jvm.Cond.methodLink "java/lang/AbstractStringBuilder" (397 : Nat) ({ cls := "java/lang/AbstractStringBuilder", name := "inflateIfNeededFor", desc := "(Ljava/lang/String;)V" } : Jvm.MethodName)) ∈ BW := bw_t 655 (by decide +kernel) rfl
theorem bw_657 : (Jvm.Cond.instanceMethod ({ cls := "java/lang/AbstractStringBuilder", name := "inflateIfNeededFor", desc := "(Ljava/lang/String;)V" } : Jvm.MethodName)) ∈ BW := bw_t 657 (by decide +kernel) rfl
theorem bw_658 : (Jvm.Cond.code ({ cls := "java/lang/AbstractStringBuilder", name := "inflateIfNeededFor", desc := "(Ljava/lang/String;)V" } : Jvm.MethodName) prog_9_method_71_code (2 : Nat) (Option.none : Option Jvm.ClassFile.FieldType)) ∈ BW := bw_t 658 (by decide +kernel) rfl
theorem bw_659 : (Jvm.Cond.methodLink "java/lang/AbstractStringBuilder" (195 : Nat) ({ cls := "java/lang/AbstractStringBuilder", name := "inflate", desc := "()V" } : Jvm.MethodName)) ∈ BW := bw_t 659 (by decide +kernel) rfl
theorem bw_661 : (Jvm.Cond.instanceMethod ({ cls := "java/lang/AbstractStringBuilder", name := "inflate", desc := "()V" } : Jvm.MethodName)) ∈ BW := bw_t 661 (by decide +kernel) rfl
theorem bw_662 : (Jvm.Cond.code ({ cls := "java/lang/AbstractStringBuilder", name := "inflate", desc := "()V" } : Jvm.MethodName) prog_9_method_11_code (2 : Nat) (Option.none : Option Jvm.ClassFile.FieldType)) ∈ BW := bw_t 662 (by decide +kernel) rfl
theorem bw_663 : (Jvm.Cond.methodLink "java/lang/AbstractStringBuilder" (125 : Nat) ({ cls := "java/lang/StringLatin1", name := "inflate", desc := "([BI[BII)V" } : Jvm.MethodName)) ∈ BW := bw_t 663 (by decide +kernel) rfl
theorem bw_664 : (Jvm.Cond.static ({ cls := "java/lang/StringLatin1", name := "inflate", desc := "([BI[BII)V" } : Jvm.MethodName)) ∈ BW := bw_t 664 (by decide +kernel) rfl
theorem bw_665 : (Jvm.Cond.code ({ cls := "java/lang/StringLatin1", name := "inflate", desc := "([BI[BII)V" } : Jvm.MethodName) prog_22_method_50_code (5 : Nat) (Option.none : Option Jvm.ClassFile.FieldType)) ∈ BW := bw_t 665 (by decide +kernel) rfl
theorem bw_666 : (Jvm.Cond.methodLink "java/lang/StringLatin1" (240 : Nat) ({ cls := "java/lang/StringUTF16", name := "inflate", desc := "([BI[BII)V" } : Jvm.MethodName)) ∈ BW := bw_t 666 (by decide +kernel) rfl
theorem bw_667 : (Jvm.Cond.static ({ cls := "java/lang/StringUTF16", name := "inflate", desc := "([BI[BII)V" } : Jvm.MethodName)) ∈ BW := bw_t 667 (by decide +kernel) rfl
theorem bw_668 : (Jvm.Cond.code ({ cls := "java/lang/StringUTF16", name := "inflate", desc := "([BI[BII)V" } : Jvm.MethodName) prog_23_method_86_code (6 : Nat) (Option.none : Option Jvm.ClassFile.FieldType)) ∈ BW := bw_t 668 (by decide +kernel) rfl
theorem bw_669 : (Jvm.Cond.methodLink "java/lang/StringUTF16" (173 : Nat) ({ cls := "java/lang/StringUTF16", name := "checkBoundsOffCount", desc := "(II[B)V" } : Jvm.MethodName)) ∈ BW := bw_t 669 (by decide +kernel) rfl
theorem bw_670 : (Jvm.Cond.static ({ cls := "java/lang/StringUTF16", name := "checkBoundsOffCount", desc := "(II[B)V" } : Jvm.MethodName)) ∈ BW := bw_t 670 (by decide +kernel) rfl
theorem bw_671 : (Jvm.Cond.code ({ cls := "java/lang/StringUTF16", name := "checkBoundsOffCount", desc := "(II[B)V" } : Jvm.MethodName) prog_23_method_94_code (3 : Nat) (Option.none : Option Jvm.ClassFile.FieldType)) ∈ BW := bw_t 671 (by decide +kernel) rfl
theorem bw_672 : (Jvm.Cond.methodLink "java/lang/StringUTF16" (419 : Nat) ({ cls := "java/lang/String", name := "checkBoundsOffCount", desc := "(III)I" } : Jvm.MethodName)) ∈ BW := bw_t 672 (by decide +kernel) rfl
theorem bw_673 : (Jvm.Cond.static ({ cls := "java/lang/String", name := "checkBoundsOffCount", desc := "(III)I" } : Jvm.MethodName)) ∈ BW := bw_t 673 (by decide +kernel) rfl
theorem bw_674 : (Jvm.Cond.code ({ cls := "java/lang/String", name := "checkBoundsOffCount", desc := "(III)I" } : Jvm.MethodName) prog_20_method_157_code (3 : Nat) (Option.some Jvm.ClassFile.FieldType.int)) ∈ BW := bw_t 674 (by decide +kernel) rfl
theorem bw_675 : (Jvm.Cond.methodLink "java/lang/String" (1065 : Nat) ({ cls := "jdk/internal/util/Preconditions", name := "checkFromIndexSize", desc := "(IIILjava/util/function/BiFunction;)I" } : Jvm.MethodName)) ∈ BW := bw_t 675 (by decide +kernel) rfl
theorem bw_676 : (Jvm.Cond.static ({ cls := "jdk/internal/util/Preconditions", name := "checkFromIndexSize", desc := "(IIILjava/util/function/BiFunction;)I" } : Jvm.MethodName)) ∈ BW := bw_t 676 (by decide +kernel) rfl
theorem bw_677 : (Jvm.Cond.code ({ cls := "jdk/internal/util/Preconditions", name := "checkFromIndexSize", desc := "(IIILjava/util/function/BiFunction;)I" } : Jvm.MethodName) prog_28_method_13_code (4 : Nat) (Option.some Jvm.ClassFile.FieldType.int)) ∈ BW := bw_t 677 (by decide +kernel) rfl
theorem bw_678 : (Jvm.Cond.methodLink "java/lang/AbstractStringBuilder" (399 : Nat) ({ cls := "java/lang/String", name := "getBytes", desc := "([BIB)V" } : Jvm.MethodName)) ∈ BW := bw_t 678 (by decide +kernel) rfl
theorem bw_679 : (Jvm.Cond.instanceMethod ({ cls := "java/lang/String", name := "getBytes", desc := "([BIB)V" } : Jvm.MethodName)) ∈ BW := bw_t 679 (by decide +kernel) rfl
theorem bw_680 : (Jvm.Cond.selects "java/lang/String" ({ cls := "java/lang/String", name := "getBytes", desc := "([BIB)V" } : Jvm.MethodName) ({ cls := "java/lang/String", name := "getBytes", desc := "([BIB)V" } : Jvm.MethodName)) ∈ BW := bw_t 680 (by decide +kernel) rfl
theorem bw_681 : (Jvm.Cond.code ({ cls := "java/lang/String", name := "getBytes", desc := "([BIB)V" } : Jvm.MethodName) prog_20_method_147_code (4 : Nat) (Option.none : Option Jvm.ClassFile.FieldType)) ∈ BW := bw_t 681 (by decide +kernel) rfl
theorem bw_682 : (Jvm.Cond.methodLink "java/lang/String" (212 : Nat) ({ cls := "java/lang/System", name := "arraycopy", desc := "(Ljava/lang/Object;ILjava/lang/Object;II)V" } : Jvm.MethodName)) ∈ BW := bw_t 682 (by decide +kernel) rfl
theorem bw_683 : (Jvm.Cond.methodLink "java/lang/String" (106 : Nat) ({ cls := "java/lang/StringLatin1", name := "inflate", desc := "([BI[BII)V" } : Jvm.MethodName)) ∈ BW := bw_t 683 (by decide +kernel) rfl
theorem bw_684 : (Jvm.Cond.fieldLink "java/lang/AbstractStringBuilder" (15 : Nat) "java/lang/AbstractStringBuilder" "value" "[B") ∈ BW := bw_t 684 (by decide +kernel) rfl
theorem bw_685 : (Jvm.Cond.fieldLink "java/lang/AbstractStringBuilder" (22 : Nat) "java/lang/AbstractStringBuilder" "coder" "B") ∈ BW := bw_t 685 (by decide +kernel) rfl
theorem bw_686 : (Jvm.Cond.fieldLink "java/lang/AbstractStringBuilder" (79 : Nat) "java/lang/AbstractStringBuilder" "count" "I") ∈ BW := bw_t 686 (by decide +kernel) rfl
theorem bw_695 : (Jvm.Cond.methodLink "LiftSchedulerLaw" (41 : Nat) ({ cls := "java/lang/StringBuilder", name := "append", desc := "(I)Ljava/lang/StringBuilder;" } : Jvm.MethodName)) ∈ BW := bw_t 695 (by decide +kernel) rfl
theorem bw_696 : (Jvm.Cond.instanceMethod ({ cls := "java/lang/StringBuilder", name := "append", desc := "(I)Ljava/lang/StringBuilder;" } : Jvm.MethodName)) ∈ BW := bw_t 696 (by decide +kernel) rfl
theorem bw_697 : (Jvm.Cond.selects "java/lang/StringBuilder" ({ cls := "java/lang/StringBuilder", name := "append", desc := "(I)Ljava/lang/StringBuilder;" } : Jvm.MethodName) ({ cls := "java/lang/StringBuilder", name := "append", desc := "(I)Ljava/lang/StringBuilder;" } : Jvm.MethodName)) ∈ BW := bw_t 697 (by decide +kernel) rfl
theorem bw_698 : (Jvm.Cond.code ({ cls := "java/lang/StringBuilder", name := "append", desc := "(I)Ljava/lang/StringBuilder;" } : Jvm.MethodName) prog_21_method_15_code (2 : Nat) (Option.some (Jvm.ClassFile.FieldType.object "java/lang/StringBuilder"))) ∈ BW := bw_t 698 (by decide +kernel) rfl
theorem bw_699 : (Jvm.Cond.methodLink "java/lang/StringBuilder" (53 : Nat) ({ cls := "java/lang/AbstractStringBuilder", name := "append", desc := "(I)Ljava/lang/AbstractStringBuilder;" } : Jvm.MethodName)) ∈ BW := bw_t 699 (by decide +kernel) rfl
theorem bw_700 : (Jvm.Cond.instanceMethod ({ cls := "java/lang/AbstractStringBuilder", name := "append", desc := "(I)Ljava/lang/AbstractStringBuilder;" } : Jvm.MethodName)) ∈ BW := bw_t 700 (by decide +kernel) rfl
theorem bw_701 : (Jvm.Cond.code ({ cls := "java/lang/AbstractStringBuilder", name := "append", desc := "(I)Ljava/lang/AbstractStringBuilder;" } : Jvm.MethodName) prog_9_method_32_code (4 : Nat) (Option.some (Jvm.ClassFile.FieldType.object "java/lang/AbstractStringBuilder"))) ∈ BW := bw_t 701 (by decide +kernel) rfl
theorem bw_702 : (Jvm.Cond.methodLink "java/lang/AbstractStringBuilder" (245 : Nat) ({ cls := "java/lang/Integer", name := "stringSize", desc := "(I)I" } : Jvm.MethodName)) ∈ BW := bw_t 702 (by decide +kernel) rfl
theorem bw_703 : (Jvm.Cond.static ({ cls := "java/lang/Integer", name := "stringSize", desc := "(I)I" } : Jvm.MethodName)) ∈ BW := bw_t 703 (by decide +kernel) rfl
theorem bw_704 : (Jvm.Cond.code ({ cls := "java/lang/Integer", name := "stringSize", desc := "(I)I" } : Jvm.MethodName) prog_17_method_13_code (4 : Nat) (Option.some Jvm.ClassFile.FieldType.int)) ∈ BW := bw_t 704 (by decide +kernel) rfl
theorem bw_705 : (Jvm.Cond.methodLink "java/lang/AbstractStringBuilder" (248 : Nat) ({ cls := "java/lang/Integer", name := "getChars", desc := "(II[B)I" } : Jvm.MethodName)) ∈ BW := bw_t 705 (by decide +kernel) rfl
theorem bw_706 : (Jvm.Cond.static ({ cls := "java/lang/Integer", name := "getChars", desc := "(II[B)I" } : Jvm.MethodName)) ∈ BW := bw_t 706 (by decide +kernel) rfl
theorem bw_707 : (Jvm.Cond.code ({ cls := "java/lang/Integer", name := "getChars", desc := "(II[B)I" } : Jvm.MethodName) prog_17_method_12_code (7 : Nat) (Option.some Jvm.ClassFile.FieldType.int)) ∈ BW := bw_t 707 (by decide +kernel) rfl
theorem bw_708 : (Jvm.Cond.fieldLink "java/lang/Integer" (83 : Nat) "java/lang/Integer" "DigitOnes" "[B") ∈ BW := bw_t 708 (by decide +kernel) rfl
theorem bw_710 : (Jvm.Cond.fieldLink "java/lang/Integer" (87 : Nat) "java/lang/Integer" "DigitTens" "[B") ∈ BW := bw_t 710 (by decide +kernel) rfl
theorem bw_712 : (Jvm.Cond.methodLink "java/lang/AbstractStringBuilder" (251 : Nat) ({ cls := "java/lang/StringUTF16", name := "getChars", desc := "(III[B)I" } : Jvm.MethodName)) ∈ BW := bw_t 712 (by decide +kernel) rfl
theorem bw_713 : (Jvm.Cond.static ({ cls := "java/lang/StringUTF16", name := "getChars", desc := "(III[B)I" } : Jvm.MethodName)) ∈ BW := bw_t 713 (by decide +kernel) rfl
theorem bw_714 : (Jvm.Cond.code ({ cls := "java/lang/StringUTF16", name := "getChars", desc := "(III[B)I" } : Jvm.MethodName) prog_23_method_77_code (5 : Nat) (Option.some Jvm.ClassFile.FieldType.int)) ∈ BW := bw_t 714 (by decide +kernel) rfl
theorem bw_715 : (Jvm.Cond.methodLink "java/lang/StringUTF16" (393 : Nat) ({ cls := "java/lang/StringUTF16", name := "getChars", desc := "(II[B)I" } : Jvm.MethodName)) ∈ BW := bw_t 715 (by decide +kernel) rfl
theorem bw_716 : (Jvm.Cond.static ({ cls := "java/lang/StringUTF16", name := "getChars", desc := "(II[B)I" } : Jvm.MethodName)) ∈ BW := bw_t 716 (by decide +kernel) rfl
theorem bw_717 : (Jvm.Cond.code ({ cls := "java/lang/StringUTF16", name := "getChars", desc := "(II[B)I" } : Jvm.MethodName) prog_23_method_89_code (7 : Nat) (Option.some Jvm.ClassFile.FieldType.int)) ∈ BW := bw_t 717 (by decide +kernel) rfl
theorem bw_718 : (Jvm.Cond.fieldLink "java/lang/StringUTF16" (403 : Nat) "java/lang/Integer" "DigitOnes" "[B") ∈ BW := bw_t 718 (by decide +kernel) rfl
theorem bw_719 : (Jvm.Cond.fieldLink "java/lang/StringUTF16" (407 : Nat) "java/lang/Integer" "DigitTens" "[B") ∈ BW := bw_t 719 (by decide +kernel) rfl
theorem bw_720 : (Jvm.Cond.methodLink "LiftSchedulerLaw" (44 : Nat) ({ cls := "java/lang/StringBuilder", name := "append", desc := "(C)Ljava/lang/StringBuilder;" } : Jvm.MethodName)) ∈ BW := bw_t 720 (by decide +kernel) rfl
theorem bw_721 : (Jvm.Cond.instanceMethod ({ cls := "java/lang/StringBuilder", name := "append", desc := "(C)Ljava/lang/StringBuilder;" } : Jvm.MethodName)) ∈ BW := bw_t 721 (by decide +kernel) rfl
theorem bw_722 : (Jvm.Cond.selects "java/lang/StringBuilder" ({ cls := "java/lang/StringBuilder", name := "append", desc := "(C)Ljava/lang/StringBuilder;" } : Jvm.MethodName) ({ cls := "java/lang/StringBuilder", name := "append", desc := "(C)Ljava/lang/StringBuilder;" } : Jvm.MethodName)) ∈ BW := bw_t 722 (by decide +kernel) rfl
theorem bw_723 : (Jvm.Cond.code ({ cls := "java/lang/StringBuilder", name := "append", desc := "(C)Ljava/lang/StringBuilder;" } : Jvm.MethodName) prog_21_method_14_code (2 : Nat) (Option.some (Jvm.ClassFile.FieldType.object "java/lang/StringBuilder"))) ∈ BW := bw_t 723 (by decide +kernel) rfl
theorem bw_724 : (Jvm.Cond.methodLink "java/lang/StringBuilder" (50 : Nat) ({ cls := "java/lang/AbstractStringBuilder", name := "append", desc := "(C)Ljava/lang/AbstractStringBuilder;" } : Jvm.MethodName)) ∈ BW := bw_t 724 (by decide +kernel) rfl
theorem bw_725 : (Jvm.Cond.instanceMethod ({ cls := "java/lang/AbstractStringBuilder", name := "append", desc := "(C)Ljava/lang/AbstractStringBuilder;" } : Jvm.MethodName)) ∈ BW := bw_t 725 (by decide +kernel) rfl
theorem bw_726 : (Jvm.Cond.code ({ cls := "java/lang/AbstractStringBuilder", name := "append", desc := "(C)Ljava/lang/AbstractStringBuilder;" } : Jvm.MethodName) prog_9_method_31_code (2 : Nat) (Option.some (Jvm.ClassFile.FieldType.object "java/lang/AbstractStringBuilder"))) ∈ BW := bw_t 726 (by decide +kernel) rfl
theorem bw_727 : (Jvm.Cond.methodLink "java/lang/AbstractStringBuilder" (191 : Nat) ({ cls := "java/lang/StringLatin1", name := "canEncode", desc := "(C)Z" } : Jvm.MethodName)) ∈ BW := bw_t 727 (by decide +kernel) rfl
theorem bw_728 : (Jvm.Cond.static ({ cls := "java/lang/StringLatin1", name := "canEncode", desc := "(C)Z" } : Jvm.MethodName)) ∈ BW := bw_t 728 (by decide +kernel) rfl
theorem bw_729 : (Jvm.Cond.code ({ cls := "java/lang/StringLatin1", name := "canEncode", desc := "(C)Z" } : Jvm.MethodName) prog_22_method_3_code (1 : Nat) (Option.some Jvm.ClassFile.FieldType.boolean)) ∈ BW := bw_t 729 (by decide +kernel) rfl
theorem bw_730 : (Jvm.Cond.methodLink "java/lang/AbstractStringBuilder" (197 : Nat) ({ cls := "java/lang/StringUTF16", name := "putCharSB", desc := "([BII)V" } : Jvm.MethodName)) ∈ BW := bw_t 730 (by decide +kernel) rfl
theorem bw_731 : (Jvm.Cond.static ({ cls := "java/lang/StringUTF16", name := "putCharSB", desc := "([BII)V" } : Jvm.MethodName)) ∈ BW := bw_t 731 (by decide +kernel) rfl
theorem bw_732 : (Jvm.Cond.code ({ cls := "java/lang/StringUTF16", name := "putCharSB", desc := "([BII)V" } : Jvm.MethodName) prog_23_method_71_code (3 : Nat) (Option.none : Option Jvm.ClassFile.FieldType)) ∈ BW := bw_t 732 (by decide +kernel) rfl
theorem bw_733 : (Jvm.Cond.methodLink "java/lang/StringUTF16" (67 : Nat) ({ cls := "java/lang/StringUTF16", name := "checkIndex", desc := "(I[B)V" } : Jvm.MethodName)) ∈ BW := bw_t 733 (by decide +kernel) rfl
theorem bw_734 : (Jvm.Cond.static ({ cls := "java/lang/StringUTF16", name := "checkIndex", desc := "(I[B)V" } : Jvm.MethodName)) ∈ BW := bw_t 734 (by decide +kernel) rfl
theorem bw_735 : (Jvm.Cond.code ({ cls := "java/lang/StringUTF16", name := "checkIndex", desc := "(I[B)V" } : Jvm.MethodName) prog_23_method_91_code (2 : Nat) (Option.none : Option Jvm.ClassFile.FieldType)) ∈ BW := bw_t 735 (by decide +kernel) rfl
theorem bw_736 : (Jvm.Cond.methodLink "java/lang/StringUTF16" (414 : Nat) ({ cls := "java/lang/String", name := "checkIndex", desc := "(II)V" } : Jvm.MethodName)) ∈ BW := bw_t 736 (by decide +kernel) rfl
theorem bw_737 : (Jvm.Cond.static ({ cls := "java/lang/String", name := "checkIndex", desc := "(II)V" } : Jvm.MethodName)) ∈ BW := bw_t 737 (by decide +kernel) rfl
theorem bw_738 : (Jvm.Cond.code ({ cls := "java/lang/String", name := "checkIndex", desc := "(II)V" } : Jvm.MethodName) prog_20_method_155_code (2 : Nat) (Option.none : Option Jvm.ClassFile.FieldType)) ∈ BW := bw_t 738 (by decide +kernel) rfl
theorem bw_739 : (Jvm.Cond.methodLink "java/lang/String" (1059 : Nat) ({ cls := "jdk/internal/util/Preconditions", name := "checkIndex", desc := "(IILjava/util/function/BiFunction;)I" } : Jvm.MethodName)) ∈ BW := bw_t 739 (by decide +kernel) rfl
theorem bw_740 : (Jvm.Cond.static ({ cls := "jdk/internal/util/Preconditions", name := "checkIndex", desc := "(IILjava/util/function/BiFunction;)I" } : Jvm.MethodName)) ∈ BW := bw_t 740 (by decide +kernel) rfl
theorem bw_741 : (Jvm.Cond.code ({ cls := "jdk/internal/util/Preconditions", name := "checkIndex", desc := "(IILjava/util/function/BiFunction;)I" } : Jvm.MethodName) prog_28_method_11_code (3 : Nat) (Option.some Jvm.ClassFile.FieldType.int)) ∈ BW := bw_t 741 (by decide +kernel) rfl
theorem bw_745 : (Jvm.Cond.methodLink "LiftSchedulerLaw" (53 : Nat) ({ cls := "java/lang/StringBuilder", name := "append", desc := "(Ljava/lang/String;)Ljava/lang/StringBuilder;" } : Jvm.MethodName)) ∈ BW := bw_t 745 (by decide +kernel) rfl
theorem bw_748 : (Jvm.Cond.methodLink "LiftSchedulerLaw" (60 : Nat) ({ cls := "LiftSchedulerLaw", name := "lays", desc := "(LLiftScheduler;Ljava/lang/CharSequence;)Z" } : Jvm.MethodName)) ∈ BW := bw_t 748 (by decide +kernel) rfl
theorem bw_749 : (Jvm.Cond.static ({ cls := "LiftSchedulerLaw", name := "lays", desc := "(LLiftScheduler;Ljava/lang/CharSequence;)Z" } : Jvm.MethodName)) ∈ BW := bw_t 749 (by decide +kernel) rfl
theorem bw_750 : (Jvm.Cond.code ({ cls := "LiftSchedulerLaw", name := "lays", desc := "(LLiftScheduler;Ljava/lang/CharSequence;)Z" } : Jvm.MethodName) method_3_code (6 : Nat) (Option.some Jvm.ClassFile.FieldType.boolean)) ∈ BW := bw_t 750 (by decide +kernel) rfl
theorem bw_751 : (Jvm.Cond.methodLink "LiftSchedulerLaw" (8 : Nat) ({ cls := "LiftScheduler", name := "truncate", desc := "(I)Z" } : Jvm.MethodName)) ∈ BW := bw_t 751 (by decide +kernel) rfl
theorem bw_752 : (Jvm.Cond.instanceMethod ({ cls := "LiftScheduler", name := "truncate", desc := "(I)Z" } : Jvm.MethodName)) ∈ BW := bw_t 752 (by decide +kernel) rfl
theorem bw_753 : (Jvm.Cond.selects "LiftScheduler" ({ cls := "LiftScheduler", name := "truncate", desc := "(I)Z" } : Jvm.MethodName) ({ cls := "LiftScheduler", name := "truncate", desc := "(I)Z" } : Jvm.MethodName)) ∈ BW := bw_t 753 (by decide +kernel) rfl
theorem bw_754 : (Jvm.Cond.code ({ cls := "LiftScheduler", name := "truncate", desc := "(I)Z" } : Jvm.MethodName) prog_1_method_4_code (2 : Nat) (Option.some Jvm.ClassFile.FieldType.boolean)) ∈ BW := bw_t 754 (by decide +kernel) rfl
theorem bw_756 : (Jvm.Cond.methodLink "LiftSchedulerLaw" (14 : Nat) ({ cls := "java/lang/CharSequence", name := "length", desc := "()I" } : Jvm.MethodName)) ∈ BW := bw_t 756 (by decide +kernel) rfl
theorem bw_760 : (Jvm.Cond.selects "java/lang/StringBuilder" ({ cls := "java/lang/CharSequence", name := "length", desc := "()I" } : Jvm.MethodName) ({ cls := "java/lang/StringBuilder", name := "length", desc := "()I" } : Jvm.MethodName)) ∈ BW := bw_t 760 (by decide +kernel) rfl
theorem bw_762 : (Jvm.Cond.instanceMethod ({ cls := "java/lang/StringBuilder", name := "length", desc := "()I" } : Jvm.MethodName)) ∈ BW := bw_t 762 (by decide +kernel) rfl
theorem bw_764 : (Jvm.Cond.code ({ cls := "java/lang/StringBuilder", name := "length", desc := "()I" } : Jvm.MethodName) prog_21_method_93_code (1 : Nat) (Option.some Jvm.ClassFile.FieldType.int)) ∈ BW := bw_t 764 (by decide +kernel) rfl
theorem bw_765 : (Jvm.Cond.methodLink "java/lang/StringBuilder" (343 : Nat) ({ cls := "java/lang/AbstractStringBuilder", name := "length", desc := "()I" } : Jvm.MethodName)) ∈ BW := bw_t 765 (by decide +kernel) rfl
theorem bw_766 : (Jvm.Cond.instanceMethod ({ cls := "java/lang/AbstractStringBuilder", name := "length", desc := "()I" } : Jvm.MethodName)) ∈ BW := bw_t 766 (by decide +kernel) rfl
theorem bw_767 : (Jvm.Cond.code ({ cls := "java/lang/AbstractStringBuilder", name := "length", desc := "()I" } : Jvm.MethodName) prog_9_method_6_code (1 : Nat) (Option.some Jvm.ClassFile.FieldType.int)) ∈ BW := bw_t 767 (by decide +kernel) rfl
theorem bw_769 : (Jvm.Cond.methodLink "LiftSchedulerLaw" (20 : Nat) ({ cls := "java/lang/CharSequence", name := "charAt", desc := "(I)C" } : Jvm.MethodName)) ∈ BW := bw_t 769 (by decide +kernel) rfl
theorem bw_772 : (Jvm.Cond.selects "java/lang/StringBuilder" ({ cls := "java/lang/CharSequence", name := "charAt", desc := "(I)C" } : Jvm.MethodName) ({ cls := "java/lang/StringBuilder", name := "charAt", desc := "(I)C" } : Jvm.MethodName)) ∈ BW := bw_t 772 (by decide +kernel) rfl
theorem bw_774 : (Jvm.Cond.instanceMethod ({ cls := "java/lang/StringBuilder", name := "charAt", desc := "(I)C" } : Jvm.MethodName)) ∈ BW := bw_t 774 (by decide +kernel) rfl
theorem bw_776 : (Jvm.Cond.code ({ cls := "java/lang/StringBuilder", name := "charAt", desc := "(I)C" } : Jvm.MethodName) prog_21_method_88_code (2 : Nat) (Option.some Jvm.ClassFile.FieldType.char)) ∈ BW := bw_t 776 (by decide +kernel) rfl
theorem bw_777 : (Jvm.Cond.methodLink "java/lang/StringBuilder" (329 : Nat) ({ cls := "java/lang/AbstractStringBuilder", name := "charAt", desc := "(I)C" } : Jvm.MethodName)) ∈ BW := bw_t 777 (by decide +kernel) rfl
theorem bw_778 : (Jvm.Cond.instanceMethod ({ cls := "java/lang/AbstractStringBuilder", name := "charAt", desc := "(I)C" } : Jvm.MethodName)) ∈ BW := bw_t 778 (by decide +kernel) rfl
theorem bw_779 : (Jvm.Cond.code ({ cls := "java/lang/AbstractStringBuilder", name := "charAt", desc := "(I)C" } : Jvm.MethodName) prog_9_method_14_code (5 : Nat) (Option.some Jvm.ClassFile.FieldType.char)) ∈ BW := bw_t 779 (by decide +kernel) rfl
theorem bw_780 : (Jvm.Cond.methodLink "java/lang/AbstractStringBuilder" (138 : Nat) ({ cls := "java/lang/Math", name := "min", desc := "(II)I" } : Jvm.MethodName)) ∈ BW := bw_t 780 (by decide +kernel) rfl
theorem bw_781 : (Jvm.Cond.methodLink "java/lang/AbstractStringBuilder" (144 : Nat) ({ cls := "java/lang/String", name := "checkIndex", desc := "(II)V" } : Jvm.MethodName)) ∈ BW := bw_t 781 (by decide +kernel) rfl
theorem bw_782 : (Jvm.Cond.methodLink "java/lang/AbstractStringBuilder" (148 : Nat) ({ cls := "java/lang/StringUTF16", name := "getChar", desc := "([BI)C" } : Jvm.MethodName)) ∈ BW := bw_t 782 (by decide +kernel) rfl
theorem bw_783 : (Jvm.Cond.static ({ cls := "java/lang/StringUTF16", name := "getChar", desc := "([BI)C" } : Jvm.MethodName)) ∈ BW := bw_t 783 (by decide +kernel) rfl
theorem bw_784 : (Jvm.Cond.code ({ cls := "java/lang/StringUTF16", name := "getChar", desc := "([BI)C" } : Jvm.MethodName) prog_23_method_5_code (2 : Nat) (Option.some Jvm.ClassFile.FieldType.char)) ∈ BW := bw_t 784 (by decide +kernel) rfl
theorem bw_785 : (Jvm.Cond.methodLink "LiftSchedulerLaw" (24 : Nat) ({ cls := "LiftScheduler", name := "append", desc := "(IIIII)I" } : Jvm.MethodName)) ∈ BW := bw_t 785 (by decide +kernel) rfl
theorem bw_786 : (Jvm.Cond.instanceMethod ({ cls := "LiftScheduler", name := "append", desc := "(IIIII)I" } : Jvm.MethodName)) ∈ BW := bw_t 786 (by decide +kernel) rfl
theorem bw_787 : (Jvm.Cond.selects "LiftScheduler" ({ cls := "LiftScheduler", name := "append", desc := "(IIIII)I" } : Jvm.MethodName) ({ cls := "LiftScheduler", name := "append", desc := "(IIIII)I" } : Jvm.MethodName)) ∈ BW := bw_t 787 (by decide +kernel) rfl
theorem bw_788 : (Jvm.Cond.code ({ cls := "LiftScheduler", name := "append", desc := "(IIIII)I" } : Jvm.MethodName) prog_1_method_2_code (6 : Nat) (Option.some Jvm.ClassFile.FieldType.int)) ∈ BW := bw_t 788 (by decide +kernel) rfl
theorem bw_789 : (Jvm.Cond.methodLink "LiftScheduler" (57 : Nat) ({ cls := "LiftScheduler", name := "appendFour", desc := "(I)V" } : Jvm.MethodName)) ∈ BW := bw_t 789 (by decide +kernel) rfl
theorem bw_791 : (Jvm.Cond.instanceMethod ({ cls := "LiftScheduler", name := "appendFour", desc := "(I)V" } : Jvm.MethodName)) ∈ BW := bw_t 791 (by decide +kernel) rfl
theorem bw_792 : (Jvm.Cond.code ({ cls := "LiftScheduler", name := "appendFour", desc := "(I)V" } : Jvm.MethodName) prog_1_method_3_code (3 : Nat) (Option.none : Option Jvm.ClassFile.FieldType)) ∈ BW := bw_t 792 (by decide +kernel) rfl
theorem bw_793 : (Jvm.Cond.methodLink "LiftSchedulerLaw" (66 : Nat) ({ cls := "LiftScheduler", name := "load", desc := "()I" } : Jvm.MethodName)) ∈ BW := bw_t 793 (by decide +kernel) rfl
theorem bw_794 : (Jvm.Cond.instanceMethod ({ cls := "LiftScheduler", name := "load", desc := "()I" } : Jvm.MethodName)) ∈ BW := bw_t 794 (by decide +kernel) rfl
theorem bw_795 : (Jvm.Cond.selects "LiftScheduler" ({ cls := "LiftScheduler", name := "load", desc := "()I" } : Jvm.MethodName) ({ cls := "LiftScheduler", name := "load", desc := "()I" } : Jvm.MethodName)) ∈ BW := bw_t 795 (by decide +kernel) rfl
theorem bw_796 : (Jvm.Cond.code ({ cls := "LiftScheduler", name := "load", desc := "()I" } : Jvm.MethodName) prog_1_method_5_code (2 : Nat) (Option.some Jvm.ClassFile.FieldType.int)) ∈ BW := bw_t 796 (by decide +kernel) rfl
theorem bw_797 : (Jvm.Cond.methodLink "LiftScheduler" (61 : Nat) ({ cls := "LiftScheduler$Script", name := "readTokens", desc := "([BI)V" } : Jvm.MethodName)) ∈ BW := bw_t 797 (by decide +kernel) rfl
theorem bw_798 : (Jvm.Cond.instanceMethod ({ cls := "LiftScheduler$Script", name := "readTokens", desc := "([BI)V" } : Jvm.MethodName)) ∈ BW := bw_t 798 (by decide +kernel) rfl
theorem bw_799 : (Jvm.Cond.selects "LiftScheduler$Script" ({ cls := "LiftScheduler$Script", name := "readTokens", desc := "([BI)V" } : Jvm.MethodName) ({ cls := "LiftScheduler$Script", name := "readTokens", desc := "([BI)V" } : Jvm.MethodName)) ∈ BW := bw_t 799 (by decide +kernel) rfl
theorem bw_800 : (Jvm.Cond.code ({ cls := "LiftScheduler$Script", name := "readTokens", desc := "([BI)V" } : Jvm.MethodName) prog_4_method_2_code (5 : Nat) (Option.none : Option Jvm.ClassFile.FieldType)) ∈ BW := bw_t 800 (by decide +kernel) rfl
theorem bw_801 : (Jvm.Cond.methodLink "LiftScheduler$Script" (40 : Nat) ({ cls := "LiftScheduler$Script", name := "isSpace", desc := "(I)Z" } : Jvm.MethodName)) ∈ BW := bw_t 801 (by decide +kernel) rfl
theorem bw_802 : (Jvm.Cond.static ({ cls := "LiftScheduler$Script", name := "isSpace", desc := "(I)Z" } : Jvm.MethodName)) ∈ BW := bw_t 802 (by decide +kernel) rfl
theorem bw_803 : (Jvm.Cond.code ({ cls := "LiftScheduler$Script", name := "isSpace", desc := "(I)Z" } : Jvm.MethodName) prog_4_method_4_code (1 : Nat) (Option.some Jvm.ClassFile.FieldType.boolean)) ∈ BW := bw_t 803 (by decide +kernel) rfl
theorem bw_804 : (Jvm.Cond.methodLink "LiftScheduler$Script" (44 : Nat) ({ cls := "LiftScheduler$Script", name := "belongTogether", desc := "(II)Z" } : Jvm.MethodName)) ∈ BW := bw_t 804 (by decide +kernel) rfl
theorem bw_805 : (Jvm.Cond.static ({ cls := "LiftScheduler$Script", name := "belongTogether", desc := "(II)Z" } : Jvm.MethodName)) ∈ BW := bw_t 805 (by decide +kernel) rfl
theorem bw_806 : (Jvm.Cond.code ({ cls := "LiftScheduler$Script", name := "belongTogether", desc := "(II)Z" } : Jvm.MethodName) prog_4_method_7_code (2 : Nat) (Option.some Jvm.ClassFile.FieldType.boolean)) ∈ BW := bw_t 806 (by decide +kernel) rfl
theorem bw_807 : (Jvm.Cond.methodLink "LiftScheduler$Script" (70 : Nat) ({ cls := "LiftScheduler$Script", name := "isLetter", desc := "(I)Z" } : Jvm.MethodName)) ∈ BW := bw_t 807 (by decide +kernel) rfl
theorem bw_808 : (Jvm.Cond.static ({ cls := "LiftScheduler$Script", name := "isLetter", desc := "(I)Z" } : Jvm.MethodName)) ∈ BW := bw_t 808 (by decide +kernel) rfl
theorem bw_809 : (Jvm.Cond.code ({ cls := "LiftScheduler$Script", name := "isLetter", desc := "(I)Z" } : Jvm.MethodName) prog_4_method_6_code (1 : Nat) (Option.some Jvm.ClassFile.FieldType.boolean)) ∈ BW := bw_t 809 (by decide +kernel) rfl
theorem bw_810 : (Jvm.Cond.methodLink "LiftScheduler$Script" (48 : Nat) ({ cls := "LiftScheduler$Script", name := "isDigit", desc := "(I)Z" } : Jvm.MethodName)) ∈ BW := bw_t 810 (by decide +kernel) rfl
theorem bw_811 : (Jvm.Cond.static ({ cls := "LiftScheduler$Script", name := "isDigit", desc := "(I)Z" } : Jvm.MethodName)) ∈ BW := bw_t 811 (by decide +kernel) rfl
theorem bw_812 : (Jvm.Cond.code ({ cls := "LiftScheduler$Script", name := "isDigit", desc := "(I)Z" } : Jvm.MethodName) prog_4_method_5_code (1 : Nat) (Option.some Jvm.ClassFile.FieldType.boolean)) ∈ BW := bw_t 812 (by decide +kernel) rfl
theorem bw_813 : (Jvm.Cond.fieldLink "LiftScheduler$Script" (51 : Nat) "LiftScheduler$Kind" "NUMBER" "LLiftScheduler$Kind;") ∈ BW := bw_t 813 (by decide +kernel) rfl
theorem bw_815 : (Jvm.Cond.methodLink "LiftScheduler$Script" (55 : Nat) ({ cls := "LiftScheduler$Script", name := "numberOf", desc := "([BII)I" } : Jvm.MethodName)) ∈ BW := bw_t 815 (by decide +kernel) rfl
theorem bw_816 : (Jvm.Cond.static ({ cls := "LiftScheduler$Script", name := "numberOf", desc := "([BII)I" } : Jvm.MethodName)) ∈ BW := bw_t 816 (by decide +kernel) rfl
theorem bw_817 : (Jvm.Cond.code ({ cls := "LiftScheduler$Script", name := "numberOf", desc := "([BII)I" } : Jvm.MethodName) prog_4_method_8_code (5 : Nat) (Option.some Jvm.ClassFile.FieldType.int)) ∈ BW := bw_t 817 (by decide +kernel) rfl
theorem bw_818 : (Jvm.Cond.methodLink "LiftScheduler$Script" (59 : Nat) ({ cls := "LiftScheduler$Script", name := "addToken", desc := "(LLiftScheduler$Kind;II)V" } : Jvm.MethodName)) ∈ BW := bw_t 818 (by decide +kernel) rfl
theorem bw_820 : (Jvm.Cond.instanceMethod ({ cls := "LiftScheduler$Script", name := "addToken", desc := "(LLiftScheduler$Kind;II)V" } : Jvm.MethodName)) ∈ BW := bw_t 820 (by decide +kernel) rfl
theorem bw_821 : (Jvm.Cond.code ({ cls := "LiftScheduler$Script", name := "addToken", desc := "(LLiftScheduler$Kind;II)V" } : Jvm.MethodName) prog_4_method_3_code (4 : Nat) (Option.none : Option Jvm.ClassFile.FieldType)) ∈ BW := bw_t 821 (by decide +kernel) rfl
theorem bw_822 : (Jvm.Cond.methodLink "LiftScheduler$Script" (63 : Nat) ({ cls := "LiftScheduler$Script", name := "kindOf", desc := "([BII)LLiftScheduler$Kind;" } : Jvm.MethodName)) ∈ BW := bw_t 822 (by decide +kernel) rfl
theorem bw_823 : (Jvm.Cond.static ({ cls := "LiftScheduler$Script", name := "kindOf", desc := "([BII)LLiftScheduler$Kind;" } : Jvm.MethodName)) ∈ BW := bw_t 823 (by decide +kernel) rfl
theorem bw_824 : (Jvm.Cond.code ({ cls := "LiftScheduler$Script", name := "kindOf", desc := "([BII)LLiftScheduler$Kind;" } : Jvm.MethodName) prog_4_method_9_code (7 : Nat) (Option.some (Jvm.ClassFile.FieldType.object "LiftScheduler$Kind"))) ∈ BW := bw_t 824 (by decide +kernel) rfl
theorem bw_825 : (Jvm.Cond.fieldLink "LiftScheduler$Script" (73 : Nat) "LiftScheduler$Script" "KINDS" "[LLiftScheduler$Kind;") ∈ BW := bw_t 825 (by decide +kernel) rfl
theorem bw_827 : (Jvm.Cond.methodLink "LiftScheduler$Script" (80 : Nat) ({ cls := "LiftScheduler$Script", name := "isText", desc := "(Ljava/lang/String;[BII)Z" } : Jvm.MethodName)) ∈ BW := bw_t 827 (by decide +kernel) rfl
theorem bw_828 : (Jvm.Cond.static ({ cls := "LiftScheduler$Script", name := "isText", desc := "(Ljava/lang/String;[BII)Z" } : Jvm.MethodName)) ∈ BW := bw_t 828 (by decide +kernel) rfl
theorem bw_829 : (Jvm.Cond.code ({ cls := "LiftScheduler$Script", name := "isText", desc := "(Ljava/lang/String;[BII)Z" } : Jvm.MethodName) prog_4_method_10_code (5 : Nat) (Option.some Jvm.ClassFile.FieldType.boolean)) ∈ BW := bw_t 829 (by decide +kernel) rfl
theorem bw_830 : (Jvm.Cond.methodLink "LiftScheduler$Script" (87 : Nat) ({ cls := "java/lang/String", name := "length", desc := "()I" } : Jvm.MethodName)) ∈ BW := bw_t 830 (by decide +kernel) rfl
theorem bw_831 : (Jvm.Cond.methodLink "LiftScheduler$Script" (93 : Nat) ({ cls := "java/lang/String", name := "charAt", desc := "(I)C" } : Jvm.MethodName)) ∈ BW := bw_t 831 (by decide +kernel) rfl
theorem bw_832 : (Jvm.Cond.instanceMethod ({ cls := "java/lang/String", name := "charAt", desc := "(I)C" } : Jvm.MethodName)) ∈ BW := bw_t 832 (by decide +kernel) rfl
theorem bw_833 : (Jvm.Cond.selects "java/lang/String" ({ cls := "java/lang/String", name := "charAt", desc := "(I)C" } : Jvm.MethodName) ({ cls := "java/lang/String", name := "charAt", desc := "(I)C" } : Jvm.MethodName)) ∈ BW := bw_t 833 (by decide +kernel) rfl
theorem bw_834 : (Jvm.Cond.code ({ cls := "java/lang/String", name := "charAt", desc := "(I)C" } : Jvm.MethodName) prog_20_method_56_code (2 : Nat) (Option.some Jvm.ClassFile.FieldType.char)) ∈ BW := bw_t 834 (by decide +kernel) rfl
theorem bw_835 : (Jvm.Cond.methodLink "java/lang/String" (492 : Nat) ({ cls := "java/lang/String", name := "isLatin1", desc := "()Z" } : Jvm.MethodName)) ∈ BW := bw_t 835 (by decide +kernel) rfl
theorem bw_836 : (Jvm.Cond.instanceMethod ({ cls := "java/lang/String", name := "isLatin1", desc := "()Z" } : Jvm.MethodName)) ∈ BW := bw_t 836 (by decide +kernel) rfl
theorem bw_837 : (Jvm.Cond.selects "java/lang/String" ({ cls := "java/lang/String", name := "isLatin1", desc := "()Z" } : Jvm.MethodName) ({ cls := "java/lang/String", name := "isLatin1", desc := "()Z" } : Jvm.MethodName)) ∈ BW := bw_t 837 (by decide +kernel) rfl
theorem bw_838 : (Jvm.Cond.code ({ cls := "java/lang/String", name := "isLatin1", desc := "()Z" } : Jvm.MethodName) prog_20_method_154_code (1 : Nat) (Option.some Jvm.ClassFile.FieldType.boolean)) ∈ BW := bw_t 838 (by decide +kernel) rfl
theorem bw_839 : (Jvm.Cond.methodLink "java/lang/String" (495 : Nat) ({ cls := "java/lang/StringLatin1", name := "charAt", desc := "([BI)C" } : Jvm.MethodName)) ∈ BW := bw_t 839 (by decide +kernel) rfl
theorem bw_840 : (Jvm.Cond.static ({ cls := "java/lang/StringLatin1", name := "charAt", desc := "([BI)C" } : Jvm.MethodName)) ∈ BW := bw_t 840 (by decide +kernel) rfl
theorem bw_841 : (Jvm.Cond.code ({ cls := "java/lang/StringLatin1", name := "charAt", desc := "([BI)C" } : Jvm.MethodName) prog_22_method_2_code (2 : Nat) (Option.some Jvm.ClassFile.FieldType.char)) ∈ BW := bw_t 841 (by decide +kernel) rfl
theorem bw_842 : (Jvm.Cond.methodLink "java/lang/StringLatin1" (9 : Nat) ({ cls := "java/lang/String", name := "checkIndex", desc := "(II)V" } : Jvm.MethodName)) ∈ BW := bw_t 842 (by decide +kernel) rfl
theorem bw_843 : (Jvm.Cond.methodLink "java/lang/String" (498 : Nat) ({ cls := "java/lang/StringUTF16", name := "charAt", desc := "([BI)C" } : Jvm.MethodName)) ∈ BW := bw_t 843 (by decide +kernel) rfl
theorem bw_844 : (Jvm.Cond.static ({ cls := "java/lang/StringUTF16", name := "charAt", desc := "([BI)C" } : Jvm.MethodName)) ∈ BW := bw_t 844 (by decide +kernel) rfl
theorem bw_845 : (Jvm.Cond.code ({ cls := "java/lang/StringUTF16", name := "charAt", desc := "([BI)C" } : Jvm.MethodName) prog_23_method_83_code (2 : Nat) (Option.some Jvm.ClassFile.FieldType.char)) ∈ BW := bw_t 845 (by decide +kernel) rfl
theorem bw_846 : (Jvm.Cond.methodLink "java/lang/StringUTF16" (71 : Nat) ({ cls := "java/lang/StringUTF16", name := "getChar", desc := "([BI)C" } : Jvm.MethodName)) ∈ BW := bw_t 846 (by decide +kernel) rfl
theorem bw_847 : (Jvm.Cond.fieldLink "LiftScheduler$Script" (84 : Nat) "LiftScheduler$Kind" "INVALID" "LLiftScheduler$Kind;") ∈ BW := bw_t 847 (by decide +kernel) rfl
theorem bw_849 : (Jvm.Cond.fieldLink "LiftScheduler$Script" (67 : Nat) "LiftScheduler$Kind" "END" "LLiftScheduler$Kind;") ∈ BW := bw_t 849 (by decide +kernel) rfl
theorem bw_851 : (Jvm.Cond.methodLink "LiftScheduler" (65 : Nat) ({ cls := "LiftScheduler$Script", name := "performHeader", desc := "(LLiftScheduler$Simulation;)Z" } : Jvm.MethodName)) ∈ BW := bw_t 851 (by decide +kernel) rfl
theorem bw_852 : (Jvm.Cond.instanceMethod ({ cls := "LiftScheduler$Script", name := "performHeader", desc := "(LLiftScheduler$Simulation;)Z" } : Jvm.MethodName)) ∈ BW := bw_t 852 (by decide +kernel) rfl
theorem bw_853 : (Jvm.Cond.selects "LiftScheduler$Script" ({ cls := "LiftScheduler$Script", name := "performHeader", desc := "(LLiftScheduler$Simulation;)Z" } : Jvm.MethodName) ({ cls := "LiftScheduler$Script", name := "performHeader", desc := "(LLiftScheduler$Simulation;)Z" } : Jvm.MethodName)) ∈ BW := bw_t 853 (by decide +kernel) rfl
theorem bw_854 : (Jvm.Cond.code ({ cls := "LiftScheduler$Script", name := "performHeader", desc := "(LLiftScheduler$Simulation;)Z" } : Jvm.MethodName) prog_4_method_11_code (5 : Nat) (Option.some Jvm.ClassFile.FieldType.boolean)) ∈ BW := bw_t 854 (by decide +kernel) rfl
theorem bw_855 : (Jvm.Cond.fieldLink "LiftScheduler$Script" (97 : Nat) "LiftScheduler$Kind" "LIFT" "LLiftScheduler$Kind;") ∈ BW := bw_t 855 (by decide +kernel) rfl
theorem bw_857 : (Jvm.Cond.methodLink "LiftScheduler$Script" (100 : Nat) ({ cls := "LiftScheduler$Script", name := "take", desc := "(LLiftScheduler$Kind;)Z" } : Jvm.MethodName)) ∈ BW := bw_t 857 (by decide +kernel) rfl
theorem bw_859 : (Jvm.Cond.instanceMethod ({ cls := "LiftScheduler$Script", name := "take", desc := "(LLiftScheduler$Kind;)Z" } : Jvm.MethodName)) ∈ BW := bw_t 859 (by decide +kernel) rfl
theorem bw_860 : (Jvm.Cond.code ({ cls := "LiftScheduler$Script", name := "take", desc := "(LLiftScheduler$Kind;)Z" } : Jvm.MethodName) prog_4_method_23_code (2 : Nat) (Option.some Jvm.ClassFile.FieldType.boolean)) ∈ BW := bw_t 860 (by decide +kernel) rfl
theorem bw_861 : (Jvm.Cond.methodLink "LiftScheduler$Script" (124 : Nat) ({ cls := "LiftScheduler$Script", name := "nextKind", desc := "()LLiftScheduler$Kind;" } : Jvm.MethodName)) ∈ BW := bw_t 861 (by decide +kernel) rfl
theorem bw_863 : (Jvm.Cond.instanceMethod ({ cls := "LiftScheduler$Script", name := "nextKind", desc := "()LLiftScheduler$Kind;" } : Jvm.MethodName)) ∈ BW := bw_t 863 (by decide +kernel) rfl
theorem bw_864 : (Jvm.Cond.code ({ cls := "LiftScheduler$Script", name := "nextKind", desc := "()LLiftScheduler$Kind;" } : Jvm.MethodName) prog_4_method_22_code (1 : Nat) (Option.some (Jvm.ClassFile.FieldType.object "LiftScheduler$Kind"))) ∈ BW := bw_t 864 (by decide +kernel) rfl
theorem bw_865 : (Jvm.Cond.methodLink "LiftScheduler$Script" (181 : Nat) ({ cls := "LiftScheduler$Script", name := "fail", desc := "(II)Z" } : Jvm.MethodName)) ∈ BW := bw_t 865 (by decide +kernel) rfl
theorem bw_867 : (Jvm.Cond.instanceMethod ({ cls := "LiftScheduler$Script", name := "fail", desc := "(II)Z" } : Jvm.MethodName)) ∈ BW := bw_t 867 (by decide +kernel) rfl
theorem bw_868 : (Jvm.Cond.code ({ cls := "LiftScheduler$Script", name := "fail", desc := "(II)Z" } : Jvm.MethodName) prog_4_method_27_code (3 : Nat) (Option.some Jvm.ClassFile.FieldType.boolean)) ∈ BW := bw_t 868 (by decide +kernel) rfl
theorem bw_869 : (Jvm.Cond.methodLink "LiftScheduler$Script" (104 : Nat) ({ cls := "LiftScheduler$Script", name := "takeNumber", desc := "(II)I" } : Jvm.MethodName)) ∈ BW := bw_t 869 (by decide +kernel) rfl
theorem bw_871 : (Jvm.Cond.instanceMethod ({ cls := "LiftScheduler$Script", name := "takeNumber", desc := "(II)I" } : Jvm.MethodName)) ∈ BW := bw_t 871 (by decide +kernel) rfl
theorem bw_872 : (Jvm.Cond.code ({ cls := "LiftScheduler$Script", name := "takeNumber", desc := "(II)I" } : Jvm.MethodName) prog_4_method_24_code (4 : Nat) (Option.some Jvm.ClassFile.FieldType.int)) ∈ BW := bw_t 872 (by decide +kernel) rfl
theorem bw_873 : (Jvm.Cond.methodLink "LiftScheduler$Script" (108 : Nat) ({ cls := "LiftScheduler$Script", name := "takePolicy", desc := "()I" } : Jvm.MethodName)) ∈ BW := bw_t 873 (by decide +kernel) rfl
theorem bw_875 : (Jvm.Cond.instanceMethod ({ cls := "LiftScheduler$Script", name := "takePolicy", desc := "()I" } : Jvm.MethodName)) ∈ BW := bw_t 875 (by decide +kernel) rfl
theorem bw_876 : (Jvm.Cond.code ({ cls := "LiftScheduler$Script", name := "takePolicy", desc := "()I" } : Jvm.MethodName) prog_4_method_25_code (2 : Nat) (Option.some Jvm.ClassFile.FieldType.int)) ∈ BW := bw_t 876 (by decide +kernel) rfl
theorem bw_877 : (Jvm.Cond.fieldLink "LiftScheduler$Script" (144 : Nat) "LiftScheduler$1" "$SwitchMap$LiftScheduler$Kind" "[I") ∈ BW := bw_t 877 (by decide +kernel) rfl
theorem bw_879 : (Jvm.Cond.methodLink "LiftScheduler$Script" (149 : Nat) ({ cls := "LiftScheduler$Kind", name := "ordinal", desc := "()I" } : Jvm.MethodName)) ∈ BW := bw_t 879 (by decide +kernel) rfl
theorem bw_880 : (Jvm.Cond.sameMethod "LiftScheduler$Kind" "java/lang/Enum" "ordinal" "()I") ∈ BW := bw_t 880 (by decide +kernel) rfl
theorem bw_882 : (Jvm.Cond.selects "LiftScheduler$Kind" ({ cls := "LiftScheduler$Kind", name := "ordinal", desc := "()I" } : Jvm.MethodName) ({ cls := "java/lang/Enum", name := "ordinal", desc := "()I" } : Jvm.MethodName)) ∈ BW := bw_t 882 (by decide +kernel) rfl
theorem bw_883 : (Jvm.Cond.instanceMethod ({ cls := "java/lang/Enum", name := "ordinal", desc := "()I" } : Jvm.MethodName)) ∈ BW := bw_t 883 (by decide +kernel) rfl
theorem bw_884 : (Jvm.Cond.code ({ cls := "java/lang/Enum", name := "ordinal", desc := "()I" } : Jvm.MethodName) prog_12_method_2_code (1 : Nat) (Option.some Jvm.ClassFile.FieldType.int)) ∈ BW := bw_t 884 (by decide +kernel) rfl
theorem bw_885 : (Jvm.Cond.methodLink "LiftScheduler$Script" (111 : Nat) ({ cls := "LiftScheduler$Simulation", name := "begin", desc := "(III)V" } : Jvm.MethodName)) ∈ BW := bw_t 885 (by decide +kernel) rfl
theorem bw_886 : (Jvm.Cond.fieldLink "LiftScheduler$Script" (117 : Nat) "LiftScheduler$Kind" "SEMICOLON" "LLiftScheduler$Kind;") ∈ BW := bw_t 886 (by decide +kernel) rfl
theorem bw_888 : (Jvm.Cond.methodLink "LiftScheduler" (69 : Nat) ({ cls := "LiftScheduler$Script", name := "performCommands", desc := "(LLiftScheduler$Simulation;)Z" } : Jvm.MethodName)) ∈ BW := bw_t 888 (by decide +kernel) rfl
theorem bw_889 : (Jvm.Cond.instanceMethod ({ cls := "LiftScheduler$Script", name := "performCommands", desc := "(LLiftScheduler$Simulation;)Z" } : Jvm.MethodName)) ∈ BW := bw_t 889 (by decide +kernel) rfl
theorem bw_890 : (Jvm.Cond.selects "LiftScheduler$Script" ({ cls := "LiftScheduler$Script", name := "performCommands", desc := "(LLiftScheduler$Simulation;)Z" } : Jvm.MethodName) ({ cls := "LiftScheduler$Script", name := "performCommands", desc := "(LLiftScheduler$Simulation;)Z" } : Jvm.MethodName)) ∈ BW := bw_t 890 (by decide +kernel) rfl
theorem bw_891 : (Jvm.Cond.code ({ cls := "LiftScheduler$Script", name := "performCommands", desc := "(LLiftScheduler$Simulation;)Z" } : Jvm.MethodName) prog_4_method_12_code (4 : Nat) (Option.some Jvm.ClassFile.FieldType.boolean)) ∈ BW := bw_t 891 (by decide +kernel) rfl
theorem bw_892 : (Jvm.Cond.fieldLink "LiftScheduler$Script" (128 : Nat) "LiftScheduler$Kind" "REPEAT" "LLiftScheduler$Kind;") ∈ BW := bw_t 892 (by decide +kernel) rfl
theorem bw_894 : (Jvm.Cond.methodLink "LiftScheduler$Script" (131 : Nat) ({ cls := "LiftScheduler$Script", name := "performRepeat", desc := "()Z" } : Jvm.MethodName)) ∈ BW := bw_t 894 (by decide +kernel) rfl
theorem bw_896 : (Jvm.Cond.instanceMethod ({ cls := "LiftScheduler$Script", name := "performRepeat", desc := "()Z" } : Jvm.MethodName)) ∈ BW := bw_t 896 (by decide +kernel) rfl
theorem bw_897 : (Jvm.Cond.code ({ cls := "LiftScheduler$Script", name := "performRepeat", desc := "()Z" } : Jvm.MethodName) prog_4_method_13_code (5 : Nat) (Option.some Jvm.ClassFile.FieldType.boolean)) ∈ BW := bw_t 897 (by decide +kernel) rfl
theorem bw_898 : (Jvm.Cond.fieldLink "LiftScheduler$Script" (138 : Nat) "LiftScheduler$Kind" "OPEN" "LLiftScheduler$Kind;") ∈ BW := bw_t 898 (by decide +kernel) rfl
theorem bw_900 : (Jvm.Cond.fieldLink "LiftScheduler$Script" (141 : Nat) "LiftScheduler$Kind" "CLOSE" "LLiftScheduler$Kind;") ∈ BW := bw_t 900 (by decide +kernel) rfl
theorem bw_902 : (Jvm.Cond.methodLink "LiftScheduler$Script" (135 : Nat) ({ cls := "LiftScheduler$Script", name := "performSimple", desc := "()Z" } : Jvm.MethodName)) ∈ BW := bw_t 902 (by decide +kernel) rfl
theorem bw_904 : (Jvm.Cond.instanceMethod ({ cls := "LiftScheduler$Script", name := "performSimple", desc := "()Z" } : Jvm.MethodName)) ∈ BW := bw_t 904 (by decide +kernel) rfl
theorem bw_905 : (Jvm.Cond.code ({ cls := "LiftScheduler$Script", name := "performSimple", desc := "()Z" } : Jvm.MethodName) prog_4_method_14_code (1 : Nat) (Option.some Jvm.ClassFile.FieldType.boolean)) ∈ BW := bw_t 905 (by decide +kernel) rfl
theorem bw_906 : (Jvm.Cond.methodLink "LiftScheduler$Script" (152 : Nat) ({ cls := "LiftScheduler$Script", name := "performCall", desc := "()Z" } : Jvm.MethodName)) ∈ BW := bw_t 906 (by decide +kernel) rfl
theorem bw_908 : (Jvm.Cond.instanceMethod ({ cls := "LiftScheduler$Script", name := "performCall", desc := "()Z" } : Jvm.MethodName)) ∈ BW := bw_t 908 (by decide +kernel) rfl
theorem bw_909 : (Jvm.Cond.code ({ cls := "LiftScheduler$Script", name := "performCall", desc := "()Z" } : Jvm.MethodName) prog_4_method_15_code (4 : Nat) (Option.some Jvm.ClassFile.FieldType.boolean)) ∈ BW := bw_t 909 (by decide +kernel) rfl
theorem bw_910 : (Jvm.Cond.fieldLink "LiftScheduler$Script" (190 : Nat) "LiftScheduler$Kind" "AT" "LLiftScheduler$Kind;") ∈ BW := bw_t 910 (by decide +kernel) rfl
theorem bw_912 : (Jvm.Cond.methodLink "LiftScheduler$Script" (193 : Nat) ({ cls := "LiftScheduler$Simulation", name := "addArrival", desc := "(III)V" } : Jvm.MethodName)) ∈ BW := bw_t 912 (by decide +kernel) rfl
theorem bw_913 : (Jvm.Cond.instanceMethod ({ cls := "LiftScheduler$Simulation", name := "addArrival", desc := "(III)V" } : Jvm.MethodName)) ∈ BW := bw_t 913 (by decide +kernel) rfl
theorem bw_914 : (Jvm.Cond.selects "LiftScheduler$Simulation" ({ cls := "LiftScheduler$Simulation", name := "addArrival", desc := "(III)V" } : Jvm.MethodName) ({ cls := "LiftScheduler$Simulation", name := "addArrival", desc := "(III)V" } : Jvm.MethodName)) ∈ BW := bw_t 914 (by decide +kernel) rfl
theorem bw_915 : (Jvm.Cond.code ({ cls := "LiftScheduler$Simulation", name := "addArrival", desc := "(III)V" } : Jvm.MethodName) prog_5_method_4_code (5 : Nat) (Option.none : Option Jvm.ClassFile.FieldType)) ∈ BW := bw_t 915 (by decide +kernel) rfl
theorem bw_916 : (Jvm.Cond.methodLink "LiftScheduler$Script" (155 : Nat) ({ cls := "LiftScheduler$Script", name := "performRun", desc := "()Z" } : Jvm.MethodName)) ∈ BW := bw_t 916 (by decide +kernel) rfl
theorem bw_918 : (Jvm.Cond.instanceMethod ({ cls := "LiftScheduler$Script", name := "performRun", desc := "()Z" } : Jvm.MethodName)) ∈ BW := bw_t 918 (by decide +kernel) rfl
theorem bw_919 : (Jvm.Cond.code ({ cls := "LiftScheduler$Script", name := "performRun", desc := "()Z" } : Jvm.MethodName) prog_4_method_16_code (3 : Nat) (Option.some Jvm.ClassFile.FieldType.boolean)) ∈ BW := bw_t 919 (by decide +kernel) rfl
theorem bw_920 : (Jvm.Cond.methodLink "LiftScheduler$Script" (196 : Nat) ({ cls := "LiftScheduler$Simulation", name := "tick", desc := "()V" } : Jvm.MethodName)) ∈ BW := bw_t 920 (by decide +kernel) rfl
theorem bw_921 : (Jvm.Cond.methodLink "LiftScheduler$Script" (161 : Nat) ({ cls := "LiftScheduler$Simulation", name := "tickToEnd", desc := "(I)I" } : Jvm.MethodName)) ∈ BW := bw_t 921 (by decide +kernel) rfl
theorem bw_922 : (Jvm.Cond.instanceMethod ({ cls := "LiftScheduler$Simulation", name := "tickToEnd", desc := "(I)I" } : Jvm.MethodName)) ∈ BW := bw_t 922 (by decide +kernel) rfl
theorem bw_923 : (Jvm.Cond.selects "LiftScheduler$Simulation" ({ cls := "LiftScheduler$Simulation", name := "tickToEnd", desc := "(I)I" } : Jvm.MethodName) ({ cls := "LiftScheduler$Simulation", name := "tickToEnd", desc := "(I)I" } : Jvm.MethodName)) ∈ BW := bw_t 923 (by decide +kernel) rfl
theorem bw_924 : (Jvm.Cond.code ({ cls := "LiftScheduler$Simulation", name := "tickToEnd", desc := "(I)I" } : Jvm.MethodName) prog_5_method_20_code (3 : Nat) (Option.some Jvm.ClassFile.FieldType.int)) ∈ BW := bw_t 924 (by decide +kernel) rfl
theorem bw_925 : (Jvm.Cond.methodLink "LiftScheduler$Simulation" (120 : Nat) ({ cls := "LiftScheduler$Simulation", name := "isOver", desc := "()Z" } : Jvm.MethodName)) ∈ BW := bw_t 925 (by decide +kernel) rfl
theorem bw_926 : (Jvm.Cond.methodLink "LiftScheduler$Simulation" (124 : Nat) ({ cls := "LiftScheduler$Simulation", name := "tick", desc := "()V" } : Jvm.MethodName)) ∈ BW := bw_t 926 (by decide +kernel) rfl
theorem bw_927 : (Jvm.Cond.methodLink "LiftScheduler$Script" (165 : Nat) ({ cls := "LiftScheduler$Script", name := "performUntil", desc := "()Z" } : Jvm.MethodName)) ∈ BW := bw_t 927 (by decide +kernel) rfl
theorem bw_929 : (Jvm.Cond.instanceMethod ({ cls := "LiftScheduler$Script", name := "performUntil", desc := "()Z" } : Jvm.MethodName)) ∈ BW := bw_t 929 (by decide +kernel) rfl
theorem bw_930 : (Jvm.Cond.code ({ cls := "LiftScheduler$Script", name := "performUntil", desc := "()Z" } : Jvm.MethodName) prog_4_method_17_code (4 : Nat) (Option.some Jvm.ClassFile.FieldType.boolean)) ∈ BW := bw_t 930 (by decide +kernel) rfl
theorem bw_931 : (Jvm.Cond.methodLink "LiftScheduler$Script" (199 : Nat) ({ cls := "LiftScheduler$Script", name := "takeCounterAndValue", desc := "()I" } : Jvm.MethodName)) ∈ BW := bw_t 931 (by decide +kernel) rfl
theorem bw_933 : (Jvm.Cond.instanceMethod ({ cls := "LiftScheduler$Script", name := "takeCounterAndValue", desc := "()I" } : Jvm.MethodName)) ∈ BW := bw_t 933 (by decide +kernel) rfl
theorem bw_934 : (Jvm.Cond.code ({ cls := "LiftScheduler$Script", name := "takeCounterAndValue", desc := "()I" } : Jvm.MethodName) prog_4_method_26_code (1 : Nat) (Option.some Jvm.ClassFile.FieldType.int)) ∈ BW := bw_t 934 (by decide +kernel) rfl
theorem bw_935 : (Jvm.Cond.methodLink "LiftScheduler$Script" (226 : Nat) ({ cls := "LiftScheduler$Kind", name := "isCounter", desc := "()Z" } : Jvm.MethodName)) ∈ BW := bw_t 935 (by decide +kernel) rfl
theorem bw_936 : (Jvm.Cond.instanceMethod ({ cls := "LiftScheduler$Kind", name := "isCounter", desc := "()Z" } : Jvm.MethodName)) ∈ BW := bw_t 936 (by decide +kernel) rfl
theorem bw_937 : (Jvm.Cond.selects "LiftScheduler$Kind" ({ cls := "LiftScheduler$Kind", name := "isCounter", desc := "()Z" } : Jvm.MethodName) ({ cls := "LiftScheduler$Kind", name := "isCounter", desc := "()Z" } : Jvm.MethodName)) ∈ BW := bw_t 937 (by decide +kernel) rfl
theorem bw_938 : (Jvm.Cond.code ({ cls := "LiftScheduler$Kind", name := "isCounter", desc := "()Z" } : Jvm.MethodName) prog_3_method_4_code (1 : Nat) (Option.some Jvm.ClassFile.FieldType.boolean)) ∈ BW := bw_t 938 (by decide +kernel) rfl
theorem bw_939 : (Jvm.Cond.fieldLink "LiftScheduler$Kind" (46 : Nat) "LiftScheduler$Kind" "DONE" "LLiftScheduler$Kind;") ∈ BW := bw_t 939 (by decide +kernel) rfl
theorem bw_941 : (Jvm.Cond.fieldLink "LiftScheduler$Kind" (49 : Nat) "LiftScheduler$Kind" "RIDING" "LLiftScheduler$Kind;") ∈ BW := bw_t 941 (by decide +kernel) rfl
theorem bw_943 : (Jvm.Cond.fieldLink "LiftScheduler$Kind" (52 : Nat) "LiftScheduler$Kind" "WAITING" "LLiftScheduler$Kind;") ∈ BW := bw_t 943 (by decide +kernel) rfl
theorem bw_945 : (Jvm.Cond.fieldLink "LiftScheduler$Kind" (55 : Nat) "LiftScheduler$Kind" "FLOOR" "LLiftScheduler$Kind;") ∈ BW := bw_t 945 (by decide +kernel) rfl
theorem bw_947 : (Jvm.Cond.fieldLink "LiftScheduler$Kind" (58 : Nat) "LiftScheduler$Kind" "DISTANCE" "LLiftScheduler$Kind;") ∈ BW := bw_t 947 (by decide +kernel) rfl
theorem bw_949 : (Jvm.Cond.fieldLink "LiftScheduler$Kind" (61 : Nat) "LiftScheduler$Kind" "TIME" "LLiftScheduler$Kind;") ∈ BW := bw_t 949 (by decide +kernel) rfl
theorem bw_951 : (Jvm.Cond.methodLink "LiftScheduler$Script" (202 : Nat) ({ cls := "LiftScheduler$Script", name := "count", desc := "(LLiftScheduler$Kind;)I" } : Jvm.MethodName)) ∈ BW := bw_t 951 (by decide +kernel) rfl
theorem bw_953 : (Jvm.Cond.instanceMethod ({ cls := "LiftScheduler$Script", name := "count", desc := "(LLiftScheduler$Kind;)I" } : Jvm.MethodName)) ∈ BW := bw_t 953 (by decide +kernel) rfl
theorem bw_954 : (Jvm.Cond.code ({ cls := "LiftScheduler$Script", name := "count", desc := "(LLiftScheduler$Kind;)I" } : Jvm.MethodName) prog_4_method_21_code (2 : Nat) (Option.some Jvm.ClassFile.FieldType.int)) ∈ BW := bw_t 954 (by decide +kernel) rfl
theorem bw_955 : (Jvm.Cond.methodLink "LiftScheduler$Script" (217 : Nat) ({ cls := "LiftScheduler$Simulation", name := "countWith", desc := "(I)I" } : Jvm.MethodName)) ∈ BW := bw_t 955 (by decide +kernel) rfl
theorem bw_956 : (Jvm.Cond.methodLink "LiftScheduler$Script" (172 : Nat) ({ cls := "LiftScheduler$Script", name := "performPolicy", desc := "()Z" } : Jvm.MethodName)) ∈ BW := bw_t 956 (by decide +kernel) rfl
theorem bw_958 : (Jvm.Cond.instanceMethod ({ cls := "LiftScheduler$Script", name := "performPolicy", desc := "()Z" } : Jvm.MethodName)) ∈ BW := bw_t 958 (by decide +kernel) rfl
theorem bw_959 : (Jvm.Cond.code ({ cls := "LiftScheduler$Script", name := "performPolicy", desc := "()Z" } : Jvm.MethodName) prog_4_method_18_code (2 : Nat) (Option.some Jvm.ClassFile.FieldType.boolean)) ∈ BW := bw_t 959 (by decide +kernel) rfl
theorem bw_960 : (Jvm.Cond.methodLink "LiftScheduler$Script" (175 : Nat) ({ cls := "LiftScheduler$Script", name := "performCapacity", desc := "()Z" } : Jvm.MethodName)) ∈ BW := bw_t 960 (by decide +kernel) rfl
theorem bw_962 : (Jvm.Cond.instanceMethod ({ cls := "LiftScheduler$Script", name := "performCapacity", desc := "()Z" } : Jvm.MethodName)) ∈ BW := bw_t 962 (by decide +kernel) rfl
theorem bw_963 : (Jvm.Cond.code ({ cls := "LiftScheduler$Script", name := "performCapacity", desc := "()Z" } : Jvm.MethodName) prog_4_method_19_code (2 : Nat) (Option.some Jvm.ClassFile.FieldType.boolean)) ∈ BW := bw_t 963 (by decide +kernel) rfl
theorem bw_964 : (Jvm.Cond.methodLink "LiftScheduler$Script" (178 : Nat) ({ cls := "LiftScheduler$Script", name := "performExpect", desc := "()Z" } : Jvm.MethodName)) ∈ BW := bw_t 964 (by decide +kernel) rfl
theorem bw_966 : (Jvm.Cond.instanceMethod ({ cls := "LiftScheduler$Script", name := "performExpect", desc := "()Z" } : Jvm.MethodName)) ∈ BW := bw_t 966 (by decide +kernel) rfl
theorem bw_967 : (Jvm.Cond.code ({ cls := "LiftScheduler$Script", name := "performExpect", desc := "()Z" } : Jvm.MethodName) prog_4_method_20_code (4 : Nat) (Option.some Jvm.ClassFile.FieldType.boolean)) ∈ BW := bw_t 967 (by decide +kernel) rfl
theorem bw_969 : (Jvm.Cond.methodLink "LiftSchedulerLaw" (69 : Nat) ({ cls := "LiftScheduler", name := "floorCount", desc := "()I" } : Jvm.MethodName)) ∈ BW := bw_t 969 (by decide +kernel) rfl
theorem bw_970 : (Jvm.Cond.instanceMethod ({ cls := "LiftScheduler", name := "floorCount", desc := "()I" } : Jvm.MethodName)) ∈ BW := bw_t 970 (by decide +kernel) rfl
theorem bw_971 : (Jvm.Cond.selects "LiftScheduler" ({ cls := "LiftScheduler", name := "floorCount", desc := "()I" } : Jvm.MethodName) ({ cls := "LiftScheduler", name := "floorCount", desc := "()I" } : Jvm.MethodName)) ∈ BW := bw_t 971 (by decide +kernel) rfl
theorem bw_972 : (Jvm.Cond.code ({ cls := "LiftScheduler", name := "floorCount", desc := "()I" } : Jvm.MethodName) prog_1_method_9_code (1 : Nat) (Option.some Jvm.ClassFile.FieldType.int)) ∈ BW := bw_t 972 (by decide +kernel) rfl
theorem bw_973 : (Jvm.Cond.methodLink "LiftSchedulerLaw" (75 : Nat) ({ cls := "LiftScheduler", name := "parseError", desc := "()I" } : Jvm.MethodName)) ∈ BW := bw_t 973 (by decide +kernel) rfl
theorem bw_974 : (Jvm.Cond.instanceMethod ({ cls := "LiftScheduler", name := "parseError", desc := "()I" } : Jvm.MethodName)) ∈ BW := bw_t 974 (by decide +kernel) rfl
theorem bw_975 : (Jvm.Cond.selects "LiftScheduler" ({ cls := "LiftScheduler", name := "parseError", desc := "()I" } : Jvm.MethodName) ({ cls := "LiftScheduler", name := "parseError", desc := "()I" } : Jvm.MethodName)) ∈ BW := bw_t 975 (by decide +kernel) rfl
theorem bw_976 : (Jvm.Cond.code ({ cls := "LiftScheduler", name := "parseError", desc := "()I" } : Jvm.MethodName) prog_1_method_7_code (1 : Nat) (Option.some Jvm.ClassFile.FieldType.int)) ∈ BW := bw_t 976 (by decide +kernel) rfl
theorem bw_977 : (Jvm.Cond.methodLink "LiftSchedulerLaw" (170 : Nat) ({ cls := "java/lang/Math", name := "abs", desc := "(I)I" } : Jvm.MethodName)) ∈ BW := bw_t 977 (by decide +kernel) rfl
theorem bw_978 : (Jvm.Cond.sameMethod "java/lang/Throwable" "java/lang/Throwable" "fillInStackTrace" "(I)Ljava/lang/Throwable;") ∈ BW := bw_t 978 (by decide +kernel) rfl
theorem bw_979 : (Jvm.Cond.sameMethod "java/lang/AbstractStringBuilder" "java/lang/AbstractStringBuilder" "appendNull" "()Ljava/lang/AbstractStringBuilder;") ∈ BW := bw_t 979 (by decide +kernel) rfl
theorem bw_980 : (Jvm.Cond.sameMethod "java/lang/AbstractStringBuilder" "java/lang/AbstractStringBuilder" "ensureCapacityInternal" "(I)V") ∈ BW := bw_t 980 (by decide +kernel) rfl
theorem bw_981 : (Jvm.Cond.sameMethod "java/lang/AbstractStringBuilder" "java/lang/AbstractStringBuilder" "newCapacity" "(I)I") ∈ BW := bw_t 981 (by decide +kernel) rfl
theorem bw_982 : (Jvm.Cond.sameMethod "java/lang/AbstractStringBuilder" "java/lang/AbstractStringBuilder" "putStringAt" "(ILjava/lang/String;)V") ∈ BW := bw_t 982 (by decide +kernel) rfl
theorem bw_983 : (Jvm.Cond.sameMethod "java/lang/AbstractStringBuilder" "java/lang/AbstractStringBuilder" "inflateIfNeededFor" "(Ljava/lang/String;)V") ∈ BW := bw_t 983 (by decide +kernel) rfl
theorem bw_984 : (Jvm.Cond.sameMethod "java/lang/AbstractStringBuilder" "java/lang/AbstractStringBuilder" "inflate" "()V") ∈ BW := bw_t 984 (by decide +kernel) rfl
theorem bw_985 : (Jvm.Cond.sameMethod "java/lang/AbstractStringBuilder" "java/lang/AbstractStringBuilder" "append" "(I)Ljava/lang/AbstractStringBuilder;") ∈ BW := bw_t 985 (by decide +kernel) rfl
theorem bw_986 : (Jvm.Cond.sameMethod "java/lang/AbstractStringBuilder" "java/lang/AbstractStringBuilder" "append" "(C)Ljava/lang/AbstractStringBuilder;") ∈ BW := bw_t 986 (by decide +kernel) rfl
theorem bw_987 : (Jvm.Cond.sameMethod "java/lang/AbstractStringBuilder" "java/lang/AbstractStringBuilder" "length" "()I") ∈ BW := bw_t 987 (by decide +kernel) rfl
theorem bw_988 : (Jvm.Cond.sameMethod "java/lang/AbstractStringBuilder" "java/lang/AbstractStringBuilder" "charAt" "(I)C") ∈ BW := bw_t 988 (by decide +kernel) rfl
theorem bw_989 : (Jvm.Cond.fieldLink "java/lang/String" (9 : Nat) "java/lang/String" "value" "[B") ∈ BW := bw_t 989 (by decide +kernel) rfl
theorem bw_990 : (Jvm.Cond.fieldLink "java/lang/String" (15 : Nat) "java/lang/String" "coder" "B") ∈ BW := bw_t 990 (by decide +kernel) rfl
theorem bw_991 : (Jvm.Cond.fieldLink "LiftScheduler$Script" (76 : Nat) "LiftScheduler$Kind" "text" "Ljava/lang/String;") ∈ BW := bw_t 991 (by decide +kernel) rfl
theorem bw_992 : (Jvm.Cond.fieldLink "java/lang/Enum" (7 : Nat) "java/lang/Enum" "ordinal" "I") ∈ BW := bw_t 992 (by decide +kernel) rfl
theorem bs_0 : Cond.selects "LiftScheduler" ⟨"LiftScheduler", "requirePolicy", "(I)V"⟩ ⟨"LiftScheduler", "requirePolicy", "(I)V"⟩ ∈ BW := bw_s 0 (by decide +kernel) rfl
theorem bs_1 : Cond.selects "java/lang/Throwable" ⟨"java/lang/Throwable", "fillInStackTrace", "(I)Ljava/lang/Throwable;"⟩ ⟨"java/lang/Throwable", "fillInStackTrace", "(I)Ljava/lang/Throwable;"⟩ ∈ BW := bw_s 1 (by decide +kernel) rfl
theorem bs_2 : Cond.selects "LiftScheduler$Simulation" ⟨"LiftScheduler$Simulation", "findFirstRiding", "()I"⟩ ⟨"LiftScheduler$Simulation", "findFirstRiding", "()I"⟩ ∈ BW := bw_s 2 (by decide +kernel) rfl
theorem bs_3 : Cond.selects "LiftScheduler$Simulation" ⟨"LiftScheduler$Simulation", "findStopBelow", "(I)I"⟩ ⟨"LiftScheduler$Simulation", "findStopBelow", "(I)I"⟩ ∈ BW := bw_s 3 (by decide +kernel) rfl
theorem bs_4 : Cond.selects "LiftScheduler$Simulation" ⟨"LiftScheduler$Simulation", "findStopAbove", "(I)I"⟩ ⟨"LiftScheduler$Simulation", "findStopAbove", "(I)I"⟩ ∈ BW := bw_s 4 (by decide +kernel) rfl
theorem bs_5 : Cond.selects "LiftScheduler" ⟨"LiftScheduler", "requirePassenger", "(I)V"⟩ ⟨"LiftScheduler", "requirePassenger", "(I)V"⟩ ∈ BW := bw_s 5 (by decide +kernel) rfl
theorem bs_6 : Cond.selects "LiftScheduler" ⟨"LiftScheduler", "requireFloor", "(I)V"⟩ ⟨"LiftScheduler", "requireFloor", "(I)V"⟩ ∈ BW := bw_s 6 (by decide +kernel) rfl
theorem bs_7 : Cond.selects "LiftScheduler" ⟨"LiftScheduler", "rememberState", "()V"⟩ ⟨"LiftScheduler", "rememberState", "()V"⟩ ∈ BW := bw_s 7 (by decide +kernel) rfl
theorem bs_8 : Cond.selects "LiftScheduler$Simulation" ⟨"LiftScheduler$Simulation", "openDoors", "()V"⟩ ⟨"LiftScheduler$Simulation", "openDoors", "()V"⟩ ∈ BW := bw_s 8 (by decide +kernel) rfl
theorem bs_9 : Cond.selects "LiftScheduler$Simulation" ⟨"LiftScheduler$Simulation", "moveTowards", "(I)V"⟩ ⟨"LiftScheduler$Simulation", "moveTowards", "(I)V"⟩ ∈ BW := bw_s 9 (by decide +kernel) rfl
theorem bs_10 : Cond.selects "LiftScheduler" ⟨"LiftScheduler", "requireCapacity", "(I)V"⟩ ⟨"LiftScheduler", "requireCapacity", "(I)V"⟩ ∈ BW := bw_s 10 (by decide +kernel) rfl
theorem bs_11 : Cond.selects "LiftScheduler" ⟨"LiftScheduler", "appendFour", "(I)V"⟩ ⟨"LiftScheduler", "appendFour", "(I)V"⟩ ∈ BW := bw_s 11 (by decide +kernel) rfl
theorem bs_12 : Cond.selects "LiftScheduler$Script" ⟨"LiftScheduler$Script", "addToken", "(LLiftScheduler$Kind;II)V"⟩ ⟨"LiftScheduler$Script", "addToken", "(LLiftScheduler$Kind;II)V"⟩ ∈ BW := bw_s 12 (by decide +kernel) rfl
theorem bs_13 : Cond.selects "LiftScheduler$Script" ⟨"LiftScheduler$Script", "take", "(LLiftScheduler$Kind;)Z"⟩ ⟨"LiftScheduler$Script", "take", "(LLiftScheduler$Kind;)Z"⟩ ∈ BW := bw_s 13 (by decide +kernel) rfl
theorem bs_14 : Cond.selects "LiftScheduler$Script" ⟨"LiftScheduler$Script", "nextKind", "()LLiftScheduler$Kind;"⟩ ⟨"LiftScheduler$Script", "nextKind", "()LLiftScheduler$Kind;"⟩ ∈ BW := bw_s 14 (by decide +kernel) rfl
theorem bs_15 : Cond.selects "LiftScheduler$Script" ⟨"LiftScheduler$Script", "fail", "(II)Z"⟩ ⟨"LiftScheduler$Script", "fail", "(II)Z"⟩ ∈ BW := bw_s 15 (by decide +kernel) rfl
theorem bs_16 : Cond.selects "LiftScheduler$Script" ⟨"LiftScheduler$Script", "takeNumber", "(II)I"⟩ ⟨"LiftScheduler$Script", "takeNumber", "(II)I"⟩ ∈ BW := bw_s 16 (by decide +kernel) rfl
theorem bs_17 : Cond.selects "LiftScheduler$Script" ⟨"LiftScheduler$Script", "takePolicy", "()I"⟩ ⟨"LiftScheduler$Script", "takePolicy", "()I"⟩ ∈ BW := bw_s 17 (by decide +kernel) rfl
theorem bs_18 : Cond.selects "LiftScheduler$Script" ⟨"LiftScheduler$Script", "performRepeat", "()Z"⟩ ⟨"LiftScheduler$Script", "performRepeat", "()Z"⟩ ∈ BW := bw_s 18 (by decide +kernel) rfl
theorem bs_19 : Cond.selects "LiftScheduler$Script" ⟨"LiftScheduler$Script", "performSimple", "()Z"⟩ ⟨"LiftScheduler$Script", "performSimple", "()Z"⟩ ∈ BW := bw_s 19 (by decide +kernel) rfl
theorem bs_20 : Cond.selects "LiftScheduler$Script" ⟨"LiftScheduler$Script", "performCall", "()Z"⟩ ⟨"LiftScheduler$Script", "performCall", "()Z"⟩ ∈ BW := bw_s 20 (by decide +kernel) rfl
theorem bs_21 : Cond.selects "LiftScheduler$Script" ⟨"LiftScheduler$Script", "performRun", "()Z"⟩ ⟨"LiftScheduler$Script", "performRun", "()Z"⟩ ∈ BW := bw_s 21 (by decide +kernel) rfl
theorem bs_22 : Cond.selects "LiftScheduler$Script" ⟨"LiftScheduler$Script", "performUntil", "()Z"⟩ ⟨"LiftScheduler$Script", "performUntil", "()Z"⟩ ∈ BW := bw_s 22 (by decide +kernel) rfl
theorem bs_23 : Cond.selects "LiftScheduler$Script" ⟨"LiftScheduler$Script", "takeCounterAndValue", "()I"⟩ ⟨"LiftScheduler$Script", "takeCounterAndValue", "()I"⟩ ∈ BW := bw_s 23 (by decide +kernel) rfl
theorem bs_24 : Cond.selects "LiftScheduler$Script" ⟨"LiftScheduler$Script", "count", "(LLiftScheduler$Kind;)I"⟩ ⟨"LiftScheduler$Script", "count", "(LLiftScheduler$Kind;)I"⟩ ∈ BW := bw_s 24 (by decide +kernel) rfl
theorem bs_25 : Cond.selects "LiftScheduler$Script" ⟨"LiftScheduler$Script", "performPolicy", "()Z"⟩ ⟨"LiftScheduler$Script", "performPolicy", "()Z"⟩ ∈ BW := bw_s 25 (by decide +kernel) rfl
theorem bs_26 : Cond.selects "LiftScheduler$Script" ⟨"LiftScheduler$Script", "performCapacity", "()Z"⟩ ⟨"LiftScheduler$Script", "performCapacity", "()Z"⟩ ∈ BW := bw_s 26 (by decide +kernel) rfl
theorem bs_27 : Cond.selects "LiftScheduler$Script" ⟨"LiftScheduler$Script", "performExpect", "()Z"⟩ ⟨"LiftScheduler$Script", "performExpect", "()Z"⟩ ∈ BW := bw_s 27 (by decide +kernel) rfl
def TX1_isCounter : MT := (yX1_isCounter, cX1_isCounter, 1, (some .boolean), [])
theorem MX1_isCounter : MWv TX1_isCounter 0 := ⟨⟨⟨by decide +kernel, by decide +kernel⟩, by decide +kernel, by decide, bw_17, bw_938, rfl⟩, bw_936, bw_937⟩
def TX2_init : MT := (yX2_init, cX2_init, 1, none, [])
theorem MX2_init : MWi TX2_init 0 := ⟨⟨⟨by decide +kernel, by decide +kernel⟩, by decide +kernel, by decide, bw_4, bw_133, rfl⟩, bw_132, by decide +kernel⟩
def TX2_isSpace : MT := (yX2_isSpace, cX2_isSpace, 1, (some .boolean), [])
theorem MX2_isSpace : MWs TX2_isSpace 1 := ⟨⟨⟨by decide +kernel, by decide +kernel⟩, by decide +kernel, by decide, bw_4, bw_803, rfl⟩, bw_802⟩
def TX2_isLetter : MT := (yX2_isLetter, cX2_isLetter, 1, (some .boolean), [])
theorem MX2_isLetter : MWs TX2_isLetter 1 := ⟨⟨⟨by decide +kernel, by decide +kernel⟩, by decide +kernel, by decide, bw_4, bw_809, rfl⟩, bw_808⟩
def TX2_isDigit : MT := (yX2_isDigit, cX2_isDigit, 1, (some .boolean), [])
theorem MX2_isDigit : MWs TX2_isDigit 1 := ⟨⟨⟨by decide +kernel, by decide +kernel⟩, by decide +kernel, by decide, bw_4, bw_812, rfl⟩, bw_811⟩
def TX2_belongTogether : MT := (yX2_belongTogether, cX2_belongTogether, 2, (some .boolean), [])
theorem MX2_belongTogether : MWs TX2_belongTogether 2 := ⟨⟨⟨by decide +kernel, by decide +kernel⟩, by decide +kernel, by decide, bw_4, bw_806, rfl⟩, bw_805⟩
def TX2_numberOf : MT := (yX2_numberOf, cX2_numberOf, 5, (some .int), [])
theorem MX2_numberOf : MWs TX2_numberOf 3 := ⟨⟨⟨by decide +kernel, by decide +kernel⟩, by decide +kernel, by decide, bw_4, bw_817, rfl⟩, bw_816⟩
def TX2_addToken : MT := (yX2_addToken, cX2_addToken, 4, none, [])
theorem MX2_addToken : MWv TX2_addToken 3 := ⟨⟨⟨by decide +kernel, by decide +kernel⟩, by decide +kernel, by decide, bw_4, bw_821, rfl⟩, bw_820, bs_12⟩
def TJ0_coder_7d493 : MT := (yJ0_coder_7d493, cJ0_coder_7d493, 1, (some .byte), [])
theorem MJ0_coder_7d493 : MWv TJ0_coder_7d493 0 := ⟨⟨⟨by decide +kernel, by decide +kernel⟩, by decide +kernel, by decide, bw_7, bw_561, rfl⟩, bw_559, bw_560⟩
def TJ0_length_8abf5 : MT := (yJ0_length_8abf5, cJ0_length_8abf5, 1, (some .int), [])
theorem MJ0_length_8abf5 : MWv TJ0_length_8abf5 0 := ⟨⟨⟨by decide +kernel, by decide +kernel⟩, by decide +kernel, by decide, bw_7, bw_557, rfl⟩, bw_555, bw_556⟩
def TJ0_isLatin1_aae02 : MT := (yJ0_isLatin1_aae02, cJ0_isLatin1_aae02, 1, (some .boolean), [])
theorem MJ0_isLatin1_aae02 : MWv TJ0_isLatin1_aae02 0 := ⟨⟨⟨by decide +kernel, by decide +kernel⟩, by decide +kernel, by decide, bw_7, bw_838, rfl⟩, bw_836, bw_837⟩
def TJ3_checkIndex_8e157 : MT := (yJ3_checkIndex_8e157, cJ3_checkIndex_8e157, 3, (some .int), [])
theorem MJ3_checkIndex_8e157 : MWs TJ3_checkIndex_8e157 3 := ⟨⟨⟨by decide +kernel, by decide +kernel⟩, by decide +kernel, by decide, bw_13, bw_741, rfl⟩, bw_740⟩
def TJ0_checkIndex_df160 : MT := (yJ0_checkIndex_df160, cJ0_checkIndex_df160, 2, none, [])
theorem MJ0_checkIndex_df160 : MWs TJ0_checkIndex_df160 2 := ⟨⟨⟨by decide +kernel, by decide +kernel⟩, by decide +kernel, by decide, bw_7, bw_738, rfl⟩, bw_737⟩
def TJ1_charAt_3b067 : MT := (yJ1_charAt_3b067, cJ1_charAt_3b067, 2, (some .char), [])
theorem MJ1_charAt_3b067 : MWs TJ1_charAt_3b067 2 := ⟨⟨⟨by decide +kernel, by decide +kernel⟩, by decide +kernel, by decide, bw_14, bw_841, rfl⟩, bw_840⟩
def TJ2_length_9d52b : MT := (yJ2_length_9d52b, cJ2_length_9d52b, 1, (some .int), [])
theorem MJ2_length_9d52b : MWs TJ2_length_9d52b 1 := ⟨⟨⟨by decide +kernel, by decide +kernel⟩, by decide +kernel, by decide, bw_8, bw_633, rfl⟩, bw_632⟩
def TJ2_checkIndex_2214a : MT := (yJ2_checkIndex_2214a, cJ2_checkIndex_2214a, 2, none, [])
theorem MJ2_checkIndex_2214a : MWs TJ2_checkIndex_2214a 2 := ⟨⟨⟨by decide +kernel, by decide +kernel⟩, by decide +kernel, by decide, bw_8, bw_735, rfl⟩, bw_734⟩
def TJ2_getChar_3b067 : MT := (yJ2_getChar_3b067, cJ2_getChar_3b067, 2, (some .char), [])
theorem MJ2_getChar_3b067 : MWs TJ2_getChar_3b067 2 := ⟨⟨⟨by decide +kernel, by decide +kernel⟩, by decide +kernel, by decide, bw_8, bw_784, rfl⟩, bw_783⟩
def TJ2_charAt_3b067 : MT := (yJ2_charAt_3b067, cJ2_charAt_3b067, 2, (some .char), [])
theorem MJ2_charAt_3b067 : MWs TJ2_charAt_3b067 2 := ⟨⟨⟨by decide +kernel, by decide +kernel⟩, by decide +kernel, by decide, bw_8, bw_845, rfl⟩, bw_844⟩
def TJ0_charAt_5068e : MT := (yJ0_charAt_5068e, cJ0_charAt_5068e, 2, (some .char), [])
theorem MJ0_charAt_5068e : MWv TJ0_charAt_5068e 1 := ⟨⟨⟨by decide +kernel, by decide +kernel⟩, by decide +kernel, by decide, bw_7, bw_834, rfl⟩, bw_832, bw_833⟩
def TX2_isText : MT := (yX2_isText, cX2_isText, 5, (some .boolean), [])
theorem MX2_isText : MWs TX2_isText 4 := ⟨⟨⟨by decide +kernel, by decide +kernel⟩, by decide +kernel, by decide, bw_4, bw_829, rfl⟩, bw_828⟩
def TX2_kindOf : MT := (yX2_kindOf, cX2_kindOf, 7, (some (.object "LiftScheduler$Kind")), [])
theorem MX2_kindOf : MWs TX2_kindOf 3 := ⟨⟨⟨by decide +kernel, by decide +kernel⟩, by decide +kernel, by decide, bw_4, bw_824, rfl⟩, bw_823⟩
def TX2_readTokens : MT := (yX2_readTokens, cX2_readTokens, 5, none, [])
theorem MX2_readTokens : MWv TX2_readTokens 2 := ⟨⟨⟨by decide +kernel, by decide +kernel⟩, by decide +kernel, by decide, bw_4, bw_800, rfl⟩, bw_798, bw_799⟩
def TX2_nextKind : MT := (yX2_nextKind, cX2_nextKind, 1, (some (.object "LiftScheduler$Kind")), [])
theorem MX2_nextKind : MWv TX2_nextKind 0 := ⟨⟨⟨by decide +kernel, by decide +kernel⟩, by decide +kernel, by decide, bw_4, bw_864, rfl⟩, bw_863, bs_14⟩
def TX2_fail : MT := (yX2_fail, cX2_fail, 3, (some .boolean), [])
theorem MX2_fail : MWv TX2_fail 2 := ⟨⟨⟨by decide +kernel, by decide +kernel⟩, by decide +kernel, by decide, bw_4, bw_868, rfl⟩, bw_867, bs_15⟩
def TX2_take : MT := (yX2_take, cX2_take, 2, (some .boolean), [])
theorem MX2_take : MWv TX2_take 1 := ⟨⟨⟨by decide +kernel, by decide +kernel⟩, by decide +kernel, by decide, bw_4, bw_860, rfl⟩, bw_859, bs_13⟩
def TX2_takeNumber : MT := (yX2_takeNumber, cX2_takeNumber, 4, (some .int), [])
theorem MX2_takeNumber : MWv TX2_takeNumber 2 := ⟨⟨⟨by decide +kernel, by decide +kernel⟩, by decide +kernel, by decide, bw_4, bw_872, rfl⟩, bw_871, bs_16⟩
def TJx29ce0_ordinal_8abf5 : MT := (yJx29ce0_ordinal_8abf5, cJx29ce0_ordinal_8abf5, 1, (some .int), [])
def TX2_takePolicy : MT := (yX2_takePolicy, cX2_takePolicy, 2, (some .int), [])
theorem MX2_takePolicy : MWv TX2_takePolicy 0 := ⟨⟨⟨by decide +kernel, by decide +kernel⟩, by decide +kernel, by decide, bw_4, bw_876, rfl⟩, bw_875, bs_17⟩
def TX3_begin : MT := (yX3_begin, cX3_begin, 4, none, [])
theorem MX3_begin : MWv TX3_begin 3 := ⟨⟨⟨by decide +kernel, by decide +kernel⟩, by decide +kernel, by decide, bw_3, bw_42, rfl⟩, bw_40, bw_41⟩
def TX2_performHeader : MT := (yX2_performHeader, cX2_performHeader, 5, (some .boolean), [])
theorem MX2_performHeader : MWv TX2_performHeader 1 := ⟨⟨⟨by decide +kernel, by decide +kernel⟩, by decide +kernel, by decide, bw_4, bw_854, rfl⟩, bw_852, bw_853⟩
def TX3_addArrival : MT := (yX3_addArrival, cX3_addArrival, 5, none, [])
theorem MX3_addArrival : MWv TX3_addArrival 3 := ⟨⟨⟨by decide +kernel, by decide +kernel⟩, by decide +kernel, by decide, bw_3, bw_915, rfl⟩, bw_913, bw_914⟩
def TX2_performCall : MT := (yX2_performCall, cX2_performCall, 4, (some .boolean), [])
theorem MX2_performCall : MWv TX2_performCall 0 := ⟨⟨⟨by decide +kernel, by decide +kernel⟩, by decide +kernel, by decide, bw_4, bw_909, rfl⟩, bw_908, bs_20⟩
def TX3_findStops : MT := (yX3_findStops, cX3_findStops, 4, (some .int), [])
theorem MX3_findStops : MWv TX3_findStops 0 := ⟨⟨⟨by decide +kernel, by decide +kernel⟩, by decide +kernel, by decide, bw_3, bw_232, rfl⟩, bw_230, bw_231⟩
def TX3_findFirstRiding : MT := (yX3_findFirstRiding, cX3_findFirstRiding, 2, (some .int), [])
theorem MX3_findFirstRiding : MWv TX3_findFirstRiding 0 := ⟨⟨⟨by decide +kernel, by decide +kernel⟩, by decide +kernel, by decide, bw_3, bw_316, rfl⟩, bw_315, bs_2⟩
def TX3_findFirstWaiting : MT := (yX3_findFirstWaiting, cX3_findFirstWaiting, 3, (some .int), [])
theorem MX3_findFirstWaiting : MWv TX3_findFirstWaiting 0 := ⟨⟨⟨by decide +kernel, by decide +kernel⟩, by decide +kernel, by decide, bw_3, bw_320, rfl⟩, bw_318, bw_319⟩
def TX3_findStopBelow : MT := (yX3_findStopBelow, cX3_findStopBelow, 3, (some .int), [])
theorem MX3_findStopBelow : MWv TX3_findStopBelow 1 := ⟨⟨⟨by decide +kernel, by decide +kernel⟩, by decide +kernel, by decide, bw_3, bw_324, rfl⟩, bw_323, bs_3⟩
def TX3_findStopAbove : MT := (yX3_findStopAbove, cX3_findStopAbove, 3, (some .int), [])
theorem MX3_findStopAbove : MWv TX3_findStopAbove 1 := ⟨⟨⟨by decide +kernel, by decide +kernel⟩, by decide +kernel, by decide, bw_3, bw_328, rfl⟩, bw_327, bs_4⟩
def TX3_findTarget : MT := (yX3_findTarget, cX3_findTarget, 5, (some .int), [])
theorem MX3_findTarget : MWv TX3_findTarget 1 := ⟨⟨⟨by decide +kernel, by decide +kernel⟩, by decide +kernel, by decide, bw_3, bw_311, rfl⟩, bw_309, bw_310⟩
def TX3_openDoors : MT := (yX3_openDoors, cX3_openDoors, 3, none, [])
theorem MX3_openDoors : MWv TX3_openDoors 0 := ⟨⟨⟨by decide +kernel, by decide +kernel⟩, by decide +kernel, by decide, bw_3, bw_507, rfl⟩, bw_506, bs_8⟩
def TX3_moveTowards : MT := (yX3_moveTowards, cX3_moveTowards, 3, none, [])
theorem MX3_moveTowards : MWv TX3_moveTowards 1 := ⟨⟨⟨by decide +kernel, by decide +kernel⟩, by decide +kernel, by decide, bw_3, bw_511, rfl⟩, bw_510, bs_9⟩
def TX3_tick : MT := (yX3_tick, cX3_tick, 2, none, [])
theorem MX3_tick : MWv TX3_tick 0 := ⟨⟨⟨by decide +kernel, by decide +kernel⟩, by decide +kernel, by decide, bw_3, bw_502, rfl⟩, bw_500, bw_501⟩
def TX2_performRun : MT := (yX2_performRun, cX2_performRun, 3, (some .boolean), [])
theorem MX2_performRun : MWv TX2_performRun 0 := ⟨⟨⟨by decide +kernel, by decide +kernel⟩, by decide +kernel, by decide, bw_4, bw_919, rfl⟩, bw_918, bs_21⟩
def TX3_isOver : MT := (yX3_isOver, cX3_isOver, 1, (some .boolean), [])
theorem MX3_isOver : MWv TX3_isOver 0 := ⟨⟨⟨by decide +kernel, by decide +kernel⟩, by decide +kernel, by decide, bw_3, bw_463, rfl⟩, bw_461, bw_462⟩
def TX3_tickToEnd : MT := (yX3_tickToEnd, cX3_tickToEnd, 3, (some .int), [])
theorem MX3_tickToEnd : MWv TX3_tickToEnd 1 := ⟨⟨⟨by decide +kernel, by decide +kernel⟩, by decide +kernel, by decide, bw_3, bw_924, rfl⟩, bw_922, bw_923⟩
def TX2_takeCounterAndValue : MT := (yX2_takeCounterAndValue, cX2_takeCounterAndValue, 1, (some .int), [])
theorem MX2_takeCounterAndValue : MWv TX2_takeCounterAndValue 0 := ⟨⟨⟨by decide +kernel, by decide +kernel⟩, by decide +kernel, by decide, bw_4, bw_934, rfl⟩, bw_933, bs_23⟩
def TX3_findStatus : MT := (yX3_findStatus, cX3_findStatus, 2, (some .int), [])
theorem MX3_findStatus : MWv TX3_findStatus 1 := ⟨⟨⟨by decide +kernel, by decide +kernel⟩, by decide +kernel, by decide, bw_3, bw_368, rfl⟩, bw_366, bw_367⟩
def TX3_countWith : MT := (yX3_countWith, cX3_countWith, 4, (some .int), [])
theorem MX3_countWith : MWv TX3_countWith 1 := ⟨⟨⟨by decide +kernel, by decide +kernel⟩, by decide +kernel, by decide, bw_3, bw_420, rfl⟩, bw_418, bw_419⟩
def TX2_count : MT := (yX2_count, cX2_count, 2, (some .int), [])
theorem MX2_count : MWv TX2_count 1 := ⟨⟨⟨by decide +kernel, by decide +kernel⟩, by decide +kernel, by decide, bw_4, bw_954, rfl⟩, bw_953, bs_24⟩
def TX2_performUntil : MT := (yX2_performUntil, cX2_performUntil, 4, (some .boolean), [])
theorem MX2_performUntil : MWv TX2_performUntil 0 := ⟨⟨⟨by decide +kernel, by decide +kernel⟩, by decide +kernel, by decide, bw_4, bw_930, rfl⟩, bw_929, bs_22⟩
def TX2_performPolicy : MT := (yX2_performPolicy, cX2_performPolicy, 2, (some .boolean), [])
theorem MX2_performPolicy : MWv TX2_performPolicy 0 := ⟨⟨⟨by decide +kernel, by decide +kernel⟩, by decide +kernel, by decide, bw_4, bw_959, rfl⟩, bw_958, bs_25⟩
def TX2_performCapacity : MT := (yX2_performCapacity, cX2_performCapacity, 2, (some .boolean), [])
theorem MX2_performCapacity : MWv TX2_performCapacity 0 := ⟨⟨⟨by decide +kernel, by decide +kernel⟩, by decide +kernel, by decide, bw_4, bw_963, rfl⟩, bw_962, bs_26⟩
def TX2_performExpect : MT := (yX2_performExpect, cX2_performExpect, 4, (some .boolean), [])
theorem MX2_performExpect : MWv TX2_performExpect 0 := ⟨⟨⟨by decide +kernel, by decide +kernel⟩, by decide +kernel, by decide, bw_4, bw_967, rfl⟩, bw_966, bs_27⟩
def TX2_performSimple : MT := (yX2_performSimple, cX2_performSimple, 1, (some .boolean), [])
theorem MX2_performSimple : MWv TX2_performSimple 0 := ⟨⟨⟨by decide +kernel, by decide +kernel⟩, by decide +kernel, by decide, bw_4, bw_905, rfl⟩, bw_904, bs_19⟩
def TX2_performRepeat : MT := (yX2_performRepeat, cX2_performRepeat, 5, (some .boolean), [])
theorem MX2_performRepeat : MWv TX2_performRepeat 0 := ⟨⟨⟨by decide +kernel, by decide +kernel⟩, by decide +kernel, by decide, bw_4, bw_897, rfl⟩, bw_896, bs_18⟩
def TX2_performCommands : MT := (yX2_performCommands, cX2_performCommands, 4, (some .boolean), [])
theorem MX2_performCommands : MWv TX2_performCommands 1 := ⟨⟨⟨by decide +kernel, by decide +kernel⟩, by decide +kernel, by decide, bw_4, bw_891, rfl⟩, bw_889, bw_890⟩
def TX3_init : MT := (yX3_init, cX3_init, 1, none, [])
theorem MX3_init : MWi TX3_init 0 := ⟨⟨⟨by decide +kernel, by decide +kernel⟩, by decide +kernel, by decide, bw_3, bw_37, rfl⟩, bw_36, by decide +kernel⟩
def TX3_copyFrom : MT := (yX3_copyFrom, cX3_copyFrom, 2, none, [])
theorem MX3_copyFrom : MWv TX3_copyFrom 1 := ⟨⟨⟨by decide +kernel, by decide +kernel⟩, by decide +kernel, by decide, bw_3, bw_492, rfl⟩, bw_490, bw_491⟩
def TX3_findWait : MT := (yX3_findWait, cX3_findWait, 2, (some .int), [])
theorem MX3_findWait : MWv TX3_findWait 1 := ⟨⟨⟨by decide +kernel, by decide +kernel⟩, by decide +kernel, by decide, bw_3, bw_396, rfl⟩, bw_394, bw_395⟩
def TX3_findRide : MT := (yX3_findRide, cX3_findRide, 2, (some .int), [])
theorem MX3_findRide : MWv TX3_findRide 1 := ⟨⟨⟨by decide +kernel, by decide +kernel⟩, by decide +kernel, by decide, bw_3, bw_404, rfl⟩, bw_402, bw_403⟩
def TX3_countWaiting : MT := (yX3_countWaiting, cX3_countWaiting, 4, (some .int), [])
theorem MX3_countWaiting : MWv TX3_countWaiting 1 := ⟨⟨⟨by decide +kernel, by decide +kernel⟩, by decide +kernel, by decide, bw_3, bw_434, rfl⟩, bw_432, bw_433⟩
def TX3_sumWaits : MT := (yX3_sumWaits, cX3_sumWaits, 3, (some .int), [])
theorem MX3_sumWaits : MWv TX3_sumWaits 0 := ⟨⟨⟨by decide +kernel, by decide +kernel⟩, by decide +kernel, by decide, bw_3, bw_451, rfl⟩, bw_449, bw_450⟩
def TX4_init : MT := (yX4_init, cX4_init, 2, none, [])
theorem MX4_init : MWi TX4_init 0 := ⟨⟨⟨by decide +kernel, by decide +kernel⟩, by decide +kernel, by decide, bw_2, bw_29, rfl⟩, bw_28, by decide +kernel⟩
def TX4_appendFour : MT := (yX4_appendFour, cX4_appendFour, 3, none, [])
theorem MX4_appendFour : MWv TX4_appendFour 1 := ⟨⟨⟨by decide +kernel, by decide +kernel⟩, by decide +kernel, by decide, bw_2, bw_792, rfl⟩, bw_791, bs_11⟩
def TX4_append : MT := (yX4_append, cX4_append, 6, (some .int), [])
theorem MX4_append : MWv TX4_append 5 := ⟨⟨⟨by decide +kernel, by decide +kernel⟩, by decide +kernel, by decide, bw_2, bw_788, rfl⟩, bw_786, bw_787⟩
def TX4_truncate : MT := (yX4_truncate, cX4_truncate, 2, (some .boolean), [])
theorem MX4_truncate : MWv TX4_truncate 1 := ⟨⟨⟨by decide +kernel, by decide +kernel⟩, by decide +kernel, by decide, bw_2, bw_754, rfl⟩, bw_752, bw_753⟩
def TX4_load : MT := (yX4_load, cX4_load, 2, (some .int), [])
theorem MX4_load : MWv TX4_load 0 := ⟨⟨⟨by decide +kernel, by decide +kernel⟩, by decide +kernel, by decide, bw_2, bw_796, rfl⟩, bw_794, bw_795⟩
def TX4_parseError : MT := (yX4_parseError, cX4_parseError, 1, (some .int), [])
theorem MX4_parseError : MWv TX4_parseError 0 := ⟨⟨⟨by decide +kernel, by decide +kernel⟩, by decide +kernel, by decide, bw_2, bw_976, rfl⟩, bw_974, bw_975⟩
def TX4_floorCount : MT := (yX4_floorCount, cX4_floorCount, 1, (some .int), [])
theorem MX4_floorCount : MWv TX4_floorCount 0 := ⟨⟨⟨by decide +kernel, by decide +kernel⟩, by decide +kernel, by decide, bw_2, bw_972, rfl⟩, bw_970, bw_971⟩
def TX4_capacity : MT := (yX4_capacity, cX4_capacity, 1, (some .int), [])
theorem MX4_capacity : MWv TX4_capacity 0 := ⟨⟨⟨by decide +kernel, by decide +kernel⟩, by decide +kernel, by decide, bw_2, bw_208, rfl⟩, bw_206, bw_207⟩
def TX4_policy : MT := (yX4_policy, cX4_policy, 1, (some .int), [])
theorem MX4_policy : MWv TX4_policy 0 := ⟨⟨⟨by decide +kernel, by decide +kernel⟩, by decide +kernel, by decide, bw_2, bw_212, rfl⟩, bw_210, bw_211⟩
def TX4_time : MT := (yX4_time, cX4_time, 1, (some .int), [])
theorem MX4_time : MWv TX4_time 0 := ⟨⟨⟨by decide +kernel, by decide +kernel⟩, by decide +kernel, by decide, bw_2, bw_216, rfl⟩, bw_214, bw_215⟩
def TX4_floor : MT := (yX4_floor, cX4_floor, 1, (some .int), [])
theorem MX4_floor : MWv TX4_floor 0 := ⟨⟨⟨by decide +kernel, by decide +kernel⟩, by decide +kernel, by decide, bw_2, bw_220, rfl⟩, bw_218, bw_219⟩
def TX4_isFull : MT := (yX4_isFull, cX4_isFull, 1, (some .boolean), [])
theorem MX4_isFull : MWv TX4_isFull 0 := ⟨⟨⟨by decide +kernel, by decide +kernel⟩, by decide +kernel, by decide, bw_2, bw_224, rfl⟩, bw_222, bw_223⟩
def TX4_stopMask : MT := (yX4_stopMask, cX4_stopMask, 1, (some .int), [])
theorem MX4_stopMask : MWv TX4_stopMask 0 := ⟨⟨⟨by decide +kernel, by decide +kernel⟩, by decide +kernel, by decide, bw_2, bw_228, rfl⟩, bw_226, bw_227⟩
def TX4_requirePolicy : MT := (yX4_requirePolicy, cX4_requirePolicy, 2, none, [])
theorem MX4_requirePolicy : MWv TX4_requirePolicy 1 := ⟨⟨⟨by decide +kernel, by decide +kernel⟩, by decide +kernel, by decide, bw_2, bw_240, rfl⟩, bw_239, bs_0⟩
def TX4_targetBy : MT := (yX4_targetBy, cX4_targetBy, 2, (some .int), [])
theorem MX4_targetBy : MWv TX4_targetBy 1 := ⟨⟨⟨by decide +kernel, by decide +kernel⟩, by decide +kernel, by decide, bw_2, bw_236, rfl⟩, bw_234, bw_235⟩
def TX4_distance : MT := (yX4_distance, cX4_distance, 1, (some .int), [])
theorem MX4_distance : MWv TX4_distance 0 := ⟨⟨⟨by decide +kernel, by decide +kernel⟩, by decide +kernel, by decide, bw_2, bw_332, rfl⟩, bw_330, bw_331⟩
def TX4_doorTicks : MT := (yX4_doorTicks, cX4_doorTicks, 1, (some .int), [])
theorem MX4_doorTicks : MWv TX4_doorTicks 0 := ⟨⟨⟨by decide +kernel, by decide +kernel⟩, by decide +kernel, by decide, bw_2, bw_336, rfl⟩, bw_334, bw_335⟩
def TX4_idleTicks : MT := (yX4_idleTicks, cX4_idleTicks, 1, (some .int), [])
theorem MX4_idleTicks : MWv TX4_idleTicks 0 := ⟨⟨⟨by decide +kernel, by decide +kernel⟩, by decide +kernel, by decide, bw_2, bw_340, rfl⟩, bw_338, bw_339⟩
def TX4_requirePassenger : MT := (yX4_requirePassenger, cX4_requirePassenger, 2, none, [])
theorem MX4_requirePassenger : MWv TX4_requirePassenger 1 := ⟨⟨⟨by decide +kernel, by decide +kernel⟩, by decide +kernel, by decide, bw_2, bw_348, rfl⟩, bw_347, bs_5⟩
def TX4_statusOf : MT := (yX4_statusOf, cX4_statusOf, 2, (some .int), [])
theorem MX4_statusOf : MWv TX4_statusOf 1 := ⟨⟨⟨by decide +kernel, by decide +kernel⟩, by decide +kernel, by decide, bw_2, bw_344, rfl⟩, bw_342, bw_343⟩
def TX4_originOf : MT := (yX4_originOf, cX4_originOf, 2, (some .int), [])
theorem MX4_originOf : MWv TX4_originOf 1 := ⟨⟨⟨by decide +kernel, by decide +kernel⟩, by decide +kernel, by decide, bw_2, bw_372, rfl⟩, bw_370, bw_371⟩
def TX4_destinationOf : MT := (yX4_destinationOf, cX4_destinationOf, 2, (some .int), [])
theorem MX4_destinationOf : MWv TX4_destinationOf 1 := ⟨⟨⟨by decide +kernel, by decide +kernel⟩, by decide +kernel, by decide, bw_2, bw_376, rfl⟩, bw_374, bw_375⟩
def TX4_arrivalOf : MT := (yX4_arrivalOf, cX4_arrivalOf, 2, (some .int), [])
theorem MX4_arrivalOf : MWv TX4_arrivalOf 1 := ⟨⟨⟨by decide +kernel, by decide +kernel⟩, by decide +kernel, by decide, bw_2, bw_380, rfl⟩, bw_378, bw_379⟩
def TX4_boardedAt : MT := (yX4_boardedAt, cX4_boardedAt, 2, (some .int), [])
theorem MX4_boardedAt : MWv TX4_boardedAt 1 := ⟨⟨⟨by decide +kernel, by decide +kernel⟩, by decide +kernel, by decide, bw_2, bw_384, rfl⟩, bw_382, bw_383⟩
def TX4_leftAt : MT := (yX4_leftAt, cX4_leftAt, 2, (some .int), [])
theorem MX4_leftAt : MWv TX4_leftAt 1 := ⟨⟨⟨by decide +kernel, by decide +kernel⟩, by decide +kernel, by decide, bw_2, bw_388, rfl⟩, bw_386, bw_387⟩
def TX4_waitOf : MT := (yX4_waitOf, cX4_waitOf, 2, (some .int), [])
theorem MX4_waitOf : MWv TX4_waitOf 1 := ⟨⟨⟨by decide +kernel, by decide +kernel⟩, by decide +kernel, by decide, bw_2, bw_392, rfl⟩, bw_390, bw_391⟩
def TX4_rideOf : MT := (yX4_rideOf, cX4_rideOf, 2, (some .int), [])
theorem MX4_rideOf : MWv TX4_rideOf 1 := ⟨⟨⟨by decide +kernel, by decide +kernel⟩, by decide +kernel, by decide, bw_2, bw_400, rfl⟩, bw_398, bw_399⟩
def TX4_detourOf : MT := (yX4_detourOf, cX4_detourOf, 3, (some .int), [])
theorem MX4_detourOf : MWv TX4_detourOf 1 := ⟨⟨⟨by decide +kernel, by decide +kernel⟩, by decide +kernel, by decide, bw_2, bw_408, rfl⟩, bw_406, bw_407⟩
def TX4_countStatus : MT := (yX4_countStatus, cX4_countStatus, 2, (some .int), [])
theorem MX4_countStatus : MWv TX4_countStatus 1 := ⟨⟨⟨by decide +kernel, by decide +kernel⟩, by decide +kernel, by decide, bw_2, bw_415, rfl⟩, bw_413, bw_414⟩
def TX4_requireFloor : MT := (yX4_requireFloor, cX4_requireFloor, 2, none, [])
theorem MX4_requireFloor : MWv TX4_requireFloor 1 := ⟨⟨⟨by decide +kernel, by decide +kernel⟩, by decide +kernel, by decide, bw_2, bw_429, rfl⟩, bw_428, bs_6⟩
def TX4_waitingAt : MT := (yX4_waitingAt, cX4_waitingAt, 2, (some .int), [])
theorem MX4_waitingAt : MWv TX4_waitingAt 1 := ⟨⟨⟨by decide +kernel, by decide +kernel⟩, by decide +kernel, by decide, bw_2, bw_425, rfl⟩, bw_423, bw_424⟩
def TX4_queueAt : MT := (yX4_queueAt, cX4_queueAt, 6, (some .int), [])
theorem MX4_queueAt : MWv TX4_queueAt 2 := ⟨⟨⟨by decide +kernel, by decide +kernel⟩, by decide +kernel, by decide, bw_2, bw_438, rfl⟩, bw_436, bw_437⟩
def TX4_firstWaiting : MT := (yX4_firstWaiting, cX4_firstWaiting, 1, (some .int), [])
theorem MX4_firstWaiting : MWv TX4_firstWaiting 0 := ⟨⟨⟨by decide +kernel, by decide +kernel⟩, by decide +kernel, by decide, bw_2, bw_442, rfl⟩, bw_440, bw_441⟩
def TX4_totalWait : MT := (yX4_totalWait, cX4_totalWait, 1, (some .int), [])
theorem MX4_totalWait : MWv TX4_totalWait 0 := ⟨⟨⟨by decide +kernel, by decide +kernel⟩, by decide +kernel, by decide, bw_2, bw_447, rfl⟩, bw_445, bw_446⟩
def TX4_isFinished : MT := (yX4_isFinished, cX4_isFinished, 1, (some .boolean), [])
theorem MX4_isFinished : MWv TX4_isFinished 0 := ⟨⟨⟨by decide +kernel, by decide +kernel⟩, by decide +kernel, by decide, bw_2, bw_459, rfl⟩, bw_457, bw_458⟩
def TX4_rememberState : MT := (yX4_rememberState, cX4_rememberState, 1, none, [])
theorem MX4_rememberState : MWv TX4_rememberState 0 := ⟨⟨⟨by decide +kernel, by decide +kernel⟩, by decide +kernel, by decide, bw_2, bw_488, rfl⟩, bw_487, bs_7⟩
def TX4_run : MT := (yX4_run, cX4_run, 3, (some .int), [])
theorem MX4_run : MWv TX4_run 1 := ⟨⟨⟨by decide +kernel, by decide +kernel⟩, by decide +kernel, by decide, bw_2, bw_467, rfl⟩, bw_465, bw_466⟩
def TX4_requireCapacity : MT := (yX4_requireCapacity, cX4_requireCapacity, 2, none, [])
theorem MX4_requireCapacity : MWv TX4_requireCapacity 1 := ⟨⟨⟨by decide +kernel, by decide +kernel⟩, by decide +kernel, by decide, bw_2, bw_519, rfl⟩, bw_518, bs_10⟩
def TX4_setCapacity : MT := (yX4_setCapacity, cX4_setCapacity, 3, (some .int), [])
theorem MX4_setCapacity : MWv TX4_setCapacity 1 := ⟨⟨⟨by decide +kernel, by decide +kernel⟩, by decide +kernel, by decide, bw_2, bw_515, rfl⟩, bw_513, bw_514⟩
def TX5_init : MT := (yX5_init, cX5_init, 2, none, [])
theorem MX5_init : MWi TX5_init 1 := ⟨⟨⟨by decide +kernel, by decide +kernel⟩, by decide +kernel, by decide, bw_1, bw_526, rfl⟩, bw_525, by decide +kernel⟩
def TX5_next : MT := (yX5_next, cX5_next, 2, (some .int), [])
theorem MX5_next : MWv TX5_next 1 := ⟨⟨⟨by decide +kernel, by decide +kernel⟩, by decide +kernel, by decide, bw_1, bw_542, rfl⟩, bw_540, bw_541⟩
def TJ2_newBytesLength_0f7a4 : MT := (yJ2_newBytesLength_0f7a4, cJ2_newBytesLength_0f7a4, 1, (some .int), [])
theorem MJ2_newBytesLength_0f7a4 : MWs TJ2_newBytesLength_0f7a4 1 := ⟨⟨⟨by decide +kernel, by decide +kernel⟩, by decide +kernel, by decide, bw_8, bw_572, rfl⟩, bw_571⟩
def TJ2_newBytesFor_77867 : MT := (yJ2_newBytesFor_77867, cJ2_newBytesFor_77867, 1, (some (.array .byte)), [])
theorem MJ2_newBytesFor_77867 : MWs TJ2_newBytesFor_77867 1 := ⟨⟨⟨by decide +kernel, by decide +kernel⟩, by decide +kernel, by decide, bw_8, bw_569, rfl⟩, bw_568⟩
def TJ8_hugeLength_7cf53 : MT := (yJ8_hugeLength_7cf53, cJ8_hugeLength_7cf53, 3, (some .int), [])
theorem MJ8_hugeLength_7cf53 : MWs TJ8_hugeLength_7cf53 2 := ⟨⟨⟨by decide +kernel, by decide +kernel⟩, by decide +kernel, by decide, bw_9, bw_606, rfl⟩, bw_605⟩
def TJ8_newLength_cabcc : MT := (yJ8_newLength_cabcc, cJ8_newLength_cabcc, 4, (some .int), [])
theorem MJ8_newLength_cabcc : MWs TJ8_newLength_cabcc 3 := ⟨⟨⟨by decide +kernel, by decide +kernel⟩, by decide +kernel, by decide, bw_9, bw_601, rfl⟩, bw_600⟩
def TJ5_newCapacity_0f7a4 : MT := (yJ5_newCapacity_0f7a4, cJ5_newCapacity_0f7a4, 6, (some .int), [])
def TJ7_copyOf_9075b : MT := (yJ7_copyOf_9075b, cJ7_copyOf_9075b, 3, (some (.array .byte)), [])
theorem MJ7_copyOf_9075b : MWs TJ7_copyOf_9075b 2 := ⟨⟨⟨by decide +kernel, by decide +kernel⟩, by decide +kernel, by decide, bw_11, bw_609, rfl⟩, bw_608⟩
def TJ5_ensureCapacityInternal_d00df : MT := (yJ5_ensureCapacityInternal_d00df, cJ5_ensureCapacityInternal_d00df, 3, none, [])
def TJ5_isLatin1_aae02 : MT := (yJ5_isLatin1_aae02, cJ5_isLatin1_aae02, 1, (some .boolean), [])
def TJ3_checkFromToIndex_8c36e : MT := (yJ3_checkFromToIndex_8c36e, cJ3_checkFromToIndex_8c36e, 4, (some .int), [])
theorem MJ3_checkFromToIndex_8c36e : MWs TJ3_checkFromToIndex_8c36e 4 := ⟨⟨⟨by decide +kernel, by decide +kernel⟩, by decide +kernel, by decide, bw_13, bw_641, rfl⟩, bw_640⟩
def TJ0_checkBoundsBeginEnd_23922 : MT := (yJ0_checkBoundsBeginEnd_23922, cJ0_checkBoundsBeginEnd_23922, 3, none, [])
theorem MJ0_checkBoundsBeginEnd_23922 : MWs TJ0_checkBoundsBeginEnd_23922 3 := ⟨⟨⟨by decide +kernel, by decide +kernel⟩, by decide +kernel, by decide, bw_7, bw_636, rfl⟩, bw_635⟩
def TJ2_checkBoundsBeginEnd_d044e : MT := (yJ2_checkBoundsBeginEnd_d044e, cJ2_checkBoundsBeginEnd_d044e, 3, none, [])
theorem MJ2_checkBoundsBeginEnd_d044e : MWs TJ2_checkBoundsBeginEnd_d044e 3 := ⟨⟨⟨by decide +kernel, by decide +kernel⟩, by decide +kernel, by decide, bw_8, bw_630, rfl⟩, bw_629⟩
def TJ2_putChar_b72d1 : MT := (yJ2_putChar_b72d1, cJ2_putChar_b72d1, 3, none, [])
theorem MJ2_putChar_b72d1 : MWs TJ2_putChar_b72d1 3 := ⟨⟨⟨by decide +kernel, by decide +kernel⟩, by decide +kernel, by decide, bw_8, bw_644, rfl⟩, bw_643⟩
def TJ2_putCharsAt_cd4e5 : MT := (yJ2_putCharsAt_cd4e5, cJ2_putCharsAt_cd4e5, 7, (some .int), [])
theorem MJ2_putCharsAt_cd4e5 : MWs TJ2_putCharsAt_cd4e5 6 := ⟨⟨⟨by decide +kernel, by decide +kernel⟩, by decide +kernel, by decide, bw_8, bw_627, rfl⟩, bw_626⟩
def TJ5_appendNull_278bc : MT := (yJ5_appendNull_278bc, cJ5_appendNull_278bc, 3, (some (.object "java/lang/AbstractStringBuilder")), [])
def TJ3_checkFromIndexSize_8c36e : MT := (yJ3_checkFromIndexSize_8c36e, cJ3_checkFromIndexSize_8c36e, 4, (some .int), [])
theorem MJ3_checkFromIndexSize_8c36e : MWs TJ3_checkFromIndexSize_8c36e 4 := ⟨⟨⟨by decide +kernel, by decide +kernel⟩, by decide +kernel, by decide, bw_13, bw_677, rfl⟩, bw_676⟩
def TJ0_checkBoundsOffCount_cabcc : MT := (yJ0_checkBoundsOffCount_cabcc, cJ0_checkBoundsOffCount_cabcc, 3, (some .int), [])
theorem MJ0_checkBoundsOffCount_cabcc : MWs TJ0_checkBoundsOffCount_cabcc 3 := ⟨⟨⟨by decide +kernel, by decide +kernel⟩, by decide +kernel, by decide, bw_7, bw_674, rfl⟩, bw_673⟩
def TJ2_checkBoundsOffCount_d044e : MT := (yJ2_checkBoundsOffCount_d044e, cJ2_checkBoundsOffCount_d044e, 3, none, [])
theorem MJ2_checkBoundsOffCount_d044e : MWs TJ2_checkBoundsOffCount_d044e 3 := ⟨⟨⟨by decide +kernel, by decide +kernel⟩, by decide +kernel, by decide, bw_8, bw_671, rfl⟩, bw_670⟩
def TJ2_inflate_0e8fd : MT := (yJ2_inflate_0e8fd, cJ2_inflate_0e8fd, 6, none, [])
theorem MJ2_inflate_0e8fd : MWs TJ2_inflate_0e8fd 5 := ⟨⟨⟨by decide +kernel, by decide +kernel⟩, by decide +kernel, by decide, bw_8, bw_668, rfl⟩, bw_667⟩
def TJ1_inflate_0e8fd : MT := (yJ1_inflate_0e8fd, cJ1_inflate_0e8fd, 5, none, [])
theorem MJ1_inflate_0e8fd : MWs TJ1_inflate_0e8fd 5 := ⟨⟨⟨by decide +kernel, by decide +kernel⟩, by decide +kernel, by decide, bw_14, bw_665, rfl⟩, bw_664⟩
def TJ5_inflate_da8c8 : MT := (yJ5_inflate_da8c8, cJ5_inflate_da8c8, 2, none, [])
def TJ5_inflateIfNeededFor_a7421 : MT := (yJ5_inflateIfNeededFor_a7421, cJ5_inflateIfNeededFor_a7421, 2, none, [])
def TJ0_getBytes_840e7 : MT := (yJ0_getBytes_840e7, cJ0_getBytes_840e7, 4, none, [])
theorem MJ0_getBytes_840e7 : MWv TJ0_getBytes_840e7 3 := ⟨⟨⟨by decide +kernel, by decide +kernel⟩, by decide +kernel, by decide, bw_7, bw_681, rfl⟩, bw_679, bw_680⟩
def TJ5_putStringAt_47b60 : MT := (yJ5_putStringAt_47b60, cJ5_putStringAt_47b60, 3, none, [])
def TJ5_append_cf1ce : MT := (yJ5_append_cf1ce, cJ5_append_cf1ce, 3, (some (.object "java/lang/AbstractStringBuilder")), [])
def TJ4_append_15ec4 : MT := (yJ4_append_15ec4, cJ4_append_15ec4, 2, (some (.object "java/lang/StringBuilder")), [])
theorem MJ4_append_15ec4 : MWv TJ4_append_15ec4 1 := ⟨⟨⟨by decide +kernel, by decide +kernel⟩, by decide +kernel, by decide, bw_6, bw_583, rfl⟩, bw_581, bw_582⟩
def TJ4_append_cf1ce : MT := (yJ4_append_cf1ce, cJ4_append_cf1ce, 2, (some (.object "java/lang/AbstractStringBuilder")), [])
def TJ5_init_a7421 : MT := (yJ5_init_a7421, cJ5_init_a7421, 5, none, [])
theorem MJ5_init_a7421 : MWi TJ5_init_a7421 1 := ⟨⟨⟨by decide +kernel, by decide +kernel⟩, by decide +kernel, by decide, bw_5, bw_552, rfl⟩, bw_551, by decide +kernel⟩
def TJ5_length_8abf5 : MT := (yJ5_length_8abf5, cJ5_length_8abf5, 1, (some .int), [])
def TJ5_charAt_5068e : MT := (yJ5_charAt_5068e, cJ5_charAt_5068e, 5, (some .char), [])
def TJ1_canEncode_fc78d : MT := (yJ1_canEncode_fc78d, cJ1_canEncode_fc78d, 1, (some .boolean), [])
theorem MJ1_canEncode_fc78d : MWs TJ1_canEncode_fc78d 1 := ⟨⟨⟨by decide +kernel, by decide +kernel⟩, by decide +kernel, by decide, bw_14, bw_729, rfl⟩, bw_728⟩
def TJ2_putCharSB_b72d1 : MT := (yJ2_putCharSB_b72d1, cJ2_putCharSB_b72d1, 3, none, [])
theorem MJ2_putCharSB_b72d1 : MWs TJ2_putCharSB_b72d1 3 := ⟨⟨⟨by decide +kernel, by decide +kernel⟩, by decide +kernel, by decide, bw_8, bw_732, rfl⟩, bw_731⟩
def TJ5_append_3fe6f : MT := (yJ5_append_3fe6f, cJ5_append_3fe6f, 2, (some (.object "java/lang/AbstractStringBuilder")), [])
def TJ6_stringSize_0f7a4 : MT := (yJ6_stringSize_0f7a4, cJ6_stringSize_0f7a4, 4, (some .int), [])
theorem MJ6_stringSize_0f7a4 : MWs TJ6_stringSize_0f7a4 1 := ⟨⟨⟨by decide +kernel, by decide +kernel⟩, by decide +kernel, by decide, bw_15, bw_704, rfl⟩, bw_703⟩
def TJ6_getChars_ba4f3 : MT := (yJ6_getChars_ba4f3, cJ6_getChars_ba4f3, 7, (some .int), [])
theorem MJ6_getChars_ba4f3 : MWs TJ6_getChars_ba4f3 3 := ⟨⟨⟨by decide +kernel, by decide +kernel⟩, by decide +kernel, by decide, bw_15, bw_707, rfl⟩, bw_706⟩
def TJ2_getChars_ba4f3 : MT := (yJ2_getChars_ba4f3, cJ2_getChars_ba4f3, 7, (some .int), [])
theorem MJ2_getChars_ba4f3 : MWs TJ2_getChars_ba4f3 3 := ⟨⟨⟨by decide +kernel, by decide +kernel⟩, by decide +kernel, by decide, bw_8, bw_717, rfl⟩, bw_716⟩
def TJ2_getChars_46870 : MT := (yJ2_getChars_46870, cJ2_getChars_46870, 5, (some .int), [])
theorem MJ2_getChars_46870 : MWs TJ2_getChars_46870 4 := ⟨⟨⟨by decide +kernel, by decide +kernel⟩, by decide +kernel, by decide, bw_8, bw_714, rfl⟩, bw_713⟩
def TJ5_append_c97b9 : MT := (yJ5_append_c97b9, cJ5_append_c97b9, 4, (some (.object "java/lang/AbstractStringBuilder")), [])
def TJ4_init_a7421 : MT := (yJ4_init_a7421, cJ4_init_a7421, 2, none, [])
theorem MJ4_init_a7421 : MWi TJ4_init_a7421 1 := ⟨⟨⟨by decide +kernel, by decide +kernel⟩, by decide +kernel, by decide, bw_6, bw_549, rfl⟩, bw_548, by decide +kernel⟩
def TJ4_append_cf468 : MT := (yJ4_append_cf468, cJ4_append_cf468, 2, (some (.object "java/lang/StringBuilder")), [])
theorem MJ4_append_cf468 : MWv TJ4_append_cf468 1 := ⟨⟨⟨by decide +kernel, by decide +kernel⟩, by decide +kernel, by decide, bw_6, bw_723, rfl⟩, bw_721, bw_722⟩
def TJ4_append_bf812 : MT := (yJ4_append_bf812, cJ4_append_bf812, 2, (some (.object "java/lang/StringBuilder")), [])
theorem MJ4_append_bf812 : MWv TJ4_append_bf812 1 := ⟨⟨⟨by decide +kernel, by decide +kernel⟩, by decide +kernel, by decide, bw_6, bw_698, rfl⟩, bw_696, bw_697⟩
def TJ4_charAt_5068e : MT := (yJ4_charAt_5068e, cJ4_charAt_5068e, 2, (some .char), [])
def TJ4_length_8abf5 : MT := (yJ4_length_8abf5, cJ4_length_8abf5, 1, (some .int), [])
def TL_draw : MT := (yL_draw, cL_draw, 2, (some .int), [])
theorem ML_draw : MWs TL_draw 2 := ⟨⟨⟨by decide +kernel, by decide +kernel⟩, by decide +kernel, by decide, bw_0, bw_534, rfl⟩, bw_533⟩
def TL_lays : MT := (yL_lays, cL_lays, 6, (some .boolean), [])
theorem ML_lays : MWs TL_lays 2 := ⟨⟨⟨by decide +kernel, by decide +kernel⟩, by decide +kernel, by decide, bw_0, bw_750, rfl⟩, bw_749⟩
def TL_loads : MT := (yL_loads, cL_loads, 8, (some .boolean), [])
theorem ML_loads : MWs TL_loads 4 := ⟨⟨⟨by decide +kernel, by decide +kernel⟩, by decide +kernel, by decide, bw_0, bw_538, rfl⟩, bw_537⟩
theorem inX2 : ∀ w ∈ u_ws RX2 TX2 9, w ∈ BW := by
  have h : (u_ws RX2 TX2 9).all (fun w => decide (w ∈ lw_tbl) && goodWord w) = true := by decide +kernel
  intro w hw
  have h1 := List.all_eq_true.mp h w hw
  simp only [Bool.and_eq_true, decide_eq_true_eq] at h1
  exact List.mem_filter.mpr ⟨List.mem_append_left _ h1.1, h1.2⟩
theorem inX3 : ∀ w ∈ u_ws RX3 TX3 19, w ∈ BW := by
  have h : (u_ws RX3 TX3 19).all (fun w => decide (w ∈ lw_tbl) && goodWord w) = true := by decide +kernel
  intro w hw
  have h1 := List.all_eq_true.mp h w hw
  simp only [Bool.and_eq_true, decide_eq_true_eq] at h1
  exact List.mem_filter.mpr ⟨List.mem_append_left _ h1.1, h1.2⟩
theorem inX4 : ∀ w ∈ u_ws RX4 TX4 12, w ∈ BW := by
  have h : (u_ws RX4 TX4 12).all (fun w => decide (w ∈ lw_tbl) && goodWord w) = true := by decide +kernel
  intro w hw
  have h1 := List.all_eq_true.mp h w hw
  simp only [Bool.and_eq_true, decide_eq_true_eq] at h1
  exact List.mem_filter.mpr ⟨List.mem_append_left _ h1.1, h1.2⟩
theorem inX5 : ∀ w ∈ u_ws RX5 TX5 1, w ∈ BW := by
  have h : (u_ws RX5 TX5 1).all (fun w => decide (w ∈ lw_tbl) && goodWord w) = true := by decide +kernel
  intro w hw
  have h1 := List.all_eq_true.mp h w hw
  simp only [Bool.and_eq_true, decide_eq_true_eq] at h1
  exact List.mem_filter.mpr ⟨List.mem_append_left _ h1.1, h1.2⟩
theorem inJ4 : ∀ w ∈ u_ws RJ4 TJ4 4, w ∈ BW := by
  have h : (u_ws RJ4 TJ4 4).all (fun w => decide (w ∈ lw_tbl) && goodWord w) = true := by decide +kernel
  intro w hw
  have h1 := List.all_eq_true.mp h w hw
  simp only [Bool.and_eq_true, decide_eq_true_eq] at h1
  exact List.mem_filter.mpr ⟨List.mem_append_left _ h1.1, h1.2⟩
theorem bw_x {w : Cond} (i : Nat) (h : sxW[i]? = some w) (g : goodWord w = true) : w ∈ BW := List.mem_filter.mpr ⟨List.mem_append_right _ (List.mem_of_getElem? h), g⟩
end
section
/-! the state: every int of every object by its place and slot, every int of every array by its place and index; the parser's simulation, its kinds, the law's longs -/
abbrev St : Type := (Nat → Nat → Int32) × (Nat → Nat → Int32) × Option Nat × (Nat → Option Nat) × (Nat → Int64)
abbrev sF (σ : St) : Nat → Nat → Int32 := σ.1
abbrev sA (σ : St) : Nat → Nat → Int32 := σ.2.1
abbrev sS (σ : St) : Option Nat := σ.2.2.1
abbrev sK (σ : St) : Nat → Option Nat := σ.2.2.2.1
abbrev sO (σ : St) : Nat → Int64 := σ.2.2.2.2
def kdl : List Nat := [0, 1, 2, 2, 2, 2, 2, 2, 1, 2, 2, 2, 2, 2, 2, 3, 4, 5, 6, 7, 8, 9, 9, 10, 1, 2, 2, 2, 2, 2, 2, 1, 2, 2, 2, 2, 2, 2, 1, 2, 2, 2, 2, 2, 2, 1, 2, 2, 2, 2, 2, 2, 1, 2, 2, 2, 2, 2, 2, 1, 2, 2, 2, 2, 2, 2, 1, 2, 2, 2, 2, 2, 2, 1, 2, 2, 2, 2, 2, 2, 1, 2, 2, 2, 2, 2, 2, 1, 2, 2, 2, 2, 2, 2]
def kd (k : Nat) : Nat := kdl.getD k 99
theorem kd_lt {k c : Nat} (h : kd k = c) (hc : c < 99) : k < NC := by
  rcases Nat.lt_or_ge k 94 with q | q
  · exact q
  · have : kd k = 99 := by
      have q2 : kdl[k]? = none := List.getElem?_eq_none q
      simp [kd, List.getD, q2]
    omega
def fsL (G : GG) (f : Nat → Int32) : List Value := [.ref (gB G + 1), .ref (gB G + 8), .ref (gB G + 15), .int (f 3), .int (f 4), .ref (gB G + 16), .ref (gB G + 17), .ref (gB G + 18), .int (f 8), .ref (gB G + 19), .ref (gB G + 23), .int (f 11)]
def fsS (G : GG) (k : Nat) (f : Nat → Int32) : List Value := [.int (f 0), .int (f 1), .int (f 2), .int (f 3), .int (f 4), .int (f 5), .int (f 6), .int (f 7), .int (f 8), .int (f 9), .int (f 10), .int (f 11), .int (f 12), .ref (gB G + (k + 1)), .ref (gB G + (k + 2)), .ref (gB G + (k + 3)), .ref (gB G + (k + 4)), .ref (gB G + (k + 5)), .ref (gB G + (k + 6))]
def fsP (G : GG) (f : Nat → Int32) (s : Option Nat) : List Value := [.ref (gB G + 20), .ref (gB G + 21), .ref (gB G + 22), .int (f 3), .int (f 4), va_rf s, .int (f 6), .int (f 7), .int (f 8)]
def rfA (G : GG) (k0 N : Nat) : Nat → Option Nat := fun i => if i < N then some (gB G + (k0 + 7 * i)) else none
def cellk (G : GG) (c k : Nat) (f a : Nat → Int32) (s : Option Nat) (kn : Nat → Option Nat) (ou : Nat → Int64) : va_E := match c with
  | 0 => .inr (2, fsL G f)
  | 1 => .inr (1, fsS G k f)
  | 2 => .inl (gC G 0, 40, .inl a)
  | 3 => .inl (gC G 4, 8, .inr (.inr (.inr (.inr (rfA G 24 8)))))
  | 4 => .inl (gC G 4, 2, .inr (.inr (.inr (.inr (rfA G 80 2)))))
  | 5 => .inl (gC G 2, 2, .inl a)
  | 6 => .inl (gC G 1, 500, .inl a)
  | 7 => .inr (0, fsP G f s)
  | 8 => .inl (gC G 5, 501, .inr (.inr (.inr (.inr kn))))
  | 9 => .inl (gC G 0, 501, .inl a)
  | 10 => .inl (gC G 1, 64, .inl a)
  | _ => .inl (gC G 3, 1, .inr (.inl ou))
def hof (G : GG) (σ : St) : HM := fun k => cellk G (kd k) k (sF σ k) (sA σ k) (sS σ) (sK σ) (sO σ)
theorem hof_at {G : GG} {σ : St} {k c : Nat} (h : kd k = c) : hof G σ k = cellk G c k (sF σ k) (sA σ k) (sS σ) (sK σ) (sO σ) := by rw [← h]; rfl
/-- one number of one row -/
def up2 (f : Nat → Nat → Int32) (k j : Nat) (x : Int32) : Nat → Nat → Int32 := fun a => if a = k then upd (f a) j x else f a
def stF (σ : St) (k j : Nat) (x : Int32) : St := (up2 (sF σ) k j x, σ.2)
def stA (σ : St) (k j : Nat) (x : Int32) : St := (σ.1, up2 (sA σ) k j x, σ.2.2)
def stAr (σ : St) (k : Nat) (a : Nat → Int32) : St := (σ.1, (fun q => if q = k then a else sA σ q), σ.2.2)
def stS (σ : St) (s : Option Nat) : St := (σ.1, σ.2.1, s, σ.2.2.2)
def stK (σ : St) (j : Nat) (x : Option Nat) : St := (σ.1, σ.2.1, σ.2.2.1, va_up (sK σ) j x, σ.2.2.2.2)
def stO (σ : St) (j : Nat) (x : Int64) : St := (σ.1, σ.2.1, σ.2.2.1, σ.2.2.2.1, vp_updL (sO σ) j x)
theorem up2_same {f : Nat → Nat → Int32} {k j : Nat} {x : Int32} : up2 f k j x k = upd (f k) j x := by simp [up2]
theorem up2_ne {f : Nat → Nat → Int32} {k a j : Nat} {x : Int32} (h : a ≠ k) : up2 f k j x a = f a := by simp [up2, h]
theorem up2_at {f : Nat → Nat → Int32} {k j : Nat} {x : Int32} : up2 f k j x k j = x := by simp [up2, upd]
theorem up2_in {f : Nat → Nat → Int32} {k j i : Nat} {x : Int32} (h : i ≠ j) : up2 f k j x k i = f k i := by simp [up2, upd, h]
theorem up2_if {f : Nat → Nat → Int32} {k j a i : Nat} {x : Int32} : up2 f k j x a i = if a = k ∧ i = j then x else f a i := by
  by_cases h : a = k
  · subst h
    by_cases h2 : i = j
    · subst h2; simp [up2, upd]
    · simp [up2, upd, h2]
  · simp [up2, h]
/-- the world behind a change of the state at one place -/
theorem hof_set {G : GG} {σ τ : St} {k c : Nat} {e : va_E} (hc : kd k = c) (h1 : ∀ a, a ≠ k → sF τ a = sF σ a) (h2 : ∀ a, a ≠ k → sA τ a = sA σ a) (h3 : sS τ = sS σ ∨ kd k = 7) (h4 : sK τ = sK σ ∨ kd k = 8) (h5 : sO τ = sO σ ∨ kd k = 16) (he : cellk G c k (sF τ k) (sA τ k) (sS τ) (sK τ) (sO τ) = e) (hu : ∀ a, a < NC → kd a = kd k → (kd k = 7 ∨ kd k = 8 ∨ kd k = 16) → a = k) : ∀ a, a < NC → hset (hof G σ) k e a = hof G τ a := by
  intro a ha
  by_cases hk : a = k
  · subst hk
    rw [hset_same, hof_at hc, he]
  · rw [hset_ne hk]
    show cellk G (kd a) a (sF σ a) (sA σ a) (sS σ) (sK σ) (sO σ) = cellk G (kd a) a (sF τ a) (sA τ a) (sS τ) (sK τ) (sO τ)
    rw [h1 a hk, h2 a hk]
    have e3 : kd a = 7 → sS τ = sS σ := fun z => h3.elim id (fun y => absurd (hu a ha (z.trans y.symm) (Or.inl y)) hk)
    have e4 : kd a = 8 → sK τ = sK σ := fun z => h4.elim id (fun y => absurd (hu a ha (z.trans y.symm) (Or.inr (Or.inl y))) hk)
    have e5 : kd a = 16 → sO τ = sO σ := fun z => h5.elim id (fun y => absurd (hu a ha (z.trans y.symm) (Or.inr (Or.inr y))) hk)
    have hle : kd a ≤ 10 := by
      have : ∀ b, b < 94 → kd b ≤ 10 := by decide +kernel
      exact this a ha
    generalize kd a = z at e3 e4 e5 hle ⊢
    match z, hle with
    | 0, _ => rfl
    | 1, _ => rfl
    | 2, _ => rfl
    | 3, _ => rfl
    | 4, _ => rfl
    | 5, _ => rfl
    | 6, _ => rfl
    | 7, _ => rw [e3 rfl]; rfl
    | 8, _ => rw [e4 rfl]; rfl
    | 9, _ => rfl
    | 10, _ => rfl
    | n + 11, h => omega
theorem HP.same {G : GG} {h1 h2 : HM} {n : Nat} {H : Heap} (hp : HP G h1 n H) (e : ∀ a, a < n → h1 a = h2 a) : HP G h2 n H := ⟨hp.1, fun k hk => by rw [← e k hk]; exact hp.2 k hk⟩
section TY
variable {l : Launch} {G : GG} {T : MT} {d mc ms ce sl : Nat} {Q : PQ} {pc q : Nat} {L : List (Option Value)} {st : List Value} {h h2 : HM} {n : Nat}
theorem V.hm (e : ∀ a, a < n → h a = h2 a) (k : V l G T d mc ms Q ce sl pc L st h2 n) : V l G T d mc ms Q ce sl pc L st h n := by
  intro p e9 s m args below meth c H locs ls F hl hP hS
  exact k p e9 s m args below meth c H locs ls F hl (hP.same e) hS
end TY
section TY2
variable {l : Launch} {G : GG} {T : MT} {d mc ms ce sl : Nat} {Q : PQ} {pc q : Nat} {L : List (Option Value)} {st : List Value} {σ : St}
theorem V.gL {k j idx : Nat} {v : Value} (hd : decode T.2.1 pc = .ok (.getfield idx, 3)) (hk : kd k = 0) (hw : Cond.fieldLink T.1.cls idx RX4 (TX4 j).2.1 (TX4 j).2.2.1 ∈ BW) (hj : decide (j < 12) = true) (hdc : (TX4 j).1 = RX4) (hv : (fsL G (sF σ k))[j]? = some v) (hq : pc + 3 = q) (kk : V l G T d mc ms Q ce sl q L (v :: st) (hof G σ) NC) : V l G T d mc ms Q ce sl pc L (.ref (gB G + k) :: st) (hof G σ) NC :=
  V.get (ci := 2) (fs := (fsL G (sF σ k))) hd (hof_at hk) (kd_lt hk (by decide)) rfl inX4 (of_decide_eq_true hj) hdc hw hv hq kk
theorem setL {k : Nat} (hk : kd k = 0) (j : Nat) (x : Int32) (hj : j ∈ [3, 4, 8, 11]) : ∀ a, a < NC → hset (hof G σ) k (.inr (2, (fsL G (sF σ k)).set j (.int x))) a = hof G (stF σ k j x) a := by
  refine hof_set hk (fun a h => up2_ne h) (fun a h => rfl) (Or.inl rfl) (Or.inl rfl) (Or.inl rfl) ?_ (fun a ha e h => by rw [hk] at e h; omega)
  simp only [List.mem_cons, List.not_mem_nil, or_false] at hj
  show (.inr (2, (fsL G (up2 (sF σ) k j x k))) : va_E) = _
  rw [up2_same]
  rcases hj with rfl | rfl | rfl | rfl <;> rfl
theorem V.pL {k j idx : Nat} {x : Int32} (hd : decode T.2.1 pc = .ok (.putfield idx, 3)) (hk : kd k = 0) (hw : Cond.fieldLink T.1.cls idx RX4 (TX4 j).2.1 (TX4 j).2.2.1 ∈ BW) (hj : decide (j < 12 ∧ j ∈ [3, 4, 8, 11]) = true) (hdc : (TX4 j).1 = RX4) (hfi : (TX4 j).2.2.2 = false) (hn : narrow (tyX4 j) (.int x) = .int x) (hf : fits (tyX4 j) (.int x) = true) (hq : pc + 3 = q) (kk : V l G T d mc ms Q ce sl q L st (hof G (stF σ k j x)) NC) : V l G T d mc ms Q ce sl pc L (.int x :: .ref (gB G + k) :: st) (hof G σ) NC :=
  V.put (ci := 2) (fs := (fsL G (sF σ k))) hd (hof_at hk) (kd_lt hk (by decide)) rfl inX4 tyX4_ok nmX4 (of_decide_eq_true hj).1 hdc hw (Or.inl hfi) hn hf (by rw [show (fsL G (sF σ k)).length = 12 from rfl]; exact (of_decide_eq_true hj).1) hq (V.hm (setL hk j x (of_decide_eq_true hj).2) kk)
theorem V.gS {k j idx : Nat} {v : Value} (hd : decode T.2.1 pc = .ok (.getfield idx, 3)) (hk : kd k = 1) (hw : Cond.fieldLink T.1.cls idx RX3 (TX3 j).2.1 (TX3 j).2.2.1 ∈ BW) (hj : decide (j < 19) = true) (hdc : (TX3 j).1 = RX3) (hv : (fsS G k (sF σ k))[j]? = some v) (hq : pc + 3 = q) (kk : V l G T d mc ms Q ce sl q L (v :: st) (hof G σ) NC) : V l G T d mc ms Q ce sl pc L (.ref (gB G + k) :: st) (hof G σ) NC :=
  V.get (ci := 1) (fs := (fsS G k (sF σ k))) hd (hof_at hk) (kd_lt hk (by decide)) rfl inX3 (of_decide_eq_true hj) hdc hw hv hq kk
theorem setS {k : Nat} (hk : kd k = 1) (j : Nat) (x : Int32) (hj : j ∈ [0, 1, 2, 3, 4, 5, 6, 7, 8, 9, 10, 11, 12]) : ∀ a, a < NC → hset (hof G σ) k (.inr (1, (fsS G k (sF σ k)).set j (.int x))) a = hof G (stF σ k j x) a := by
  refine hof_set hk (fun a h => up2_ne h) (fun a h => rfl) (Or.inl rfl) (Or.inl rfl) (Or.inl rfl) ?_ (fun a ha e h => by rw [hk] at e h; omega)
  simp only [List.mem_cons, List.not_mem_nil, or_false] at hj
  show (.inr (1, (fsS G k (up2 (sF σ) k j x k))) : va_E) = _
  rw [up2_same]
  rcases hj with rfl | rfl | rfl | rfl | rfl | rfl | rfl | rfl | rfl | rfl | rfl | rfl | rfl <;> rfl
theorem V.pS {k j idx : Nat} {x : Int32} (hd : decode T.2.1 pc = .ok (.putfield idx, 3)) (hk : kd k = 1) (hw : Cond.fieldLink T.1.cls idx RX3 (TX3 j).2.1 (TX3 j).2.2.1 ∈ BW) (hj : decide (j < 19 ∧ j ∈ [0, 1, 2, 3, 4, 5, 6, 7, 8, 9, 10, 11, 12]) = true) (hdc : (TX3 j).1 = RX3) (hfi : (TX3 j).2.2.2 = false) (hn : narrow (tyX3 j) (.int x) = .int x) (hf : fits (tyX3 j) (.int x) = true) (hq : pc + 3 = q) (kk : V l G T d mc ms Q ce sl q L st (hof G (stF σ k j x)) NC) : V l G T d mc ms Q ce sl pc L (.int x :: .ref (gB G + k) :: st) (hof G σ) NC :=
  V.put (ci := 1) (fs := (fsS G k (sF σ k))) hd (hof_at hk) (kd_lt hk (by decide)) rfl inX3 tyX3_ok nmX3 (of_decide_eq_true hj).1 hdc hw (Or.inl hfi) hn hf (by rw [show (fsS G k (sF σ k)).length = 19 from rfl]; exact (of_decide_eq_true hj).1) hq (V.hm (setS hk j x (of_decide_eq_true hj).2) kk)
theorem V.gP {k j idx : Nat} {v : Value} (hd : decode T.2.1 pc = .ok (.getfield idx, 3)) (hk : kd k = 7) (hw : Cond.fieldLink T.1.cls idx RX2 (TX2 j).2.1 (TX2 j).2.2.1 ∈ BW) (hj : decide (j < 9) = true) (hdc : (TX2 j).1 = RX2) (hv : (fsP G (sF σ k) (sS σ))[j]? = some v) (hq : pc + 3 = q) (kk : V l G T d mc ms Q ce sl q L (v :: st) (hof G σ) NC) : V l G T d mc ms Q ce sl pc L (.ref (gB G + k) :: st) (hof G σ) NC :=
  V.get (ci := 0) (fs := (fsP G (sF σ k) (sS σ))) hd (hof_at hk) (kd_lt hk (by decide)) rfl inX2 (of_decide_eq_true hj) hdc hw hv hq kk
theorem setP {k : Nat} (hk : kd k = 7) (j : Nat) (x : Int32) (hj : j ∈ [3, 4, 6, 7, 8]) : ∀ a, a < NC → hset (hof G σ) k (.inr (0, (fsP G (sF σ k) (sS σ)).set j (.int x))) a = hof G (stF σ k j x) a := by
  refine hof_set hk (fun a h => up2_ne h) (fun a h => rfl) (Or.inl rfl) (Or.inl rfl) (Or.inl rfl) ?_ (fun a ha e h => by rw [hk] at e h; have : ∀ b, b < 94 → kd b = 7 → b = 19 := (by decide +kernel); exact (this a ha e).trans (this k (kd_lt hk (by decide)) hk).symm)
  simp only [List.mem_cons, List.not_mem_nil, or_false] at hj
  show (.inr (0, (fsP G (up2 (sF σ) k j x k) (sS σ))) : va_E) = _
  rw [up2_same]
  rcases hj with rfl | rfl | rfl | rfl | rfl <;> rfl
theorem V.pP {k j idx : Nat} {x : Int32} (hd : decode T.2.1 pc = .ok (.putfield idx, 3)) (hk : kd k = 7) (hw : Cond.fieldLink T.1.cls idx RX2 (TX2 j).2.1 (TX2 j).2.2.1 ∈ BW) (hj : decide (j < 9 ∧ j ∈ [3, 4, 6, 7, 8]) = true) (hdc : (TX2 j).1 = RX2) (hfi : (TX2 j).2.2.2 = false) (hn : narrow (tyX2 j) (.int x) = .int x) (hf : fits (tyX2 j) (.int x) = true) (hq : pc + 3 = q) (kk : V l G T d mc ms Q ce sl q L st (hof G (stF σ k j x)) NC) : V l G T d mc ms Q ce sl pc L (.int x :: .ref (gB G + k) :: st) (hof G σ) NC :=
  V.put (ci := 0) (fs := (fsP G (sF σ k) (sS σ))) hd (hof_at hk) (kd_lt hk (by decide)) rfl inX2 tyX2_ok nmX2 (of_decide_eq_true hj).1 hdc hw (Or.inl hfi) hn hf (by rw [show (fsP G (sF σ k) (sS σ)).length = 9 from rfl]; exact (of_decide_eq_true hj).1) hq (V.hm (setP hk j x (of_decide_eq_true hj).2) kk)
theorem V.ld2 {k i : Nat} {x : Int32} (hd : decode T.2.1 pc = .ok (.iaload, 1)) (hk : kd k = 2) (hx : x = nI i) (hi : i < 40) (hq : pc + 1 = q) (kk : V l G T d mc ms Q ce sl q L (.int (sA σ k i) :: st) (hof G σ) NC) : V l G T d mc ms Q ce sl pc L (.int x :: .ref (gB G + k) :: st) (hof G σ) NC :=
  V.iald hd (hof_at hk) (kd_lt hk (by decide)) hi (by decide) hx hq kk
theorem V.st2 {k i : Nat} {x y : Int32} (hd : decode T.2.1 pc = .ok (.iastore, 1)) (hk : kd k = 2) (hx : x = nI i) (hi : i < 40) (hq : pc + 1 = q) (kk : V l G T d mc ms Q ce sl q L st (hof G (stA σ k i y)) NC) : V l G T d mc ms Q ce sl pc L (.int y :: .int x :: .ref (gB G + k) :: st) (hof G σ) NC :=
  V.iast hd (hof_at hk) (kd_lt hk (by decide)) hi (by decide) hx hq (V.hm (hof_set (τ := stA σ k i y) hk (fun a h => rfl) (fun a h => up2_ne h) (Or.inl rfl) (Or.inl rfl) (Or.inl rfl) (by
    show (.inl (gC G 0, 40, .inl (up2 (sA σ) k i y k)) : va_E) = _
    rw [up2_same]) (fun a ha e h => by rw [hk] at h; omega)) kk)
theorem V.ld9 {k i : Nat} {x : Int32} (hd : decode T.2.1 pc = .ok (.iaload, 1)) (hk : kd k = 9) (hx : x = nI i) (hi : i < 501) (hq : pc + 1 = q) (kk : V l G T d mc ms Q ce sl q L (.int (sA σ k i) :: st) (hof G σ) NC) : V l G T d mc ms Q ce sl pc L (.int x :: .ref (gB G + k) :: st) (hof G σ) NC :=
  V.iald hd (hof_at hk) (kd_lt hk (by decide)) hi (by decide) hx hq kk
theorem V.st9 {k i : Nat} {x y : Int32} (hd : decode T.2.1 pc = .ok (.iastore, 1)) (hk : kd k = 9) (hx : x = nI i) (hi : i < 501) (hq : pc + 1 = q) (kk : V l G T d mc ms Q ce sl q L st (hof G (stA σ k i y)) NC) : V l G T d mc ms Q ce sl pc L (.int y :: .int x :: .ref (gB G + k) :: st) (hof G σ) NC :=
  V.iast hd (hof_at hk) (kd_lt hk (by decide)) hi (by decide) hx hq (V.hm (hof_set (τ := stA σ k i y) hk (fun a h => rfl) (fun a h => up2_ne h) (Or.inl rfl) (Or.inl rfl) (Or.inl rfl) (by
    show (.inl (gC G 0, 501, .inl (up2 (sA σ) k i y k)) : va_E) = _
    rw [up2_same]) (fun a ha e h => by rw [hk] at h; omega)) kk)
theorem V.ld6 {k i : Nat} {x : Int32} (hd : decode T.2.1 pc = .ok (.baload, 1)) (hk : kd k = 6) (hx : x = nI i) (hi : i < 500) (hq : pc + 1 = q) (kk : V l G T d mc ms Q ce sl q L (.int (sA σ k i) :: st) (hof G σ) NC) : V l G T d mc ms Q ce sl pc L (.int x :: .ref (gB G + k) :: st) (hof G σ) NC :=
  V.bald hd (hof_at hk) (kd_lt hk (by decide)) hi (by decide) hx hq kk
theorem V.st6 {k i : Nat} {x y : Int32} (hd : decode T.2.1 pc = .ok (.bastore, 1)) (hk : kd k = 6) (hx : x = nI i) (hi : i < 500) (hq : pc + 1 = q) (kk : V l G T d mc ms Q ce sl q L st (hof G (stA σ k i (vp_nar .byte y))) NC) : V l G T d mc ms Q ce sl pc L (.int y :: .int x :: .ref (gB G + k) :: st) (hof G σ) NC :=
  V.bast hd (hof_at hk) (kd_lt hk (by decide)) hi (by decide) hx hq (V.hm (hof_set (τ := stA σ k i (vp_nar .byte y)) hk (fun a h => rfl) (fun a h => up2_ne h) (Or.inl rfl) (Or.inl rfl) (Or.inl rfl) (by
    show (.inl (gC G 1, 500, .inl (up2 (sA σ) k i (vp_nar .byte y) k)) : va_E) = _
    rw [up2_same]) (fun a ha e h => by rw [hk] at h; omega)) kk)
theorem V.ld10 {k i : Nat} {x : Int32} (hd : decode T.2.1 pc = .ok (.baload, 1)) (hk : kd k = 10) (hx : x = nI i) (hi : i < 64) (hq : pc + 1 = q) (kk : V l G T d mc ms Q ce sl q L (.int (sA σ k i) :: st) (hof G σ) NC) : V l G T d mc ms Q ce sl pc L (.int x :: .ref (gB G + k) :: st) (hof G σ) NC :=
  V.bald hd (hof_at hk) (kd_lt hk (by decide)) hi (by decide) hx hq kk
theorem V.st10 {k i : Nat} {x y : Int32} (hd : decode T.2.1 pc = .ok (.bastore, 1)) (hk : kd k = 10) (hx : x = nI i) (hi : i < 64) (hq : pc + 1 = q) (kk : V l G T d mc ms Q ce sl q L st (hof G (stA σ k i (vp_nar .byte y))) NC) : V l G T d mc ms Q ce sl pc L (.int y :: .int x :: .ref (gB G + k) :: st) (hof G σ) NC :=
  V.bast hd (hof_at hk) (kd_lt hk (by decide)) hi (by decide) hx hq (V.hm (hof_set (τ := stA σ k i (vp_nar .byte y)) hk (fun a h => rfl) (fun a h => up2_ne h) (Or.inl rfl) (Or.inl rfl) (Or.inl rfl) (by
    show (.inl (gC G 1, 64, .inl (up2 (sA σ) k i (vp_nar .byte y) k)) : va_E) = _
    rw [up2_same]) (fun a ha e h => by rw [hk] at h; omega)) kk)
theorem V.ld5 {k i : Nat} {x : Int32} (hd : decode T.2.1 pc = .ok (.baload, 1)) (hk : kd k = 5) (hx : x = nI i) (hi : i < 2) (hq : pc + 1 = q) (kk : V l G T d mc ms Q ce sl q L (.int (sA σ k i) :: st) (hof G σ) NC) : V l G T d mc ms Q ce sl pc L (.int x :: .ref (gB G + k) :: st) (hof G σ) NC :=
  V.zald hd (hof_at hk) (kd_lt hk (by decide)) hi (by decide) hx hq kk
theorem V.st5 {k i : Nat} {x y : Int32} (hd : decode T.2.1 pc = .ok (.bastore, 1)) (hk : kd k = 5) (hx : x = nI i) (hi : i < 2) (hq : pc + 1 = q) (kk : V l G T d mc ms Q ce sl q L st (hof G (stA σ k i (vp_nar .boolean y))) NC) : V l G T d mc ms Q ce sl pc L (.int y :: .int x :: .ref (gB G + k) :: st) (hof G σ) NC :=
  V.zast hd (hof_at hk) (kd_lt hk (by decide)) hi (by decide) hx hq (V.hm (hof_set (τ := stA σ k i (vp_nar .boolean y)) hk (fun a h => rfl) (fun a h => up2_ne h) (Or.inl rfl) (Or.inl rfl) (Or.inl rfl) (by
    show (.inl (gC G 2, 2, .inl (up2 (sA σ) k i (vp_nar .boolean y) k)) : va_E) = _
    rw [up2_same]) (fun a ha e h => by rw [hk] at h; omega)) kk)
theorem V.ld3 {i : Nat} {x : Int32} (hd : decode T.2.1 pc = .ok (.aaload, 1)) (hx : x = nI i) (hi : i < 8) (hq : pc + 1 = q) (kk : V l G T d mc ms Q ce sl q L (.ref (gB G + (24 + 7 * i)) :: st) (hof G σ) NC) : V l G T d mc ms Q ce sl pc L (.int x :: .ref (gB G + 15) :: st) (hof G σ) NC :=
  V.aald (t0 := 4) hd (hof_at (k := 15) (c := 3) rfl) (by decide) rfl hi (by decide) hx (by simp [rfA, hi]) hq kk
theorem V.ld4 {i : Nat} {x : Int32} (hd : decode T.2.1 pc = .ok (.aaload, 1)) (hx : x = nI i) (hi : i < 2) (hq : pc + 1 = q) (kk : V l G T d mc ms Q ce sl q L (.ref (gB G + (80 + 7 * i)) :: st) (hof G σ) NC) : V l G T d mc ms Q ce sl pc L (.int x :: .ref (gB G + 16) :: st) (hof G σ) NC :=
  V.aald (t0 := 4) hd (hof_at (k := 16) (c := 4) rfl) (by decide) rfl hi (by decide) hx (by simp [rfA, hi]) hq kk
theorem V.ld8 {i a : Nat} {x : Int32} (hd : decode T.2.1 pc = .ok (.aaload, 1)) (hx : x = nI i) (hi : i < 501) (hf : sK σ i = some a) (hq : pc + 1 = q) (kk : V l G T d mc ms Q ce sl q L (.ref a :: st) (hof G σ) NC) : V l G T d mc ms Q ce sl pc L (.int x :: .ref (gB G + 20) :: st) (hof G σ) NC :=
  V.aald (t0 := 5) hd (hof_at (k := 20) (c := 8) rfl) (by decide) rfl hi (by decide) hx hf hq kk
theorem V.cp2 {k0 k1 z idx : Nat} {sp dp nn : Int32} (hd : decode T.2.1 pc = .ok (.invokestatic idx, 3)) (hw : Cond.methodLink T.1.cls idx arraycopyName ∈ BW) (hnat : Cond.native arraycopyName ∈ BW) (hstt : Cond.static arraycopyName ∈ BW) (hini : Cond.initialized "java/lang/System" ∈ BW) (hk0 : kd k0 = 2) (hk1 : kd k1 = 2) (hx : sp = nI 0) (hy : dp = nI 0) (hz : nn = nI z) (hz4 : z ≤ 40) (h8 : cat8 st = true) (hdd : decide (2 ≤ d) = true) (hq : pc + 3 = q) (kk : V l G T d mc ms Q ce sl q L st (hof G (stAr σ k1 (va_cpy (sA σ k0) (sA σ k1) 0 0 z))) NC) : V l G T d mc ms Q ce sl pc L (.int nn :: .int dp :: .ref (gB G + k1) :: .int sp :: .ref (gB G + k0) :: st) (hof G σ) NC :=
  V.copy (t0 := 0) (ty := .int) hd hw hnat hstt hini (hof_at hk0) (hof_at hk1) rfl (kd_lt hk0 (by decide)) (kd_lt hk1 (by decide)) rfl rfl hx hy hz (by omega) (by omega) (by decide) (by decide) (fun _ => rfl) h8 (of_decide_eq_true hdd) hq (V.hm (hof_set (τ := stAr σ k1 (va_cpy (sA σ k0) (sA σ k1) 0 0 z)) hk1 (fun a h => rfl) (fun a h => by simp [stAr, sA, h]) (Or.inl rfl) (Or.inl rfl) (Or.inl rfl) (by
    show (.inl (gC G 0, 40, .inl (if k1 = k1 then _ else _)) : va_E) = _
    rw [if_pos rfl]) (fun a ha e h => by rw [hk1] at h; omega)) kk)
end TY2
end
section
/-! contracts over the state; calls by them -/
def RetS (G : GG) (v : Option Value) (τ : St) : PQ := fun a h n => a = .inl v ∧ h = hof G τ ∧ n = NC
def RetP (G : GG) (P : Option Value → St → Prop) : PQ := fun a h n => ∃ (v : Option Value) (τ : St), a = .inl v ∧ h = hof G τ ∧ n = NC ∧ P v τ
def RetX (G : GG) (P : Ans → St → Prop) : PQ := fun a h n => ∃ τ : St, h = hof G τ ∧ n = NC ∧ P a τ
def CtS (l : Launch) (G : GG) (T : MT) (d : Nat) (av : List Value) (σ : St) (v : Option Value) (τ : St) : Prop := Ct l G T d 0 0 av (hof G σ) NC (RetS G v τ)
def CtP (l : Launch) (G : GG) (T : MT) (d : Nat) (av : List Value) (σ : St) (P : Option Value → St → Prop) : Prop := Ct l G T d 0 0 av (hof G σ) NC (RetP G P)
def CtX (l : Launch) (G : GG) (T : MT) (d mc ms : Nat) (av : List Value) (σ : St) (P : Ans → St → Prop) : Prop := Ct l G T d mc ms av (hof G σ) NC (RetX G P)
theorem CtS.P {l : Launch} {G : GG} {T : MT} {d : Nat} {av : List Value} {σ τ : St} {v : Option Value} {P : Option Value → St → Prop} (h : CtS l G T d av σ v τ) (hP : P v τ) : CtP l G T d av σ P := Ct.mono h (fun a h2 n2 q => ⟨v, τ, q.1, q.2.1, q.2.2, hP⟩)
theorem CtP.mono {l : Launch} {G : GG} {T : MT} {d : Nat} {av : List Value} {σ : St} {P P2 : Option Value → St → Prop} (h : CtP l G T d av σ P) (hP : ∀ v τ, P v τ → P2 v τ) : CtP l G T d av σ P2 := Ct.mono h (fun a h2 n2 ⟨v, τ, q1, q2, q3, q4⟩ => ⟨v, τ, q1, q2, q3, hP v τ q4⟩)
theorem CtX.mono {l : Launch} {G : GG} {T : MT} {d mc ms : Nat} {av : List Value} {σ : St} {P P2 : Ans → St → Prop} (h : CtX l G T d mc ms av σ P) (hP : ∀ a τ, P a τ → P2 a τ) : CtX l G T d mc ms av σ P2 := Ct.mono h (fun a h2 n2 ⟨τ, q2, q3, q4⟩ => ⟨τ, q2, q3, hP a τ q4⟩)
theorem nI_inc (n : Nat) : nI n + Int32.ofInt 1 = nI (n + 1) := nI_1 n
theorem nI_dec (n : Nat) : nI (n + 1) + Int32.ofInt (-1) = nI n := pk_m1 n
section CC
variable {l : Launch} {G : GG} {T T' : MT} {d mc ms ce sl d' np idx k : Nat} {Q : PQ} {pc q : Nat} {L : List (Option Value)} {st st0 : List Value} {σ τ : St} {v : Option Value} {P : Option Value → St → Prop} {PX : Ans → St → Prop} {mc' ms' : Nat}

theorem V.cVL (As : List Value) (hd : decode T.2.1 pc = .ok (.invokevirtual idx, 3)) (hst : st0 = As.reverse ++ .ref (gB G + k) :: st) (hC : CtS l G T' d' (.ref (gB G + k) :: As) σ v τ) (hM : MWv T' np) (hw : Cond.methodLink T.1.cls idx T'.1 ∈ BW) (hk : kd k = 0) {TT : u_T} {N : Nat} (hci : vwCl[2]? = some (T'.1.cls, TT, N)) (hnp : As.length = np) (h8 : cat8 st = true) (hdd : d' + 1 ≤ d) (hq : pc + 3 = q) (kk : V l G T d mc ms Q ce sl q L (v.toList ++ st) (hof G τ) NC) (hm1 : ce ≤ mc := by omega) (hm2 : sl ≤ ms := by omega) : V l G T d mc ms Q ce sl pc L st0 (hof G σ) NC := by
  refine V.callV (ci := 2) (fs := fsL G (sF σ k)) hC hM hw hd hst (hof_at hk) (kd_lt hk (by decide)) hci hnp h8 hdd hm1 hm2 hq (fun v2 h2 n2 hQ => ?_) (fun E h2 n2 hQ => ?_)
  · obtain ⟨e1, rfl, rfl⟩ := hQ
    cases e1
    exact kk
  · cases hQ.1
theorem V.cVLP (As : List Value) (hd : decode T.2.1 pc = .ok (.invokevirtual idx, 3)) (hst : st0 = As.reverse ++ .ref (gB G + k) :: st) (hC : CtP l G T' d' (.ref (gB G + k) :: As) σ P) (hM : MWv T' np) (hw : Cond.methodLink T.1.cls idx T'.1 ∈ BW) (hk : kd k = 0) {TT : u_T} {N : Nat} (hci : vwCl[2]? = some (T'.1.cls, TT, N)) (hnp : As.length = np) (h8 : cat8 st = true) (hdd : d' + 1 ≤ d) (hq : pc + 3 = q) (kk : ∀ (v : Option Value) (τ : St), P v τ → V l G T d mc ms Q ce sl q L (v.toList ++ st) (hof G τ) NC) (hm1 : ce ≤ mc := by omega) (hm2 : sl ≤ ms := by omega) : V l G T d mc ms Q ce sl pc L st0 (hof G σ) NC := by
  refine V.callV (ci := 2) (fs := fsL G (sF σ k)) hC hM hw hd hst (hof_at hk) (kd_lt hk (by decide)) hci hnp h8 hdd hm1 hm2 hq (fun v2 h2 n2 hQ => ?_) (fun E h2 n2 hQ => ?_)
  · obtain ⟨v3, τ, e1, rfl, rfl, hp⟩ := hQ
    cases e1
    exact kk _ τ hp
  · obtain ⟨v3, τ, e1, -⟩ := hQ
    cases e1
theorem V.cVLX (As : List Value) (hd : decode T.2.1 pc = .ok (.invokevirtual idx, 3)) (hst : st0 = As.reverse ++ .ref (gB G + k) :: st) (hC : CtX l G T' d' mc' ms' (.ref (gB G + k) :: As) σ PX) (hM : MWv T' np) (hw : Cond.methodLink T.1.cls idx T'.1 ∈ BW) (hk : kd k = 0) {TT : u_T} {N : Nat} (hci : vwCl[2]? = some (T'.1.cls, TT, N)) (hnp : As.length = np) (h8 : cat8 st = true) (hdd : d' + 1 ≤ d) (hq : pc + 3 = q) (hm1 : ce + mc' ≤ mc) (hm2 : sl + ms' ≤ ms) (kk : ∀ (v : Option Value) (τ : St), PX (.inl v) τ → V l G T d mc ms Q (ce + mc') (sl + ms') q L (v.toList ++ st) (hof G τ) NC) (kx : ∀ (E : String) (τ : St), PX (.inr E) τ → VX l G T d mc ms Q (ce + mc') (sl + ms') pc L E (hof G τ) NC) : V l G T d mc ms Q ce sl pc L st0 (hof G σ) NC := by
  refine V.callV (ci := 2) (fs := fsL G (sF σ k)) hC hM hw hd hst (hof_at hk) (kd_lt hk (by decide)) hci hnp h8 hdd hm1 hm2 hq (fun v2 h2 n2 hQ => ?_) (fun E h2 n2 hQ => ?_)
  · obtain ⟨τ, rfl, rfl, hp⟩ := hQ
    exact kk _ τ hp
  · obtain ⟨τ, rfl, rfl, hp⟩ := hQ
    exact kx _ τ hp
theorem V.cVS (As : List Value) (hd : decode T.2.1 pc = .ok (.invokevirtual idx, 3)) (hst : st0 = As.reverse ++ .ref (gB G + k) :: st) (hC : CtS l G T' d' (.ref (gB G + k) :: As) σ v τ) (hM : MWv T' np) (hw : Cond.methodLink T.1.cls idx T'.1 ∈ BW) (hk : kd k = 1) {TT : u_T} {N : Nat} (hci : vwCl[1]? = some (T'.1.cls, TT, N)) (hnp : As.length = np) (h8 : cat8 st = true) (hdd : d' + 1 ≤ d) (hq : pc + 3 = q) (kk : V l G T d mc ms Q ce sl q L (v.toList ++ st) (hof G τ) NC) (hm1 : ce ≤ mc := by omega) (hm2 : sl ≤ ms := by omega) : V l G T d mc ms Q ce sl pc L st0 (hof G σ) NC := by
  refine V.callV (ci := 1) (fs := fsS G k (sF σ k)) hC hM hw hd hst (hof_at hk) (kd_lt hk (by decide)) hci hnp h8 hdd hm1 hm2 hq (fun v2 h2 n2 hQ => ?_) (fun E h2 n2 hQ => ?_)
  · obtain ⟨e1, rfl, rfl⟩ := hQ
    cases e1
    exact kk
  · cases hQ.1
theorem V.cVSP (As : List Value) (hd : decode T.2.1 pc = .ok (.invokevirtual idx, 3)) (hst : st0 = As.reverse ++ .ref (gB G + k) :: st) (hC : CtP l G T' d' (.ref (gB G + k) :: As) σ P) (hM : MWv T' np) (hw : Cond.methodLink T.1.cls idx T'.1 ∈ BW) (hk : kd k = 1) {TT : u_T} {N : Nat} (hci : vwCl[1]? = some (T'.1.cls, TT, N)) (hnp : As.length = np) (h8 : cat8 st = true) (hdd : d' + 1 ≤ d) (hq : pc + 3 = q) (kk : ∀ (v : Option Value) (τ : St), P v τ → V l G T d mc ms Q ce sl q L (v.toList ++ st) (hof G τ) NC) (hm1 : ce ≤ mc := by omega) (hm2 : sl ≤ ms := by omega) : V l G T d mc ms Q ce sl pc L st0 (hof G σ) NC := by
  refine V.callV (ci := 1) (fs := fsS G k (sF σ k)) hC hM hw hd hst (hof_at hk) (kd_lt hk (by decide)) hci hnp h8 hdd hm1 hm2 hq (fun v2 h2 n2 hQ => ?_) (fun E h2 n2 hQ => ?_)
  · obtain ⟨v3, τ, e1, rfl, rfl, hp⟩ := hQ
    cases e1
    exact kk _ τ hp
  · obtain ⟨v3, τ, e1, -⟩ := hQ
    cases e1
theorem V.cVSX (As : List Value) (hd : decode T.2.1 pc = .ok (.invokevirtual idx, 3)) (hst : st0 = As.reverse ++ .ref (gB G + k) :: st) (hC : CtX l G T' d' mc' ms' (.ref (gB G + k) :: As) σ PX) (hM : MWv T' np) (hw : Cond.methodLink T.1.cls idx T'.1 ∈ BW) (hk : kd k = 1) {TT : u_T} {N : Nat} (hci : vwCl[1]? = some (T'.1.cls, TT, N)) (hnp : As.length = np) (h8 : cat8 st = true) (hdd : d' + 1 ≤ d) (hq : pc + 3 = q) (hm1 : ce + mc' ≤ mc) (hm2 : sl + ms' ≤ ms) (kk : ∀ (v : Option Value) (τ : St), PX (.inl v) τ → V l G T d mc ms Q (ce + mc') (sl + ms') q L (v.toList ++ st) (hof G τ) NC) (kx : ∀ (E : String) (τ : St), PX (.inr E) τ → VX l G T d mc ms Q (ce + mc') (sl + ms') pc L E (hof G τ) NC) : V l G T d mc ms Q ce sl pc L st0 (hof G σ) NC := by
  refine V.callV (ci := 1) (fs := fsS G k (sF σ k)) hC hM hw hd hst (hof_at hk) (kd_lt hk (by decide)) hci hnp h8 hdd hm1 hm2 hq (fun v2 h2 n2 hQ => ?_) (fun E h2 n2 hQ => ?_)
  · obtain ⟨τ, rfl, rfl, hp⟩ := hQ
    exact kk _ τ hp
  · obtain ⟨τ, rfl, rfl, hp⟩ := hQ
    exact kx _ τ hp
theorem V.cVP (As : List Value) (hd : decode T.2.1 pc = .ok (.invokevirtual idx, 3)) (hst : st0 = As.reverse ++ .ref (gB G + k) :: st) (hC : CtS l G T' d' (.ref (gB G + k) :: As) σ v τ) (hM : MWv T' np) (hw : Cond.methodLink T.1.cls idx T'.1 ∈ BW) (hk : kd k = 7) {TT : u_T} {N : Nat} (hci : vwCl[0]? = some (T'.1.cls, TT, N)) (hnp : As.length = np) (h8 : cat8 st = true) (hdd : d' + 1 ≤ d) (hq : pc + 3 = q) (kk : V l G T d mc ms Q ce sl q L (v.toList ++ st) (hof G τ) NC) (hm1 : ce ≤ mc := by omega) (hm2 : sl ≤ ms := by omega) : V l G T d mc ms Q ce sl pc L st0 (hof G σ) NC := by
  refine V.callV (ci := 0) (fs := fsP G (sF σ k) (sS σ)) hC hM hw hd hst (hof_at hk) (kd_lt hk (by decide)) hci hnp h8 hdd hm1 hm2 hq (fun v2 h2 n2 hQ => ?_) (fun E h2 n2 hQ => ?_)
  · obtain ⟨e1, rfl, rfl⟩ := hQ
    cases e1
    exact kk
  · cases hQ.1
theorem V.cVPP (As : List Value) (hd : decode T.2.1 pc = .ok (.invokevirtual idx, 3)) (hst : st0 = As.reverse ++ .ref (gB G + k) :: st) (hC : CtP l G T' d' (.ref (gB G + k) :: As) σ P) (hM : MWv T' np) (hw : Cond.methodLink T.1.cls idx T'.1 ∈ BW) (hk : kd k = 7) {TT : u_T} {N : Nat} (hci : vwCl[0]? = some (T'.1.cls, TT, N)) (hnp : As.length = np) (h8 : cat8 st = true) (hdd : d' + 1 ≤ d) (hq : pc + 3 = q) (kk : ∀ (v : Option Value) (τ : St), P v τ → V l G T d mc ms Q ce sl q L (v.toList ++ st) (hof G τ) NC) (hm1 : ce ≤ mc := by omega) (hm2 : sl ≤ ms := by omega) : V l G T d mc ms Q ce sl pc L st0 (hof G σ) NC := by
  refine V.callV (ci := 0) (fs := fsP G (sF σ k) (sS σ)) hC hM hw hd hst (hof_at hk) (kd_lt hk (by decide)) hci hnp h8 hdd hm1 hm2 hq (fun v2 h2 n2 hQ => ?_) (fun E h2 n2 hQ => ?_)
  · obtain ⟨v3, τ, e1, rfl, rfl, hp⟩ := hQ
    cases e1
    exact kk _ τ hp
  · obtain ⟨v3, τ, e1, -⟩ := hQ
    cases e1
theorem V.cVPX (As : List Value) (hd : decode T.2.1 pc = .ok (.invokevirtual idx, 3)) (hst : st0 = As.reverse ++ .ref (gB G + k) :: st) (hC : CtX l G T' d' mc' ms' (.ref (gB G + k) :: As) σ PX) (hM : MWv T' np) (hw : Cond.methodLink T.1.cls idx T'.1 ∈ BW) (hk : kd k = 7) {TT : u_T} {N : Nat} (hci : vwCl[0]? = some (T'.1.cls, TT, N)) (hnp : As.length = np) (h8 : cat8 st = true) (hdd : d' + 1 ≤ d) (hq : pc + 3 = q) (hm1 : ce + mc' ≤ mc) (hm2 : sl + ms' ≤ ms) (kk : ∀ (v : Option Value) (τ : St), PX (.inl v) τ → V l G T d mc ms Q (ce + mc') (sl + ms') q L (v.toList ++ st) (hof G τ) NC) (kx : ∀ (E : String) (τ : St), PX (.inr E) τ → VX l G T d mc ms Q (ce + mc') (sl + ms') pc L E (hof G τ) NC) : V l G T d mc ms Q ce sl pc L st0 (hof G σ) NC := by
  refine V.callV (ci := 0) (fs := fsP G (sF σ k) (sS σ)) hC hM hw hd hst (hof_at hk) (kd_lt hk (by decide)) hci hnp h8 hdd hm1 hm2 hq (fun v2 h2 n2 hQ => ?_) (fun E h2 n2 hQ => ?_)
  · obtain ⟨τ, rfl, rfl, hp⟩ := hQ
    exact kk _ τ hp
  · obtain ⟨τ, rfl, rfl, hp⟩ := hQ
    exact kx _ τ hp
theorem V.cSt (As : List Value) (hd : decode T.2.1 pc = .ok (.invokestatic idx, 3)) (hst : st0 = As.reverse ++ st) (hC : CtS l G T' d' As σ v τ) (hM : MWs T' np) (hw : Cond.methodLink T.1.cls idx T'.1 ∈ BW) (hnp : As.length = np) (h8 : cat8 st = true) (hdd : d' + 1 ≤ d) (hq : pc + 3 = q) (kk : V l G T d mc ms Q ce sl q L (v.toList ++ st) (hof G τ) NC) (hm1 : ce ≤ mc := by omega) (hm2 : sl ≤ ms := by omega) : V l G T d mc ms Q ce sl pc L st0 (hof G σ) NC := by
  refine V.callS hC hM hw hd hst hnp h8 hdd hm1 hm2 hq (fun v2 h2 n2 hQ => ?_) (fun E h2 n2 hQ => ?_)
  · obtain ⟨e1, rfl, rfl⟩ := hQ
    cases e1
    exact kk
  · cases hQ.1
theorem V.cStP (As : List Value) (hd : decode T.2.1 pc = .ok (.invokestatic idx, 3)) (hst : st0 = As.reverse ++ st) (hC : CtP l G T' d' As σ P) (hM : MWs T' np) (hw : Cond.methodLink T.1.cls idx T'.1 ∈ BW) (hnp : As.length = np) (h8 : cat8 st = true) (hdd : d' + 1 ≤ d) (hq : pc + 3 = q) (kk : ∀ (v : Option Value) (τ : St), P v τ → V l G T d mc ms Q ce sl q L (v.toList ++ st) (hof G τ) NC) (hm1 : ce ≤ mc := by omega) (hm2 : sl ≤ ms := by omega) : V l G T d mc ms Q ce sl pc L st0 (hof G σ) NC := by
  refine V.callS hC hM hw hd hst hnp h8 hdd hm1 hm2 hq (fun v2 h2 n2 hQ => ?_) (fun E h2 n2 hQ => ?_)
  · obtain ⟨v3, τ, e1, rfl, rfl, hp⟩ := hQ
    cases e1
    exact kk _ τ hp
  · obtain ⟨v3, τ, e1, -⟩ := hQ
    cases e1
theorem V.cStX (As : List Value) (hd : decode T.2.1 pc = .ok (.invokestatic idx, 3)) (hst : st0 = As.reverse ++ st) (hC : CtX l G T' d' mc' ms' As σ PX) (hM : MWs T' np) (hw : Cond.methodLink T.1.cls idx T'.1 ∈ BW) (hnp : As.length = np) (h8 : cat8 st = true) (hdd : d' + 1 ≤ d) (hq : pc + 3 = q) (hm1 : ce + mc' ≤ mc) (hm2 : sl + ms' ≤ ms) (kk : ∀ (v : Option Value) (τ : St), PX (.inl v) τ → V l G T d mc ms Q (ce + mc') (sl + ms') q L (v.toList ++ st) (hof G τ) NC) (kx : ∀ (E : String) (τ : St), PX (.inr E) τ → VX l G T d mc ms Q (ce + mc') (sl + ms') pc L E (hof G τ) NC) : V l G T d mc ms Q ce sl pc L st0 (hof G σ) NC := by
  refine V.callS hC hM hw hd hst hnp h8 hdd hm1 hm2 hq (fun v2 h2 n2 hQ => ?_) (fun E h2 n2 hQ => ?_)
  · obtain ⟨τ, rfl, rfl, hp⟩ := hQ
    exact kk _ τ hp
  · obtain ⟨τ, rfl, rfl, hp⟩ := hQ
    exact kx _ τ hp
theorem CtS.ofV {av : List Value} (hy : plainName T.1.cls = true) (hh : T.2.2.2.2 = []) (hc : (av.all fun v => v.category == 1) = true) (hn : av.length ≤ T.2.2.1) (body : V l G T d 0 0 (RetS G v τ) 0 0 0 (L0 av T.2.2.1) [] (hof G σ) NC) : CtS l G T d av σ v τ := Ct.ofV hy hh hc hn body
theorem CtP.ofV {av : List Value} (hy : plainName T.1.cls = true) (hh : T.2.2.2.2 = []) (hc : (av.all fun v => v.category == 1) = true) (hn : av.length ≤ T.2.2.1) (body : V l G T d 0 0 (RetP G P) 0 0 0 (L0 av T.2.2.1) [] (hof G σ) NC) : CtP l G T d av σ P := Ct.ofV hy hh hc hn body
theorem CtX.ofV {av : List Value} (hy : plainName T.1.cls = true) (hh : T.2.2.2.2 = []) (hc : (av.all fun v => v.category == 1) = true) (hn : av.length ≤ T.2.2.1) (body : V l G T d mc ms (RetX G PX) 0 0 0 (L0 av T.2.2.1) [] (hof G σ) NC) : CtX l G T d mc ms av σ PX := Ct.ofV hy hh hc hn body
end CC
end
section
/-! the three exceptions that LiftScheduler throws -/
theorem thr_IO : ThrowOk "LiftScheduler" 264 268 "java/lang/IndexOutOfBoundsException" := by
  refine ⟨by decide +kernel, ?_, by decide +kernel, by decide +kernel, bw_349, bw_23, by decide +kernel⟩
  decide +kernel
theorem thr_IA : ThrowOk "LiftScheduler" 72 76 "java/lang/IllegalArgumentException" := by
  refine ⟨by decide +kernel, ?_, by decide +kernel, by decide +kernel, bw_241, bw_22, by decide +kernel⟩
  decide +kernel
theorem thr_IS : ThrowOk "LiftScheduler" 229 233 "java/lang/IllegalStateException" := by
  refine ⟨by decide +kernel, ?_, by decide +kernel, by decide +kernel, bw_469, bw_24, by decide +kernel⟩
  decide +kernel
end
section
/-! X: a frame of the law or of the JDK: V's world, and beside it a list E of cells outside the places; what the class's methods may not change is below B - 1 and in E -/
abbrev PE : Type := Option Value → HM → Nat → va_W → Prop
def FrX (G : GG) : Nat → Prop := fun q => gB G ≤ q + 1
def FrO (G : GG) : Nat → Prop := fun q => q + 1 = gB G ∨ gB G + NC ≤ q
theorem FrA.x {G : GG} {q : Nat} (h : FrA G q) : FrX G q := Nat.le_succ_of_le h.1
theorem FrO.x {G : GG} {q : Nat} (h : FrO G q) : FrX G q := by
  rcases h with h | h
  · exact Nat.le_of_eq h.symm
  · show gB G ≤ q + 1
    omega
theorem FrO.na {G : GG} {q : Nat} (h : FrO G q) : ¬ FrA G q := by
  rintro ⟨h1, h2⟩
  rcases h with h | h <;> omega
theorem FrO.ne {G : GG} {q k : Nat} (h : FrO G q) (hk : k < NC) : gB G + k ≠ q := fun e => h.na ⟨by omega, by omega⟩
def XE (G : GG) (E : va_W) (H : Heap) : Prop := va_P (gD G) vwCl E H ∧ va_D (FrO G) E
def FxX (l : Launch) (G : GG) (T : MT) (p : Program) (s : State) (m : MethodId) (args : Array Value) (meth : Method) (c : Code) : Prop :=
  p.tables.exec = Jvm.exec ∧ c.code = T.2.1 ∧ c.maxLocals = T.2.2.1 ∧ s.vm.findClass T.1.cls = some m.cls ∧ (∀ w ∈ BW, w.before args s = true) ∧ meth.sig.returnType = T.2.2.2.1 ∧ meth.locks = false ∧ (T.1.name = "<init>" → meth.name = "<init>") ∧ KV G s ∧ EVr (FrX G) G s s.heap ∧ gB G ≤ s.heap.size + 1 ∧ tabOk T c ∧ l.stackTraces = false
def QcX (G : GG) (Q : PE) : Array Value → State → Outcome → State → Prop := fun _ st o t => (∃ (v : Option Value) (h : HM) (n : Nat) (E : va_W), o = .returned v ∧ HP G h n t.heap ∧ XE G E t.heap ∧ Q v h n E) ∧ va_F (FrX G) st t
def XcX : String → State → State → Prop := fun _ _ _ => False
def X (l : Launch) (G : GG) (T : MT) (d mc ms : Nat) (Q : PE) (ce sl pc : Nat) (L : List (Option Value)) (st : List Value) (h : HM) (n : Nat) (E : va_W) : Prop :=
  ∀ (p : Program) (e : Env) (s : State) (m : MethodId) (args : Array Value) (below : List Frame) (meth : Method) (c : Code) (H : Heap) (locs : List Loc) (ls : Array Slot),
    FxX l G T p s m args meth c → lvo ls T.2.2.1 L → HP G h n H → XE G E H → va_S (FrX G) s.heap H locs →
    W p l e (rmV d mc ms) s m args below meth c H locs ce sl (vx_MQ below (QcX G Q) XcX args s mc ms (FrX G)) (F0 m pc ls st)
/-- a method's start -/
def SatX (G : GG) (h : HM) (n : Nat) (E : va_W) (U : State) : Prop := HP G h n U.heap ∧ XE G E U.heap ∧ KV G U ∧ EVr (FrX G) G U U.heap ∧ gB G ≤ U.heap.size + 1
/-- a method's contract -/
def CX (l : Launch) (G : GG) (T : MT) (d mc ms : Nat) (args : List Value) (h : HM) (n : Nat) (E : va_W) (Q : PE) : Prop :=
  l.stackTraces = false → vx_Met l T.1 (wsT T) (rmV d mc ms) (va_Pc args (SatX G h n E)) (QcX G Q) XcX mc ms (FrX G)
section XR
variable {l : Launch} {G : GG} {T : MT} {d mc ms ce sl : Nat} {Q : PE} {pc q : Nat} {L : List (Option Value)} {st : List Value} {h : HM} {n : Nat} {E : va_W}
theorem X.iconst {i : Int} {v : Int32} (hd : decode T.2.1 pc = .ok (.iconst i, 1)) (hv : Int32.ofInt i = v) (hq : pc + 1 = q) (k : X l G T d mc ms Q ce sl q L (.int v :: st) h n E) : X l G T d mc ms Q ce sl pc L (st) h n E := by
  intro p e s m args below meth c H locs ls F hl hP hE hS
  subst hq
  exact lv_iconst F.1 F.2.1 hd hv (k p e s m args below meth c H locs ls F hl hP hE hS)
theorem X.bipush {i : Int} {v : Int32} (hd : decode T.2.1 pc = .ok (.bipush i, 2)) (hv : (Int8.ofInt i).toInt32 = v) (hq : pc + 2 = q) (k : X l G T d mc ms Q ce sl q L (.int v :: st) h n E) : X l G T d mc ms Q ce sl pc L (st) h n E := by
  intro p e s m args below meth c H locs ls F hl hP hE hS
  subst hq
  exact lv_bipush F.1 F.2.1 hd hv (k p e s m args below meth c H locs ls F hl hP hE hS)
theorem X.sipush {i : Int} {v : Int32} (hd : decode T.2.1 pc = .ok (.sipush i, 3)) (hv : (Int16.ofInt i).toInt32 = v) (hq : pc + 3 = q) (k : X l G T d mc ms Q ce sl q L (.int v :: st) h n E) : X l G T d mc ms Q ce sl pc L (st) h n E := by
  intro p e s m args below meth c H locs ls F hl hP hE hS
  subst hq
  exact lv_sipush F.1 F.2.1 hd hv (k p e s m args below meth c H locs ls F hl hP hE hS)
theorem X.lconst {i : Fin 2} {v : Int64} (hd : decode T.2.1 pc = .ok (.lconst i, 1)) (hv : Int64.ofNat (i : Nat) = v) (hq : pc + 1 = q) (k : X l G T d mc ms Q ce sl q L (.long v :: st) h n E) : X l G T d mc ms Q ce sl pc L (st) h n E := by
  intro p e s m args below meth c H locs ls F hl hP hE hS
  subst hq
  exact lv_lconst F.1 F.2.1 hd hv (k p e s m args below meth c H locs ls F hl hP hE hS)
theorem X.iload_n {i : Fin 4} {x : Int32} (hd : decode T.2.1 pc = .ok (.iload_n i, 1)) (hx : L[(i : Nat)]? = some (some (.int x))) (hq : pc + 1 = q) (k : X l G T d mc ms Q ce sl q L (.int x :: st) h n E) : X l G T d mc ms Q ce sl pc L (st) h n E := by
  intro p e s m args below meth c H locs ls F hl hP hE hS
  subst hq
  exact lv_iload_n F.1 F.2.1 hd rfl (hl.get hx) (k p e s m args below meth c H locs ls F hl hP hE hS)
theorem X.iload {i : Nat} {x : Int32} (hd : decode T.2.1 pc = .ok (.iload i, 2)) (hx : L[i]? = some (some (.int x))) (hq : pc + 2 = q) (k : X l G T d mc ms Q ce sl q L (.int x :: st) h n E) : X l G T d mc ms Q ce sl pc L (st) h n E := by
  intro p e s m args below meth c H locs ls F hl hP hE hS
  subst hq
  exact lv_iload F.1 F.2.1 hd (hl.get hx) (k p e s m args below meth c H locs ls F hl hP hE hS)
theorem X.aload_n {i : Fin 4} {x : Nat} (hd : decode T.2.1 pc = .ok (.aload_n i, 1)) (hx : L[(i : Nat)]? = some (some (.ref x))) (hq : pc + 1 = q) (k : X l G T d mc ms Q ce sl q L (.ref x :: st) h n E) : X l G T d mc ms Q ce sl pc L (st) h n E := by
  intro p e s m args below meth c H locs ls F hl hP hE hS
  subst hq
  exact lv_aload_n F.1 F.2.1 hd rfl (hl.get hx) (k p e s m args below meth c H locs ls F hl hP hE hS)
theorem X.aload {i : Nat} {x : Nat} (hd : decode T.2.1 pc = .ok (.aload i, 2)) (hx : L[i]? = some (some (.ref x))) (hq : pc + 2 = q) (k : X l G T d mc ms Q ce sl q L (.ref x :: st) h n E) : X l G T d mc ms Q ce sl pc L (st) h n E := by
  intro p e s m args below meth c H locs ls F hl hP hE hS
  subst hq
  exact lv_aload F.1 F.2.1 hd (hl.get hx) (k p e s m args below meth c H locs ls F hl hP hE hS)
theorem X.dload_n {i : Fin 4} {x : UInt64} (hd : decode T.2.1 pc = .ok (.dload_n i, 1)) (hx : L[(i : Nat)]? = some (some (.double x))) (hq : pc + 1 = q) (k : X l G T d mc ms Q ce sl q L (.double x :: st) h n E) : X l G T d mc ms Q ce sl pc L (st) h n E := by
  intro p e s m args below meth c H locs ls F hl hP hE hS
  subst hq
  exact lv_dload_n F.1 F.2.1 hd rfl (hl.get hx) (k p e s m args below meth c H locs ls F hl hP hE hS)
theorem X.dload {i : Nat} {x : UInt64} (hd : decode T.2.1 pc = .ok (.dload i, 2)) (hx : L[i]? = some (some (.double x))) (hq : pc + 2 = q) (k : X l G T d mc ms Q ce sl q L (.double x :: st) h n E) : X l G T d mc ms Q ce sl pc L (st) h n E := by
  intro p e s m args below meth c H locs ls F hl hP hE hS
  subst hq
  exact lv_dload F.1 F.2.1 hd (hl.get hx) (k p e s m args below meth c H locs ls F hl hP hE hS)
theorem X.iadd {x y : Int32} (hd : decode T.2.1 pc = .ok (.iadd, 1)) (hq : pc + 1 = q) (k : X l G T d mc ms Q ce sl q L (.int (x + y) :: st) h n E) : X l G T d mc ms Q ce sl pc L (.int y :: .int x :: st) h n E := by
  intro p e s m args below meth c H locs ls F hl hP hE hS
  subst hq
  exact lv_iadd F.1 F.2.1 hd (k p e s m args below meth c H locs ls F hl hP hE hS)
theorem X.isub {x y : Int32} (hd : decode T.2.1 pc = .ok (.isub, 1)) (hq : pc + 1 = q) (k : X l G T d mc ms Q ce sl q L (.int (x - y) :: st) h n E) : X l G T d mc ms Q ce sl pc L (.int y :: .int x :: st) h n E := by
  intro p e s m args below meth c H locs ls F hl hP hE hS
  subst hq
  exact lv_isub F.1 F.2.1 hd (k p e s m args below meth c H locs ls F hl hP hE hS)
theorem X.imul {x y : Int32} (hd : decode T.2.1 pc = .ok (.imul, 1)) (hq : pc + 1 = q) (k : X l G T d mc ms Q ce sl q L (.int (x * y) :: st) h n E) : X l G T d mc ms Q ce sl pc L (.int y :: .int x :: st) h n E := by
  intro p e s m args below meth c H locs ls F hl hP hE hS
  subst hq
  exact lv_imul F.1 F.2.1 hd (k p e s m args below meth c H locs ls F hl hP hE hS)
theorem X.iand {x y : Int32} (hd : decode T.2.1 pc = .ok (.iand, 1)) (hq : pc + 1 = q) (k : X l G T d mc ms Q ce sl q L (.int (x &&& y) :: st) h n E) : X l G T d mc ms Q ce sl pc L (.int y :: .int x :: st) h n E := by
  intro p e s m args below meth c H locs ls F hl hP hE hS
  subst hq
  exact lv_iand F.1 F.2.1 hd (k p e s m args below meth c H locs ls F hl hP hE hS)
theorem X.ior {x y : Int32} (hd : decode T.2.1 pc = .ok (.ior, 1)) (hq : pc + 1 = q) (k : X l G T d mc ms Q ce sl q L (.int (x ||| y) :: st) h n E) : X l G T d mc ms Q ce sl pc L (.int y :: .int x :: st) h n E := by
  intro p e s m args below meth c H locs ls F hl hP hE hS
  subst hq
  exact lv_ior F.1 F.2.1 hd (k p e s m args below meth c H locs ls F hl hP hE hS)
theorem X.ishl {x y : Int32} (hd : decode T.2.1 pc = .ok (.ishl, 1)) (hq : pc + 1 = q) (k : X l G T d mc ms Q ce sl q L (.int (x <<< (y &&& 31)) :: st) h n E) : X l G T d mc ms Q ce sl pc L (.int y :: .int x :: st) h n E := by
  intro p e s m args below meth c H locs ls F hl hP hE hS
  subst hq
  exact lv_ishl F.1 F.2.1 hd (k p e s m args below meth c H locs ls F hl hP hE hS)
theorem X.ishr {x y : Int32} (hd : decode T.2.1 pc = .ok (.ishr, 1)) (hq : pc + 1 = q) (k : X l G T d mc ms Q ce sl q L (.int (x >>> (y &&& 31)) :: st) h n E) : X l G T d mc ms Q ce sl pc L (.int y :: .int x :: st) h n E := by
  intro p e s m args below meth c H locs ls F hl hP hE hS
  subst hq
  exact lv_ishr F.1 F.2.1 hd (k p e s m args below meth c H locs ls F hl hP hE hS)
theorem X.iushr {x y : Int32} (hd : decode T.2.1 pc = .ok (.iushr, 1)) (hq : pc + 1 = q) (k : X l G T d mc ms Q ce sl q L (.int (x.toUInt32 >>> (y.toUInt32 &&& Int32.toUInt32 31)).toInt32 :: st) h n E) : X l G T d mc ms Q ce sl pc L (.int y :: .int x :: st) h n E := by
  intro p e s m args below meth c H locs ls F hl hP hE hS
  subst hq
  exact lv_iushr F.1 F.2.1 hd rfl (k p e s m args below meth c H locs ls F hl hP hE hS)
theorem X.idiv {x y : Int32} (hd : decode T.2.1 pc = .ok (.idiv, 1)) (hne : ¬ y = 0) (hq : pc + 1 = q) (k : X l G T d mc ms Q ce sl q L (.int (x / y) :: st) h n E) : X l G T d mc ms Q ce sl pc L (.int y :: .int x :: st) h n E := by
  intro p e s m args below meth c H locs ls F hl hP hE hS
  subst hq
  exact lv_idiv F.1 F.2.1 hd hne (k p e s m args below meth c H locs ls F hl hP hE hS)
theorem X.irem {x y : Int32} (hd : decode T.2.1 pc = .ok (.irem, 1)) (hne : ¬ y = 0) (hq : pc + 1 = q) (k : X l G T d mc ms Q ce sl q L (.int (x - (x / y) * y) :: st) h n E) : X l G T d mc ms Q ce sl pc L (.int y :: .int x :: st) h n E := by
  intro p e s m args below meth c H locs ls F hl hP hE hS
  subst hq
  exact lv_irem F.1 F.2.1 hd hne (k p e s m args below meth c H locs ls F hl hP hE hS)
theorem X.ineg {x : Int32} (hd : decode T.2.1 pc = .ok (.ineg, 1)) (hq : pc + 1 = q) (k : X l G T d mc ms Q ce sl q L (.int (-x) :: st) h n E) : X l G T d mc ms Q ce sl pc L (.int x :: st) h n E := by
  intro p e s m args below meth c H locs ls F hl hP hE hS
  subst hq
  exact lv_ineg F.1 F.2.1 hd (k p e s m args below meth c H locs ls F hl hP hE hS)
theorem X.i2b {x : Int32} (hd : decode T.2.1 pc = .ok (.i2b, 1)) (hq : pc + 1 = q) (k : X l G T d mc ms Q ce sl q L (.int x.toInt8.toInt32 :: st) h n E) : X l G T d mc ms Q ce sl pc L (.int x :: st) h n E := by
  intro p e s m args below meth c H locs ls F hl hP hE hS
  subst hq
  exact lv_i2b F.1 F.2.1 hd rfl (k p e s m args below meth c H locs ls F hl hP hE hS)
theorem X.i2l {x : Int32} (hd : decode T.2.1 pc = .ok (.i2l, 1)) (hq : pc + 1 = q) (k : X l G T d mc ms Q ce sl q L (.long x.toInt64 :: st) h n E) : X l G T d mc ms Q ce sl pc L (.int x :: st) h n E := by
  intro p e s m args below meth c H locs ls F hl hP hE hS
  subst hq
  exact lv_i2l F.1 F.2.1 hd rfl (k p e s m args below meth c H locs ls F hl hP hE hS)
theorem X.lcmp {x y : Int64} (hd : decode T.2.1 pc = .ok (.lcmp, 1)) (hq : pc + 1 = q) (k : X l G T d mc ms Q ce sl q L (.int (lg_cmp x y) :: st) h n E) : X l G T d mc ms Q ce sl pc L (.long y :: .long x :: st) h n E := by
  intro p e s m args below meth c H locs ls F hl hP hE hS
  subst hq
  exact W.lcmp F.1 F.2.1 hd (k p e s m args below meth c H locs ls F hl hP hE hS)
theorem X.dup {x : Value} (hd : decode T.2.1 pc = .ok (.dup, 1)) (hx : x.category = 1) (hq : pc + 1 = q) (k : X l G T d mc ms Q ce sl q L (x :: x :: st) h n E) : X l G T d mc ms Q ce sl pc L (x :: st) h n E := by
  intro p e s m args below meth c H locs ls F hl hP hE hS
  subst hq
  exact lv_dup F.1 F.2.1 hd hx (k p e s m args below meth c H locs ls F hl hP hE hS)
theorem X.dup2 {x y : Value} (hd : decode T.2.1 pc = .ok (.dup2, 1)) (hx : x.category = 1) (hy : y.category = 1) (hq : pc + 1 = q) (k : X l G T d mc ms Q ce sl q L (x :: y :: x :: y :: st) h n E) : X l G T d mc ms Q ce sl pc L (x :: y :: st) h n E := by
  intro p e s m args below meth c H locs ls F hl hP hE hS
  subst hq
  exact lv_dup2_11 F.1 F.2.1 hd hx hy (k p e s m args below meth c H locs ls F hl hP hE hS)
theorem X.pop {x : Value} (hd : decode T.2.1 pc = .ok (.pop, 1)) (hx : x.category = 1) (hq : pc + 1 = q) (k : X l G T d mc ms Q ce sl q L (st) h n E) : X l G T d mc ms Q ce sl pc L (x :: st) h n E := by
  intro p e s m args below meth c H locs ls F hl hP hE hS
  subst hq
  exact lv_pop F.1 F.2.1 hd hx (k p e s m args below meth c H locs ls F hl hP hE hS)
theorem X.i2f {x : Int32} (hd : decode T.2.1 pc = .ok (.i2f, 1)) (hq : pc + 1 = q) (k : X l G T d mc ms Q ce sl q L (.float (FP.i2f x) :: st) h n E) : X l G T d mc ms Q ce sl pc L (.int x :: st) h n E := by
  intro p e s m args below meth c H locs ls F hl hP hE hS
  subst hq
  exact lv_i2f F.1 F.2.1 hd (k p e s m args below meth c H locs ls F hl hP hE hS)
theorem X.i2d {x : Int32} (hd : decode T.2.1 pc = .ok (.i2d, 1)) (hq : pc + 1 = q) (k : X l G T d mc ms Q ce sl q L (.double (FP.i2d x) :: st) h n E) : X l G T d mc ms Q ce sl pc L (.int x :: st) h n E := by
  intro p e s m args below meth c H locs ls F hl hP hE hS
  subst hq
  exact lv_i2d F.1 F.2.1 hd (k p e s m args below meth c H locs ls F hl hP hE hS)
theorem X.fdiv {x y : UInt32} (hd : decode T.2.1 pc = .ok (.fdiv, 1)) (hne : vf_n32 (FP.fdiv x y)) (hq : pc + 1 = q) (k : X l G T d mc ms Q ce sl q L (.float (FP.fdiv x y) :: st) h n E) : X l G T d mc ms Q ce sl pc L (.float y :: .float x :: st) h n E := by
  intro p e s m args below meth c H locs ls F hl hP hE hS
  subst hq
  exact lv_fdiv F.1 F.2.1 hd hne (k p e s m args below meth c H locs ls F hl hP hE hS)
theorem X.ddiv {x y : UInt64} (hd : decode T.2.1 pc = .ok (.ddiv, 1)) (hne : vf_n64 (FP.ddiv x y)) (hq : pc + 1 = q) (k : X l G T d mc ms Q ce sl q L (.double (FP.ddiv x y) :: st) h n E) : X l G T d mc ms Q ce sl pc L (.double y :: .double x :: st) h n E := by
  intro p e s m args below meth c H locs ls F hl hP hE hS
  subst hq
  exact lv_ddiv F.1 F.2.1 hd hne (k p e s m args below meth c H locs ls F hl hP hE hS)
theorem X.f2d {x : UInt32} (hd : decode T.2.1 pc = .ok (.f2d, 1)) (hne : vf_n64 (FP.f2d x)) (hq : pc + 1 = q) (k : X l G T d mc ms Q ce sl q L (.double (FP.f2d x) :: st) h n E) : X l G T d mc ms Q ce sl pc L (.float x :: st) h n E := by
  intro p e s m args below meth c H locs ls F hl hP hE hS
  subst hq
  exact lv_f2d F.1 F.2.1 hd hne (k p e s m args below meth c H locs ls F hl hP hE hS)
theorem X.dcmp {x y : UInt64} {op : CmpOp} (hd : decode T.2.1 pc = .ok (.dcmp op, 1)) (hq : pc + 1 = q) (k : X l G T d mc ms Q ce sl q L (.int (Op.cmpValue (FP.dcmp x y) op) :: st) h n E) : X l G T d mc ms Q ce sl pc L (.double y :: .double x :: st) h n E := by
  intro p e s m args below meth c H locs ls F hl hP hE hS
  subst hq
  exact lv_dcmp F.1 F.2.1 hd (k p e s m args below meth c H locs ls F hl hP hE hS)
theorem X.fconst0  (hd : decode T.2.1 pc = .ok (.fconst 0, 1)) (hq : pc + 1 = q) (k : X l G T d mc ms Q ce sl q L (.float 0 :: st) h n E) : X l G T d mc ms Q ce sl pc L (st) h n E := by
  intro p e s m args below meth c H locs ls F hl hP hE hS
  subst hq
  exact lv_fconst0 F.1 F.2.1 hd (k p e s m args below meth c H locs ls F hl hP hE hS)
theorem X.dconst0  (hd : decode T.2.1 pc = .ok (.dconst 0, 1)) (hq : pc + 1 = q) (k : X l G T d mc ms Q ce sl q L (.double 0 :: st) h n E) : X l G T d mc ms Q ce sl pc L (st) h n E := by
  intro p e s m args below meth c H locs ls F hl hP hE hS
  subst hq
  exact lv_dconst0 F.1 F.2.1 hd (k p e s m args below meth c H locs ls F hl hP hE hS)
theorem X.ldc {i : Nat} {v : Int32} (hd : decode T.2.1 pc = .ok (.ldc i, 2)) (hw : Cond.constant T.1.cls i v ∈ BW) (hq : pc + 2 = q) (k : X l G T d mc ms Q ce sl q L (.int v :: st) h n E) : X l G T d mc ms Q ce sl pc L (st) h n E := by
  intro p e s m args below meth c H locs ls F hl hP hE hS
  subst hq
  exact lv_ldc F.1 F.2.1 F.2.2.2.1 (F.2.2.2.2.1 _ hw) hd (k p e s m args below meth c H locs ls F hl hP hE hS)
theorem X.istore {i : Nat} {x : Int32} (hd : decode T.2.1 pc = .ok (.istore i, 2)) (hn : decide (i < T.2.2.1) = true) (hc : c1 L i = true) (hq : pc + 2 = q) (k : X l G T d mc ms Q ce sl q (L.set i (some (.int x))) st h n E) : X l G T d mc ms Q ce sl pc L (.int x :: st) h n E := by
  intro p e s m args below meth c H locs ls F hl hP hE hS
  subst hq
  exact lv_istore F.1 F.2.1 hd hl.has (of_decide_eq_true hn) rfl (fun ls2 hh => k p e s m args below meth c H locs ls2 F (lvo.set hc hh) hP hE hS)
theorem X.astore {i : Nat} {x : Nat} (hd : decode T.2.1 pc = .ok (.astore i, 2)) (hn : decide (i < T.2.2.1) = true) (hc : c1 L i = true) (hq : pc + 2 = q) (k : X l G T d mc ms Q ce sl q (L.set i (some (.ref x))) st h n E) : X l G T d mc ms Q ce sl pc L (.ref x :: st) h n E := by
  intro p e s m args below meth c H locs ls F hl hP hE hS
  subst hq
  exact lv_astore F.1 F.2.1 hd hl.has (of_decide_eq_true hn) rfl (fun ls2 hh => k p e s m args below meth c H locs ls2 F (lvo.set hc hh) hP hE hS)
theorem X.dstore {i : Nat} {x : UInt64} (hd : decode T.2.1 pc = .ok (.dstore i, 2)) (hn : decide (i + 1 < T.2.2.1) = true) (hc : c1 L i = true) (hq : pc + 2 = q) (k : X l G T d mc ms Q ce sl q ((L.set i (some (.double x))).set (i + 1) none) st h n E) : X l G T d mc ms Q ce sl pc L (.double x :: st) h n E := by
  intro p e s m args below meth c H locs ls F hl hP hE hS
  subst hq
  exact lv_dstore F.1 F.2.1 hd hl.has (of_decide_eq_true hn) rfl (fun ls2 hh => k p e s m args below meth c H locs ls2 F (lvo.set2 hc hh) hP hE hS)
theorem X.istore_n {i : Nat} {x : Int32} {f : Fin 4} (hd : decode T.2.1 pc = .ok (.istore_n f, 1)) (hf : (f : Nat) = i) (hn : decide (i < T.2.2.1) = true) (hc : c1 L i = true) (hq : pc + 1 = q) (k : X l G T d mc ms Q ce sl q (L.set i (some (.int x))) st h n E) : X l G T d mc ms Q ce sl pc L (.int x :: st) h n E := by
  intro p e s m args below meth c H locs ls F hl hP hE hS
  subst hq
  exact lv_istore_n F.1 F.2.1 hd hf hl.has (of_decide_eq_true hn) rfl (fun ls2 hh => k p e s m args below meth c H locs ls2 F (lvo.set hc hh) hP hE hS)
theorem X.astore_n {i : Nat} {x : Nat} {f : Fin 4} (hd : decode T.2.1 pc = .ok (.astore_n f, 1)) (hf : (f : Nat) = i) (hn : decide (i < T.2.2.1) = true) (hc : c1 L i = true) (hq : pc + 1 = q) (k : X l G T d mc ms Q ce sl q (L.set i (some (.ref x))) st h n E) : X l G T d mc ms Q ce sl pc L (.ref x :: st) h n E := by
  intro p e s m args below meth c H locs ls F hl hP hE hS
  subst hq
  exact lv_astore_n F.1 F.2.1 hd hf hl.has (of_decide_eq_true hn) rfl (fun ls2 hh => k p e s m args below meth c H locs ls2 F (lvo.set hc hh) hP hE hS)
theorem X.iinc {i : Nat} {a : Int} {x v : Int32} (hd : decode T.2.1 pc = .ok (.iinc i a, 3)) (hx : L[i]? = some (some (.int x))) (hv : x + Int32.ofInt a = v) (hn : decide (i < T.2.2.1) = true) (hc : c1 L i = true) (hq : pc + 3 = q) (k : X l G T d mc ms Q ce sl q (L.set i (some (.int v))) st h n E) : X l G T d mc ms Q ce sl pc L st h n E := by
  intro p e s m args below meth c H locs ls F hl hP hE hS
  subst hq
  obtain ⟨j, hj⟩ := List.getElem?_of_mem (asc_mem (q := (i, Value.int x)).mpr hx)
  exact lv_iinc F.1 F.2.1 hd hl.has hj hv (of_decide_eq_true hn) rfl (fun ls2 hh => k p e s m args below meth c H locs ls2 F (lvo.set hc hh) hP hE hS)
theorem X.if_eq {x : Int32} {off : Int} {tgt : Nat} (hd : decode T.2.1 pc = .ok (.ifCond .eq off, 3)) (ht : (pc : Int) + off = (tgt : Int)) (hq : pc + 3 = q) (kt : x = 0 → X l G T d mc ms Q ce sl tgt L st h n E) (kf : ¬ x = 0 → X l G T d mc ms Q ce sl q L st h n E) : X l G T d mc ms Q ce sl pc L (.int x :: st) h n E := by
  intro p e s m args below meth c H locs ls F hl hP hE hS
  subst hq
  exact lv_if_eq F.1 F.2.1 hd ht (fun z => kt z p e s m args below meth c H locs ls F hl hP hE hS) (fun z => kf z p e s m args below meth c H locs ls F hl hP hE hS)
theorem X.icmp_eq {x y : Int32} {off : Int} {tgt : Nat} (hd : decode T.2.1 pc = .ok (.if_icmp .eq off, 3)) (ht : (pc : Int) + off = (tgt : Int)) (hq : pc + 3 = q) (kt : x = y → X l G T d mc ms Q ce sl tgt L st h n E) (kf : ¬ x = y → X l G T d mc ms Q ce sl q L st h n E) : X l G T d mc ms Q ce sl pc L (.int y :: .int x :: st) h n E := by
  intro p e s m args below meth c H locs ls F hl hP hE hS
  subst hq
  exact lv_icmp_eq F.1 F.2.1 hd ht (fun z => kt z p e s m args below meth c H locs ls F hl hP hE hS) (fun z => kf z p e s m args below meth c H locs ls F hl hP hE hS)
theorem X.if_ne {x : Int32} {off : Int} {tgt : Nat} (hd : decode T.2.1 pc = .ok (.ifCond .ne off, 3)) (ht : (pc : Int) + off = (tgt : Int)) (hq : pc + 3 = q) (kt : ¬ x = 0 → X l G T d mc ms Q ce sl tgt L st h n E) (kf : x = 0 → X l G T d mc ms Q ce sl q L st h n E) : X l G T d mc ms Q ce sl pc L (.int x :: st) h n E := by
  intro p e s m args below meth c H locs ls F hl hP hE hS
  subst hq
  exact lv_if_ne F.1 F.2.1 hd ht (fun z => kt z p e s m args below meth c H locs ls F hl hP hE hS) (fun z => kf z p e s m args below meth c H locs ls F hl hP hE hS)
theorem X.icmp_ne {x y : Int32} {off : Int} {tgt : Nat} (hd : decode T.2.1 pc = .ok (.if_icmp .ne off, 3)) (ht : (pc : Int) + off = (tgt : Int)) (hq : pc + 3 = q) (kt : ¬ x = y → X l G T d mc ms Q ce sl tgt L st h n E) (kf : x = y → X l G T d mc ms Q ce sl q L st h n E) : X l G T d mc ms Q ce sl pc L (.int y :: .int x :: st) h n E := by
  intro p e s m args below meth c H locs ls F hl hP hE hS
  subst hq
  exact lv_icmp_ne F.1 F.2.1 hd ht (fun z => kt z p e s m args below meth c H locs ls F hl hP hE hS) (fun z => kf z p e s m args below meth c H locs ls F hl hP hE hS)
theorem X.if_lt {x : Int32} {off : Int} {tgt : Nat} (hd : decode T.2.1 pc = .ok (.ifCond .lt off, 3)) (ht : (pc : Int) + off = (tgt : Int)) (hq : pc + 3 = q) (kt : x < 0 → X l G T d mc ms Q ce sl tgt L st h n E) (kf : ¬ x < 0 → X l G T d mc ms Q ce sl q L st h n E) : X l G T d mc ms Q ce sl pc L (.int x :: st) h n E := by
  intro p e s m args below meth c H locs ls F hl hP hE hS
  subst hq
  exact lv_if_lt F.1 F.2.1 hd ht (fun z => kt z p e s m args below meth c H locs ls F hl hP hE hS) (fun z => kf z p e s m args below meth c H locs ls F hl hP hE hS)
theorem X.icmp_lt {x y : Int32} {off : Int} {tgt : Nat} (hd : decode T.2.1 pc = .ok (.if_icmp .lt off, 3)) (ht : (pc : Int) + off = (tgt : Int)) (hq : pc + 3 = q) (kt : x < y → X l G T d mc ms Q ce sl tgt L st h n E) (kf : ¬ x < y → X l G T d mc ms Q ce sl q L st h n E) : X l G T d mc ms Q ce sl pc L (.int y :: .int x :: st) h n E := by
  intro p e s m args below meth c H locs ls F hl hP hE hS
  subst hq
  exact lv_icmp_lt F.1 F.2.1 hd ht (fun z => kt z p e s m args below meth c H locs ls F hl hP hE hS) (fun z => kf z p e s m args below meth c H locs ls F hl hP hE hS)
theorem X.if_ge {x : Int32} {off : Int} {tgt : Nat} (hd : decode T.2.1 pc = .ok (.ifCond .ge off, 3)) (ht : (pc : Int) + off = (tgt : Int)) (hq : pc + 3 = q) (kt : 0 ≤ x → X l G T d mc ms Q ce sl tgt L st h n E) (kf : ¬ 0 ≤ x → X l G T d mc ms Q ce sl q L st h n E) : X l G T d mc ms Q ce sl pc L (.int x :: st) h n E := by
  intro p e s m args below meth c H locs ls F hl hP hE hS
  subst hq
  exact lv_if_ge F.1 F.2.1 hd ht (fun z => kt z p e s m args below meth c H locs ls F hl hP hE hS) (fun z => kf z p e s m args below meth c H locs ls F hl hP hE hS)
theorem X.icmp_ge {x y : Int32} {off : Int} {tgt : Nat} (hd : decode T.2.1 pc = .ok (.if_icmp .ge off, 3)) (ht : (pc : Int) + off = (tgt : Int)) (hq : pc + 3 = q) (kt : y ≤ x → X l G T d mc ms Q ce sl tgt L st h n E) (kf : ¬ y ≤ x → X l G T d mc ms Q ce sl q L st h n E) : X l G T d mc ms Q ce sl pc L (.int y :: .int x :: st) h n E := by
  intro p e s m args below meth c H locs ls F hl hP hE hS
  subst hq
  exact lv_icmp_ge F.1 F.2.1 hd ht (fun z => kt z p e s m args below meth c H locs ls F hl hP hE hS) (fun z => kf z p e s m args below meth c H locs ls F hl hP hE hS)
theorem X.if_gt {x : Int32} {off : Int} {tgt : Nat} (hd : decode T.2.1 pc = .ok (.ifCond .gt off, 3)) (ht : (pc : Int) + off = (tgt : Int)) (hq : pc + 3 = q) (kt : 0 < x → X l G T d mc ms Q ce sl tgt L st h n E) (kf : ¬ 0 < x → X l G T d mc ms Q ce sl q L st h n E) : X l G T d mc ms Q ce sl pc L (.int x :: st) h n E := by
  intro p e s m args below meth c H locs ls F hl hP hE hS
  subst hq
  exact lv_if_gt F.1 F.2.1 hd ht (fun z => kt z p e s m args below meth c H locs ls F hl hP hE hS) (fun z => kf z p e s m args below meth c H locs ls F hl hP hE hS)
theorem X.icmp_gt {x y : Int32} {off : Int} {tgt : Nat} (hd : decode T.2.1 pc = .ok (.if_icmp .gt off, 3)) (ht : (pc : Int) + off = (tgt : Int)) (hq : pc + 3 = q) (kt : y < x → X l G T d mc ms Q ce sl tgt L st h n E) (kf : ¬ y < x → X l G T d mc ms Q ce sl q L st h n E) : X l G T d mc ms Q ce sl pc L (.int y :: .int x :: st) h n E := by
  intro p e s m args below meth c H locs ls F hl hP hE hS
  subst hq
  exact lv_icmp_gt F.1 F.2.1 hd ht (fun z => kt z p e s m args below meth c H locs ls F hl hP hE hS) (fun z => kf z p e s m args below meth c H locs ls F hl hP hE hS)
theorem X.if_le {x : Int32} {off : Int} {tgt : Nat} (hd : decode T.2.1 pc = .ok (.ifCond .le off, 3)) (ht : (pc : Int) + off = (tgt : Int)) (hq : pc + 3 = q) (kt : x ≤ 0 → X l G T d mc ms Q ce sl tgt L st h n E) (kf : ¬ x ≤ 0 → X l G T d mc ms Q ce sl q L st h n E) : X l G T d mc ms Q ce sl pc L (.int x :: st) h n E := by
  intro p e s m args below meth c H locs ls F hl hP hE hS
  subst hq
  exact lv_if_le F.1 F.2.1 hd ht (fun z => kt z p e s m args below meth c H locs ls F hl hP hE hS) (fun z => kf z p e s m args below meth c H locs ls F hl hP hE hS)
theorem X.icmp_le {x y : Int32} {off : Int} {tgt : Nat} (hd : decode T.2.1 pc = .ok (.if_icmp .le off, 3)) (ht : (pc : Int) + off = (tgt : Int)) (hq : pc + 3 = q) (kt : x ≤ y → X l G T d mc ms Q ce sl tgt L st h n E) (kf : ¬ x ≤ y → X l G T d mc ms Q ce sl q L st h n E) : X l G T d mc ms Q ce sl pc L (.int y :: .int x :: st) h n E := by
  intro p e s m args below meth c H locs ls F hl hP hE hS
  subst hq
  exact lv_icmp_le F.1 F.2.1 hd ht (fun z => kt z p e s m args below meth c H locs ls F hl hP hE hS) (fun z => kf z p e s m args below meth c H locs ls F hl hP hE hS)
theorem X.goto {off : Int} {tgt : Nat} (hd : decode T.2.1 pc = .ok (.goto off, 3)) (ht : (pc : Int) + off = (tgt : Int)) (k : X l G T d mc ms Q ce sl tgt L st h n E) : X l G T d mc ms Q ce sl pc L st h n E := by
  intro p e s m args below meth c H locs ls F hl hP hE hS
  exact lv_goto F.1 F.2.1 hd ht (k p e s m args below meth c H locs ls F hl hP hE hS)
theorem X.acmp_eq {x y : Nat} {off : Int} {tgt : Nat} (hd : decode T.2.1 pc = .ok (.if_acmp .eq off, 3)) (ht : (pc : Int) + off = (tgt : Int)) (hq : pc + 3 = q) (kt : x = y → X l G T d mc ms Q ce sl tgt L st h n E) (kf : ¬ x = y → X l G T d mc ms Q ce sl q L st h n E) : X l G T d mc ms Q ce sl pc L (.ref y :: .ref x :: st) h n E := by
  intro p e s m args below meth c H locs ls F hl hP hE hS
  subst hq
  exact lv_acmp_eq (rx := some x) (ry := some y) F.1 F.2.1 hd ht (fun z => kt (Option.some.inj z) p e s m args below meth c H locs ls F hl hP hE hS) (fun z => kf (fun w => z (by rw [w])) p e s m args below meth c H locs ls F hl hP hE hS)
theorem X.acmp_ne {x y : Nat} {off : Int} {tgt : Nat} (hd : decode T.2.1 pc = .ok (.if_acmp .ne off, 3)) (ht : (pc : Int) + off = (tgt : Int)) (hq : pc + 3 = q) (kt : ¬ x = y → X l G T d mc ms Q ce sl tgt L st h n E) (kf : x = y → X l G T d mc ms Q ce sl q L st h n E) : X l G T d mc ms Q ce sl pc L (.ref y :: .ref x :: st) h n E := by
  intro p e s m args below meth c H locs ls F hl hP hE hS
  subst hq
  exact lv_acmp_ne (rx := some x) (ry := some y) F.1 F.2.1 hd ht (fun z => kt (fun w => z (by rw [w])) p e s m args below meth c H locs ls F hl hP hE hS) (fun z => kf (Option.some.inj z) p e s m args below meth c H locs ls F hl hP hE hS)
theorem X.tableOut {dflt lo hi : Int} {offs : Array Int} {len : Nat} {x : Int32} {tgt : Nat} (hd : decode T.2.1 pc = .ok (.tableswitch dflt lo hi offs, len)) (hx : x.toInt < lo ∨ hi < x.toInt) (ht : (pc : Int) + dflt = (tgt : Int)) (k : X l G T d mc ms Q ce sl tgt L st h n E) : X l G T d mc ms Q ce sl pc L (.int x :: st) h n E := by
  intro p e s m args below meth c H locs ls F hl hP hE hS
  exact lv_tableOut F.1 F.2.1 hd hx ht (k p e s m args below meth c H locs ls F hl hP hE hS)
theorem X.tableIn {dflt lo hi off : Int} {offs : Array Int} {len : Nat} {x : Int32} {tgt : Nat} (hd : decode T.2.1 pc = .ok (.tableswitch dflt lo hi offs, len)) (h1 : ¬ x.toInt < lo) (h2 : ¬ hi < x.toInt) (ho : offs[(x.toInt - lo).toNat]? = some off) (ht : (pc : Int) + off = (tgt : Int)) (k : X l G T d mc ms Q ce sl tgt L st h n E) : X l G T d mc ms Q ce sl pc L (.int x :: st) h n E := by
  intro p e s m args below meth c H locs ls F hl hP hE hS
  exact lv_tableIn F.1 F.2.1 hd h1 h2 ho ht (k p e s m args below meth c H locs ls F hl hP hE hS)
/-- fewer known locals -/
theorem X.less {L2 : List (Option Value)} (hl2 : lle L2 L) (k : X l G T d mc ms Q ce sl pc L2 st h n E) : X l G T d mc ms Q ce sl pc L st h n E := by
  intro p e s m args below meth c H locs ls F hl hP hE hS
  exact k p e s m args below meth c H locs ls F (hl.less hl2) hP hE hS
/-- another name for what stands there -/
theorem X.to {L2 : List (Option Value)} {st2 : List Value} {h2 : HM} {n2 : Nat} {E2 : va_W} (e1 : L = L2) (e2 : st = st2) (e3 : h = h2) (e4 : n = n2) (e5 : E = E2) (k : X l G T d mc ms Q ce sl pc L2 st2 h2 n2 E2) : X l G T d mc ms Q ce sl pc L st h n E := by
  subst e1; subst e2; subst e3; subst e4; subst e5; exact k
theorem X.wide {ce2 sl2 : Nat} (h1 : ce ≤ ce2) (h2 : sl ≤ sl2) (k : X l G T d mc ms Q ce2 sl2 pc L st h n E) : X l G T d mc ms Q ce sl pc L st h n E := by
  intro p e s m args below meth c H locs ls F hl hP hE hS
  exact W.widen h1 h2 (k p e s m args below meth c H locs ls F hl hP hE hS)

theorem X.iret {x : Int32} (hd : decode T.2.1 pc = .ok (.ireturn, 1)) (hr : T.2.2.2.1 = some .int) (hQ : Q (some (.int x)) h n E) (hc : ce ≤ mc := by omega) (hs : sl ≤ ms := by omega) : X l G T d mc ms Q ce sl pc L [.int x] h n E := by
  intro p e s m args below meth c H locs ls F hl hP hE hS
  refine W.widen hc hs (vx_ret ?_)
  refine W.iret F.1 F.2.1 (F.2.2.2.2.2.1.trans hr) ?_ hS.2.2 hd F.2.2.2.2.2.2.1
  intro t ht hW
  exact ⟨⟨_, h, n, E, rfl, by rw [ht]; exact hP, by rw [ht]; exact hE, hQ⟩, hS.F ht⟩
theorem X.zret {ty : FieldType} {x : Int32} (hn : narrow ty (.int x) = .int x) (hd : decode T.2.1 pc = .ok (.ireturn, 1)) (hr : T.2.2.2.1 = some ty) (hQ : Q (some (.int x)) h n E) (hc : ce ≤ mc := by omega) (hs : sl ≤ ms := by omega) : X l G T d mc ms Q ce sl pc L [.int x] h n E := by
  intro p e s m args below meth c H locs ls F hl hP hE hS
  refine W.widen hc hs (vx_ret ?_)
  refine W.zret F.1 F.2.1 (F.2.2.2.2.2.1.trans hr) hn ?_ hS.2.2 hd F.2.2.2.2.2.2.1
  intro t ht hW
  exact ⟨⟨_, h, n, E, rfl, by rw [ht]; exact hP, by rw [ht]; exact hE, hQ⟩, hS.F ht⟩
theorem X.vret  (hd : decode T.2.1 pc = .ok (.return_, 1)) (hr : T.2.2.2.1 = none) (hQ : Q none h n E) (hc : ce ≤ mc := by omega) (hs : sl ≤ ms := by omega) : X l G T d mc ms Q ce sl pc L [] h n E := by
  intro p e s m args below meth c H locs ls F hl hP hE hS
  refine W.widen hc hs (vx_ret ?_)
  refine W.vret F.1 F.2.1 (F.2.2.2.2.2.1.trans hr) ?_ hS.2.2 hd F.2.2.2.2.2.2.1
  intro t ht hW
  exact ⟨⟨_, h, n, E, rfl, by rw [ht]; exact hP, by rw [ht]; exact hE, hQ⟩, hS.F ht⟩
theorem X.fret {x : UInt32} (hd : decode T.2.1 pc = .ok (.freturn, 1)) (hr : T.2.2.2.1 = some .float) (hQ : Q (some (.float x)) h n E) (hc : ce ≤ mc := by omega) (hs : sl ≤ ms := by omega) : X l G T d mc ms Q ce sl pc L [.float x] h n E := by
  intro p e s m args below meth c H locs ls F hl hP hE hS
  refine W.widen hc hs (vx_ret ?_)
  refine W.fret F.1 F.2.1 (F.2.2.2.2.2.1.trans hr) ?_ hS.2.2 hd F.2.2.2.2.2.2.1
  intro t ht hW
  exact ⟨⟨_, h, n, E, rfl, by rw [ht]; exact hP, by rw [ht]; exact hE, hQ⟩, hS.F ht⟩
theorem X.dret {x : UInt64} (hd : decode T.2.1 pc = .ok (.dreturn, 1)) (hr : T.2.2.2.1 = some .double) (hQ : Q (some (.double x)) h n E) (hc : ce ≤ mc := by omega) (hs : sl ≤ ms := by omega) : X l G T d mc ms Q ce sl pc L [.double x] h n E := by
  intro p e s m args below meth c H locs ls F hl hP hE hS
  refine W.widen hc hs (vx_ret ?_)
  refine W.dret F.1 F.2.1 (F.2.2.2.2.2.1.trans hr) ?_ hS.2.2 hd F.2.2.2.2.2.2.1
  intro t ht hW
  exact ⟨⟨_, h, n, E, rfl, by rw [ht]; exact hP, by rw [ht]; exact hE, hQ⟩, hS.F ht⟩
theorem X.aret {x : Nat} {C : String} (hd : decode T.2.1 pc = .ok (.areturn, 1)) (hr : T.2.2.2.1 = some (.object C)) (hQ : Q (some (.ref x)) h n E) (hc : ce ≤ mc := by omega) (hs : sl ≤ ms := by omega) : X l G T d mc ms Q ce sl pc L [.ref x] h n E := by
  intro p e s m args below meth c H locs ls F hl hP hE hS
  refine W.widen hc hs (vx_ret ?_)
  refine W.aret F.1 F.2.1 (F.2.2.2.2.2.1.trans hr) (Or.inl ⟨C, rfl⟩) (Or.inr ⟨x, rfl⟩) ?_ hS.2.2 hd F.2.2.2.2.2.2.1
  intro t ht hW
  exact ⟨⟨_, h, n, E, rfl, by rw [ht]; exact hP, by rw [ht]; exact hE, hQ⟩, hS.F ht⟩
end XR
end
section
/-! X: the list E, contracts out of bodies, calls -/
theorem XE.nd {G : GG} {E : va_W} {H : Heap} (hE : XE G E H) {i j : Nat} {p q : Nat × va_E} (hi : E[i]? = some p) (hj : E[j]? = some q) (h : p.1 = q.1) : i = j := hE.2.1 i j p q hi hj h
theorem XE.o {G : GG} {E : va_W} {H : Heap} (hE : XE G E H) {i : Nat} {p : Nat × va_E} (hi : E[i]? = some p) : FrO G p.1 := hE.2.2 i p hi
/-- one cell's new contents -/
theorem XE.set {G : GG} {E : va_W} {H H1 : Heap} {j a : Nat} {e e0 : va_E} (hE : XE G E H) (hj : E[j]? = some (a, e0)) (he : va_at (gD G) vwCl (a, e) H1) (oq : ∀ q : Nat, q ≠ a → H1[q]? = H[q]?) : XE G (E.set j (a, e)) H1 := by
  have hl : j < E.length := (List.getElem?_eq_some_iff.mp hj).1
  have key : ∀ (i : Nat) (p : Nat × va_E), (E.set j (a, e))[i]? = some p → (i = j ∧ p = (a, e)) ∨ (i ≠ j ∧ E[i]? = some p) := by
    intro i p hi
    by_cases h : i = j
    · subst h
      rw [List.getElem?_set_self hl] at hi
      exact Or.inl ⟨rfl, (Option.some.inj hi).symm⟩
    · rw [List.getElem?_set_ne (fun z => h z.symm)] at hi
      exact Or.inr ⟨h, hi⟩
  have adr : ∀ (i : Nat) (p : Nat × va_E), (E.set j (a, e))[i]? = some p → ∃ p0, E[i]? = some p0 ∧ p0.1 = p.1 := by
    intro i p hi
    rcases key i p hi with ⟨rfl, rfl⟩ | ⟨-, h⟩
    · exact ⟨_, hj, rfl⟩
    · exact ⟨p, h, rfl⟩
  refine ⟨fun i p hi => ?_, fun i k p q hi hk h => ?_, fun i p hi => ?_⟩
  · rcases key i p hi with ⟨rfl, rfl⟩ | ⟨h, h2⟩
    · exact he
    · exact (hE.1 i p h2).kept (oq _ (fun z => h (hE.nd h2 hj z)))
  · obtain ⟨p0, e1, e2⟩ := adr i p hi
    obtain ⟨q0, e3, e4⟩ := adr k q hk
    exact hE.nd e1 e3 (by rw [e2, e4, h])
  · obtain ⟨p0, e1, e2⟩ := adr i p hi
    rw [← e2]
    exact hE.o e1
/-- a new cell, ahead of the others -/
theorem XE.push {G : GG} {E : va_W} {H H1 : Heap} {a : Nat} {e : va_E} (hE : XE G E H) (he : va_at (gD G) vwCl (a, e) H1) (ho : FrO G a) (ha : H.size ≤ a) (oq : ∀ q : Nat, q < H.size → H1[q]? = H[q]?) : XE G ((a, e) :: E) H1 := by
  have lt : ∀ (i : Nat) (p : Nat × va_E), E[i]? = some p → p.1 < H.size := fun i p hi => (hE.1 i p hi).lt
  refine ⟨fun i p hi => ?_, fun i k p q hi hk h => ?_, fun i p hi => ?_⟩
  · cases i with
    | zero => cases hi; exact he
    | succ i => exact (hE.1 i p hi).kept (oq _ (lt i p hi))
  · cases i with
    | zero =>
      cases hi
      cases k with
      | zero => rfl
      | succ k =>
        have h1 := lt k q hk
        have h2 : a = q.1 := h
        omega
    | succ i =>
      cases k with
      | zero =>
        cases hk
        have h1 := lt i p hi
        have h2 : p.1 = a := h
        omega
      | succ k => rw [hE.nd (i := i) (j := k) hi hk h]
  · cases i with
    | zero => cases hi; exact ho
    | succ i => exact hE.o (i := i) hi
/-- the heap has changed elsewhere -/
theorem XE.keep {G : GG} {E : va_W} {H H1 : Heap} (hE : XE G E H) (oq : ∀ q : Nat, q < H.size → FrO G q → H1[q]? = H[q]?) : XE G E H1 := ⟨fun i p hi => (hE.1 i p hi).kept (oq _ (hE.1 i p hi).lt (hE.o hi)), hE.2⟩
/-- others of them, by their places (the tail stays) -/
theorem XE.tl {G : GG} {E : va_W} {H : Heap} {x : Nat × va_E} (hE : XE G (x :: E) H) : XE G E H :=
  ⟨fun i p hi => hE.1 (i + 1) p hi, fun i j p q hi hj h => Nat.succ.inj (hE.nd (i := i + 1) (j := j + 1) hi hj h), fun i p hi => hE.o (i := i + 1) hi⟩
theorem XE.sw {G : GG} {E : va_W} {H : Heap} {x y : Nat × va_E} (hE : XE G (x :: y :: E) H) : XE G (y :: x :: E) H := by
  have f : ∀ (i : Nat) (p : Nat × va_E), (y :: x :: E)[i]? = some p → (x :: y :: E)[if i = 0 then 1 else if i = 1 then 0 else i]? = some p := by
    intro i p hi
    match i with
    | 0 => exact hi
    | 1 => exact hi
    | i + 2 => simpa using hi
  refine ⟨fun i p hi => hE.1 _ p (f i p hi), fun i j p q hi hj h => ?_, fun i p hi => hE.o (f i p hi)⟩
  have h2 := hE.nd (f i p hi) (f j q hj) h
  revert h2
  split <;> split <;> (try split) <;> (try split) <;> omega
theorem XE.cons {G : GG} {E E2 : va_W} {H : Heap} {x : Nat × va_E} (hE : XE G (x :: E) H) (hs : XE G E H → XE G E2 H) (hm : ∀ p ∈ E2, p ∈ E) : XE G (x :: E2) H := by
  have h2 := hs hE.tl
  have hx : ∀ (j : Nat) (q : Nat × va_E), E2[j]? = some q → x.1 ≠ q.1 := by
    intro j q hj h
    obtain ⟨i, hi⟩ := List.getElem?_of_mem (hm q (List.mem_of_getElem? hj))
    have := hE.nd (i := 0) (j := i + 1) (p := x) (q := q) rfl hi h
    omega
  refine ⟨fun i p hi => ?_, fun i k p q hi hk h => ?_, fun i p hi => ?_⟩
  · cases i with
    | zero => cases hi; exact hE.1 0 x rfl
    | succ i => exact h2.1 i p hi
  · cases i with
    | zero =>
      cases hi
      cases k with
      | zero => rfl
      | succ k => exact absurd h (hx k q hk)
    | succ i =>
      cases k with
      | zero => cases hk; exact absurd h.symm (hx i p hi)
      | succ k => rw [h2.nd (i := i) (j := k) hi hk h]
  · cases i with
    | zero => cases hi; exact hE.o (i := 0) (p := x) rfl
    | succ i => exact h2.o (i := i) hi
theorem HP.keep {G : GG} {h : HM} {n : Nat} {H H1 : Heap} {a : Nat} (hp : HP G h n H) (ha : FrO G a) (hz : H1.size = H.size) (oq : ∀ q : Nat, q ≠ a → H1[q]? = H[q]?) : HP G h n H1 :=
  ⟨by rw [hz]; exact hp.1, fun k hk => (hp.2 k hk).kept (oq _ (ha.ne (Nat.lt_of_lt_of_le hk hp.nle)))⟩
theorem va_P1 {D : va_G} {cl : List vw_C} {q : Nat × va_E} {H : Heap} (h : va_at D cl q H) : va_P D cl [q] H := fun k p hk => by
  match k with
  | 0 => cases hk; exact h
  | k + 1 => cases hk
theorem SatX.blind {G : GG} {h : HM} {n : Nat} {E : va_W} {av : List Value} : FrameBlind (va_Pc av (SatX G h n E)) := fun a U g mk hp =>
  ⟨hp.1, hp.2.1, hp.2.2.1, hp.2.2.2.1.moved (Vm.Alike.refl U.vm), hp.2.2.2.2.1.at' (State.WarmedH.refl U) (fun _ _ _ => rfl), hp.2.2.2.2.2⟩
theorem FxX.of {l : Launch} {G : GG} {T : MT} {rm : Room} {h : HM} {n : Nat} {E : va_W} {p : Program} {e : Env} {s s₁ : State} {m : MethodId} {args : Array Value} {below : List Frame} {meth : Method} {c : Code} (B : BodyLoose p l T.1 (headSpec (wsT T) rm) T.2.1 T.2.2.1 T.2.2.2.1 e s m args below meth c s₁) (hml : c.maxLocals = T.2.2.1) (ht : c.exceptionTable.toList = tableOf T.2.2.2.2) (hs : SatX G h n E s) (hl : l.stackTraces = false) : FxX l G T p s m args meth c := by
  have hts := atoms_spec (ws := wsT T) B.pre
  exact ⟨B.exec, B.bytes, hml, findClass_of_methodNamed B.named, fun w hw => hts w (List.mem_cons_of_mem _ hw), B.returns, B.notSynchronized, fun hi => ((name_of_methodNamed B.named B.method).1).trans hi, hs.2.2.1, hs.2.2.2.1, hs.2.2.2.2, fun _ => ht, hl⟩
section CTX
variable {l : Launch} {G : GG} {T : MT} {d mc ms : Nat} {Q : PE} {h : HM} {n : Nat} {E : va_W} {av : List Value}
theorem CX.ofX (hy : plainName T.1.cls = true) (hh : T.2.2.2.2 = []) (hc : (av.all fun v => v.category == 1) = true) (hn : av.length ≤ T.2.2.1) (body : X l G T d mc ms Q 0 0 0 (L0 av T.2.2.1) [] h n E) : CX l G T d mc ms av h n E Q := by
  intro hst
  have hw : wsT T = Cond.code T.1 T.2.1 T.2.2.1 T.2.2.2.1 :: BW := by simp [wsT, hh]
  refine vx_ofW (cc := T.2.1) (maxL := T.2.2.1) (ret := T.2.2.2.1) hy hw ?_
  intro p e s m args below meth c s₁ B hml htab hv
  obtain ⟨rfl, hs⟩ := hv
  have ht : c.exceptionTable.toList = tableOf T.2.2.2.2 := by
    rw [hh]
    cases hx : c.exceptionTable.toList with
    | nil => rfl
    | cons a r => exact (htab a (by rw [hx]; exact List.mem_cons_self)).elim
  rw [lg_entry_eq]
  exact body p e s m _ below meth c s.heap [] _ (FxX.of B hml ht hs hst) (lvo_entry hc hn) hs.1 hs.2.1 va_S.rf
theorem SatX.start {s : State} {H : Heap} {locs : List Loc} {U : State} {p : Program} {m : MethodId} {args : Array Value} {meth : Method} {c : Code} (F : FxX l G T p s m args meth c) (hP : HP G h n H) (hE : XE G E H) (hS : va_S (FrX G) s.heap H locs) (hU : U.heap = H) (hW : s.WarmedH U.vm) : SatX G h n E U := by
  obtain ⟨-, -, -, -, -, -, -, -, hK, hV, hz, -⟩ := F
  exact ⟨by rw [hU]; exact hP, by rw [hU]; exact hE, hK.moved hW.alike, hV.at' hW (fun a ha hn => by rw [hU]; exact hS.2.1 a ha hn), by rw [hU]; exact Nat.le_trans hz (Nat.succ_le_succ hS.1)⟩
/-- the class's methods see their own places -/
theorem SatX.v {U : State} (hs : SatX G h n E U) : Sat G h n U := ⟨hs.1, hs.2.2.1, hs.2.2.2.1.narrow (fun _ z => z.x)⟩
/-- behind a call -/
theorem RunX.done {p : Program} {e : Env} {s : State} {m : MethodId} {args : Array Value} {below : List Frame} {meth : Method} {c : Code} {H : Heap} {locs : List Loc} {ls : Array Slot} {mc' ms' ce sl pc q : Nat} {st0 rest : List Value} {Q' : PE} {a : Array Value} {L : List (Option Value)}
    (F : FxX l G T p s m args meth c) (hl : lvo ls T.2.2.1 L) (hS : va_S (FrX G) s.heap H locs) (hq : pc + 3 = q)
    (hr : vx_Run p l e (rmV d mc ms) s m args below meth c H locs ce sl mc' ms' (F0 m pc ls st0) rest (QcX G Q' a) XcX (FrX G))
    (kr : ∀ (v : Option Value) (h2 : HM) (n2 : Nat) (E2 : va_W), Q' v h2 n2 E2 → X l G T d mc ms Q (ce + mc') (sl + ms') q L (v.toList ++ rest) h2 n2 E2) :
    W p l e (rmV d mc ms) s m args below meth c H locs ce sl (vx_MQ below (QcX G Q) XcX args s mc ms (FrX G)) (F0 m pc ls st0) := by
  subst hq
  intro T9 hT X9
  rcases hr T9 hT X9 with ⟨v, st₀, t, T', L9, h0, X', hL, e1, e2, ⟨⟨v2, h2, n2, E2, ho, hp2, hE2, hq2⟩, hF⟩, st⟩ | ⟨q, st₀, t, T', L9, E9, ce9, h0, X', hL, e1, e2, hx, -⟩
  · cases ho
    obtain ⟨-, -, k3⟩ := vx_keep h0 e1 hS (fun _ _ z => z) (fun _ z => z) hL hF
    obtain ⟨t2, a1, b1⟩ := kr v h2 n2 E2 hq2 p e s m args below meth c T'.heap (locs ++ L9) ls F hl (by rw [e1]; exact hp2) (by rw [e1]; exact hE2) k3 T' rfl X'
    exact ⟨t2, st t2 a1, b1⟩
  · exact hx.elim
/-- behind a call of a method of the class -/
theorem RunX.doneV {p : Program} {e : Env} {s : State} {m : MethodId} {args : Array Value} {below : List Frame} {meth : Method} {c : Code} {H : Heap} {locs : List Loc} {ls : Array Slot} {mc' ms' ce sl pc q : Nat} {st0 rest : List Value} {Q' : PQ} {a : Array Value} {L : List (Option Value)}
    (F : FxX l G T p s m args meth c) (hl : lvo ls T.2.2.1 L) (hE : XE G E H) (hS : va_S (FrX G) s.heap H locs) (hq : pc + 3 = q)
    (hr : vx_Run p l e (rmV d mc ms) s m args below meth c H locs ce sl mc' ms' (F0 m pc ls st0) rest (QcV G Q' a) (XcV G Q') (FrA G)) (hx : ∀ E9 h2 n2, ¬ Q' (.inr E9) h2 n2)
    (kr : ∀ (v : Option Value) (h2 : HM) (n2 : Nat), Q' (.inl v) h2 n2 → X l G T d mc ms Q (ce + mc') (sl + ms') q L (v.toList ++ rest) h2 n2 E) :
    W p l e (rmV d mc ms) s m args below meth c H locs ce sl (vx_MQ below (QcX G Q) XcX args s mc ms (FrX G)) (F0 m pc ls st0) := by
  subst hq
  intro T9 hT X9
  rcases hr T9 hT X9 with ⟨v, st₀, t, T', L9, h0, X', hL, e1, e2, ⟨⟨v2, h2, n2, ho, hp2, hq2⟩, hF⟩, st⟩ | ⟨q, st₀, t, T', L9, E9, ce9, h0, X', hL, e1, e2, ⟨⟨h2, n2, -, hq2⟩, -⟩, -⟩
  · cases ho
    obtain ⟨-, k2, k3⟩ := vx_keep h0 e1 hS (fun _ _ z => z.x) (fun _ z => z.x) hL hF
    obtain ⟨t2, a1, b1⟩ := kr v h2 n2 hq2 p e s m args below meth c T'.heap (locs ++ L9) ls F hl (by rw [e1]; exact hp2) (hE.keep (fun q hq ho => k2 q hq ho.na)) k3 T' rfl X'
    exact ⟨t2, st t2 a1, b1⟩
  · exact (hx _ _ _ hq2).elim
variable {ce sl pc q : Nat} {L : List (Option Value)} {st st0 : List Value}
theorem X.callV {T' : MT} {np d' mc' ms' idx : Nat} {Q' : PE} {As : List Value} {b : Nat} {r : vw_C} {ci : Nat} (hC : CX l G T' d' mc' ms' (.ref b :: As) h n E Q') (M : MWv T' np) (hw : Cond.methodLink T.1.cls idx T'.1 ∈ BW) (hd : decode T.2.1 pc = .ok (.invokevirtual idx, 3)) (hst : st0 = As.reverse ++ .ref b :: st) {j : Nat} {fs : List Value}
    (hj : E[j]? = some (b, .inr (ci, fs))) (hci : vwCl[ci]? = some r) (hr : r.1 = T'.1.cls) (hnp : As.length = np) (h8 : cat8 st = true) (hdd : d' + 1 ≤ d) (hm1 : ce + mc' ≤ mc) (hm2 : sl + ms' ≤ ms) (hq : pc + 3 = q)
    (kr : ∀ (v : Option Value) (h2 : HM) (n2 : Nat) (E2 : va_W), Q' v h2 n2 E2 → X l G T d mc ms Q (ce + mc') (sl + ms') q L (v.toList ++ st) h2 n2 E2) : X l G T d mc ms Q ce sl pc L st0 h n E := by
  intro p e s m args below meth c H locs ls F hl hP hE hS
  subst hst
  refine RunX.done F hl hS hq (vx_runV (As := As) (rest := st) (b := b) (C := T'.1.cls) ⟨F.1, F.2.1, F.2.2.1, F.2.2.2.1, F.2.2.2.2.1⟩ (hC F.2.2.2.2.2.2.2.2.2.2.2.2) ⟨M.1.call F.2.2.2.2.1 hdd hw, F.2.2.2.2.1 _ M.2.1, F.2.2.2.2.1 _ M.2.2⟩ ⟨SatX.blind, ?_, fun U hU hW => ⟨rfl, SatX.start F hP hE hS hU hW⟩⟩ rfl hnp hl.1 rfl (lv_room (of_decide_eq_true h8)) hd ⟨hm1, hm2⟩) kr
  have hKV : KV G s := F.2.2.2.2.2.2.2.2.1
  rw [← hr]
  exact va_recv hKV hE.1 (q0 := j) hci hj
theorem X.callS {T' : MT} {np d' mc' ms' idx : Nat} {Q' : PE} {As : List Value} (hC : CX l G T' d' mc' ms' As h n E Q') (M : MWs T' np) (hw : Cond.methodLink T.1.cls idx T'.1 ∈ BW) (hd : decode T.2.1 pc = .ok (.invokestatic idx, 3)) (hst : st0 = As.reverse ++ st)
    (hnp : As.length = np) (h8 : cat8 st = true) (hdd : d' + 1 ≤ d) (hm1 : ce + mc' ≤ mc) (hm2 : sl + ms' ≤ ms) (hq : pc + 3 = q)
    (kr : ∀ (v : Option Value) (h2 : HM) (n2 : Nat) (E2 : va_W), Q' v h2 n2 E2 → X l G T d mc ms Q (ce + mc') (sl + ms') q L (v.toList ++ st) h2 n2 E2) : X l G T d mc ms Q ce sl pc L st0 h n E := by
  intro p e s m args below meth c H locs ls F hl hP hE hS
  subst hst
  exact RunX.done F hl hS hq (vx_runS (As := As) (rest := st) ⟨F.1, F.2.1, F.2.2.1, F.2.2.2.1, F.2.2.2.2.1⟩ (hC F.2.2.2.2.2.2.2.2.2.2.2.2) ⟨M.1.call F.2.2.2.2.1 hdd hw, F.2.2.2.2.1 _ M.2⟩ ⟨SatX.blind, fun U hU hW => ⟨rfl, SatX.start F hP hE hS hU hW⟩⟩ rfl hnp hl.1 rfl (lv_room (of_decide_eq_true h8)) hd ⟨hm1, hm2⟩) kr
theorem X.callI {T' : MT} {np d' mc' ms' idx : Nat} {Q' : PE} {As : List Value} {b : Nat} (hC : CX l G T' d' mc' ms' (.ref b :: As) h n E Q') (M : MWi T' np) (hret : T'.2.2.2.1 = none) (hw : Cond.methodLink T.1.cls idx T'.1 ∈ BW) (hd : decode T.2.1 pc = .ok (.invokespecial idx, 3)) (hst : st0 = As.reverse ++ .ref b :: st)
    (hnp : As.length = np) (h8 : cat8 st = true) (hdd : d' + 1 ≤ d) (hm1 : ce + mc' ≤ mc) (hm2 : sl + ms' ≤ ms) (hq : pc + 3 = q)
    (kr : ∀ (v : Option Value) (h2 : HM) (n2 : Nat) (E2 : va_W), Q' v h2 n2 E2 → X l G T d mc ms Q (ce + mc') (sl + ms') q L (v.toList ++ st) h2 n2 E2) : X l G T d mc ms Q ce sl pc L st0 h n E := by
  intro p e s m args below meth c H locs ls F hl hP hE hS
  subst hst
  have hcb := M.1.call (d := d) (mc := mc) (ms := ms) (d' := d') (mc' := mc') (ms' := ms') F.2.2.2.2.1 hdd hw
  rw [hret] at hcb
  exact RunX.done F hl hS hq (vx_runI (As := As) (rest := st) (b := b) ⟨F.1, F.2.1, F.2.2.1, F.2.2.2.1, F.2.2.2.2.1⟩ (hC F.2.2.2.2.2.2.2.2.2.2.2.2) ⟨hcb, M.2.2, F.2.2.2.2.1 _ M.2.1⟩ ⟨SatX.blind, fun U hU hW => ⟨rfl, SatX.start F hP hE hS hU hW⟩⟩ rfl hnp hl.1 rfl (lv_room (of_decide_eq_true h8)) hd ⟨hm1, hm2⟩) kr
/-- a method of the class, called on the lift's place -/
theorem X.callVc {T' : MT} {np d' mc' ms' idx k : Nat} {Q' : PQ} {As : List Value} {ci : Nat} {fs : List Value} {TT : u_T} {N : Nat} (hC : Ct l G T' d' mc' ms' (.ref (gB G + k) :: As) h n Q') (M : MWv T' np) (hw : Cond.methodLink T.1.cls idx T'.1 ∈ BW) (hd : decode T.2.1 pc = .ok (.invokevirtual idx, 3)) (hst : st0 = As.reverse ++ .ref (gB G + k) :: st)
    (hk : h k = .inr (ci, fs)) (hkn : k < n) (hci : vwCl[ci]? = some (T'.1.cls, TT, N)) (hnp : As.length = np) (h8 : cat8 st = true) (hdd : d' + 1 ≤ d) (hm1 : ce + mc' ≤ mc) (hm2 : sl + ms' ≤ ms) (hq : pc + 3 = q) (hx : ∀ E9 h2 n2, ¬ Q' (.inr E9) h2 n2)
    (kr : ∀ (v : Option Value) (h2 : HM) (n2 : Nat), Q' (.inl v) h2 n2 → X l G T d mc ms Q (ce + mc') (sl + ms') q L (v.toList ++ st) h2 n2 E) : X l G T d mc ms Q ce sl pc L st0 h n E := by
  intro p e s m args below meth c H locs ls F hl hP hE hS
  subst hst
  refine RunX.doneV F hl hE hS hq (vx_runV (As := As) (rest := st) (b := gB G + k) (C := T'.1.cls) ⟨F.1, F.2.1, F.2.2.1, F.2.2.2.1, F.2.2.2.2.1⟩ (hC F.2.2.2.2.2.2.2.2.2.2.2.2) ⟨M.1.call F.2.2.2.2.1 hdd hw, F.2.2.2.2.1 _ M.2.1, F.2.2.2.2.1 _ M.2.2⟩ ⟨Sat.blind, ?_, fun U hU hW => ⟨rfl, (SatX.start F hP hE hS hU hW).v⟩⟩ rfl hnp hl.1 rfl (lv_room (of_decide_eq_true h8)) hd ⟨hm1, hm2⟩) hx kr
  have hKV : KV G s := F.2.2.2.2.2.2.2.2.1
  exact va_recv hKV hP.P (q0 := k) hci (by rw [wof_get hkn, hk])
theorem X.callIc {T' : MT} {np d' mc' ms' idx : Nat} {Q' : PQ} {As : List Value} {b : Nat} (hC : Ct l G T' d' mc' ms' (.ref b :: As) h n Q') (M : MWi T' np) (hret : T'.2.2.2.1 = none) (hw : Cond.methodLink T.1.cls idx T'.1 ∈ BW) (hd : decode T.2.1 pc = .ok (.invokespecial idx, 3)) (hst : st0 = As.reverse ++ .ref b :: st)
    (hnp : As.length = np) (h8 : cat8 st = true) (hdd : d' + 1 ≤ d) (hm1 : ce + mc' ≤ mc) (hm2 : sl + ms' ≤ ms) (hq : pc + 3 = q) (hx : ∀ E9 h2 n2, ¬ Q' (.inr E9) h2 n2)
    (kr : ∀ (v : Option Value) (h2 : HM) (n2 : Nat), Q' (.inl v) h2 n2 → X l G T d mc ms Q (ce + mc') (sl + ms') q L (v.toList ++ st) h2 n2 E) : X l G T d mc ms Q ce sl pc L st0 h n E := by
  intro p e s m args below meth c H locs ls F hl hP hE hS
  subst hst
  have hcb := M.1.call (d := d) (mc := mc) (ms := ms) (d' := d') (mc' := mc') (ms' := ms') F.2.2.2.2.1 hdd hw
  rw [hret] at hcb
  exact RunX.doneV F hl hE hS hq (vx_runI (As := As) (rest := st) (b := b) ⟨F.1, F.2.1, F.2.2.1, F.2.2.2.1, F.2.2.2.2.1⟩ (hC F.2.2.2.2.2.2.2.2.2.2.2.2) ⟨hcb, M.2.2, F.2.2.2.2.1 _ M.2.1⟩ ⟨Sat.blind, fun U hU hW => ⟨rfl, (SatX.start F hP hE hS hU hW).v⟩⟩ rfl hnp hl.1 rfl (lv_room (of_decide_eq_true h8)) hd ⟨hm1, hm2⟩) hx kr
end CTX
end
section
/-! X: what stands below B, the members of Math, Object.<init>; rows that V has no need of -/
section XB
variable {l : Launch} {G : GG} {T : MT} {d mc ms ce sl : Nat} {Q : PE} {pc q : Nat} {L : List (Option Value)} {st st0 : List Value} {h : HM} {n : Nat} {E : va_W}
theorem X.gets {idx : Nat} {C nm ds : String} {v : Value} (hd : decode T.2.1 pc = .ok (.getstatic idx, 3)) (hm : (C, nm, ds, v) ∈ ev_st (gA G)) (hw : Cond.fieldLink T.1.cls idx C nm ds ∈ BW) (hq : pc + 3 = q) (kk : X l G T d mc ms Q ce sl q L (v :: st) h n E) : X l G T d mc ms Q ce sl pc L st h n E := by
  intro p e s m args below meth c H locs ls F hl hP hE hS
  subst hq
  have hV : EVr (FrX G) G s s.heap := F.2.2.2.2.2.2.2.2.2.1
  exact va_gets F.1 F.2.1 (hV.2.2.2.1 _ hm) hS F.2.2.2.1 (F.2.2.2.2.1 _ hw) (fun x hx => hx) hd (kk p e s m args below meth c H locs ls F hl hP hE hS)
theorem X.getO {idx a : Nat} {o C nm ds : String} {v : Value} (hd : decode T.2.1 pc = .ok (.getfield idx, 3)) (hm : (o, nm, ds, v, a) ∈ ev_of (gA G)) (ho : o = C) (hw : Cond.fieldLink T.1.cls idx C nm ds ∈ BW) (hq : pc + 3 = q) (kk : X l G T d mc ms Q ce sl q L (v :: st) h n E) : X l G T d mc ms Q ce sl pc L (.ref a :: st) h n E := by
  intro p e s m args below meth c H locs ls F hl hP hE hS
  subst hq
  subst ho
  have hV : EVr (FrX G) G s s.heap := F.2.2.2.2.2.2.2.2.2.1
  exact vk_getf F.1 F.2.1 (hV.2.2.2.2.1 _ hm) hS F.2.2.2.1 (F.2.2.2.2.1 _ hw) (fun x hx => hx) hd (kk p e s m args below meth c H locs ls F hl hP hE hS)
theorem X.tald {a N i : Nat} {f : Nat → Value} {x : Int32} {v : Value} (hd : decode T.2.1 pc = .ok (.iaload, 1)) (hm : (FieldType.int, a, N, f) ∈ ev_ta (gA G)) (hi : i < N) (hN : N < 2 ^ 31) (hx : x = nI i) (hf : f i = v) (hq : pc + 1 = q) (kk : X l G T d mc ms Q ce sl q L (v :: st) h n E) : X l G T d mc ms Q ce sl pc L (.int x :: .ref a :: st) h n E := by
  intro p e s m args below meth c H locs ls F hl hP hE hS
  subst hq; subst hx
  have hV : EVr (FrX G) G s s.heap := F.2.2.2.2.2.2.2.2.2.1
  exact va_ti F.1 F.2.1 (hV.2.2.2.2.2.2.1 _ hm) hS (vp_in_nI hi hN) (by rw [nI_clamp (by omega)]; exact hf) hd (kk p e s m args below meth c H locs ls F hl hP hE hS)
theorem X.tbald {a N i : Nat} {f : Nat → Value} {x : Int32} {v : Value} (hd : decode T.2.1 pc = .ok (.baload, 1)) (hm : (FieldType.byte, a, N, f) ∈ ev_ta (gA G)) (hi : i < N) (hN : N < 2 ^ 31) (hx : x = nI i) (hf : f i = v) (hq : pc + 1 = q) (kk : X l G T d mc ms Q ce sl q L (v :: st) h n E) : X l G T d mc ms Q ce sl pc L (.int x :: .ref a :: st) h n E := by
  intro p e s m args below meth c H locs ls F hl hP hE hS
  subst hq; subst hx
  have hV : EVr (FrX G) G s s.heap := F.2.2.2.2.2.2.2.2.2.1
  exact va_tb F.1 F.2.1 (hV.2.2.2.2.2.2.1 _ hm) hS (vp_in_nI hi hN) (by rw [nI_clamp (by omega)]; exact hf) hd (kk p e s m args below meth c H locs ls F hl hP hE hS)
theorem X.tlen {a N : Nat} {ty : FieldType} {f : Nat → Value} {v : Int32} (hd : decode T.2.1 pc = .ok (.arraylength, 1)) (hm : (ty, a, N, f) ∈ ev_ta (gA G)) (hv : Int32.ofNat N = v) (hq : pc + 1 = q) (kk : X l G T d mc ms Q ce sl q L (.int v :: st) h n E) : X l G T d mc ms Q ce sl pc L (.ref a :: st) h n E := by
  intro p e s m args below meth c H locs ls F hl hP hE hS
  subst hq
  have hV : EVr (FrX G) G s s.heap := F.2.2.2.2.2.2.2.2.2.1
  exact va_tlen F.1 F.2.1 (hV.2.2.2.2.2.2.1 _ hm) hS hv hd (kk p e s m args below meth c H locs ls F hl hP hE hS)
theorem X.sld {i : Nat} {x : Int32} (hd : decode T.2.1 pc = .ok (.iaload, 1)) (hi : i < gL G) (hN : gL G < 2 ^ 31) (hx : x = nI i) (hq : pc + 1 = q) (kk : X l G T d mc ms Q ce sl q L (.int (gX G i) :: st) h n E) : X l G T d mc ms Q ce sl pc L (.int x :: .ref (gb G) :: st) h n E := by
  intro p e s m args below meth c H locs ls F hl hP hE hS
  subst hq; subst hx
  have hV : EVr (FrX G) G s s.heap := F.2.2.2.2.2.2.2.2.2.1
  refine va_sld F.1 F.2.1 hV.1.1 hV.lt hV.1.2 hS (vp_in_nI hi hN) hd ?_
  rw [nI_clamp (by omega)]
  exact kk p e s m args below meth c H locs ls F hl hP hE hS
theorem X.slen (hd : decode T.2.1 pc = .ok (.arraylength, 1)) (hq : pc + 1 = q) (kk : X l G T d mc ms Q ce sl q L (.int (nI (gL G)) :: st) h n E) : X l G T d mc ms Q ce sl pc L (.ref (gb G) :: st) h n E := by
  intro p e s m args below meth c H locs ls F hl hP hE hS
  subst hq
  have hV : EVr (FrX G) G s s.heap := F.2.2.2.2.2.2.2.2.2.1
  exact va_slen F.1 F.2.1 hV.1.1 hV.lt hV.1.2 hS hd (kk p e s m args below meth c H locs ls F hl hP hE hS)
theorem X.ldcS {i j : Nat} {tx : String} (hd : decode T.2.1 pc = .ok (.ldc i, 2)) (hj : j < ev_ks.length) (hk : ev_ks.getD j ("", 0) = (T.1.cls, i)) (hq : pc + 2 = q) (kk : X l G T d mc ms Q ce sl q L (.ref (gA G (100 + j)) :: st) h n E) : X l G T d mc ms Q ce sl pc L st h n E := by
  intro p e s m args below meth c H locs ls F hl hP hE hS
  subst hq
  have hV : EVr (FrX G) G s s.heap := F.2.2.2.2.2.2.2.2.2.1
  have hR := hV.2.2.2.2.2.2.2.1.1 j hj
  rw [hk] at hR
  exact va_ldcS F.1 F.2.1 F.2.2.2.1 hR hd (kk p e s m args below meth c H locs ls F hl hP hE hS)
theorem X.objInit {idx a : Nat} (hd : decode T.2.1 pc = .ok (.invokespecial idx, 3)) (hw : Cond.methodLink T.1.cls idx Lib.objectInit ∈ BW) (h1 : Cond.instanceMethod Lib.objectInit ∈ BW) (h2 : Cond.code Lib.objectInit ⟨#[0xb1]⟩ 1 none ∈ BW) (h8 : cat8 st = true) (hdd : 1 ≤ d) (hq : pc + 3 = q) (kk : X l G T d mc ms Q ce sl q L st h n E) : X l G T d mc ms Q ce sl pc L (.ref a :: st) h n E := by
  intro p e s m args below meth c H locs ls F hl hP hE hS
  subst hq
  have hts := F.2.2.2.2.1
  have h9 := lv_room (pc := pc) (m := m) (ls := ls) (rest := .ref a :: st) (of_decide_eq_true h8)
  refine W.objInit F.1 F.2.1 F.2.2.2.1 (hts _ hw) (hts _ h1) (hts _ h2) rfl (hl.1.trans F.2.2.1.symm) rfl hd hdd ?_ (kk p e s m args below meth c H locs ls F hl hP hE hS)
  show _ ≤ 38 * d
  omega
theorem X.mmax {idx : Nat} {x y : Int32} (hd : decode T.2.1 pc = .ok (.invokestatic idx, 3)) (hw : Cond.methodLink T.1.cls idx Lib.Math.max.name ∈ BW) (hs : Cond.static Lib.Math.max.name ∈ BW) (hini : Cond.initialized "java/lang/Math" ∈ BW) (hc : Cond.code Lib.Math.max.name Lib.Math.max.code 2 (some .int) ∈ BW) (h8 : cat8 st = true) (hdd : 1 ≤ d) (hm1 : ce ≤ mc) (hm2 : sl ≤ ms) (hq : pc + 3 = q) (kk : X l G T d mc ms Q ce sl q L (.int (if x < y then y else x) :: st) h n E) : X l G T d mc ms Q ce sl pc L (.int y :: .int x :: st) h n E := by
  intro p e s m args below meth c H locs ls F hl hP hE hS
  subst hq
  have hts := F.2.2.2.2.1
  refine va_mmax F.1 F.2.1 (F.2.2.1.trans hl.1.symm) F.2.2.2.1 (hts _ hw) (hts _ hs) (hts _ hini) (hts _ hc) hdd ?_ hm1 hm2 hd (kk p e s m args below meth c H locs ls F hl hP hE hS)
  show _ ≤ 38 * d
  have h9 := of_decide_eq_true h8
  omega
theorem X.mmin {idx : Nat} {x y : Int32} (hd : decode T.2.1 pc = .ok (.invokestatic idx, 3)) (hw : Cond.methodLink T.1.cls idx Lib.Math.min.name ∈ BW) (hs : Cond.static Lib.Math.min.name ∈ BW) (hini : Cond.initialized "java/lang/Math" ∈ BW) (hc : Cond.code Lib.Math.min.name Lib.Math.min.code 2 (some .int) ∈ BW) (h8 : cat8 st = true) (hdd : 1 ≤ d) (hm1 : ce ≤ mc) (hm2 : sl ≤ ms) (hq : pc + 3 = q) (kk : X l G T d mc ms Q ce sl q L (.int (if y < x then y else x) :: st) h n E) : X l G T d mc ms Q ce sl pc L (.int y :: .int x :: st) h n E := by
  intro p e s m args below meth c H locs ls F hl hP hE hS
  subst hq
  have hts := F.2.2.2.2.1
  refine va_mmin F.1 F.2.1 (F.2.2.1.trans hl.1.symm) F.2.2.2.1 (hts _ hw) (hts _ hs) (hts _ hini) (hts _ hc) hdd ?_ hm1 hm2 hd (kk p e s m args below meth c H locs ls F hl hP hE hS)
  show _ ≤ 38 * d
  have h9 := of_decide_eq_true h8
  omega
theorem X.mabs {idx : Nat} {x : Int32} (hd : decode T.2.1 pc = .ok (.invokestatic idx, 3)) (hw : Cond.methodLink T.1.cls idx Lib.Math.abs.name ∈ BW) (hs : Cond.static Lib.Math.abs.name ∈ BW) (hini : Cond.initialized "java/lang/Math" ∈ BW) (hc : Cond.code Lib.Math.abs.name Lib.Math.abs.code 1 (some .int) ∈ BW) (h8 : cat8 st = true) (hdd : 1 ≤ d) (hm1 : ce ≤ mc) (hm2 : sl ≤ ms) (hq : pc + 3 = q) (kk : X l G T d mc ms Q ce sl q L (.int (if 0 ≤ x then x else 0 - x) :: st) h n E) : X l G T d mc ms Q ce sl pc L (.int x :: st) h n E := by
  intro p e s m args below meth c H locs ls F hl hP hE hS
  subst hq
  have hts := F.2.2.2.2.1
  refine va_mabs F.1 F.2.1 (F.2.2.1.trans hl.1.symm) F.2.2.2.1 (hts _ hw) (hts _ hs) (hts _ hini) (hts _ hc) hdd ?_ hm1 hm2 hd (kk p e s m args below meth c H locs ls F hl hP hE hS)
  show _ ≤ 38 * d
  have h9 := of_decide_eq_true h8
  omega
theorem X.i2c {x : Int32} (hd : decode T.2.1 pc = .ok (.i2c, 1)) (hq : pc + 1 = q) (k : X l G T d mc ms Q ce sl q L (.int (x.toUInt32 % 65536).toInt32 :: st) h n E) : X l G T d mc ms Q ce sl pc L (.int x :: st) h n E := by
  intro p e s m args below meth c H locs ls F hl hP hE hS
  subst hq
  exact lv_i2c F.1 F.2.1 hd rfl (k p e s m args below meth c H locs ls F hl hP hE hS)
theorem X.getsQ {idx : Nat} (hd : decode T.2.1 pc = .ok (.getstatic idx, 3)) (hw : Cond.fieldLink T.1.cls idx "jdk/internal/util/Preconditions" "SIOOBE_FORMATTER" "Ljava/util/function/BiFunction;" ∈ BW) (hq : pc + 3 = q) (kk : ∀ r : Option Nat, X l G T d mc ms Q ce sl q L (va_rf r :: st) h n E) : X l G T d mc ms Q ce sl pc L st h n E := by
  intro p e s m args below meth c H locs ls F hl hP hE hS
  subst hq
  have hV : EVr (FrX G) G s s.heap := F.2.2.2.2.2.2.2.2.2.1
  rcases hV.2.2.2.2.2.2.2.2 with hz | ⟨t, hz⟩
  · exact va_gets F.1 F.2.1 hz hS F.2.2.2.1 (F.2.2.2.2.1 _ hw) (fun x hx => hx) hd (kk none p e s m args below meth c H locs ls F hl hP hE hS)
  · exact va_gets F.1 F.2.1 hz hS F.2.2.2.1 (F.2.2.2.2.1 _ hw) (fun x hx => hx) hd (kk (some t) p e s m args below meth c H locs ls F hl hP hE hS)
theorem X.dup_x1 {x y : Value} (hd : decode T.2.1 pc = .ok (.dup_x1, 1)) (hx : x.category = 1) (hy : y.category = 1) (hq : pc + 1 = q) (k : X l G T d mc ms Q ce sl q L (x :: y :: x :: st) h n E) : X l G T d mc ms Q ce sl pc L (x :: y :: st) h n E := by
  intro p e s m args below meth c H locs ls F hl hP hE hS
  subst hq
  exact lv_dup_x1 F.1 F.2.1 hd hx hy (k p e s m args below meth c H locs ls F hl hP hE hS)
theorem X.ifnonnull {x : Nat} {off : Int} {tgt : Nat} (hd : decode T.2.1 pc = .ok (.ifnonnull off, 3)) (ht : (pc : Int) + off = (tgt : Int)) (k : X l G T d mc ms Q ce sl tgt L st h n E) : X l G T d mc ms Q ce sl pc L (.ref x :: st) h n E := by
  intro p e s m args below meth c H locs ls F hl hP hE hS
  exact lv_ifnonnull F.1 F.2.1 hd ht (k p e s m args below meth c H locs ls F hl hP hE hS)
/-- what is known of E -/
theorem X.ex {E2 : va_W} (hs : ∀ H, XE G E H → XE G E2 H) (k : X l G T d mc ms Q ce sl pc L st h n E2) : X l G T d mc ms Q ce sl pc L st h n E := by
  intro p e s m args below meth c H locs ls F hl hP hE hS
  exact k p e s m args below meth c H locs ls F hl hP (hs H hE) hS
theorem X.hm {h2 : HM} (e9 : ∀ a, a < n → h a = h2 a) (k : X l G T d mc ms Q ce sl pc L st h2 n E) : X l G T d mc ms Q ce sl pc L st h n E := by
  intro p e s m args below meth c H locs ls F hl hP hE hS
  exact k p e s m args below meth c H locs ls F hl (hP.same e9) hE hS
theorem X.get {idx ci j i a : Nat} {fs : List Value} {C : String} {TT : u_T} {N : Nat} {v : Value} {ref : String} (hd : decode T.2.1 pc = .ok (.getfield idx, 3)) (hj : E[j]? = some (a, .inr (ci, fs))) (hci : vwCl[ci]? = some (C, TT, N)) (hin : ∀ w ∈ u_ws C TT N, w ∈ BW) (hi : i < N) (hdc : (TT i).1 = ref) (hw : Cond.fieldLink T.1.cls idx ref (TT i).2.1 (TT i).2.2.1 ∈ BW) (hv : fs[i]? = some v) (hq : pc + 3 = q) (kk : X l G T d mc ms Q ce sl q L (v :: st) h n E) : X l G T d mc ms Q ce sl pc L (.ref a :: st) h n E := by
  intro p e s m args below meth c H locs ls F hl hP hE hS
  subst hq
  have hKV : KV G s := F.2.2.2.2.2.2.2.2.1
  exact va_get F.1 F.2.1 F.2.2.2.2.1 hin F.2.2.2.1 hKV (va_P1 (hE.1 j _ hj)) 0 rfl hci i hi (F.2.2.2.2.1 _ hw) (fun x hx => by rw [hdc] at hx; exact hx) hv hd (kk p e s m args below meth c H locs ls F hl hP hE hS)
end XB
end
section
/-! X: rows that change E: fields, arrays, makings, copies; calls of inherited methods, of super, by an interface -/
section XC
variable {l : Launch} {G : GG} {T : MT} {d mc ms ce sl : Nat} {Q : PE} {pc q : Nat} {L : List (Option Value)} {st st0 : List Value} {h : HM} {n : Nat} {E : va_W}
theorem X.put {idx ci j j9 a : Nat} {fs : List Value} {C ref : String} {TT : u_T} {tt : Nat → FieldType} {N : Nat} {v : Value} (hd : decode T.2.1 pc = .ok (.putfield idx, 3)) (hj9 : E[j9]? = some (a, .inr (ci, fs))) (hci : vwCl[ci]? = some (C, TT, N)) (hin : ∀ w ∈ u_ws C TT N, w ∈ BW) (hty : ∀ k, k < N → parseFieldDescriptor (TT k).2.2.1 = some (tt k)) (hnm : ∀ a, a < N → ∀ b, b < N → a ≠ b → (TT a).2.1 ≠ (TT b).2.1) (hj : j < N) (hdc : (TT j).1 = ref) (hw : Cond.fieldLink T.1.cls idx ref (TT j).2.1 (TT j).2.2.1 ∈ BW) (hfin : (TT j).2.2.2 = false) (hn : narrow (tt j) v = v) (hfit : fits (tt j) v = true) (hjl : j < fs.length) (hq : pc + 3 = q) (kk : X l G T d mc ms Q ce sl q L st h n (E.set j9 (a, .inr (ci, fs.set j v)))) : X l G T d mc ms Q ce sl pc L (v :: .ref a :: st) h n E := by
  intro p e s m args below meth c H locs ls F hl hP hE hS0
  subst hq
  have hKV : KV G s := F.2.2.2.2.2.2.2.2.1
  have hts := F.2.2.2.2.1
  have hown := F.2.2.2.1
  have hap := va_apart (own := T.1.cls) hts hin tt hty hnm hKV hci
  have hq9 := hE.1 j9 _ hj9
  have ho9 : FrO G a := hE.o hj9
  obtain ⟨r, h1, cell, q1, q2, q3, q4⟩ := hq9
  have hr : r = (C, TT, N) := Option.some.inj (h1.symm.trans hci)
  subst hr
  obtain ⟨hS, hfc, kC, hkC, hkind⟩ := hKV.1 ci _ hci
  obtain ⟨cf, kf, fi, f, hi, hsl⟩ := hS j hj
  have hlay := hts _ (hin _ (u_in_lay hj))
  unfold u_lay at hlay
  have hst := (u_facts hfc hkC (u_lays hts hin hj) hi).1
  have hlink := hts _ hw
  have hi2 : s.fieldFound? ref (TT j).2.1 (TT j).2.2.1 = some (cf, kf, fi, f) := by rw [← hdc]; exact hi
  have key : ∀ H' : Heap, H'[a]? = some (cell.setSlot f.slot v) → H'.size = H.size → (∀ q, q ≠ a → H'[q]? = H[q]?) → W p l e (rmV d mc ms) s m args below meth c H' (locs ++ [⟨a, f.slot⟩]) ce sl (vx_MQ below (QcX G Q) XcX args s mc ms (FrX G)) (F0 m (pc + 3) ls st) := by
    intro H' e1 e2 e3
    refine kk p e s m args below meth c H' _ ls F hl (hP.keep ho9 e2 e3) (hE.set hj9 ⟨_, hci, ?_⟩ e3) (hS0.put e2 e3 ho9.x)
    rw [hsl] at e1
    exact t_OB.to (V := updV (vp_V fs) j v) ⟨_, e1, q2, q3, t_set q4 hap hj v⟩ (fun i _ => vp_updV_set hjl v i)
  rw [if_neg (by rw [hfin]; decide)] at hlay
  have h6 := u_store hfc hkC hkind hlay hi (hty j hj) hn hfit
  exact W.putK F.1 F.2.1 (f := f) ⟨hown, hlink, ⟨_, _, _, hi2⟩, hst⟩ (by rw [q2]; exact h6) q1 q3 (by rw [hsl]; exact k2_hasslot (q4 j hj)) rfl rfl hd key
theorem X.iald {j a N i : Nat} {f : Nat → Int32} {x : Int32} (hd : decode T.2.1 pc = .ok (.iaload, 1)) (hj : E[j]? = some (a, .inl (gC G 0, N, .inl f))) (hi : i < N) (hN : N < 2 ^ 31) (hx : x = nI i) (hq : pc + 1 = q) (kk : X l G T d mc ms Q ce sl q L (.int (f i) :: st) h n E) : X l G T d mc ms Q ce sl pc L (.int x :: .ref a :: st) h n E := by
  intro p e s m args below meth c H locs ls F hl hP hE hS
  subst hq; subst hx
  have hKV : KV G s := F.2.2.2.2.2.2.2.2.1
  refine va_iald F.1 F.2.1 hKV (va_P1 (hE.1 j _ hj)) 0 0 rfl rfl (vp_in_nI hi hN) hd ?_
  rw [nI_clamp (by omega)]
  exact kk p e s m args below meth c H locs ls F hl hP hE hS
theorem X.bald {j a N i : Nat} {f : Nat → Int32} {x : Int32} (hd : decode T.2.1 pc = .ok (.baload, 1)) (hj : E[j]? = some (a, .inl (gC G 1, N, .inl f))) (hi : i < N) (hN : N < 2 ^ 31) (hx : x = nI i) (hq : pc + 1 = q) (kk : X l G T d mc ms Q ce sl q L (.int (f i) :: st) h n E) : X l G T d mc ms Q ce sl pc L (.int x :: .ref a :: st) h n E := by
  intro p e s m args below meth c H locs ls F hl hP hE hS
  subst hq; subst hx
  have hKV : KV G s := F.2.2.2.2.2.2.2.2.1
  refine va_bald F.1 F.2.1 hKV (va_P1 (hE.1 j _ hj)) 0 1 rfl rfl (vp_in_nI hi hN) hd ?_
  rw [nI_clamp (by omega)]
  exact kk p e s m args below meth c H locs ls F hl hP hE hS
theorem X.alen {j a t0 N : Nat} {A : vp_A} {ty : FieldType} {v : Int32} (hd : decode T.2.1 pc = .ok (.arraylength, 1)) (hj : E[j]? = some (a, .inl (gC G t0, A))) (ht : (tysG G)[t0]? = some (gC G t0, ty)) (hv : Int32.ofNat A.1 = v) (hq : pc + 1 = q) (kk : X l G T d mc ms Q ce sl q L (.int v :: st) h n E) : X l G T d mc ms Q ce sl pc L (.ref a :: st) h n E := by
  intro p e s m args below meth c H locs ls F hl hP hE hS
  subst hq
  have hKV : KV G s := F.2.2.2.2.2.2.2.2.1
  exact va_alen F.1 F.2.1 hKV (va_P1 (hE.1 j _ hj)) 0 t0 rfl ht hv hd (kk p e s m args below meth c H locs ls F hl hP hE hS)
theorem X.iast {j a N i : Nat} {f : Nat → Int32} {x y : Int32} (hd : decode T.2.1 pc = .ok (.iastore, 1)) (hj : E[j]? = some (a, .inl (gC G 0, N, .inl f))) (hi : i < N) (hN : N < 2 ^ 31) (hx : x = nI i) (hq : pc + 1 = q) (kk : X l G T d mc ms Q ce sl q L st h n (E.set j (a, .inl (gC G 0, N, .inl (upd f i y))))) : X l G T d mc ms Q ce sl pc L (.int y :: .int x :: .ref a :: st) h n E := by
  intro p e s m args below meth c H locs ls F hl hP hE hS
  subst hq; subst hx
  have hKV : KV G s := F.2.2.2.2.2.2.2.2.1
  have hc := hE.1 j _ hj
  have ho9 : FrO G a := hE.o hj
  refine W.iast F.1 F.2.1 hc ((hKV.2 0 _ rfl).1 N (fun j => .int (f j))) (fun q => by cases q) (by show ¬ (nI i < 0 ∨ (arrV _ _ _).slots.size ≤ _); rw [arrV_size]; exact vp_in_nI hi hN) rfl rfl hd fun H1 e1 z oq => ?_
  refine kk p e s m args below meth c H1 _ ls F hl (hP.keep ho9 z oq) (hE.set hj ?_ oq) (hS.put z oq ho9.x)
  show H1[a]? = some (vp_cell _ _)
  rw [e1, vp_cell_i, vp_cell_i, arrV_store, nI_clamp (by omega)]
  congr 2
  funext j
  by_cases hj : j = i
  · subst hj; simp [updV, upd]
  · simp [updV, upd, hj]
theorem X.bast {j a N i : Nat} {f : Nat → Int32} {x y : Int32} (hd : decode T.2.1 pc = .ok (.bastore, 1)) (hj : E[j]? = some (a, .inl (gC G 1, N, .inl f))) (hi : i < N) (hN : N < 2 ^ 31) (hx : x = nI i) (hq : pc + 1 = q) (kk : X l G T d mc ms Q ce sl q L st h n (E.set j (a, .inl (gC G 1, N, .inl (upd f i (vp_nar .byte y)))))) : X l G T d mc ms Q ce sl pc L (.int y :: .int x :: .ref a :: st) h n E := by
  intro p e s m args below meth c H locs ls F hl hP hE hS
  subst hq; subst hx
  have hKV : KV G s := F.2.2.2.2.2.2.2.2.1
  have hc := hE.1 j _ hj
  have ho9 : FrO G a := hE.o hj
  refine W.bast F.1 F.2.1 hc ((hKV.2 1 _ rfl).1 N (fun j => .int (f j))) (fun q => by cases q) (by show ¬ (nI i < 0 ∨ (arrV _ _ _).slots.size ≤ _); rw [arrV_size]; exact vp_in_nI hi hN) rfl rfl hd fun H1 e1 z oq => ?_
  refine kk p e s m args below meth c H1 _ ls F hl (hP.keep ho9 z oq) (hE.set hj ?_ oq) (hS.put z oq ho9.x)
  show H1[a]? = some (vp_cell _ _)
  rw [e1, vp_cell_i, vp_cell_i, arrV_store, nI_clamp (by omega)]
  congr 2
  funext j
  by_cases hj : j = i
  · subst hj; simp [updV, upd, vp_nar, narrow]
  · simp [updV, upd, hj]
/-- a new object beside the places -/
theorem X.new {idx ci N : Nat} {C : String} {TT : u_T} {tt : Nat → FieldType} {fs : List Value} (hd : decode T.2.1 pc = .ok (.new idx, 3)) (hci : vwCl[ci]? = some (C, TT, N)) (hin : ∀ w ∈ u_ws C TT N, w ∈ BW) (hty : ∀ k, k < N → parseFieldDescriptor (TT k).2.2.1 = some (tt k)) (hcl : Cond.classLink T.1.cls idx C ∈ BW) (hins : Cond.instantiable C N ∈ BW) (hini : Cond.initialized C ∈ BW) (hfs : ∀ j, j < N → defaultValue (tt j) = vp_V fs j) (hn : n = NC) (hm1 : ce + 1 ≤ mc) (hm2 : sl + N ≤ ms) (hq : pc + 3 = q) (kk : ∀ a, X l G T d mc ms Q (ce + 1) (sl + N) q L (.ref a :: st) h n ((a, .inr (ci, fs)) :: E)) : X l G T d mc ms Q ce sl pc L st h n E := by
  intro p e s m args below meth c H locs ls F hl hP hE hS
  subst hq
  have hKV : KV G s := F.2.2.2.2.2.2.2.2.1
  have hts := F.2.2.2.2.1
  have hKn := hKV.1 ci _ hci
  have hle := hP.le
  refine W.newcK F.1 F.2.1 F.2.2.2.1 (hts _ hcl) (hts _ hins) (hts _ hini) rfl hd hm1 hm2 hKn.2.1 rfl fun H1 kC hkC e1 z1 o1 => ?_
  exact kk H.size p e s m args below meth c H1 locs ls F hl (hP.grow hn (by omega) o1) (hE.push ⟨_, hci, (u_born tt hts hin hKn hkC e1 hty).to hfs⟩ (Or.inr (by rw [← hn]; exact hle)) (Nat.le_refl _) o1) ⟨Nat.le_trans hS.1 (by omega), fun x h1 h2 => (o1 x (Nat.lt_of_lt_of_le h1 hS.1)).trans (hS.2.1 x h1 h2), hS.2.2⟩
/-- a new array beside the places -/
theorem X.newarr {atype : ArrayType} {t0 N : Nat} {ty : FieldType} {a0 : vp_A} {x : Int32} (hd : decode T.2.1 pc = .ok (.newarray atype, 2)) (harr : (Cond.arrayClass (newarray.typeOf atype)) ∈ BW) (hty : newarray.typeOf atype = ty) (hpr : match ty with | .object _ => False | _ => True) (ht : (tysG G)[t0]? = some (gC G t0, ty)) (ha : ∀ cA : ClassId, vp_cell cA a0 = arrV cA N (fun _ => defaultValue ty)) (hx : x = nI N) (hN : N < 65536) (hb9 : N * componentBytes ty ≤ 536870912) (hn : n = NC) (hm1 : ce + 1 ≤ mc) (hm2 : sl + N ≤ ms) (hq : pc + 2 = q) (kk : ∀ a, X l G T d mc ms Q (ce + 1) (sl + N) q L (.ref a :: st) h n ((a, .inl (gC G t0, a0)) :: E)) : X l G T d mc ms Q ce sl pc L (.int x :: st) h n E := by
  intro p e s m args below meth c H locs ls F hl hP hE hS
  subst hq; subst hty; subst hx
  have hKV : KV G s := F.2.2.2.2.2.2.2.2.1
  have hts := F.2.2.2.2.1
  have hle := hP.le
  refine va_newaK F.1 F.2.1 (hts _ harr) rfl hd rfl (nI_pos (by omega)) (nI_clamp (by omega)) hb9 hm1 hm2 rfl fun H1 cA e1 z1 o1 hAr hNm => ?_
  have hcA : cA = gC G t0 := by
    have h2 := (hKV.2 t0 _ ht).2
    have h3 : s.vm.findClass ("[" ++ (newarray.typeOf atype).toString) = some (gC G t0) := by
      cases atype <;> exact h2
    exact Option.some.inj (hNm.symm.trans h3)
  subst hcA
  refine kk H.size p e s m args below meth c H1 locs ls F hl (hP.grow hn (by omega) o1) (hE.push ?_ (Or.inr (by rw [← hn]; exact hle)) (Nat.le_refl _) o1) ⟨Nat.le_trans hS.1 (by omega), fun x h1 h2 => (o1 x (by have := hS.1; omega)).trans (hS.2.1 x h1 h2), hS.2.2⟩
  show H1[H.size]? = some (vp_cell _ _)
  rw [ha]
  exact e1
/-- a new object at the next place -/
theorem X.newP {idx ci N : Nat} {C : String} {TT : u_T} {tt : Nat → FieldType} {fs : List Value} (hd : decode T.2.1 pc = .ok (.new idx, 3)) (hci : vwCl[ci]? = some (C, TT, N)) (hin : ∀ w ∈ u_ws C TT N, w ∈ BW) (hty : ∀ k, k < N → parseFieldDescriptor (TT k).2.2.1 = some (tt k)) (hcl : Cond.classLink T.1.cls idx C ∈ BW) (hins : Cond.instantiable C N ∈ BW) (hini : Cond.initialized C ∈ BW) (hfs : ∀ j, j < N → defaultValue (tt j) = vp_V fs j) (hn : n < NC) (hm1 : ce + 1 ≤ mc) (hm2 : sl + N ≤ ms) (hq : pc + 3 = q) (kk : X l G T d mc ms Q (ce + 1) (sl + N) q L (.ref (gB G + n) :: st) (hset h n (.inr (ci, fs))) (n + 1) E) : X l G T d mc ms Q ce sl pc L st h n E := by
  intro p e s m args below meth c H locs ls F hl hP hE hS
  subst hq
  have hKV : KV G s := F.2.2.2.2.2.2.2.2.1
  have hts := F.2.2.2.2.1
  have hKn := hKV.1 ci _ hci
  have hsz := hP.at_end hn
  refine W.newcK F.1 F.2.1 F.2.2.2.1 (hts _ hcl) (hts _ hins) (hts _ hini) rfl hd hm1 hm2 hKn.2.1 rfl fun H1 kC hkC e1 z1 o1 => ?_
  have hk := kk p e s m args below meth c H1 locs ls F hl (hP.push hn ⟨_, hci, by
    have e2 := e1
    rw [hsz] at e2
    exact (u_born tt hts hin hKn hkC e2 hty).to hfs⟩ z1 o1) (hE.keep (fun q hq _ => o1 q hq)) ⟨Nat.le_trans hS.1 (by omega), fun x h1 h2 => (o1 x (Nat.lt_of_lt_of_le h1 hS.1)).trans (hS.2.1 x h1 h2), hS.2.2⟩
  rw [hsz]
  exact hk
/-! the whole world as one list, for the rows of arraycopy -/
theorem vaD_set {A : Nat → Prop} {E : va_W} {j a : Nat} {e e0 : va_E} (hD : va_D A E) (hj : E[j]? = some (a, e0)) : va_D A (E.set j (a, e)) := by
  have hl : j < E.length := (List.getElem?_eq_some_iff.mp hj).1
  have adr : ∀ (i : Nat) (p : Nat × va_E), (E.set j (a, e))[i]? = some p → ∃ p0, E[i]? = some p0 ∧ p0.1 = p.1 := by
    intro i p hi
    by_cases h : i = j
    · subst h
      rw [List.getElem?_set_self hl] at hi
      cases hi
      exact ⟨_, hj, rfl⟩
    · rw [List.getElem?_set_ne (fun z => h z.symm)] at hi
      exact ⟨p, hi, rfl⟩
  refine ⟨fun i k p q hi hk h => ?_, fun i p hi => ?_⟩
  · obtain ⟨p0, e1, e2⟩ := adr i p hi
    obtain ⟨q0, e3, e4⟩ := adr k q hk
    exact hD.1 i k p0 q0 e1 e3 (by rw [e2, e4, h])
  · obtain ⟨p0, e1, e2⟩ := adr i p hi
    rw [← e2]
    exact hD.2 i p0 e1
theorem wof_len {G : GG} {h : HM} {n : Nat} : (wof G h n).length = n := by simp [wof]
theorem wx_D {G : GG} {h : HM} {E : va_W} {H : Heap} (hE : XE G E H) : va_D (FrX G) (wof G h NC ++ E) := by
  refine va_D.app ((wof_D (Nat.le_refl _)).weaken (fun k q _ h => FrA.x h)) (hE.2.weaken (fun k q _ h => FrO.x h)) (fun i j p q hi hj e => ?_)
  obtain ⟨h1, rfl⟩ := wof_mem hi
  exact (hE.o hj).ne h1 e
theorem wx_get {G : GG} {h : HM} {E : va_W} {j : Nat} : (wof G h NC ++ E)[NC + j]? = E[j]? := by
  rw [List.getElem?_append_right (by rw [wof_len]; omega), wof_len, Nat.add_sub_cancel_left]
theorem wx_set {G : GG} {h : HM} {E : va_W} {j : Nat} {x : Nat × va_E} : (wof G h NC ++ E).set (NC + j) x = wof G h NC ++ E.set j x := by
  rw [List.set_append_right _ _ (by rw [wof_len]; omega), wof_len, Nat.add_sub_cancel_left]
theorem wx_P {G : GG} {h : HM} {E : va_W} {H : Heap} (hp : va_P (gD G) vwCl (wof G h NC ++ E) H) : HP G h NC H ∧ va_P (gD G) vwCl E H :=
  ⟨HP.ofP (fun k q hq => hp k q (by
    have hl := (List.getElem?_eq_some_iff.mp hq).1
    rw [List.getElem?_append_left hl]; exact hq)), fun k q hq => hp (NC + k) q (by rw [wx_get]; exact hq)⟩
theorem X.copyE {idx j0 j1 a0 a1 N0 N1 x y z : Nat} {f g : Nat → Int32} {sp dp nn : Int32} (hd : decode T.2.1 pc = .ok (.invokestatic idx, 3)) (hw : Cond.methodLink T.1.cls idx arraycopyName ∈ BW) (hnat : Cond.native arraycopyName ∈ BW) (hstt : Cond.static arraycopyName ∈ BW) (hini : Cond.initialized "java/lang/System" ∈ BW) (hj0 : E[j0]? = some (a0, .inl (gC G 1, N0, .inl f))) (hj1 : E[j1]? = some (a1, .inl (gC G 1, N1, .inl g))) (hn : n = NC) (hx : sp = nI x) (hy : dp = nI y) (hz : nn = nI z) (h4 : x + z ≤ N0) (h5 : y + z ≤ N1) (hN0 : N0 < 65536) (hN1 : N1 < 65536) (hfit : ∀ i, fits .byte (.int (f i)) = true) (h8 : cat8 st = true) (hdd : 2 ≤ d) (hq : pc + 3 = q) (kk : X l G T d mc ms Q ce sl q L st h n (E.set j1 (a1, .inl (gC G 1, N1, .inl (va_cpy f g x y z))))) : X l G T d mc ms Q ce sl pc L (.int nn :: .int dp :: .ref a1 :: .int sp :: .ref a0 :: st) h n E := by
  intro p e s m args below meth c H locs ls F hl hP hE hS
  subst hq; subst hx; subst hy; subst hz; subst hn
  have hKV : KV G s := F.2.2.2.2.2.2.2.2.1
  have hts := F.2.2.2.2.1
  have c1 : (nI x).toNatClampNeg = x := nI_clamp (by omega)
  have c2 : (nI y).toNatClampNeg = y := nI_clamp (by omega)
  have c3 : (nI z).toNatClampNeg = z := nI_clamp (by omega)
  refine va_copyi F.1 F.2.1 (F.2.2.1.trans hl.1.symm) F.2.2.2.1 (hts _ hw) (hts _ hnat) (hts _ hstt) (hts _ hini) hKV (va_P.app hP.P hE.1) (wx_D hE) hS (NC + j0) (NC + j1) 1 1 (by rw [wx_get]; exact hj0) (by rw [wx_get]; exact hj1) rfl rfl rfl (nI_pos (by omega)) (nI_pos (by omega)) (nI_pos (by omega)) (by rw [c1, c3]; exact h4) (by rw [c2, c3]; exact h5) (fun i _ => hfit _) ?_ ?_ hd (fun H1 locs1 hP1 hD1 hS1 => ?_)
  · show 1 ≤ d
    omega
  · show _ ≤ 38 * d
    have h9 := of_decide_eq_true h8
    have h10 : nativeFrameWords "java/lang/System" "arraycopy" 5 + 11 ≤ 60 := by decide +kernel
    omega
  · rw [c1, c2, c3, wx_set] at hP1
    obtain ⟨k1, k2⟩ := wx_P hP1
    exact kk p e s m args below meth c H1 locs1 ls F hl k1 ⟨k2, vaD_set hE.2 hj1⟩ hS1
/-- out of a constant's bytes -/
theorem X.copyT {idx j1 a0 a1 N0 N1 x y z : Nat} {f g : Nat → Int32} {sp dp nn : Int32} (hd : decode T.2.1 pc = .ok (.invokestatic idx, 3)) (hw : Cond.methodLink T.1.cls idx arraycopyName ∈ BW) (hnat : Cond.native arraycopyName ∈ BW) (hstt : Cond.static arraycopyName ∈ BW) (hini : Cond.initialized "java/lang/System" ∈ BW) (hm0 : (FieldType.byte, a0, N0, fun j => Value.int (f j)) ∈ ev_ta (gA G)) (hj1 : E[j1]? = some (a1, .inl (gC G 1, N1, .inl g))) (hn : n = NC) (hx : sp = nI x) (hy : dp = nI y) (hz : nn = nI z) (h4 : x + z ≤ N0) (h5 : y + z ≤ N1) (hN0 : N0 < 65536) (hN1 : N1 < 65536) (hfit : ∀ i, i < z → fits .byte (.int (f (x + i))) = true) (h8 : cat8 st = true) (hdd : 2 ≤ d) (hq : pc + 3 = q) (kk : X l G T d mc ms Q ce sl q L st h n (E.set j1 (a1, .inl (gC G 1, N1, .inl (va_cpy f g x y z))))) : X l G T d mc ms Q ce sl pc L (.int nn :: .int dp :: .ref a1 :: .int sp :: .ref a0 :: st) h n E := by
  intro p e s m args below meth c H locs ls F hl hP hE hS
  subst hq; subst hx; subst hy; subst hz; subst hn
  have hKV : KV G s := F.2.2.2.2.2.2.2.2.1
  have hV : EVr (FrX G) G s s.heap := F.2.2.2.2.2.2.2.2.2.1
  have hts := F.2.2.2.2.1
  have c1 : (nI x).toNatClampNeg = x := nI_clamp (by omega)
  have c2 : (nI y).toNatClampNeg = y := nI_clamp (by omega)
  have c3 : (nI z).toNatClampNeg = z := nI_clamp (by omega)
  refine vk_copyt F.1 F.2.1 (F.2.2.1.trans hl.1.symm) F.2.2.2.1 (hts _ hw) (hts _ hnat) (hts _ hstt) (hts _ hini) hKV (va_P.app hP.P hE.1) (wx_D hE) hS (hV.2.2.2.2.2.2.1 _ hm0) (NC + j1) 1 (by rw [wx_get]; exact hj1) rfl (nI_pos (by omega)) (nI_pos (by omega)) (nI_pos (by omega)) (by rw [c1, c3]; exact h4) (by rw [c2, c3]; exact h5) (fun i hi => by rw [c3] at hi; rw [c1]; exact hfit i hi) ?_ ?_ hd (fun H1 locs1 hP1 hD1 hS1 => ?_)
  · show 1 ≤ d
    omega
  · show _ ≤ 38 * d
    have h9 := of_decide_eq_true h8
    have h10 : nativeFrameWords "java/lang/System" "arraycopy" 5 + 11 ≤ 60 := by decide +kernel
    omega
  · rw [c1, c2, c3, wx_set] at hP1
    obtain ⟨k1, k2⟩ := wx_P hP1
    exact kk p e s m args below meth c H1 locs1 ls F hl k1 ⟨k2, vaD_set hE.2 hj1⟩ hS1
/-! calls that are found above, by super, by an interface; on a constant text -/
theorem MWb.ws {T' : MT} {np : Nat} (M : MWb T' np) : ∀ w ∈ wsT T', w ∈ BW := by
  obtain ⟨hy, hp, h19, hini, hcode, hh⟩ := M
  rw [wsT_code hh]
  exact fun w hw => (List.mem_cons.mp hw).elim (fun e => e ▸ hcode) id
theorem X.callU {T' : MT} {np d' mc' ms' idx b : Nat} {x : MethodName} {C owner : String} {Q' : PE} {As : List Value} {r : vw_C} {ci j : Nat} {fs : List Value} (hC : CX l G T' d' mc' ms' (.ref b :: As) h n E Q') (M : MWb T' np ∧ Cond.instanceMethod T'.1 ∈ BW) (hdesc : T'.1.desc = x.desc ∨ (parseMethodDescriptor x.desc).map (fun d => d.parameters.length) = some np) (hmh : owner ≠ "java/lang/invoke/MethodHandle" ∧ owner ≠ "java/lang/invoke/VarHandle") (hsm : Cond.sameMethod x.cls owner x.name x.desc ∈ BW) (hdl : ∀ s args, (∀ w ∈ BW, w.before args s = true) → va_Decl s ⟨owner, x.name, x.desc⟩) (hsl : Cond.selects C x T'.1 ∈ BW) (hw : Cond.methodLink T.1.cls idx x ∈ BW) (hd : decode T.2.1 pc = .ok (.invokevirtual idx, 3)) (hst : st0 = As.reverse ++ .ref b :: st)
    (hj : E[j]? = some (b, .inr (ci, fs))) (hci : vwCl[ci]? = some r) (hr : r.1 = C) (hnp : As.length = np) (h8 : cat8 st = true) (hdd : d' + 1 ≤ d) (hm1 : ce + mc' ≤ mc) (hm2 : sl + ms' ≤ ms) (hq : pc + 3 = q)
    (kr : ∀ (v : Option Value) (h2 : HM) (n2 : Nat) (E2 : va_W), Q' v h2 n2 E2 → X l G T d mc ms Q (ce + mc') (sl + ms') q L (v.toList ++ st) h2 n2 E2) : X l G T d mc ms Q ce sl pc L st0 h n E := by
  intro p e s m args below meth c H locs ls F hl hP hE hS
  subst hst
  have hts := F.2.2.2.2.1
  have hKV : KV G s := F.2.2.2.2.2.2.2.2.1
  have hm := M.1.ws
  obtain ⟨⟨hy, hp, h19, hini, hcode, hh⟩, hins⟩ := M
  refine RunX.done F hl hS hq (vx_runU (As := As) (rest := st) (b := b) (C := C) (owner := owner) (x := x) ⟨F.1, F.2.1, F.2.2.1, F.2.2.2.1, F.2.2.2.2.1⟩ (hC F.2.2.2.2.2.2.2.2.2.2.2.2) ⟨⟨rfl, rfl, hdd, ?_, fun w hw => pay_bw F.2.2.2.2.1 w (hm w hw), by rw [wsT_code hh]; exact List.mem_cons_self⟩, hts _ hcode, hts _ hini, hmh, fun sig hs => ?_, hts _ hw, hts _ hsm, hdl s args hts, hts _ hsl, hts _ hins⟩ ⟨SatX.blind, ?_, fun U hU hW => ⟨rfl, SatX.start F hP hE hS hU hW⟩⟩ rfl hnp hl.1 rfl (lv_room (of_decide_eq_true h8)) hd ⟨hm1, hm2⟩) kr
  · show 8 + (T'.2.2.1 + 11) + 38 * d' ≤ 38 * d
    omega
  · rcases hdesc with h9 | h9
    · rw [h9, hs] at hp
      exact (Option.some.inj hp).symm
    · rw [hs] at h9
      exact (Option.some.inj h9).symm
  · rw [← hr]
    exact va_recv hKV hE.1 (q0 := j) hci hj
theorem X.callSU {T' : MT} {np d' mc' ms' idx b : Nat} {Q' : PE} {As : List Value} {r : vw_C} {ci j : Nat} {fs : List Value} (hC : CX l G T' d' mc' ms' (.ref b :: As) h n E Q') (M : MWb T' np ∧ Cond.instanceMethod T'.1 ∈ BW) (hni : T'.1.name ≠ "<init>") (hsm : Cond.sameMethod T'.1.cls T'.1.cls T'.1.name T'.1.desc ∈ BW) (hsu : Cond.superclass T.1.cls T'.1.cls ∈ BW) (hw : Cond.methodLink T.1.cls idx T'.1 ∈ BW) (hd : decode T.2.1 pc = .ok (.invokespecial idx, 3)) (hst : st0 = As.reverse ++ .ref b :: st)
    (hj : E[j]? = some (b, .inr (ci, fs))) (hci : vwCl[ci]? = some r) (hnp : As.length = np) (h8 : cat8 st = true) (hdd : d' + 1 ≤ d) (hm1 : ce + mc' ≤ mc) (hm2 : sl + ms' ≤ ms) (hq : pc + 3 = q)
    (kr : ∀ (v : Option Value) (h2 : HM) (n2 : Nat) (E2 : va_W), Q' v h2 n2 E2 → X l G T d mc ms Q (ce + mc') (sl + ms') q L (v.toList ++ st) h2 n2 E2) : X l G T d mc ms Q ce sl pc L st0 h n E := by
  intro p e s m args below meth c H locs ls F hl hP hE hS
  subst hst
  have hts := F.2.2.2.2.1
  have hKV : KV G s := F.2.2.2.2.2.2.2.2.1
  have hm := M.1.ws
  obtain ⟨⟨hy, hp, h19, hini, hcode, hh⟩, hins⟩ := M
  obtain ⟨hSl, hfc, kC, hkC, hkind⟩ := hKV.1 ci _ hci
  refine RunX.done F hl hS hq (vx_runSU (As := As) (rest := st) (b := b) (C := r.1) (cC := (gD G).1 ci) ⟨hfc, kC, hkC, hkind⟩ ⟨F.1, F.2.1, F.2.2.1, F.2.2.2.1, F.2.2.2.2.1⟩ (hC F.2.2.2.2.2.2.2.2.2.2.2.2) ⟨⟨rfl, rfl, hdd, ?_, fun w hw => pay_bw F.2.2.2.2.1 w (hm w hw), by rw [wsT_code hh]; exact List.mem_cons_self⟩, hts _ hw, hts _ hsm, hts _ hsu, hts _ hins, hts _ hini, hts _ hcode, hni, fun sig hs => ?_⟩ ⟨SatX.blind, ?_, fun U hU hW => ⟨rfl, SatX.start F hP hE hS hU hW⟩⟩ rfl hnp hl.1 rfl (lv_room (of_decide_eq_true h8)) hd ⟨hm1, hm2⟩) kr
  · show 8 + (T'.2.2.1 + 11) + 38 * d' ≤ 38 * d
    omega
  · rw [hs] at hp
    exact (Option.some.inj hp).symm
  · exact va_recv hKV hE.1 (q0 := j) hci hj
/-- on a constant text -/
theorem X.callO {T' : MT} {np d' mc' ms' idx a : Nat} {Q' : PE} {As : List Value} (hC : CX l G T' d' mc' ms' (.ref a :: As) h n E Q') (M : MWv T' np) (hw : Cond.methodLink T.1.cls idx T'.1 ∈ BW) (hd : decode T.2.1 pc = .ok (.invokevirtual idx, 3)) (hst : st0 = As.reverse ++ .ref a :: st)
    (ho : (T'.1.cls, a) ∈ ev_ob (gA G)) (hnp : As.length = np) (h8 : cat8 st = true) (hdd : d' + 1 ≤ d) (hm1 : ce + mc' ≤ mc) (hm2 : sl + ms' ≤ ms) (hq : pc + 3 = q)
    (kr : ∀ (v : Option Value) (h2 : HM) (n2 : Nat) (E2 : va_W), Q' v h2 n2 E2 → X l G T d mc ms Q (ce + mc') (sl + ms') q L (v.toList ++ st) h2 n2 E2) : X l G T d mc ms Q ce sl pc L st0 h n E := by
  intro p e s m args below meth c H locs ls F hl hP hE hS
  subst hst
  refine RunX.done F hl hS hq (vx_runV (As := As) (rest := st) (b := a) (C := T'.1.cls) ⟨F.1, F.2.1, F.2.2.1, F.2.2.2.1, F.2.2.2.2.1⟩ (hC F.2.2.2.2.2.2.2.2.2.2.2.2) ⟨M.1.call F.2.2.2.2.1 hdd hw, F.2.2.2.2.1 _ M.2.1, F.2.2.2.2.1 _ M.2.2⟩ ⟨SatX.blind, ?_, fun U hU hW => ⟨rfl, SatX.start F hP hE hS hU hW⟩⟩ rfl hnp hl.1 rfl (lv_room (of_decide_eq_true h8)) hd ⟨hm1, hm2⟩) kr
  have hV : EVr (FrX G) G s s.heap := F.2.2.2.2.2.2.2.2.2.1
  exact va_Orecv (hV.2.2.2.2.2.1 _ ho) hS
/-- by an interface -/
theorem RunX.done5 {p : Program} {e : Env} {s : State} {m : MethodId} {args : Array Value} {below : List Frame} {meth : Method} {c : Code} {H : Heap} {locs : List Loc} {ls : Array Slot} {mc' ms' ce sl pc q : Nat} {st0 rest : List Value} {Q' : PE} {a : Array Value} {L : List (Option Value)}
    (F : FxX l G T p s m args meth c) (hl : lvo ls T.2.2.1 L) (hS : va_S (FrX G) s.heap H locs) (hq : pc + 5 = q)
    (hr : vx_Run5 p l e (rmV d mc ms) s m args below meth c H locs ce sl mc' ms' (F0 m pc ls st0) rest (QcX G Q' a) XcX (FrX G))
    (kr : ∀ (v : Option Value) (h2 : HM) (n2 : Nat) (E2 : va_W), Q' v h2 n2 E2 → X l G T d mc ms Q (ce + mc') (sl + ms') q L (v.toList ++ rest) h2 n2 E2) :
    W p l e (rmV d mc ms) s m args below meth c H locs ce sl (vx_MQ below (QcX G Q) XcX args s mc ms (FrX G)) (F0 m pc ls st0) := by
  subst hq
  intro T9 hT X9
  rcases hr T9 hT X9 with ⟨v, st₀, t, T', L9, h0, X', hL, e1, e2, ⟨⟨v2, h2, n2, E2, ho, hp2, hE2, hq2⟩, hF⟩, st⟩ | ⟨q, st₀, t, T', L9, E9, ce9, h0, X', hL, e1, e2, hx, -⟩
  · cases ho
    obtain ⟨-, -, k3⟩ := vx_keep h0 e1 hS (fun _ _ z => z) (fun _ z => z) hL hF
    obtain ⟨t2, a1, b1⟩ := kr v h2 n2 E2 hq2 p e s m args below meth c T'.heap (locs ++ L9) ls F hl (by rw [e1]; exact hp2) (by rw [e1]; exact hE2) k3 T' rfl X'
    exact ⟨t2, st t2 a1, b1⟩
  · exact hx.elim
theorem X.callF {T' : MT} {np d' mc' ms' idx b count : Nat} {x : MethodName} {Q' : PE} {As : List Value} {r : vw_C} {ci j : Nat} {fs : List Value} (hC : CX l G T' d' mc' ms' (.ref b :: As) h n E Q') (M : MWb T' np ∧ Cond.instanceMethod T'.1 ∈ BW) (hpx : (parseMethodDescriptor x.desc).map (fun d => d.parameters.length) = some np) (hxm : x.cls ≠ "java/lang/invoke/MethodHandle" ∧ x.cls ≠ "java/lang/invoke/VarHandle") (hfw : ∀ U : State, ev_sr (gA G) U → va_Fw r.1 x T'.1 U) (hsl : Cond.selects r.1 x T'.1 ∈ BW) (hw : Cond.methodLink T.1.cls idx x ∈ BW) (hd : decode T.2.1 pc = .ok (.invokeinterface idx count, 5)) (hst : st0 = As.reverse ++ .ref b :: st)
    (hj : E[j]? = some (b, .inr (ci, fs))) (hci : vwCl[ci]? = some r) (hnp : As.length = np) (h8 : cat8 st = true) (hdd : d' + 1 ≤ d) (hm1 : ce + mc' ≤ mc) (hm2 : sl + ms' ≤ ms) (hq : pc + 5 = q)
    (kr : ∀ (v : Option Value) (h2 : HM) (n2 : Nat) (E2 : va_W), Q' v h2 n2 E2 → X l G T d mc ms Q (ce + mc') (sl + ms') q L (v.toList ++ st) h2 n2 E2) : X l G T d mc ms Q ce sl pc L st0 h n E := by
  intro p e s m args below meth c H locs ls F hl hP hE hS
  subst hst
  have hts := F.2.2.2.2.1
  have hKV : KV G s := F.2.2.2.2.2.2.2.2.1
  have hV : EVr (FrX G) G s s.heap := F.2.2.2.2.2.2.2.2.2.1
  have hm := M.1.ws
  obtain ⟨⟨hy, hp, h19, hini, hcode, hh⟩, hins⟩ := M
  obtain ⟨hSl, hfc, kC, hkC, hkind⟩ := hKV.1 ci _ hci
  obtain ⟨w1, w2, w3, w4, w5⟩ := hfw s hV.2.2.2.2.2.2.2.1
  refine RunX.done5 F hl hS hq (vx_runF (As := As) (rest := st) (b := b) (C := r.1) (cC := (gD G).1 ci) (x := x) ⟨hfc, kC, hkC, hkind⟩ ⟨F.1, F.2.1, F.2.2.1, F.2.2.2.1, F.2.2.2.2.1⟩ (hC F.2.2.2.2.2.2.2.2.2.2.2.2) ⟨⟨rfl, rfl, hdd, ?_, fun w hw => pay_bw F.2.2.2.2.1 w (hm w hw), by rw [wsT_code hh]; exact List.mem_cons_self⟩, hts _ hw, va_any rfl w1, va_any rfl w2, hts _ hsl, hts _ hins, va_any rfl w3, va_any rfl w4, va_any rfl w5, hts _ hini, hts _ hcode, hxm, fun sig hs => ?_⟩ ⟨SatX.blind, ?_, fun U hU hW => ⟨rfl, SatX.start F hP hE hS hU hW⟩⟩ rfl hnp hl.1 rfl (lv_room (of_decide_eq_true h8)) hd ⟨hm1, hm2⟩) kr
  · show 8 + (T'.2.2.1 + 11) + 38 * d' ≤ 38 * d
    omega
  · rw [hs] at hpx
    exact (Option.some.inj hpx).symm
  · exact va_recv hKV hE.1 (q0 := j) hci hj
end XC
end
