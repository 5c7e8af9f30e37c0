/-! X: a frame of the law or of the JDK: V's world, and beside it a list E of cells outside the places; what the class's methods may not change is below B - 1 and in E -/
abbrev PE : Type := Option Value → HM → Nat → va_W → Prop
def FrX (G : GG) : Nat → Prop := fun q => gB G ≤ q + 1
def FrO (G : GG) : Nat → Prop := fun q => q + 1 = gB G ∨ gB G + NC ≤ q
theorem FrA.x {G : GG} {q : Nat} (h : FrA G q) : FrX G q := Nat.le_succ_of_le h.1
theorem FrO.x {G : GG} {q : Nat} (h : FrO G q) : FrX G q := by
  rcases h with h | h
  · exact Nat.le_of_eq h.symm
  · show gB G ≤ q + 1
    omega
theorem FrO.na {G : GG} {q : Nat} (h : FrO G q) : ¬ FrA G q := by
  rintro ⟨h1, h2⟩
  rcases h with h | h <;> omega
theorem FrO.ne {G : GG} {q k : Nat} (h : FrO G q) (hk : k < NC) : gB G + k ≠ q := fun e => h.na ⟨by omega, by omega⟩
def XE (G : GG) (E : va_W) (H : Heap) : Prop := va_P (gD G) vwCl E H ∧ va_D (FrO G) E
def FxX (l : Launch) (G : GG) (T : MT) (p : Program) (s : State) (m : MethodId) (args : Array Value) (meth : Method) (c : Code) : Prop :=
  p.tables.exec = Jvm.exec ∧ c.code = T.2.1 ∧ c.maxLocals = T.2.2.1 ∧ s.vm.findClass T.1.cls = some m.cls ∧ (∀ w ∈ BW, w.before args s = true) ∧ meth.sig.returnType = T.2.2.2.1 ∧ meth.locks = false ∧ (T.1.name = "<init>" → meth.name = "<init>") ∧ KV G s ∧ EVr (FrX G) G s s.heap ∧ gB G ≤ s.heap.size + 1 ∧ tabOk T c ∧ l.stackTraces = false
def QcX (G : GG) (Q : PE) : Array Value → State → Outcome → State → Prop := fun _ st o t => (∃ (v : Option Value) (h : HM) (n : Nat) (E : va_W), o = .returned v ∧ HP G h n t.heap ∧ XE G E t.heap ∧ Q v h n E) ∧ va_F (FrX G) st t
def XcX : String → State → State → Prop := fun _ _ _ => False
def X (l : Launch) (G : GG) (T : MT) (d mc ms : Nat) (Q : PE) (ce sl pc : Nat) (L : List (Option Value)) (st : List Value) (h : HM) (n : Nat) (E : va_W) : Prop :=
  ∀ (p : Program) (e : Env) (s : State) (m : MethodId) (args : Array Value) (below : List Frame) (meth : Method) (c : Code) (H : Heap) (locs : List Loc) (ls : Array Slot),
    FxX l G T p s m args meth c → lvo ls T.2.2.1 L → HP G h n H → XE G E H → va_S (FrX G) s.heap H locs →
    W p l e (rmV d mc ms) s m args below meth c H locs ce sl (vx_MQ below (QcX G Q) XcX args s mc ms (FrX G)) (F0 m pc ls st)
/-- a method's start -/
def SatX (G : GG) (h : HM) (n : Nat) (E : va_W) (U : State) : Prop := HP G h n U.heap ∧ XE G E U.heap ∧ KV G U ∧ EVr (FrX G) G U U.heap ∧ gB G ≤ U.heap.size + 1
/-- a method's contract -/
def CX (l : Launch) (G : GG) (T : MT) (d mc ms : Nat) (args : List Value) (h : HM) (n : Nat) (E : va_W) (Q : PE) : Prop :=
  l.stackTraces = false → vx_Met l T.1 (wsT T) (rmV d mc ms) (va_Pc args (SatX G h n E)) (QcX G Q) XcX mc ms (FrX G)
section XR
variable {l : Launch} {G : GG} {T : MT} {d mc ms ce sl : Nat} {Q : PE} {pc q : Nat} {L : List (Option Value)} {st : List Value} {h : HM} {n : Nat} {E : va_W}
theorem X.iconst {i : Int} {v : Int32} (hd : decode T.2.1 pc = .ok (.iconst i, 1)) (hv : Int32.ofInt i = v) (hq : pc + 1 = q) (k : X l G T d mc ms Q ce sl q L (.int v :: st) h n E) : X l G T d mc ms Q ce sl pc L (st) h n E := by
  intro p e s m args below meth c H locs ls F hl hP hE hS
  subst hq
  exact lv_iconst F.1 F.2.1 hd hv (k p e s m args below meth c H locs ls F hl hP hE hS)
theorem X.bipush {i : Int} {v : Int32} (hd : decode T.2.1 pc = .ok (.bipush i, 2)) (hv : (Int8.ofInt i).toInt32 = v) (hq : pc + 2 = q) (k : X l G T d mc ms Q ce sl q L (.int v :: st) h n E) : X l G T d mc ms Q ce sl pc L (st) h n E := by
  intro p e s m args below meth c H locs ls F hl hP hE hS
  subst hq
  exact lv_bipush F.1 F.2.1 hd hv (k p e s m args below meth c H locs ls F hl hP hE hS)
theorem X.sipush {i : Int} {v : Int32} (hd : decode T.2.1 pc = .ok (.sipush i, 3)) (hv : (Int16.ofInt i).toInt32 = v) (hq : pc + 3 = q) (k : X l G T d mc ms Q ce sl q L (.int v :: st) h n E) : X l G T d mc ms Q ce sl pc L (st) h n E := by
  intro p e s m args below meth c H locs ls F hl hP hE hS
  subst hq
  exact lv_sipush F.1 F.2.1 hd hv (k p e s m args below meth c H locs ls F hl hP hE hS)
theorem X.lconst {i : Fin 2} {v : Int64} (hd : decode T.2.1 pc = .ok (.lconst i, 1)) (hv : Int64.ofNat (i : Nat) = v) (hq : pc + 1 = q) (k : X l G T d mc ms Q ce sl q L (.long v :: st) h n E) : X l G T d mc ms Q ce sl pc L (st) h n E := by
  intro p e s m args below meth c H locs ls F hl hP hE hS
  subst hq
  exact lv_lconst F.1 F.2.1 hd hv (k p e s m args below meth c H locs ls F hl hP hE hS)
theorem X.iload_n {i : Fin 4} {x : Int32} (hd : decode T.2.1 pc = .ok (.iload_n i, 1)) (hx : L[(i : Nat)]? = some (some (.int x))) (hq : pc + 1 = q) (k : X l G T d mc ms Q ce sl q L (.int x :: st) h n E) : X l G T d mc ms Q ce sl pc L (st) h n E := by
  intro p e s m args below meth c H locs ls F hl hP hE hS
  subst hq
  exact lv_iload_n F.1 F.2.1 hd rfl (hl.get hx) (k p e s m args below meth c H locs ls F hl hP hE hS)
theorem X.iload {i : Nat} {x : Int32} (hd : decode T.2.1 pc = .ok (.iload i, 2)) (hx : L[i]? = some (some (.int x))) (hq : pc + 2 = q) (k : X l G T d mc ms Q ce sl q L (.int x :: st) h n E) : X l G T d mc ms Q ce sl pc L (st) h n E := by
  intro p e s m args below meth c H locs ls F hl hP hE hS
  subst hq
  exact lv_iload F.1 F.2.1 hd (hl.get hx) (k p e s m args below meth c H locs ls F hl hP hE hS)
theorem X.aload_n {i : Fin 4} {x : Nat} (hd : decode T.2.1 pc = .ok (.aload_n i, 1)) (hx : L[(i : Nat)]? = some (some (.ref x))) (hq : pc + 1 = q) (k : X l G T d mc ms Q ce sl q L (.ref x :: st) h n E) : X l G T d mc ms Q ce sl pc L (st) h n E := by
  intro p e s m args below meth c H locs ls F hl hP hE hS
  subst hq
  exact lv_aload_n F.1 F.2.1 hd rfl (hl.get hx) (k p e s m args below meth c H locs ls F hl hP hE hS)
theorem X.aload {i : Nat} {x : Nat} (hd : decode T.2.1 pc = .ok (.aload i, 2)) (hx : L[i]? = some (some (.ref x))) (hq : pc + 2 = q) (k : X l G T d mc ms Q ce sl q L (.ref x :: st) h n E) : X l G T d mc ms Q ce sl pc L (st) h n E := by
  intro p e s m args below meth c H locs ls F hl hP hE hS
  subst hq
  exact lv_aload F.1 F.2.1 hd (hl.get hx) (k p e s m args below meth c H locs ls F hl hP hE hS)
theorem X.dload_n {i : Fin 4} {x : UInt64} (hd : decode T.2.1 pc = .ok (.dload_n i, 1)) (hx : L[(i : Nat)]? = some (some (.double x))) (hq : pc + 1 = q) (k : X l G T d mc ms Q ce sl q L (.double x :: st) h n E) : X l G T d mc ms Q ce sl pc L (st) h n E := by
  intro p e s m args below meth c H locs ls F hl hP hE hS
  subst hq
  exact lv_dload_n F.1 F.2.1 hd rfl (hl.get hx) (k p e s m args below meth c H locs ls F hl hP hE hS)
theorem X.dload {i : Nat} {x : UInt64} (hd : decode T.2.1 pc = .ok (.dload i, 2)) (hx : L[i]? = some (some (.double x))) (hq : pc + 2 = q) (k : X l G T d mc ms Q ce sl q L (.double x :: st) h n E) : X l G T d mc ms Q ce sl pc L (st) h n E := by
  intro p e s m args below meth c H locs ls F hl hP hE hS
  subst hq
  exact lv_dload F.1 F.2.1 hd (hl.get hx) (k p e s m args below meth c H locs ls F hl hP hE hS)
theorem X.iadd {x y : Int32} (hd : decode T.2.1 pc = .ok (.iadd, 1)) (hq : pc + 1 = q) (k : X l G T d mc ms Q ce sl q L (.int (x + y) :: st) h n E) : X l G T d mc ms Q ce sl pc L (.int y :: .int x :: st) h n E := by
  intro p e s m args below meth c H locs ls F hl hP hE hS
  subst hq
  exact lv_iadd F.1 F.2.1 hd (k p e s m args below meth c H locs ls F hl hP hE hS)
theorem X.isub {x y : Int32} (hd : decode T.2.1 pc = .ok (.isub, 1)) (hq : pc + 1 = q) (k : X l G T d mc ms Q ce sl q L (.int (x - y) :: st) h n E) : X l G T d mc ms Q ce sl pc L (.int y :: .int x :: st) h n E := by
  intro p e s m args below meth c H locs ls F hl hP hE hS
  subst hq
  exact lv_isub F.1 F.2.1 hd (k p e s m args below meth c H locs ls F hl hP hE hS)
theorem X.imul {x y : Int32} (hd : decode T.2.1 pc = .ok (.imul, 1)) (hq : pc + 1 = q) (k : X l G T d mc ms Q ce sl q L (.int (x * y) :: st) h n E) : X l G T d mc ms Q ce sl pc L (.int y :: .int x :: st) h n E := by
  intro p e s m args below meth c H locs ls F hl hP hE hS
  subst hq
  exact lv_imul F.1 F.2.1 hd (k p e s m args below meth c H locs ls F hl hP hE hS)
theorem X.iand {x y : Int32} (hd : decode T.2.1 pc = .ok (.iand, 1)) (hq : pc + 1 = q) (k : X l G T d mc ms Q ce sl q L (.int (x &&& y) :: st) h n E) : X l G T d mc ms Q ce sl pc L (.int y :: .int x :: st) h n E := by
  intro p e s m args below meth c H locs ls F hl hP hE hS
  subst hq
  exact lv_iand F.1 F.2.1 hd (k p e s m args below meth c H locs ls F hl hP hE hS)
theorem X.ior {x y : Int32} (hd : decode T.2.1 pc = .ok (.ior, 1)) (hq : pc + 1 = q) (k : X l G T d mc ms Q ce sl q L (.int (x ||| y) :: st) h n E) : X l G T d mc ms Q ce sl pc L (.int y :: .int x :: st) h n E := by
  intro p e s m args below meth c H locs ls F hl hP hE hS
  subst hq
  exact lv_ior F.1 F.2.1 hd (k p e s m args below meth c H locs ls F hl hP hE hS)
theorem X.ishl {x y : Int32} (hd : decode T.2.1 pc = .ok (.ishl, 1)) (hq : pc + 1 = q) (k : X l G T d mc ms Q ce sl q L (.int (x <<< (y &&& 31)) :: st) h n E) : X l G T d mc ms Q ce sl pc L (.int y :: .int x :: st) h n E := by
  intro p e s m args below meth c H locs ls F hl hP hE hS
  subst hq
  exact lv_ishl F.1 F.2.1 hd (k p e s m args below meth c H locs ls F hl hP hE hS)
theorem X.ishr {x y : Int32} (hd : decode T.2.1 pc = .ok (.ishr, 1)) (hq : pc + 1 = q) (k : X l G T d mc ms Q ce sl q L (.int (x >>> (y &&& 31)) :: st) h n E) : X l G T d mc ms Q ce sl pc L (.int y :: .int x :: st) h n E := by
  intro p e s m args below meth c H locs ls F hl hP hE hS
  subst hq
  exact lv_ishr F.1 F.2.1 hd (k p e s m args below meth c H locs ls F hl hP hE hS)
theorem X.iushr {x y : Int32} (hd : decode T.2.1 pc = .ok (.iushr, 1)) (hq : pc + 1 = q) (k : X l G T d mc ms Q ce sl q L (.int (x.toUInt32 >>> (y.toUInt32 &&& Int32.toUInt32 31)).toInt32 :: st) h n E) : X l G T d mc ms Q ce sl pc L (.int y :: .int x :: st) h n E := by
  intro p e s m args below meth c H locs ls F hl hP hE hS
  subst hq
  exact lv_iushr F.1 F.2.1 hd rfl (k p e s m args below meth c H locs ls F hl hP hE hS)
theorem X.idiv {x y : Int32} (hd : decode T.2.1 pc = .ok (.idiv, 1)) (hne : ¬ y = 0) (hq : pc + 1 = q) (k : X l G T d mc ms Q ce sl q L (.int (x / y) :: st) h n E) : X l G T d mc ms Q ce sl pc L (.int y :: .int x :: st) h n E := by
  intro p e s m args below meth c H locs ls F hl hP hE hS
  subst hq
  exact lv_idiv F.1 F.2.1 hd hne (k p e s m args below meth c H locs ls F hl hP hE hS)
theorem X.irem {x y : Int32} (hd : decode T.2.1 pc = .ok (.irem, 1)) (hne : ¬ y = 0) (hq : pc + 1 = q) (k : X l G T d mc ms Q ce sl q L (.int (x - (x / y) * y) :: st) h n E) : X l G T d mc ms Q ce sl pc L (.int y :: .int x :: st) h n E := by
  intro p e s m args below meth c H locs ls F hl hP hE hS
  subst hq
  exact lv_irem F.1 F.2.1 hd hne (k p e s m args below meth c H locs ls F hl hP hE hS)
theorem X.ineg {x : Int32} (hd : decode T.2.1 pc = .ok (.ineg, 1)) (hq : pc + 1 = q) (k : X l G T d mc ms Q ce sl q L (.int (-x) :: st) h n E) : X l G T d mc ms Q ce sl pc L (.int x :: st) h n E := by
  intro p e s m args below meth c H locs ls F hl hP hE hS
  subst hq
  exact lv_ineg F.1 F.2.1 hd (k p e s m args below meth c H locs ls F hl hP hE hS)
theorem X.i2b {x : Int32} (hd : decode T.2.1 pc = .ok (.i2b, 1)) (hq : pc + 1 = q) (k : X l G T d mc ms Q ce sl q L (.int x.toInt8.toInt32 :: st) h n E) : X l G T d mc ms Q ce sl pc L (.int x :: st) h n E := by
  intro p e s m args below meth c H locs ls F hl hP hE hS
  subst hq
  exact lv_i2b F.1 F.2.1 hd rfl (k p e s m args below meth c H locs ls F hl hP hE hS)
theorem X.i2l {x : Int32} (hd : decode T.2.1 pc = .ok (.i2l, 1)) (hq : pc + 1 = q) (k : X l G T d mc ms Q ce sl q L (.long x.toInt64 :: st) h n E) : X l G T d mc ms Q ce sl pc L (.int x :: st) h n E := by
  intro p e s m args below meth c H locs ls F hl hP hE hS
  subst hq
  exact lv_i2l F.1 F.2.1 hd rfl (k p e s m args below meth c H locs ls F hl hP hE hS)
theorem X.lcmp {x y : Int64} (hd : decode T.2.1 pc = .ok (.lcmp, 1)) (hq : pc + 1 = q) (k : X l G T d mc ms Q ce sl q L (.int (lg_cmp x y) :: st) h n E) : X l G T d mc ms Q ce sl pc L (.long y :: .long x :: st) h n E := by
  intro p e s m args below meth c H locs ls F hl hP hE hS
  subst hq
  exact W.lcmp F.1 F.2.1 hd (k p e s m args below meth c H locs ls F hl hP hE hS)
theorem X.dup {x : Value} (hd : decode T.2.1 pc = .ok (.dup, 1)) (hx : x.category = 1) (hq : pc + 1 = q) (k : X l G T d mc ms Q ce sl q L (x :: x :: st) h n E) : X l G T d mc ms Q ce sl pc L (x :: st) h n E := by
  intro p e s m args below meth c H locs ls F hl hP hE hS
  subst hq
  exact lv_dup F.1 F.2.1 hd hx (k p e s m args below meth c H locs ls F hl hP hE hS)
theorem X.dup2 {x y : Value} (hd : decode T.2.1 pc = .ok (.dup2, 1)) (hx : x.category = 1) (hy : y.category = 1) (hq : pc + 1 = q) (k : X l G T d mc ms Q ce sl q L (x :: y :: x :: y :: st) h n E) : X l G T d mc ms Q ce sl pc L (x :: y :: st) h n E := by
  intro p e s m args below meth c H locs ls F hl hP hE hS
  subst hq
  exact lv_dup2_11 F.1 F.2.1 hd hx hy (k p e s m args below meth c H locs ls F hl hP hE hS)
theorem X.pop {x : Value} (hd : decode T.2.1 pc = .ok (.pop, 1)) (hx : x.category = 1) (hq : pc + 1 = q) (k : X l G T d mc ms Q ce sl q L (st) h n E) : X l G T d mc ms Q ce sl pc L (x :: st) h n E := by
  intro p e s m args below meth c H locs ls F hl hP hE hS
  subst hq
  exact lv_pop F.1 F.2.1 hd hx (k p e s m args below meth c H locs ls F hl hP hE hS)
theorem X.i2f {x : Int32} (hd : decode T.2.1 pc = .ok (.i2f, 1)) (hq : pc + 1 = q) (k : X l G T d mc ms Q ce sl q L (.float (FP.i2f x) :: st) h n E) : X l G T d mc ms Q ce sl pc L (.int x :: st) h n E := by
  intro p e s m args below meth c H locs ls F hl hP hE hS
  subst hq
  exact lv_i2f F.1 F.2.1 hd (k p e s m args below meth c H locs ls F hl hP hE hS)
theorem X.i2d {x : Int32} (hd : decode T.2.1 pc = .ok (.i2d, 1)) (hq : pc + 1 = q) (k : X l G T d mc ms Q ce sl q L (.double (FP.i2d x) :: st) h n E) : X l G T d mc ms Q ce sl pc L (.int x :: st) h n E := by
  intro p e s m args below meth c H locs ls F hl hP hE hS
  subst hq
  exact lv_i2d F.1 F.2.1 hd (k p e s m args below meth c H locs ls F hl hP hE hS)
theorem X.fdiv {x y : UInt32} (hd : decode T.2.1 pc = .ok (.fdiv, 1)) (hne : vf_n32 (FP.fdiv x y)) (hq : pc + 1 = q) (k : X l G T d mc ms Q ce sl q L (.float (FP.fdiv x y) :: st) h n E) : X l G T d mc ms Q ce sl pc L (.float y :: .float x :: st) h n E := by
  intro p e s m args below meth c H locs ls F hl hP hE hS
  subst hq
  exact lv_fdiv F.1 F.2.1 hd hne (k p e s m args below meth c H locs ls F hl hP hE hS)
theorem X.ddiv {x y : UInt64} (hd : decode T.2.1 pc = .ok (.ddiv, 1)) (hne : vf_n64 (FP.ddiv x y)) (hq : pc + 1 = q) (k : X l G T d mc ms Q ce sl q L (.double (FP.ddiv x y) :: st) h n E) : X l G T d mc ms Q ce sl pc L (.double y :: .double x :: st) h n E := by
  intro p e s m args below meth c H locs ls F hl hP hE hS
  subst hq
  exact lv_ddiv F.1 F.2.1 hd hne (k p e s m args below meth c H locs ls F hl hP hE hS)
theorem X.f2d {x : UInt32} (hd : decode T.2.1 pc = .ok (.f2d, 1)) (hne : vf_n64 (FP.f2d x)) (hq : pc + 1 = q) (k : X l G T d mc ms Q ce sl q L (.double (FP.f2d x) :: st) h n E) : X l G T d mc ms Q ce sl pc L (.float x :: st) h n E := by
  intro p e s m args below meth c H locs ls F hl hP hE hS
  subst hq
  exact lv_f2d F.1 F.2.1 hd hne (k p e s m args below meth c H locs ls F hl hP hE hS)
theorem X.dcmp {x y : UInt64} {op : CmpOp} (hd : decode T.2.1 pc = .ok (.dcmp op, 1)) (hq : pc + 1 = q) (k : X l G T d mc ms Q ce sl q L (.int (Op.cmpValue (FP.dcmp x y) op) :: st) h n E) : X l G T d mc ms Q ce sl pc L (.double y :: .double x :: st) h n E := by
  intro p e s m args below meth c H locs ls F hl hP hE hS
  subst hq
  exact lv_dcmp F.1 F.2.1 hd (k p e s m args below meth c H locs ls F hl hP hE hS)
theorem X.fconst0  (hd : decode T.2.1 pc = .ok (.fconst 0, 1)) (hq : pc + 1 = q) (k : X l G T d mc ms Q ce sl q L (.float 0 :: st) h n E) : X l G T d mc ms Q ce sl pc L (st) h n E := by
  intro p e s m args below meth c H locs ls F hl hP hE hS
  subst hq
  exact lv_fconst0 F.1 F.2.1 hd (k p e s m args below meth c H locs ls F hl hP hE hS)
theorem X.dconst0  (hd : decode T.2.1 pc = .ok (.dconst 0, 1)) (hq : pc + 1 = q) (k : X l G T d mc ms Q ce sl q L (.double 0 :: st) h n E) : X l G T d mc ms Q ce sl pc L (st) h n E := by
  intro p e s m args below meth c H locs ls F hl hP hE hS
  subst hq
  exact lv_dconst0 F.1 F.2.1 hd (k p e s m args below meth c H locs ls F hl hP hE hS)
theorem X.ldc {i : Nat} {v : Int32} (hd : decode T.2.1 pc = .ok (.ldc i, 2)) (hw : Cond.constant T.1.cls i v ∈ BW) (hq : pc + 2 = q) (k : X l G T d mc ms Q ce sl q L (.int v :: st) h n E) : X l G T d mc ms Q ce sl pc L (st) h n E := by
  intro p e s m args below meth c H locs ls F hl hP hE hS
  subst hq
  exact lv_ldc F.1 F.2.1 F.2.2.2.1 (F.2.2.2.2.1 _ hw) hd (k p e s m args below meth c H locs ls F hl hP hE hS)
theorem X.istore {i : Nat} {x : Int32} (hd : decode T.2.1 pc = .ok (.istore i, 2)) (hn : decide (i < T.2.2.1) = true) (hc : c1 L i = true) (hq : pc + 2 = q) (k : X l G T d mc ms Q ce sl q (L.set i (some (.int x))) st h n E) : X l G T d mc ms Q ce sl pc L (.int x :: st) h n E := by
  intro p e s m args below meth c H locs ls F hl hP hE hS
  subst hq
  exact lv_istore F.1 F.2.1 hd hl.has (of_decide_eq_true hn) rfl (fun ls2 hh => k p e s m args below meth c H locs ls2 F (lvo.set hc hh) hP hE hS)
theorem X.astore {i : Nat} {x : Nat} (hd : decode T.2.1 pc = .ok (.astore i, 2)) (hn : decide (i < T.2.2.1) = true) (hc : c1 L i = true) (hq : pc + 2 = q) (k : X l G T d mc ms Q ce sl q (L.set i (some (.ref x))) st h n E) : X l G T d mc ms Q ce sl pc L (.ref x :: st) h n E := by
  intro p e s m args below meth c H locs ls F hl hP hE hS
  subst hq
  exact lv_astore F.1 F.2.1 hd hl.has (of_decide_eq_true hn) rfl (fun ls2 hh => k p e s m args below meth c H locs ls2 F (lvo.set hc hh) hP hE hS)
theorem X.dstore {i : Nat} {x : UInt64} (hd : decode T.2.1 pc = .ok (.dstore i, 2)) (hn : decide (i + 1 < T.2.2.1) = true) (hc : c1 L i = true) (hq : pc + 2 = q) (k : X l G T d mc ms Q ce sl q ((L.set i (some (.double x))).set (i + 1) none) st h n E) : X l G T d mc ms Q ce sl pc L (.double x :: st) h n E := by
  intro p e s m args below meth c H locs ls F hl hP hE hS
  subst hq
  exact lv_dstore F.1 F.2.1 hd hl.has (of_decide_eq_true hn) rfl (fun ls2 hh => k p e s m args below meth c H locs ls2 F (lvo.set2 hc hh) hP hE hS)
theorem X.istore_n {i : Nat} {x : Int32} {f : Fin 4} (hd : decode T.2.1 pc = .ok (.istore_n f, 1)) (hf : (f : Nat) = i) (hn : decide (i < T.2.2.1) = true) (hc : c1 L i = true) (hq : pc + 1 = q) (k : X l G T d mc ms Q ce sl q (L.set i (some (.int x))) st h n E) : X l G T d mc ms Q ce sl pc L (.int x :: st) h n E := by
  intro p e s m args below meth c H locs ls F hl hP hE hS
  subst hq
  exact lv_istore_n F.1 F.2.1 hd hf hl.has (of_decide_eq_true hn) rfl (fun ls2 hh => k p e s m args below meth c H locs ls2 F (lvo.set hc hh) hP hE hS)
theorem X.astore_n {i : Nat} {x : Nat} {f : Fin 4} (hd : decode T.2.1 pc = .ok (.astore_n f, 1)) (hf : (f : Nat) = i) (hn : decide (i < T.2.2.1) = true) (hc : c1 L i = true) (hq : pc + 1 = q) (k : X l G T d mc ms Q ce sl q (L.set i (some (.ref x))) st h n E) : X l G T d mc ms Q ce sl pc L (.ref x :: st) h n E := by
  intro p e s m args below meth c H locs ls F hl hP hE hS
  subst hq
  exact lv_astore_n F.1 F.2.1 hd hf hl.has (of_decide_eq_true hn) rfl (fun ls2 hh => k p e s m args below meth c H locs ls2 F (lvo.set hc hh) hP hE hS)
theorem X.iinc {i : Nat} {a : Int} {x v : Int32} (hd : decode T.2.1 pc = .ok (.iinc i a, 3)) (hx : L[i]? = some (some (.int x))) (hv : x + Int32.ofInt a = v) (hn : decide (i < T.2.2.1) = true) (hc : c1 L i = true) (hq : pc + 3 = q) (k : X l G T d mc ms Q ce sl q (L.set i (some (.int v))) st h n E) : X l G T d mc ms Q ce sl pc L st h n E := by
  intro p e s m args below meth c H locs ls F hl hP hE hS
  subst hq
  obtain ⟨j, hj⟩ := List.getElem?_of_mem (asc_mem (q := (i, Value.int x)).mpr hx)
  exact lv_iinc F.1 F.2.1 hd hl.has hj hv (of_decide_eq_true hn) rfl (fun ls2 hh => k p e s m args below meth c H locs ls2 F (lvo.set hc hh) hP hE hS)
theorem X.if_eq {x : Int32} {off : Int} {tgt : Nat} (hd : decode T.2.1 pc = .ok (.ifCond .eq off, 3)) (ht : (pc : Int) + off = (tgt : Int)) (hq : pc + 3 = q) (kt : x = 0 → X l G T d mc ms Q ce sl tgt L st h n E) (kf : ¬ x = 0 → X l G T d mc ms Q ce sl q L st h n E) : X l G T d mc ms Q ce sl pc L (.int x :: st) h n E := by
  intro p e s m args below meth c H locs ls F hl hP hE hS
  subst hq
  exact lv_if_eq F.1 F.2.1 hd ht (fun z => kt z p e s m args below meth c H locs ls F hl hP hE hS) (fun z => kf z p e s m args below meth c H locs ls F hl hP hE hS)
theorem X.icmp_eq {x y : Int32} {off : Int} {tgt : Nat} (hd : decode T.2.1 pc = .ok (.if_icmp .eq off, 3)) (ht : (pc : Int) + off = (tgt : Int)) (hq : pc + 3 = q) (kt : x = y → X l G T d mc ms Q ce sl tgt L st h n E) (kf : ¬ x = y → X l G T d mc ms Q ce sl q L st h n E) : X l G T d mc ms Q ce sl pc L (.int y :: .int x :: st) h n E := by
  intro p e s m args below meth c H locs ls F hl hP hE hS
  subst hq
  exact lv_icmp_eq F.1 F.2.1 hd ht (fun z => kt z p e s m args below meth c H locs ls F hl hP hE hS) (fun z => kf z p e s m args below meth c H locs ls F hl hP hE hS)
theorem X.if_ne {x : Int32} {off : Int} {tgt : Nat} (hd : decode T.2.1 pc = .ok (.ifCond .ne off, 3)) (ht : (pc : Int) + off = (tgt : Int)) (hq : pc + 3 = q) (kt : ¬ x = 0 → X l G T d mc ms Q ce sl tgt L st h n E) (kf : x = 0 → X l G T d mc ms Q ce sl q L st h n E) : X l G T d mc ms Q ce sl pc L (.int x :: st) h n E := by
  intro p e s m args below meth c H locs ls F hl hP hE hS
  subst hq
  exact lv_if_ne F.1 F.2.1 hd ht (fun z => kt z p e s m args below meth c H locs ls F hl hP hE hS) (fun z => kf z p e s m args below meth c H locs ls F hl hP hE hS)
theorem X.icmp_ne {x y : Int32} {off : Int} {tgt : Nat} (hd : decode T.2.1 pc = .ok (.if_icmp .ne off, 3)) (ht : (pc : Int) + off = (tgt : Int)) (hq : pc + 3 = q) (kt : ¬ x = y → X l G T d mc ms Q ce sl tgt L st h n E) (kf : x = y → X l G T d mc ms Q ce sl q L st h n E) : X l G T d mc ms Q ce sl pc L (.int y :: .int x :: st) h n E := by
  intro p e s m args below meth c H locs ls F hl hP hE hS
  subst hq
  exact lv_icmp_ne F.1 F.2.1 hd ht (fun z => kt z p e s m args below meth c H locs ls F hl hP hE hS) (fun z => kf z p e s m args below meth c H locs ls F hl hP hE hS)
theorem X.if_lt {x : Int32} {off : Int} {tgt : Nat} (hd : decode T.2.1 pc = .ok (.ifCond .lt off, 3)) (ht : (pc : Int) + off = (tgt : Int)) (hq : pc + 3 = q) (kt : x < 0 → X l G T d mc ms Q ce sl tgt L st h n E) (kf : ¬ x < 0 → X l G T d mc ms Q ce sl q L st h n E) : X l G T d mc ms Q ce sl pc L (.int x :: st) h n E := by
  intro p e s m args below meth c H locs ls F hl hP hE hS
  subst hq
  exact lv_if_lt F.1 F.2.1 hd ht (fun z => kt z p e s m args below meth c H locs ls F hl hP hE hS) (fun z => kf z p e s m args below meth c H locs ls F hl hP hE hS)
theorem X.icmp_lt {x y : Int32} {off : Int} {tgt : Nat} (hd : decode T.2.1 pc = .ok (.if_icmp .lt off, 3)) (ht : (pc : Int) + off = (tgt : Int)) (hq : pc + 3 = q) (kt : x < y → X l G T d mc ms Q ce sl tgt L st h n E) (kf : ¬ x < y → X l G T d mc ms Q ce sl q L st h n E) : X l G T d mc ms Q ce sl pc L (.int y :: .int x :: st) h n E := by
  intro p e s m args below meth c H locs ls F hl hP hE hS
  subst hq
  exact lv_icmp_lt F.1 F.2.1 hd ht (fun z => kt z p e s m args below meth c H locs ls F hl hP hE hS) (fun z => kf z p e s m args below meth c H locs ls F hl hP hE hS)
theorem X.if_ge {x : Int32} {off : Int} {tgt : Nat} (hd : decode T.2.1 pc = .ok (.ifCond .ge off, 3)) (ht : (pc : Int) + off = (tgt : Int)) (hq : pc + 3 = q) (kt : 0 ≤ x → X l G T d mc ms Q ce sl tgt L st h n E) (kf : ¬ 0 ≤ x → X l G T d mc ms Q ce sl q L st h n E) : X l G T d mc ms Q ce sl pc L (.int x :: st) h n E := by
  intro p e s m args below meth c H locs ls F hl hP hE hS
  subst hq
  exact lv_if_ge F.1 F.2.1 hd ht (fun z => kt z p e s m args below meth c H locs ls F hl hP hE hS) (fun z => kf z p e s m args below meth c H locs ls F hl hP hE hS)
theorem X.icmp_ge {x y : Int32} {off : Int} {tgt : Nat} (hd : decode T.2.1 pc = .ok (.if_icmp .ge off, 3)) (ht : (pc : Int) + off = (tgt : Int)) (hq : pc + 3 = q) (kt : y ≤ x → X l G T d mc ms Q ce sl tgt L st h n E) (kf : ¬ y ≤ x → X l G T d mc ms Q ce sl q L st h n E) : X l G T d mc ms Q ce sl pc L (.int y :: .int x :: st) h n E := by
  intro p e s m args below meth c H locs ls F hl hP hE hS
  subst hq
  exact lv_icmp_ge F.1 F.2.1 hd ht (fun z => kt z p e s m args below meth c H locs ls F hl hP hE hS) (fun z => kf z p e s m args below meth c H locs ls F hl hP hE hS)
theorem X.if_gt {x : Int32} {off : Int} {tgt : Nat} (hd : decode T.2.1 pc = .ok (.ifCond .gt off, 3)) (ht : (pc : Int) + off = (tgt : Int)) (hq : pc + 3 = q) (kt : 0 < x → X l G T d mc ms Q ce sl tgt L st h n E) (kf : ¬ 0 < x → X l G T d mc ms Q ce sl q L st h n E) : X l G T d mc ms Q ce sl pc L (.int x :: st) h n E := by
  intro p e s m args below meth c H locs ls F hl hP hE hS
  subst hq
  exact lv_if_gt F.1 F.2.1 hd ht (fun z => kt z p e s m args below meth c H locs ls F hl hP hE hS) (fun z => kf z p e s m args below meth c H locs ls F hl hP hE hS)
theorem X.icmp_gt {x y : Int32} {off : Int} {tgt : Nat} (hd : decode T.2.1 pc = .ok (.if_icmp .gt off, 3)) (ht : (pc : Int) + off = (tgt : Int)) (hq : pc + 3 = q) (kt : y < x → X l G T d mc ms Q ce sl tgt L st h n E) (kf : ¬ y < x → X l G T d mc ms Q ce sl q L st h n E) : X l G T d mc ms Q ce sl pc L (.int y :: .int x :: st) h n E := by
  intro p e s m args below meth c H locs ls F hl hP hE hS
  subst hq
  exact lv_icmp_gt F.1 F.2.1 hd ht (fun z => kt z p e s m args below meth c H locs ls F hl hP hE hS) (fun z => kf z p e s m args below meth c H locs ls F hl hP hE hS)
theorem X.if_le {x : Int32} {off : Int} {tgt : Nat} (hd : decode T.2.1 pc = .ok (.ifCond .le off, 3)) (ht : (pc : Int) + off = (tgt : Int)) (hq : pc + 3 = q) (kt : x ≤ 0 → X l G T d mc ms Q ce sl tgt L st h n E) (kf : ¬ x ≤ 0 → X l G T d mc ms Q ce sl q L st h n E) : X l G T d mc ms Q ce sl pc L (.int x :: st) h n E := by
  intro p e s m args below meth c H locs ls F hl hP hE hS
  subst hq
  exact lv_if_le F.1 F.2.1 hd ht (fun z => kt z p e s m args below meth c H locs ls F hl hP hE hS) (fun z => kf z p e s m args below meth c H locs ls F hl hP hE hS)
theorem X.icmp_le {x y : Int32} {off : Int} {tgt : Nat} (hd : decode T.2.1 pc = .ok (.if_icmp .le off, 3)) (ht : (pc : Int) + off = (tgt : Int)) (hq : pc + 3 = q) (kt : x ≤ y → X l G T d mc ms Q ce sl tgt L st h n E) (kf : ¬ x ≤ y → X l G T d mc ms Q ce sl q L st h n E) : X l G T d mc ms Q ce sl pc L (.int y :: .int x :: st) h n E := by
  intro p e s m args below meth c H locs ls F hl hP hE hS
  subst hq
  exact lv_icmp_le F.1 F.2.1 hd ht (fun z => kt z p e s m args below meth c H locs ls F hl hP hE hS) (fun z => kf z p e s m args below meth c H locs ls F hl hP hE hS)
theorem X.goto {off : Int} {tgt : Nat} (hd : decode T.2.1 pc = .ok (.goto off, 3)) (ht : (pc : Int) + off = (tgt : Int)) (k : X l G T d mc ms Q ce sl tgt L st h n E) : X l G T d mc ms Q ce sl pc L st h n E := by
  intro p e s m args below meth c H locs ls F hl hP hE hS
  exact lv_goto F.1 F.2.1 hd ht (k p e s m args below meth c H locs ls F hl hP hE hS)
theorem X.acmp_eq {x y : Nat} {off : Int} {tgt : Nat} (hd : decode T.2.1 pc = .ok (.if_acmp .eq off, 3)) (ht : (pc : Int) + off = (tgt : Int)) (hq : pc + 3 = q) (kt : x = y → X l G T d mc ms Q ce sl tgt L st h n E) (kf : ¬ x = y → X l G T d mc ms Q ce sl q L st h n E) : X l G T d mc ms Q ce sl pc L (.ref y :: .ref x :: st) h n E := by
  intro p e s m args below meth c H locs ls F hl hP hE hS
  subst hq
  exact lv_acmp_eq (rx := some x) (ry := some y) F.1 F.2.1 hd ht (fun z => kt (Option.some.inj z) p e s m args below meth c H locs ls F hl hP hE hS) (fun z => kf (fun w => z (by rw [w])) p e s m args below meth c H locs ls F hl hP hE hS)
theorem X.acmp_ne {x y : Nat} {off : Int} {tgt : Nat} (hd : decode T.2.1 pc = .ok (.if_acmp .ne off, 3)) (ht : (pc : Int) + off = (tgt : Int)) (hq : pc + 3 = q) (kt : ¬ x = y → X l G T d mc ms Q ce sl tgt L st h n E) (kf : x = y → X l G T d mc ms Q ce sl q L st h n E) : X l G T d mc ms Q ce sl pc L (.ref y :: .ref x :: st) h n E := by
  intro p e s m args below meth c H locs ls F hl hP hE hS
  subst hq
  exact lv_acmp_ne (rx := some x) (ry := some y) F.1 F.2.1 hd ht (fun z => kt (fun w => z (by rw [w])) p e s m args below meth c H locs ls F hl hP hE hS) (fun z => kf (Option.some.inj z) p e s m args below meth c H locs ls F hl hP hE hS)
theorem X.tableOut {dflt lo hi : Int} {offs : Array Int} {len : Nat} {x : Int32} {tgt : Nat} (hd : decode T.2.1 pc = .ok (.tableswitch dflt lo hi offs, len)) (hx : x.toInt < lo ∨ hi < x.toInt) (ht : (pc : Int) + dflt = (tgt : Int)) (k : X l G T d mc ms Q ce sl tgt L st h n E) : X l G T d mc ms Q ce sl pc L (.int x :: st) h n E := by
  intro p e s m args below meth c H locs ls F hl hP hE hS
  exact lv_tableOut F.1 F.2.1 hd hx ht (k p e s m args below meth c H locs ls F hl hP hE hS)
theorem X.tableIn {dflt lo hi off : Int} {offs : Array Int} {len : Nat} {x : Int32} {tgt : Nat} (hd : decode T.2.1 pc = .ok (.tableswitch dflt lo hi offs, len)) (h1 : ¬ x.toInt < lo) (h2 : ¬ hi < x.toInt) (ho : offs[(x.toInt - lo).toNat]? = some off) (ht : (pc : Int) + off = (tgt : Int)) (k : X l G T d mc ms Q ce sl tgt L st h n E) : X l G T d mc ms Q ce sl pc L (.int x :: st) h n E := by
  intro p e s m args below meth c H locs ls F hl hP hE hS
  exact lv_tableIn F.1 F.2.1 hd h1 h2 ho ht (k p e s m args below meth c H locs ls F hl hP hE hS)
/-- fewer known locals -/
theorem X.less {L2 : List (Option Value)} (hl2 : lle L2 L) (k : X l G T d mc ms Q ce sl pc L2 st h n E) : X l G T d mc ms Q ce sl pc L st h n E := by
  intro p e s m args below meth c H locs ls F hl hP hE hS
  exact k p e s m args below meth c H locs ls F (hl.less hl2) hP hE hS
/-- another name for what stands there -/
theorem X.to {L2 : List (Option Value)} {st2 : List Value} {h2 : HM} {n2 : Nat} {E2 : va_W} (e1 : L = L2) (e2 : st = st2) (e3 : h = h2) (e4 : n = n2) (e5 : E = E2) (k : X l G T d mc ms Q ce sl pc L2 st2 h2 n2 E2) : X l G T d mc ms Q ce sl pc L st h n E := by
  subst e1; subst e2; subst e3; subst e4; subst e5; exact k
theorem X.wide {ce2 sl2 : Nat} (h1 : ce ≤ ce2) (h2 : sl ≤ sl2) (k : X l G T d mc ms Q ce2 sl2 pc L st h n E) : X l G T d mc ms Q ce sl pc L st h n E := by
  intro p e s m args below meth c H locs ls F hl hP hE hS
  exact W.widen h1 h2 (k p e s m args below meth c H locs ls F hl hP hE hS)

theorem X.iret {x : Int32} (hd : decode T.2.1 pc = .ok (.ireturn, 1)) (hr : T.2.2.2.1 = some .int) (hQ : Q (some (.int x)) h n E) (hc : ce ≤ mc := by omega) (hs : sl ≤ ms := by omega) : X l G T d mc ms Q ce sl pc L [.int x] h n E := by
  intro p e s m args below meth c H locs ls F hl hP hE hS
  refine W.widen hc hs (vx_ret ?_)
  refine W.iret F.1 F.2.1 (F.2.2.2.2.2.1.trans hr) ?_ hS.2.2 hd F.2.2.2.2.2.2.1
  intro t ht hW
  exact ⟨⟨_, h, n, E, rfl, by rw [ht]; exact hP, by rw [ht]; exact hE, hQ⟩, hS.F ht⟩
theorem X.zret {ty : FieldType} {x : Int32} (hn : narrow ty (.int x) = .int x) (hd : decode T.2.1 pc = .ok (.ireturn, 1)) (hr : T.2.2.2.1 = some ty) (hQ : Q (some (.int x)) h n E) (hc : ce ≤ mc := by omega) (hs : sl ≤ ms := by omega) : X l G T d mc ms Q ce sl pc L [.int x] h n E := by
  intro p e s m args below meth c H locs ls F hl hP hE hS
  refine W.widen hc hs (vx_ret ?_)
  refine W.zret F.1 F.2.1 (F.2.2.2.2.2.1.trans hr) hn ?_ hS.2.2 hd F.2.2.2.2.2.2.1
  intro t ht hW
  exact ⟨⟨_, h, n, E, rfl, by rw [ht]; exact hP, by rw [ht]; exact hE, hQ⟩, hS.F ht⟩
theorem X.vret  (hd : decode T.2.1 pc = .ok (.return_, 1)) (hr : T.2.2.2.1 = none) (hQ : Q none h n E) (hc : ce ≤ mc := by omega) (hs : sl ≤ ms := by omega) : X l G T d mc ms Q ce sl pc L [] h n E := by
  intro p e s m args below meth c H locs ls F hl hP hE hS
  refine W.widen hc hs (vx_ret ?_)
  refine W.vret F.1 F.2.1 (F.2.2.2.2.2.1.trans hr) ?_ hS.2.2 hd F.2.2.2.2.2.2.1
  intro t ht hW
  exact ⟨⟨_, h, n, E, rfl, by rw [ht]; exact hP, by rw [ht]; exact hE, hQ⟩, hS.F ht⟩
theorem X.fret {x : UInt32} (hd : decode T.2.1 pc = .ok (.freturn, 1)) (hr : T.2.2.2.1 = some .float) (hQ : Q (some (.float x)) h n E) (hc : ce ≤ mc := by omega) (hs : sl ≤ ms := by omega) : X l G T d mc ms Q ce sl pc L [.float x] h n E := by
  intro p e s m args below meth c H locs ls F hl hP hE hS
  refine W.widen hc hs (vx_ret ?_)
  refine W.fret F.1 F.2.1 (F.2.2.2.2.2.1.trans hr) ?_ hS.2.2 hd F.2.2.2.2.2.2.1
  intro t ht hW
  exact ⟨⟨_, h, n, E, rfl, by rw [ht]; exact hP, by rw [ht]; exact hE, hQ⟩, hS.F ht⟩
theorem X.dret {x : UInt64} (hd : decode T.2.1 pc = .ok (.dreturn, 1)) (hr : T.2.2.2.1 = some .double) (hQ : Q (some (.double x)) h n E) (hc : ce ≤ mc := by omega) (hs : sl ≤ ms := by omega) : X l G T d mc ms Q ce sl pc L [.double x] h n E := by
  intro p e s m args below meth c H locs ls F hl hP hE hS
  refine W.widen hc hs (vx_ret ?_)
  refine W.dret F.1 F.2.1 (F.2.2.2.2.2.1.trans hr) ?_ hS.2.2 hd F.2.2.2.2.2.2.1
  intro t ht hW
  exact ⟨⟨_, h, n, E, rfl, by rw [ht]; exact hP, by rw [ht]; exact hE, hQ⟩, hS.F ht⟩
theorem X.aret {x : Nat} {C : String} (hd : decode T.2.1 pc = .ok (.areturn, 1)) (hr : T.2.2.2.1 = some (.object C)) (hQ : Q (some (.ref x)) h n E) (hc : ce ≤ mc := by omega) (hs : sl ≤ ms := by omega) : X l G T d mc ms Q ce sl pc L [.ref x] h n E := by
  intro p e s m args below meth c H locs ls F hl hP hE hS
  refine W.widen hc hs (vx_ret ?_)
  refine W.aret F.1 F.2.1 (F.2.2.2.2.2.1.trans hr) (Or.inl ⟨C, rfl⟩) (Or.inr ⟨x, rfl⟩) ?_ hS.2.2 hd F.2.2.2.2.2.2.1
  intro t ht hW
  exact ⟨⟨_, h, n, E, rfl, by rw [ht]; exact hP, by rw [ht]; exact hE, hQ⟩, hS.F ht⟩
end XR
