/-! X: what stands below B, the members of Math, Object.<init>; rows that V has no need of -/
section XB
variable {l : Launch} {G : GG} {T : MT} {d mc ms ce sl : Nat} {Q : PE} {pc q : Nat} {L : List (Option Value)} {st st0 : List Value} {h : HM} {n : Nat} {E : va_W}
theorem X.gets {idx : Nat} {C nm ds : String} {v : Value} (hd : decode T.2.1 pc = .ok (.getstatic idx, 3)) (hm : (C, nm, ds, v) ∈ ev_st (gA G)) (hw : Cond.fieldLink T.1.cls idx C nm ds ∈ BW) (hq : pc + 3 = q) (kk : X l G T d mc ms Q ce sl q L (v :: st) h n E) : X l G T d mc ms Q ce sl pc L st h n E := by
  intro p e s m args below meth c H locs ls F hl hP hE hS
  subst hq
  have hV : EVr (FrX G) G s s.heap := F.2.2.2.2.2.2.2.2.2.1
  exact va_gets F.1 F.2.1 (hV.2.2.2.1 _ hm) hS F.2.2.2.1 (F.2.2.2.2.1 _ hw) (fun x hx => hx) hd (kk p e s m args below meth c H locs ls F hl hP hE hS)
theorem X.getO {idx a : Nat} {o C nm ds : String} {v : Value} (hd : decode T.2.1 pc = .ok (.getfield idx, 3)) (hm : (o, nm, ds, v, a) ∈ ev_of (gA G)) (ho : o = C) (hw : Cond.fieldLink T.1.cls idx C nm ds ∈ BW) (hq : pc + 3 = q) (kk : X l G T d mc ms Q ce sl q L (v :: st) h n E) : X l G T d mc ms Q ce sl pc L (.ref a :: st) h n E := by
  intro p e s m args below meth c H locs ls F hl hP hE hS
  subst hq
  subst ho
  have hV : EVr (FrX G) G s s.heap := F.2.2.2.2.2.2.2.2.2.1
  exact vk_getf F.1 F.2.1 (hV.2.2.2.2.1 _ hm) hS F.2.2.2.1 (F.2.2.2.2.1 _ hw) (fun x hx => hx) hd (kk p e s m args below meth c H locs ls F hl hP hE hS)
theorem X.tald {a N i : Nat} {f : Nat → Value} {x : Int32} {v : Value} (hd : decode T.2.1 pc = .ok (.iaload, 1)) (hm : (FieldType.int, a, N, f) ∈ ev_ta (gA G)) (hi : i < N) (hN : N < 2 ^ 31) (hx : x = nI i) (hf : f i = v) (hq : pc + 1 = q) (kk : X l G T d mc ms Q ce sl q L (v :: st) h n E) : X l G T d mc ms Q ce sl pc L (.int x :: .ref a :: st) h n E := by
  intro p e s m args below meth c H locs ls F hl hP hE hS
  subst hq; subst hx
  have hV : EVr (FrX G) G s s.heap := F.2.2.2.2.2.2.2.2.2.1
  exact va_ti F.1 F.2.1 (hV.2.2.2.2.2.2.1 _ hm) hS (vp_in_nI hi hN) (by rw [nI_clamp (by omega)]; exact hf) hd (kk p e s m args below meth c H locs ls F hl hP hE hS)
theorem X.tbald {a N i : Nat} {f : Nat → Value} {x : Int32} {v : Value} (hd : decode T.2.1 pc = .ok (.baload, 1)) (hm : (FieldType.byte, a, N, f) ∈ ev_ta (gA G)) (hi : i < N) (hN : N < 2 ^ 31) (hx : x = nI i) (hf : f i = v) (hq : pc + 1 = q) (kk : X l G T d mc ms Q ce sl q L (v :: st) h n E) : X l G T d mc ms Q ce sl pc L (.int x :: .ref a :: st) h n E := by
  intro p e s m args below meth c H locs ls F hl hP hE hS
  subst hq; subst hx
  have hV : EVr (FrX G) G s s.heap := F.2.2.2.2.2.2.2.2.2.1
  exact va_tb F.1 F.2.1 (hV.2.2.2.2.2.2.1 _ hm) hS (vp_in_nI hi hN) (by rw [nI_clamp (by omega)]; exact hf) hd (kk p e s m args below meth c H locs ls F hl hP hE hS)
theorem X.tlen {a N : Nat} {ty : FieldType} {f : Nat → Value} {v : Int32} (hd : decode T.2.1 pc = .ok (.arraylength, 1)) (hm : (ty, a, N, f) ∈ ev_ta (gA G)) (hv : Int32.ofNat N = v) (hq : pc + 1 = q) (kk : X l G T d mc ms Q ce sl q L (.int v :: st) h n E) : X l G T d mc ms Q ce sl pc L (.ref a :: st) h n E := by
  intro p e s m args below meth c H locs ls F hl hP hE hS
  subst hq
  have hV : EVr (FrX G) G s s.heap := F.2.2.2.2.2.2.2.2.2.1
  exact va_tlen F.1 F.2.1 (hV.2.2.2.2.2.2.1 _ hm) hS hv hd (kk p e s m args below meth c H locs ls F hl hP hE hS)
theorem X.sld {i : Nat} {x : Int32} (hd : decode T.2.1 pc = .ok (.iaload, 1)) (hi : i < gL G) (hN : gL G < 2 ^ 31) (hx : x = nI i) (hq : pc + 1 = q) (kk : X l G T d mc ms Q ce sl q L (.int (gX G i) :: st) h n E) : X l G T d mc ms Q ce sl pc L (.int x :: .ref (gb G) :: st) h n E := by
  intro p e s m args below meth c H locs ls F hl hP hE hS
  subst hq; subst hx
  have hV : EVr (FrX G) G s s.heap := F.2.2.2.2.2.2.2.2.2.1
  refine va_sld F.1 F.2.1 hV.1.1 hV.lt hV.1.2 hS (vp_in_nI hi hN) hd ?_
  rw [nI_clamp (by omega)]
  exact kk p e s m args below meth c H locs ls F hl hP hE hS
theorem X.slen (hd : decode T.2.1 pc = .ok (.arraylength, 1)) (hq : pc + 1 = q) (kk : X l G T d mc ms Q ce sl q L (.int (nI (gL G)) :: st) h n E) : X l G T d mc ms Q ce sl pc L (.ref (gb G) :: st) h n E := by
  intro p e s m args below meth c H locs ls F hl hP hE hS
  subst hq
  have hV : EVr (FrX G) G s s.heap := F.2.2.2.2.2.2.2.2.2.1
  exact va_slen F.1 F.2.1 hV.1.1 hV.lt hV.1.2 hS hd (kk p e s m args below meth c H locs ls F hl hP hE hS)
theorem X.ldcS {i j : Nat} {tx : String} (hd : decode T.2.1 pc = .ok (.ldc i, 2)) (hj : j < ev_ks.length) (hk : ev_ks.getD j ("", 0) = (T.1.cls, i)) (hq : pc + 2 = q) (kk : X l G T d mc ms Q ce sl q L (.ref (gA G (100 + j)) :: st) h n E) : X l G T d mc ms Q ce sl pc L st h n E := by
  intro p e s m args below meth c H locs ls F hl hP hE hS
  subst hq
  have hV : EVr (FrX G) G s s.heap := F.2.2.2.2.2.2.2.2.2.1
  have hR := hV.2.2.2.2.2.2.2.1.1 j hj
  rw [hk] at hR
  exact va_ldcS F.1 F.2.1 F.2.2.2.1 hR hd (kk p e s m args below meth c H locs ls F hl hP hE hS)
theorem X.objInit {idx a : Nat} (hd : decode T.2.1 pc = .ok (.invokespecial idx, 3)) (hw : Cond.methodLink T.1.cls idx Lib.objectInit ∈ BW) (h1 : Cond.instanceMethod Lib.objectInit ∈ BW) (h2 : Cond.code Lib.objectInit ⟨#[0xb1]⟩ 1 none ∈ BW) (h8 : cat8 st = true) (hdd : 1 ≤ d) (hq : pc + 3 = q) (kk : X l G T d mc ms Q ce sl q L st h n E) : X l G T d mc ms Q ce sl pc L (.ref a :: st) h n E := by
  intro p e s m args below meth c H locs ls F hl hP hE hS
  subst hq
  have hts := F.2.2.2.2.1
  have h9 := lv_room (pc := pc) (m := m) (ls := ls) (rest := .ref a :: st) (of_decide_eq_true h8)
  refine W.objInit F.1 F.2.1 F.2.2.2.1 (hts _ hw) (hts _ h1) (hts _ h2) rfl (hl.1.trans F.2.2.1.symm) rfl hd hdd ?_ (kk p e s m args below meth c H locs ls F hl hP hE hS)
  show _ ≤ 38 * d
  omega
theorem X.mmax {idx : Nat} {x y : Int32} (hd : decode T.2.1 pc = .ok (.invokestatic idx, 3)) (hw : Cond.methodLink T.1.cls idx Lib.Math.max.name ∈ BW) (hs : Cond.static Lib.Math.max.name ∈ BW) (hini : Cond.initialized "java/lang/Math" ∈ BW) (hc : Cond.code Lib.Math.max.name Lib.Math.max.code 2 (some .int) ∈ BW) (h8 : cat8 st = true) (hdd : 1 ≤ d) (hm1 : ce ≤ mc) (hm2 : sl ≤ ms) (hq : pc + 3 = q) (kk : X l G T d mc ms Q ce sl q L (.int (if x < y then y else x) :: st) h n E) : X l G T d mc ms Q ce sl pc L (.int y :: .int x :: st) h n E := by
  intro p e s m args below meth c H locs ls F hl hP hE hS
  subst hq
  have hts := F.2.2.2.2.1
  refine va_mmax F.1 F.2.1 (F.2.2.1.trans hl.1.symm) F.2.2.2.1 (hts _ hw) (hts _ hs) (hts _ hini) (hts _ hc) hdd ?_ hm1 hm2 hd (kk p e s m args below meth c H locs ls F hl hP hE hS)
  show _ ≤ 38 * d
  have h9 := of_decide_eq_true h8
  omega
theorem X.mmin {idx : Nat} {x y : Int32} (hd : decode T.2.1 pc = .ok (.invokestatic idx, 3)) (hw : Cond.methodLink T.1.cls idx Lib.Math.min.name ∈ BW) (hs : Cond.static Lib.Math.min.name ∈ BW) (hini : Cond.initialized "java/lang/Math" ∈ BW) (hc : Cond.code Lib.Math.min.name Lib.Math.min.code 2 (some .int) ∈ BW) (h8 : cat8 st = true) (hdd : 1 ≤ d) (hm1 : ce ≤ mc) (hm2 : sl ≤ ms) (hq : pc + 3 = q) (kk : X l G T d mc ms Q ce sl q L (.int (if y < x then y else x) :: st) h n E) : X l G T d mc ms Q ce sl pc L (.int y :: .int x :: st) h n E := by
  intro p e s m args below meth c H locs ls F hl hP hE hS
  subst hq
  have hts := F.2.2.2.2.1
  refine va_mmin F.1 F.2.1 (F.2.2.1.trans hl.1.symm) F.2.2.2.1 (hts _ hw) (hts _ hs) (hts _ hini) (hts _ hc) hdd ?_ hm1 hm2 hd (kk p e s m args below meth c H locs ls F hl hP hE hS)
  show _ ≤ 38 * d
  have h9 := of_decide_eq_true h8
  omega
theorem X.mabs {idx : Nat} {x : Int32} (hd : decode T.2.1 pc = .ok (.invokestatic idx, 3)) (hw : Cond.methodLink T.1.cls idx Lib.Math.abs.name ∈ BW) (hs : Cond.static Lib.Math.abs.name ∈ BW) (hini : Cond.initialized "java/lang/Math" ∈ BW) (hc : Cond.code Lib.Math.abs.name Lib.Math.abs.code 1 (some .int) ∈ BW) (h8 : cat8 st = true) (hdd : 1 ≤ d) (hm1 : ce ≤ mc) (hm2 : sl ≤ ms) (hq : pc + 3 = q) (kk : X l G T d mc ms Q ce sl q L (.int (if 0 ≤ x then x else 0 - x) :: st) h n E) : X l G T d mc ms Q ce sl pc L (.int x :: st) h n E := by
  intro p e s m args below meth c H locs ls F hl hP hE hS
  subst hq
  have hts := F.2.2.2.2.1
  refine va_mabs F.1 F.2.1 (F.2.2.1.trans hl.1.symm) F.2.2.2.1 (hts _ hw) (hts _ hs) (hts _ hini) (hts _ hc) hdd ?_ hm1 hm2 hd (kk p e s m args below meth c H locs ls F hl hP hE hS)
  show _ ≤ 38 * d
  have h9 := of_decide_eq_true h8
  omega
theorem X.i2c {x : Int32} (hd : decode T.2.1 pc = .ok (.i2c, 1)) (hq : pc + 1 = q) (k : X l G T d mc ms Q ce sl q L (.int (x.toUInt32 % 65536).toInt32 :: st) h n E) : X l G T d mc ms Q ce sl pc L (.int x :: st) h n E := by
  intro p e s m args below meth c H locs ls F hl hP hE hS
  subst hq
  exact lv_i2c F.1 F.2.1 hd rfl (k p e s m args below meth c H locs ls F hl hP hE hS)
theorem X.getsQ {idx : Nat} (hd : decode T.2.1 pc = .ok (.getstatic idx, 3)) (hw : Cond.fieldLink T.1.cls idx "jdk/internal/util/Preconditions" "SIOOBE_FORMATTER" "Ljava/util/function/BiFunction;" ∈ BW) (hq : pc + 3 = q) (kk : ∀ r : Option Nat, X l G T d mc ms Q ce sl q L (va_rf r :: st) h n E) : X l G T d mc ms Q ce sl pc L st h n E := by
  intro p e s m args below meth c H locs ls F hl hP hE hS
  subst hq
  have hV : EVr (FrX G) G s s.heap := F.2.2.2.2.2.2.2.2.2.1
  rcases hV.2.2.2.2.2.2.2.2 with hz | ⟨t, hz⟩
  · exact va_gets F.1 F.2.1 hz hS F.2.2.2.1 (F.2.2.2.2.1 _ hw) (fun x hx => hx) hd (kk none p e s m args below meth c H locs ls F hl hP hE hS)
  · exact va_gets F.1 F.2.1 hz hS F.2.2.2.1 (F.2.2.2.2.1 _ hw) (fun x hx => hx) hd (kk (some t) p e s m args below meth c H locs ls F hl hP hE hS)
theorem X.dup_x1 {x y : Value} (hd : decode T.2.1 pc = .ok (.dup_x1, 1)) (hx : x.category = 1) (hy : y.category = 1) (hq : pc + 1 = q) (k : X l G T d mc ms Q ce sl q L (x :: y :: x :: st) h n E) : X l G T d mc ms Q ce sl pc L (x :: y :: st) h n E := by
  intro p e s m args below meth c H locs ls F hl hP hE hS
  subst hq
  exact lv_dup_x1 F.1 F.2.1 hd hx hy (k p e s m args below meth c H locs ls F hl hP hE hS)
theorem X.ifnonnull {x : Nat} {off : Int} {tgt : Nat} (hd : decode T.2.1 pc = .ok (.ifnonnull off, 3)) (ht : (pc : Int) + off = (tgt : Int)) (k : X l G T d mc ms Q ce sl tgt L st h n E) : X l G T d mc ms Q ce sl pc L (.ref x :: st) h n E := by
  intro p e s m args below meth c H locs ls F hl hP hE hS
  exact lv_ifnonnull F.1 F.2.1 hd ht (k p e s m args below meth c H locs ls F hl hP hE hS)
/-- what is known of E -/
theorem X.ex {E2 : va_W} (hs : ∀ H, XE G E H → XE G E2 H) (k : X l G T d mc ms Q ce sl pc L st h n E2) : X l G T d mc ms Q ce sl pc L st h n E := by
  intro p e s m args below meth c H locs ls F hl hP hE hS
  exact k p e s m args below meth c H locs ls F hl hP (hs H hE) hS
theorem X.hm {h2 : HM} (e9 : ∀ a, a < n → h a = h2 a) (k : X l G T d mc ms Q ce sl pc L st h2 n E) : X l G T d mc ms Q ce sl pc L st h n E := by
  intro p e s m args below meth c H locs ls F hl hP hE hS
  exact k p e s m args below meth c H locs ls F hl (hP.same e9) hE hS
theorem X.get {idx ci j i a : Nat} {fs : List Value} {C : String} {TT : u_T} {N : Nat} {v : Value} {ref : String} (hd : decode T.2.1 pc = .ok (.getfield idx, 3)) (hj : E[j]? = some (a, .inr (ci, fs))) (hci : vwCl[ci]? = some (C, TT, N)) (hin : ∀ w ∈ u_ws C TT N, w ∈ BW) (hi : i < N) (hdc : (TT i).1 = ref) (hw : Cond.fieldLink T.1.cls idx ref (TT i).2.1 (TT i).2.2.1 ∈ BW) (hv : fs[i]? = some v) (hq : pc + 3 = q) (kk : X l G T d mc ms Q ce sl q L (v :: st) h n E) : X l G T d mc ms Q ce sl pc L (.ref a :: st) h n E := by
  intro p e s m args below meth c H locs ls F hl hP hE hS
  subst hq
  have hKV : KV G s := F.2.2.2.2.2.2.2.2.1
  exact va_get F.1 F.2.1 F.2.2.2.2.1 hin F.2.2.2.1 hKV (va_P1 (hE.1 j _ hj)) 0 rfl hci i hi (F.2.2.2.2.1 _ hw) (fun x hx => by rw [hdc] at hx; exact hx) hv hd (kk p e s m args below meth c H locs ls F hl hP hE hS)
end XB
