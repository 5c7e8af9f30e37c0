/-! makings, throws, catches, members of the library -/
section VM
variable {l : Launch} {G : GG} {T : MT} {d mc ms ce sl : Nat} {Q : PQ} {pc q : Nat} {L : List (Option Value)} {st : List Value} {h : HM} {n : Nat}
theorem V.new {idx ci N : Nat} {C : String} {TT : u_T} {tt : Nat → FieldType} {fs : List Value} (hd : decode T.2.1 pc = .ok (.new idx, 3)) (hci : vwCl[ci]? = some (C, TT, N)) (hin : ∀ w ∈ u_ws C TT N, w ∈ BW) (hty : ∀ k, k < N → parseFieldDescriptor (TT k).2.2.1 = some (tt k)) (hcl : Cond.classLink T.1.cls idx C ∈ BW) (hins : Cond.instantiable C N ∈ BW) (hini : Cond.initialized C ∈ BW) (hfs : ∀ j, j < N → defaultValue (tt j) = vp_V fs j) (hn : n < NC) (hm1 : ce + 1 ≤ mc) (hm2 : sl + N ≤ ms) (hq : pc + 3 = q) (kk : V l G T d mc ms Q (ce + 1) (sl + N) q L (.ref (gB G + n) :: st) (hset h n (.inr (ci, fs))) (n + 1)) : V l G T d mc ms Q ce sl pc L st h n := by
  intro p e s m args below meth c H locs ls F hl hP hS
  subst hq
  have hKV : KV G s := F.2.2.2.2.2.2.2.2.1
  have hts := F.2.2.2.2.1
  have hKn := hKV.1 ci _ hci
  have hsz := hP.at_end hn
  refine W.newcK F.1 F.2.1 F.2.2.2.1 (hts _ hcl) (hts _ hins) (hts _ hini) rfl hd hm1 hm2 hKn.2.1 rfl fun H1 kC hkC e1 z1 o1 => ?_
  have hk := kk p e s m args below meth c H1 locs ls F hl (hP.push hn ⟨_, hci, by
    have e2 := e1
    rw [hsz] at e2
    exact (u_born tt hts hin hKn hkC e2 hty).to hfs⟩ z1 o1) ⟨Nat.le_trans hS.1 (by omega), fun x h1 h2 => (o1 x (Nat.lt_of_lt_of_le h1 hS.1)).trans (hS.2.1 x h1 h2), hS.2.2⟩
  rw [hsz]
  exact hk
theorem V.newarr {atype : ArrayType} {t0 N : Nat} {ty : FieldType} {a0 : vp_A} {x : Int32} (hd : decode T.2.1 pc = .ok (.newarray atype, 2)) (harr : (Cond.arrayClass (newarray.typeOf atype)) ∈ BW) (hty : newarray.typeOf atype = ty) (hpr : match ty with | .object _ => False | _ => True) (ht : (tysG G)[t0]? = some (gC G t0, ty)) (ha : ∀ cA : ClassId, vp_cell cA a0 = arrV cA N (fun _ => defaultValue ty)) (hx : x = nI N) (hN : N < 65536) (hb9 : N * componentBytes ty ≤ 536870912) (hn : n < NC) (hm1 : ce + 1 ≤ mc) (hm2 : sl + N ≤ ms) (hq : pc + 2 = q) (kk : V l G T d mc ms Q (ce + 1) (sl + N) q L (.ref (gB G + n) :: st) (hset h n (.inl (gC G t0, a0))) (n + 1)) : V l G T d mc ms Q ce sl pc L (.int x :: st) h n := by
  intro p e s m args below meth c H locs ls F hl hP hS
  subst hq; subst hty; subst hx
  have hKV : KV G s := F.2.2.2.2.2.2.2.2.1
  have hts := F.2.2.2.2.1
  have hsz := hP.at_end hn
  refine va_newaK F.1 F.2.1 (hts _ harr) rfl hd rfl (nI_pos (by omega)) (nI_clamp (by omega)) hb9 hm1 hm2 hsz fun H1 cA e1 z1 o1 hAr hNm => ?_
  have hcA : cA = gC G t0 := by
    have h2 := (hKV.2 t0 _ ht).2
    have h3 : s.vm.findClass ("[" ++ (newarray.typeOf atype).toString) = some (gC G t0) := by
      cases atype <;> exact h2
    exact Option.some.inj (hNm.symm.trans h3)
  subst hcA
  refine kk p e s m args below meth c H1 locs ls F hl (hP.push hn ?_ (by rw [z1, hsz]) (fun q hq => o1 q (by rw [← hsz]; exact hq))) ⟨Nat.le_trans hS.1 (by omega), fun x h1 h2 => (o1 x (by have := hS.1; omega)).trans (hS.2.1 x h1 h2), hS.2.2⟩
  show H1[gB G + n]? = some (vp_cell _ _)
  rw [ha]
  exact e1
theorem V.newarrQ {idx t0 N : Nat} {C : String} {x : Int32} (hd : decode T.2.1 pc = .ok (.anewarray idx, 3)) (hcl : Cond.classLink T.1.cls idx C ∈ BW) (hov : ∀ U : State, ev_sr (gA G) U → va_AO C U) (ht : (tysG G)[t0]? = some (gC G t0, .object C)) (hx : x = nI N) (hN : N < 65536) (hn : n < NC) (hm1 : ce + 1 ≤ mc) (hm2 : sl + N ≤ ms) (hq : pc + 3 = q) (kk : V l G T d mc ms Q (ce + 1) (sl + N) q L (.ref (gB G + n) :: st) (hset h n (.inl (gC G t0, N, .inr (.inr (.inr (.inr (fun _ => none))))))) (n + 1)) : V l G T d mc ms Q ce sl pc L (.int x :: st) h n := by
  intro p e s m args below meth c H locs ls F hl hP hS
  subst hq; subst hx
  have hKV : KV G s := F.2.2.2.2.2.2.2.2.1
  have hE : EV G s s.heap := F.2.2.2.2.2.2.2.2.2.1
  have hts := F.2.2.2.2.1
  have hsz := hP.at_end hn
  have hcl9 : (nI N).toNatClampNeg = N := nI_clamp (by omega)
  refine W.anew F.1 F.2.1 F.2.2.2.1 (hts _ hcl) (va_AO.use (hov s hE.2.2.2.2.2.2.2.1)) rfl hd rfl (nI_pos (by omega)) (by rw [hcl9]; omega) hm1 (by rw [hcl9]; exact hm2) fun cA kA comp f1 f2 f3 f4 => ?_
  rw [hcl9]
  generalize hH1 : H.push ({ cls := cA, slots := Array.replicate N .null, vm := .none } : Cell) = H1
  have z1 : H1.size = H.size + 1 := by rw [← hH1, Array.size_push]
  have e1 : H1[H.size]? = some (arrV cA N (fun _ => .null)) := by rw [← hH1, Array.getElem?_push_size, ← arrV_new]
  have o1 : ∀ q : Nat, q < H.size → H1[q]? = H[q]? := fun q hq => by rw [← hH1, Array.getElem?_push, if_neg (Nat.ne_of_lt hq)]
  have hcA : cA = gC G t0 := by
    obtain ⟨kA2, comp2, g1, g2, g3, g4⟩ := (hKV.2 t0 _ ht).2
    exact Option.some.inj (f1.symm.trans g4)
  subst hcA
  have hk := kk p e s m args below meth c H1 locs ls F hl (hP.push hn (by
    show H1[gB G + n]? = some (vp_cell _ _)
    rw [vp_cell_q, ← hsz]
    exact e1) z1 o1) ⟨Nat.le_trans hS.1 (by omega), fun x h1 h2 => (o1 x (Nat.lt_of_lt_of_le h1 hS.1)).trans (hS.2.1 x h1 h2), hS.2.2⟩
  rw [hsz]
  exact hk
theorem V.objInit {idx a : Nat} (hd : decode T.2.1 pc = .ok (.invokespecial idx, 3)) (hw : Cond.methodLink T.1.cls idx Lib.objectInit ∈ BW) (h1 : Cond.instanceMethod Lib.objectInit ∈ BW) (h2 : Cond.code Lib.objectInit ⟨#[0xb1]⟩ 1 none ∈ BW) (h8 : cat8 st = true) (hdd : 1 ≤ d) (hq : pc + 3 = q) (kk : V l G T d mc ms Q ce sl q L st h n) : V l G T d mc ms Q ce sl pc L (.ref a :: st) h n := by
  intro p e s m args below meth c H locs ls F hl hP hS
  subst hq
  have hts := F.2.2.2.2.1
  have h9 := lv_room (pc := pc) (m := m) (ls := ls) (rest := .ref a :: st) (of_decide_eq_true h8)
  refine W.objInit F.1 F.2.1 F.2.2.2.1 (hts _ hw) (hts _ h1) (hts _ h2) rfl (hl.1.trans F.2.2.1.symm) rfl hd hdd ?_ (kk p e s m args below meth c H locs ls F hl hP hS)
  show _ ≤ 38 * d
  omega
theorem V.copy {k0 k1 N0 N1 x y z t0 idx : Nat} {ty : FieldType} {f g : Nat → Int32} {sp dp nn : Int32} (hd : decode T.2.1 pc = .ok (.invokestatic idx, 3)) (hw : Cond.methodLink T.1.cls idx arraycopyName ∈ BW) (hnat : Cond.native arraycopyName ∈ BW) (hstt : Cond.static arraycopyName ∈ BW) (hini : Cond.initialized "java/lang/System" ∈ BW) (hk0 : h k0 = .inl (gC G t0, N0, .inl f)) (hk1 : h k1 = .inl (gC G t0, N1, .inl g)) (hn : n = NC) (hkn0 : k0 < NC) (hkn1 : k1 < NC) (ht : (tysG G)[t0]? = some (gC G t0, ty)) (hpr : refKind ty = false) (hx : sp = nI x) (hy : dp = nI y) (hz : nn = nI z) (h4 : x + z ≤ N0) (h5 : y + z ≤ N1) (hN0 : N0 < 65536) (hN1 : N1 < 65536) (hfit : ∀ i, fits ty (.int (f i)) = true) (h8 : cat8 st = true) (hdd : 2 ≤ d) (hq : pc + 3 = q) (kk : V l G T d mc ms Q ce sl q L st (hset h k1 (.inl (gC G t0, N1, .inl (va_cpy f g x y z)))) n) : V l G T d mc ms Q ce sl pc L (.int nn :: .int dp :: .ref (gB G + k1) :: .int sp :: .ref (gB G + k0) :: st) h n := by
  intro p e s m args below meth c H locs ls F hl hP hS
  subst hq; subst hx; subst hy; subst hz; subst hn
  have hKV : KV G s := F.2.2.2.2.2.2.2.2.1
  have hts := F.2.2.2.2.1
  have c1 : (nI x).toNatClampNeg = x := nI_clamp (by omega)
  have c2 : (nI y).toNatClampNeg = y := nI_clamp (by omega)
  have c3 : (nI z).toNatClampNeg = z := nI_clamp (by omega)
  refine va_copyi F.1 F.2.1 (F.2.2.1.trans hl.1.symm) F.2.2.2.1 (hts _ hw) (hts _ hnat) (hts _ hstt) (hts _ hini) hKV hP.P (wof_D (Nat.le_refl _)) hS k0 k1 t0 t0 (by rw [wof_get hkn0, hk0]) (by rw [wof_get hkn1, hk1]) ht ht hpr (nI_pos (by omega)) (nI_pos (by omega)) (nI_pos (by omega)) (by rw [c1, c3]; exact h4) (by rw [c2, c3]; exact h5) (fun i _ => hfit _) ?_ ?_ hd (fun H1 locs1 hP1 hD1 hS1 => ?_)
  · show 1 ≤ d
    omega
  · show _ ≤ 38 * d
    have h9 := of_decide_eq_true h8
    have h10 : nativeFrameWords "java/lang/System" "arraycopy" 5 + 11 ≤ 60 := by decide +kernel
    omega
  · rw [c1, c2, c3, wof_set hkn1] at hP1
    exact kk p e s m args below meth c H1 locs1 ls F hl (HP.ofP hP1) hS1
theorem V.mmax {idx : Nat} {x y : Int32} (hd : decode T.2.1 pc = .ok (.invokestatic idx, 3)) (hw : Cond.methodLink T.1.cls idx Lib.Math.max.name ∈ BW) (hs : Cond.static Lib.Math.max.name ∈ BW) (hini : Cond.initialized "java/lang/Math" ∈ BW) (hc : Cond.code Lib.Math.max.name Lib.Math.max.code 2 (some .int) ∈ BW) (h8 : cat8 st = true) (hdd : 1 ≤ d) (hm1 : ce ≤ mc) (hm2 : sl ≤ ms) (hq : pc + 3 = q) (kk : V l G T d mc ms Q ce sl q L (.int (if x < y then y else x) :: st) h n) : V l G T d mc ms Q ce sl pc L (.int y :: .int x :: st) h n := by
  intro p e s m args below meth c H locs ls F hl hP hS
  subst hq
  have hts := F.2.2.2.2.1
  refine va_mmax F.1 F.2.1 (F.2.2.1.trans hl.1.symm) F.2.2.2.1 (hts _ hw) (hts _ hs) (hts _ hini) (hts _ hc) hdd ?_ hm1 hm2 hd (kk p e s m args below meth c H locs ls F hl hP hS)
  show _ ≤ 38 * d
  have h9 := of_decide_eq_true h8
  omega
theorem V.mmin {idx : Nat} {x y : Int32} (hd : decode T.2.1 pc = .ok (.invokestatic idx, 3)) (hw : Cond.methodLink T.1.cls idx Lib.Math.min.name ∈ BW) (hs : Cond.static Lib.Math.min.name ∈ BW) (hini : Cond.initialized "java/lang/Math" ∈ BW) (hc : Cond.code Lib.Math.min.name Lib.Math.min.code 2 (some .int) ∈ BW) (h8 : cat8 st = true) (hdd : 1 ≤ d) (hm1 : ce ≤ mc) (hm2 : sl ≤ ms) (hq : pc + 3 = q) (kk : V l G T d mc ms Q ce sl q L (.int (if y < x then y else x) :: st) h n) : V l G T d mc ms Q ce sl pc L (.int y :: .int x :: st) h n := by
  intro p e s m args below meth c H locs ls F hl hP hS
  subst hq
  have hts := F.2.2.2.2.1
  refine va_mmin F.1 F.2.1 (F.2.2.1.trans hl.1.symm) F.2.2.2.1 (hts _ hw) (hts _ hs) (hts _ hini) (hts _ hc) hdd ?_ hm1 hm2 hd (kk p e s m args below meth c H locs ls F hl hP hS)
  show _ ≤ 38 * d
  have h9 := of_decide_eq_true h8
  omega
theorem V.mabs {idx : Nat} {x : Int32} (hd : decode T.2.1 pc = .ok (.invokestatic idx, 3)) (hw : Cond.methodLink T.1.cls idx Lib.Math.abs.name ∈ BW) (hs : Cond.static Lib.Math.abs.name ∈ BW) (hini : Cond.initialized "java/lang/Math" ∈ BW) (hc : Cond.code Lib.Math.abs.name Lib.Math.abs.code 1 (some .int) ∈ BW) (h8 : cat8 st = true) (hdd : 1 ≤ d) (hm1 : ce ≤ mc) (hm2 : sl ≤ ms) (hq : pc + 3 = q) (kk : V l G T d mc ms Q ce sl q L (.int (if 0 ≤ x then x else 0 - x) :: st) h n) : V l G T d mc ms Q ce sl pc L (.int x :: st) h n := by
  intro p e s m args below meth c H locs ls F hl hP hS
  subst hq
  have hts := F.2.2.2.2.1
  refine va_mabs F.1 F.2.1 (F.2.2.1.trans hl.1.symm) F.2.2.2.1 (hts _ hw) (hts _ hs) (hts _ hini) (hts _ hc) hdd ?_ hm1 hm2 hd (kk p e s m args below meth c H locs ls F hl hP hS)
  show _ ≤ 38 * d
  have h9 := of_decide_eq_true h8
  omega
/-- what a throw of one of the three classes needs of the tables -/
def thN : List String := ["java/lang/RuntimeException", "java/lang/Exception"]
def ThrowOk (own : String) (ik ic : Nat) (cls : String) : Prop := Bundle.fit cls = true ∧ (∀ w ∈ (vx_atS own ic cls thN).filter goodWord, w ∈ BW) ∧ (∀ w ∈ (vx_atS own ic cls thN).filter (fun w => !goodWord w), w ∈ Cond.castable cls cls :: ev_dc.map Cond.declares) ∧ (cls, cls) ∈ ev_ca ∧ Cond.classLink own ik cls ∈ BW ∧ Cond.initialized cls ∈ BW ∧ (∀ w ∈ Cond.classLink own ik cls :: Cond.initialized cls :: vx_atS own ic cls thN, vx_ot w = true)
theorem thN_fit : ∀ n ∈ thN, Bundle.fit n = true := by decide +kernel
theorem V.throw {ik is ic j : Nat} {cls : String} (ho : ThrowOk T.1.cls ik ic cls) (d0 : decode T.2.1 pc = .ok (.new ik, 3)) (d3 : decode T.2.1 (pc + 3) = .ok (.dup, 1)) (d4 : decode T.2.1 (pc + 4) = .ok (.ldc is, 2)) (d6 : decode T.2.1 (pc + 6) = .ok (.invokespecial ic, 3)) (d9 : decode T.2.1 (pc + 9) = .ok (.athrow, 1)) (hj : j < ev_ks.length) (hk : ev_ks.getD j ("", 0) = (T.1.cls, is)) (hh : T.2.2.2.2 = []) (h8 : cat8 st = true) (hdd : 6 ≤ d) (hm1 : ce + 1 ≤ mc) (hm2 : sl + 6 ≤ ms) (hn : n = NC) (hQ : Q (.inr cls) h n) : V l G T d mc ms Q ce sl pc L st h n := by
  intro p e s m args below meth c H locs ls F hl hP hS
  obtain ⟨o1, o2, o3, o4, o5, o6, o7⟩ := ho
  have hts := F.2.2.2.2.1
  have hE : EV G s s.heap := F.2.2.2.2.2.2.2.2.2.1
  have hsr := hE.2.2.2.2.2.2.2.1
  have hR := hsr.1 j hj
  rw [hk] at hR
  have hat : ∀ w ∈ vx_atS T.1.cls ic cls thN, w.before args s = true := vx_hat (fun w hw => hts w (o2 w hw)) o3 (fun w hw => by
    rcases List.mem_cons.mp hw with e9 | e9
    · rw [e9]
      exact va_Nw.use rfl (hsr.2.2.1 _ o4)
    · obtain ⟨q9, hq9, rfl⟩ := List.mem_map.mp e9
      exact va_Nw.use rfl (hsr.2.2.2.2.2.2.2.1 _ hq9))
  have h9 := of_decide_eq_true h8
  refine vx_throwS F.1 F.2.1 F.2.2.2.2.2.2.2.2.2.2.2.2 F.2.2.2.1 o1 thN_fit (hts _ o5) (hts _ o6) hR hat o7 hE.2.1 hE.2.2.1 hS (hl.1.trans F.2.2.1.symm) d0 d3 d4 d6 d9 ?_ ?_ ?_ hm1 hm2 F.2.2.2.2.2.2.1 (fun t ht hz hq => ?_) hS.2.2 hm1 hm2
  · rw [F.2.2.2.2.2.2.2.2.2.2.2.1.no hh, hh]
    intro x hx
    cases hx
  · show 2 + 3 < d
    omega
  · show _ + (13 * (2 + 1) + 43) ≤ 38 * d
    omega
  · exact ⟨⟨h, n, hP.grow hn hz hq, hQ⟩, Nat.le_trans hS.1 hz, fun x h1 h2 => (hq x (Nat.lt_of_lt_of_le h1 hS.1)).trans (hS.2.1 x h1 h2)⟩
theorem V.throwW {ik is ic j : Nat} {cls : String} (ho : ThrowOk T.1.cls ik ic cls) (d0 : decode T.2.1 pc = .ok (.new ik, 3)) (d3 : decode T.2.1 (pc + 3) = .ok (.dup, 1)) (d4 : decode T.2.1 (pc + 4) = .ok (.ldc_w is, 3)) (d7 : decode T.2.1 (pc + 7) = .ok (.invokespecial ic, 3)) (d10 : decode T.2.1 (pc + 10) = .ok (.athrow, 1)) (hj : j < ev_ks.length) (hk : ev_ks.getD j ("", 0) = (T.1.cls, is)) (hh : T.2.2.2.2 = []) (h8 : cat8 st = true) (hdd : 6 ≤ d) (hm1 : ce + 1 ≤ mc) (hm2 : sl + 6 ≤ ms) (hn : n = NC) (hQ : Q (.inr cls) h n) : V l G T d mc ms Q ce sl pc L st h n := by
  intro p e s m args below meth c H locs ls F hl hP hS
  obtain ⟨o1, o2, o3, o4, o5, o6, o7⟩ := ho
  have hts := F.2.2.2.2.1
  have hE : EV G s s.heap := F.2.2.2.2.2.2.2.2.2.1
  have hsr := hE.2.2.2.2.2.2.2.1
  have hR := hsr.1 j hj
  rw [hk] at hR
  have hat : ∀ w ∈ vx_atS T.1.cls ic cls thN, w.before args s = true := vx_hat (fun w hw => hts w (o2 w hw)) o3 (fun w hw => by
    rcases List.mem_cons.mp hw with e9 | e9
    · rw [e9]
      exact va_Nw.use rfl (hsr.2.2.1 _ o4)
    · obtain ⟨q9, hq9, rfl⟩ := List.mem_map.mp e9
      exact va_Nw.use rfl (hsr.2.2.2.2.2.2.2.1 _ hq9))
  have h9 := of_decide_eq_true h8
  refine vx_throwSW F.1 F.2.1 F.2.2.2.2.2.2.2.2.2.2.2.2 F.2.2.2.1 o1 thN_fit (hts _ o5) (hts _ o6) hR hat o7 hE.2.1 hE.2.2.1 hS (hl.1.trans F.2.2.1.symm) d0 d3 d4 d7 d10 ?_ ?_ ?_ hm1 hm2 F.2.2.2.2.2.2.1 (fun t ht hz hq => ?_) hS.2.2 hm1 hm2
  · rw [F.2.2.2.2.2.2.2.2.2.2.2.1.no hh, hh]
    intro x hx
    cases hx
  · show 2 + 3 < d
    omega
  · show _ + (13 * (2 + 1) + 43) ≤ 38 * d
    omega
  · exact ⟨⟨h, n, hP.grow hn hz hq, hQ⟩, Nat.le_trans hS.1 hz, fun x h1 h2 => (hq x (Nat.lt_of_lt_of_le h1 hS.1)).trans (hS.2.1 x h1 h2)⟩
/-- caught by the k-th row of the table; the rows ahead of it are of classes that E isn't -/
theorem VX.catch {E : String} {pre suf : List (Nat × Nat × Nat × Nat)} {a b hp ct : Nat} {q9 : Nat} (hh : T.2.2.2.2 = pre ++ (a, b, hp, ct) :: suf) (hr : decide (a ≤ pc ∧ pc < b) = true) (h0 : decide (ct ≠ 0) = true) (hpre : ∀ z ∈ pre, z.2.2.2 ≠ 0 ∧ ∃ nm, Cond.classLink T.1.cls z.2.2.2 nm ∈ BW ∧ (E, nm) ∈ ev_nc) (hcl : Cond.classLink T.1.cls ct E ∈ BW) (hca : (E, E) ∈ ev_ca) (kk : ∀ x : Nat, V l G T d mc ms Q ce sl hp L [.ref x] h n) : VX l G T d mc ms Q ce sl pc L E h n := by
  intro p e s m args below meth c H locs ls q ce9 rest F hl hP hS h1 h2 h3
  have hts := F.2.2.2.2.1
  have hE : EV G s s.heap := F.2.2.2.2.2.2.2.2.2.1
  have hsr := hE.2.2.2.2.2.2.2.1
  have hr2 := of_decide_eq_true hr
  have htab := F.2.2.2.2.2.2.2.2.2.2.2.1 (fun z => by
    have hm : (a, b, hp, ct) ∈ [((0 : Nat), (0 : Nat), (0 : Nat), (0 : Nat))] := by
      rw [← z, hh]
      exact List.mem_append_right _ List.mem_cons_self
    have e2 : b = 0 := congrArg (fun q => q.2.1) (List.mem_singleton.mp hm)
    omega)
  rw [hh] at htab
  simp only [tableOf, List.map_append, List.map_cons] at htab
  refine vx_catch (E := E) (name := E) (ce := ce9) F.2.2.2.1 (pre.map fun q => ⟨q.1, q.2.1, q.2.2.1, q.2.2.2⟩) ⟨a, b, hp, ct⟩ (suf.map fun q => ⟨q.1, q.2.1, q.2.2.1, q.2.2.2⟩) htab ?_ (by simp [covers, hr2.1, hr2.2]) (of_decide_eq_true h0) (hts _ hcl) (va_Nw.use rfl (hsr.2.2.1 _ hca)) h1 h2 h3 (kk q p e s m args below meth c H locs ls F hl hP hS)
  intro z hz
  obtain ⟨w, hw, rfl⟩ := List.mem_map.mp hz
  obtain ⟨hw0, nm, hw1, hw2⟩ := hpre w hw
  exact Or.inr ⟨hw0, nm, hts _ hw1, hsr.2.2.2.1 _ hw2⟩
end VM
