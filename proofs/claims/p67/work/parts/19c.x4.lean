/-! X: rows that change E: fields, arrays, makings, copies; calls of inherited methods, of super, by an interface -/
section XC
variable {l : Launch} {G : GG} {T : MT} {d mc ms ce sl : Nat} {Q : PE} {pc q : Nat} {L : List (Option Value)} {st st0 : List Value} {h : HM} {n : Nat} {E : va_W}
theorem X.put {idx ci j j9 a : Nat} {fs : List Value} {C ref : String} {TT : u_T} {tt : Nat → FieldType} {N : Nat} {v : Value} (hd : decode T.2.1 pc = .ok (.putfield idx, 3)) (hj9 : E[j9]? = some (a, .inr (ci, fs))) (hci : vwCl[ci]? = some (C, TT, N)) (hin : ∀ w ∈ u_ws C TT N, w ∈ BW) (hty : ∀ k, k < N → parseFieldDescriptor (TT k).2.2.1 = some (tt k)) (hnm : ∀ a, a < N → ∀ b, b < N → a ≠ b → (TT a).2.1 ≠ (TT b).2.1) (hj : j < N) (hdc : (TT j).1 = ref) (hw : Cond.fieldLink T.1.cls idx ref (TT j).2.1 (TT j).2.2.1 ∈ BW) (hfin : (TT j).2.2.2 = false) (hn : narrow (tt j) v = v) (hfit : fits (tt j) v = true) (hjl : j < fs.length) (hq : pc + 3 = q) (kk : X l G T d mc ms Q ce sl q L st h n (E.set j9 (a, .inr (ci, fs.set j v)))) : X l G T d mc ms Q ce sl pc L (v :: .ref a :: st) h n E := by
  intro p e s m args below meth c H locs ls F hl hP hE hS0
  subst hq
  have hKV : KV G s := F.2.2.2.2.2.2.2.2.1
  have hts := F.2.2.2.2.1
  have hown := F.2.2.2.1
  have hap := va_apart (own := T.1.cls) hts hin tt hty hnm hKV hci
  have hq9 := hE.1 j9 _ hj9
  have ho9 : FrO G a := hE.o hj9
  obtain ⟨r, h1, cell, q1, q2, q3, q4⟩ := hq9
  have hr : r = (C, TT, N) := Option.some.inj (h1.symm.trans hci)
  subst hr
  obtain ⟨hS, hfc, kC, hkC, hkind⟩ := hKV.1 ci _ hci
  obtain ⟨cf, kf, fi, f, hi, hsl⟩ := hS j hj
  have hlay := hts _ (hin _ (u_in_lay hj))
  unfold u_lay at hlay
  have hst := (u_facts hfc hkC (u_lays hts hin hj) hi).1
  have hlink := hts _ hw
  have hi2 : s.fieldFound? ref (TT j).2.1 (TT j).2.2.1 = some (cf, kf, fi, f) := by rw [← hdc]; exact hi
  have key : ∀ H' : Heap, H'[a]? = some (cell.setSlot f.slot v) → H'.size = H.size → (∀ q, q ≠ a → H'[q]? = H[q]?) → W p l e (rmV d mc ms) s m args below meth c H' (locs ++ [⟨a, f.slot⟩]) ce sl (vx_MQ below (QcX G Q) XcX args s mc ms (FrX G)) (F0 m (pc + 3) ls st) := by
    intro H' e1 e2 e3
    refine kk p e s m args below meth c H' _ ls F hl (hP.keep ho9 e2 e3) (hE.set hj9 ⟨_, hci, ?_⟩ e3) (hS0.put e2 e3 ho9.x)
    rw [hsl] at e1
    exact t_OB.to (V := updV (vp_V fs) j v) ⟨_, e1, q2, q3, t_set q4 hap hj v⟩ (fun i _ => vp_updV_set hjl v i)
  rw [if_neg (by rw [hfin]; decide)] at hlay
  have h6 := u_store hfc hkC hkind hlay hi (hty j hj) hn hfit
  exact W.putK F.1 F.2.1 (f := f) ⟨hown, hlink, ⟨_, _, _, hi2⟩, hst⟩ (by rw [q2]; exact h6) q1 q3 (by rw [hsl]; exact k2_hasslot (q4 j hj)) rfl rfl hd key
theorem X.iald {j a N i : Nat} {f : Nat → Int32} {x : Int32} (hd : decode T.2.1 pc = .ok (.iaload, 1)) (hj : E[j]? = some (a, .inl (gC G 0, N, .inl f))) (hi : i < N) (hN : N < 2 ^ 31) (hx : x = nI i) (hq : pc + 1 = q) (kk : X l G T d mc ms Q ce sl q L (.int (f i) :: st) h n E) : X l G T d mc ms Q ce sl pc L (.int x :: .ref a :: st) h n E := by
  intro p e s m args below meth c H locs ls F hl hP hE hS
  subst hq; subst hx
  have hKV : KV G s := F.2.2.2.2.2.2.2.2.1
  refine va_iald F.1 F.2.1 hKV (va_P1 (hE.1 j _ hj)) 0 0 rfl rfl (vp_in_nI hi hN) hd ?_
  rw [nI_clamp (by omega)]
  exact kk p e s m args below meth c H locs ls F hl hP hE hS
theorem X.bald {j a N i : Nat} {f : Nat → Int32} {x : Int32} (hd : decode T.2.1 pc = .ok (.baload, 1)) (hj : E[j]? = some (a, .inl (gC G 1, N, .inl f))) (hi : i < N) (hN : N < 2 ^ 31) (hx : x = nI i) (hq : pc + 1 = q) (kk : X l G T d mc ms Q ce sl q L (.int (f i) :: st) h n E) : X l G T d mc ms Q ce sl pc L (.int x :: .ref a :: st) h n E := by
  intro p e s m args below meth c H locs ls F hl hP hE hS
  subst hq; subst hx
  have hKV : KV G s := F.2.2.2.2.2.2.2.2.1
  refine va_bald F.1 F.2.1 hKV (va_P1 (hE.1 j _ hj)) 0 1 rfl rfl (vp_in_nI hi hN) hd ?_
  rw [nI_clamp (by omega)]
  exact kk p e s m args below meth c H locs ls F hl hP hE hS
theorem X.alen {j a t0 : Nat} {A : vp_A} {ty : FieldType} {v : Int32} (hd : decode T.2.1 pc = .ok (.arraylength, 1)) (hj : E[j]? = some (a, .inl (gC G t0, A))) (ht : (tysG G)[t0]? = some (gC G t0, ty)) (hv : Int32.ofNat A.1 = v) (hq : pc + 1 = q) (kk : X l G T d mc ms Q ce sl q L (.int v :: st) h n E) : X l G T d mc ms Q ce sl pc L (.ref a :: st) h n E := by
  intro p e s m args below meth c H locs ls F hl hP hE hS
  subst hq
  have hKV : KV G s := F.2.2.2.2.2.2.2.2.1
  exact va_alen F.1 F.2.1 hKV (va_P1 (hE.1 j _ hj)) 0 t0 rfl ht hv hd (kk p e s m args below meth c H locs ls F hl hP hE hS)
theorem X.iast {j a N i : Nat} {f : Nat → Int32} {x y : Int32} (hd : decode T.2.1 pc = .ok (.iastore, 1)) (hj : E[j]? = some (a, .inl (gC G 0, N, .inl f))) (hi : i < N) (hN : N < 2 ^ 31) (hx : x = nI i) (hq : pc + 1 = q) (kk : X l G T d mc ms Q ce sl q L st h n (E.set j (a, .inl (gC G 0, N, .inl (upd f i y))))) : X l G T d mc ms Q ce sl pc L (.int y :: .int x :: .ref a :: st) h n E := by
  intro p e s m args below meth c H locs ls F hl hP hE hS
  subst hq; subst hx
  have hKV : KV G s := F.2.2.2.2.2.2.2.2.1
  have hc := hE.1 j _ hj
  have ho9 : FrO G a := hE.o hj
  refine W.iast F.1 F.2.1 hc ((hKV.2 0 _ rfl).1 N (fun j => .int (f j))) (fun q => by cases q) (by show ¬ (nI i < 0 ∨ (arrV _ _ _).slots.size ≤ _); rw [arrV_size]; exact vp_in_nI hi hN) rfl rfl hd fun H1 e1 z oq => ?_
  refine kk p e s m args below meth c H1 _ ls F hl (hP.keep ho9 z oq) (hE.set hj ?_ oq) (hS.put z oq ho9.x)
  show H1[a]? = some (vp_cell _ _)
  rw [e1, vp_cell_i, vp_cell_i, arrV_store, nI_clamp (by omega)]
  congr 2
  funext j
  by_cases hj : j = i
  · subst hj; simp [updV, upd]
  · simp [updV, upd, hj]
theorem X.bast {j a N i : Nat} {f : Nat → Int32} {x y : Int32} (hd : decode T.2.1 pc = .ok (.bastore, 1)) (hj : E[j]? = some (a, .inl (gC G 1, N, .inl f))) (hi : i < N) (hN : N < 2 ^ 31) (hx : x = nI i) (hq : pc + 1 = q) (kk : X l G T d mc ms Q ce sl q L st h n (E.set j (a, .inl (gC G 1, N, .inl (upd f i (vp_nar .byte y)))))) : X l G T d mc ms Q ce sl pc L (.int y :: .int x :: .ref a :: st) h n E := by
  intro p e s m args below meth c H locs ls F hl hP hE hS
  subst hq; subst hx
  have hKV : KV G s := F.2.2.2.2.2.2.2.2.1
  have hc := hE.1 j _ hj
  have ho9 : FrO G a := hE.o hj
  refine W.bast F.1 F.2.1 hc ((hKV.2 1 _ rfl).1 N (fun j => .int (f j))) (fun q => by cases q) (by show ¬ (nI i < 0 ∨ (arrV _ _ _).slots.size ≤ _); rw [arrV_size]; exact vp_in_nI hi hN) rfl rfl hd fun H1 e1 z oq => ?_
  refine kk p e s m args below meth c H1 _ ls F hl (hP.keep ho9 z oq) (hE.set hj ?_ oq) (hS.put z oq ho9.x)
  show H1[a]? = some (vp_cell _ _)
  rw [e1, vp_cell_i, vp_cell_i, arrV_store, nI_clamp (by omega)]
  congr 2
  funext j
  by_cases hj : j = i
  · subst hj; simp [updV, upd, vp_nar, narrow]
  · simp [updV, upd, hj]
/-- a new object beside the places -/
theorem X.new {idx ci N : Nat} {C : String} {TT : u_T} {tt : Nat → FieldType} {fs : List Value} (hd : decode T.2.1 pc = .ok (.new idx, 3)) (hci : vwCl[ci]? = some (C, TT, N)) (hin : ∀ w ∈ u_ws C TT N, w ∈ BW) (hty : ∀ k, k < N → parseFieldDescriptor (TT k).2.2.1 = some (tt k)) (hcl : Cond.classLink T.1.cls idx C ∈ BW) (hins : Cond.instantiable C N ∈ BW) (hini : Cond.initialized C ∈ BW) (hfs : ∀ j, j < N → defaultValue (tt j) = vp_V fs j) (hn : n = NC) (hm1 : ce + 1 ≤ mc) (hm2 : sl + N ≤ ms) (hq : pc + 3 = q) (kk : ∀ a, X l G T d mc ms Q (ce + 1) (sl + N) q L (.ref a :: st) h n ((a, .inr (ci, fs)) :: E)) : X l G T d mc ms Q ce sl pc L st h n E := by
  intro p e s m args below meth c H locs ls F hl hP hE hS
  subst hq
  have hKV : KV G s := F.2.2.2.2.2.2.2.2.1
  have hts := F.2.2.2.2.1
  have hKn := hKV.1 ci _ hci
  have hle := hP.le
  refine W.newcK F.1 F.2.1 F.2.2.2.1 (hts _ hcl) (hts _ hins) (hts _ hini) rfl hd hm1 hm2 hKn.2.1 rfl fun H1 kC hkC e1 z1 o1 => ?_
  exact kk H.size p e s m args below meth c H1 locs ls F hl (hP.grow hn (by omega) o1) (hE.push ⟨_, hci, (u_born tt hts hin hKn hkC e1 hty).to hfs⟩ (Or.inr (by rw [← hn]; exact hle)) (Nat.le_refl _) o1) ⟨Nat.le_trans hS.1 (by omega), fun x h1 h2 => (o1 x (Nat.lt_of_lt_of_le h1 hS.1)).trans (hS.2.1 x h1 h2), hS.2.2⟩
/-- a new array beside the places -/
theorem X.newarr {atype : ArrayType} {t0 N : Nat} {ty : FieldType} {a0 : vp_A} {x : Int32} (hd : decode T.2.1 pc = .ok (.newarray atype, 2)) (harr : (Cond.arrayClass (newarray.typeOf atype)) ∈ BW) (hty : newarray.typeOf atype = ty) (hpr : match ty with | .object _ => False | _ => True) (ht : (tysG G)[t0]? = some (gC G t0, ty)) (ha : ∀ cA : ClassId, vp_cell cA a0 = arrV cA N (fun _ => defaultValue ty)) (hx : x = nI N) (hN : N < 65536) (hb9 : N * componentBytes ty ≤ 536870912) (hn : n = NC) (hm1 : ce + 1 ≤ mc) (hm2 : sl + N ≤ ms) (hq : pc + 2 = q) (kk : ∀ a, X l G T d mc ms Q (ce + 1) (sl + N) q L (.ref a :: st) h n ((a, .inl (gC G t0, a0)) :: E)) : X l G T d mc ms Q ce sl pc L (.int x :: st) h n E := by
  intro p e s m args below meth c H locs ls F hl hP hE hS
  subst hq; subst hty; subst hx
  have hKV : KV G s := F.2.2.2.2.2.2.2.2.1
  have hts := F.2.2.2.2.1
  have hle := hP.le
  refine va_newaK F.1 F.2.1 (hts _ harr) rfl hd rfl (nI_pos (by omega)) (nI_clamp (by omega)) hb9 hm1 hm2 rfl fun H1 cA e1 z1 o1 hAr hNm => ?_
  have hcA : cA = gC G t0 := by
    have h2 := (hKV.2 t0 _ ht).2
    have h3 : s.vm.findClass ("[" ++ (newarray.typeOf atype).toString) = some (gC G t0) := by
      cases atype <;> exact h2
    exact Option.some.inj (hNm.symm.trans h3)
  subst hcA
  refine kk H.size p e s m args below meth c H1 locs ls F hl (hP.grow hn (by omega) o1) (hE.push ?_ (Or.inr (by rw [← hn]; exact hle)) (Nat.le_refl _) o1) ⟨Nat.le_trans hS.1 (by omega), fun x h1 h2 => (o1 x (by have := hS.1; omega)).trans (hS.2.1 x h1 h2), hS.2.2⟩
  show H1[H.size]? = some (vp_cell _ _)
  rw [ha]
  exact e1
/-- a new object at the next place -/
theorem X.newP {idx ci N : Nat} {C : String} {TT : u_T} {tt : Nat → FieldType} {fs : List Value} (hd : decode T.2.1 pc = .ok (.new idx, 3)) (hci : vwCl[ci]? = some (C, TT, N)) (hin : ∀ w ∈ u_ws C TT N, w ∈ BW) (hty : ∀ k, k < N → parseFieldDescriptor (TT k).2.2.1 = some (tt k)) (hcl : Cond.classLink T.1.cls idx C ∈ BW) (hins : Cond.instantiable C N ∈ BW) (hini : Cond.initialized C ∈ BW) (hfs : ∀ j, j < N → defaultValue (tt j) = vp_V fs j) (hn : n < NC) (hm1 : ce + 1 ≤ mc) (hm2 : sl + N ≤ ms) (hq : pc + 3 = q) (kk : X l G T d mc ms Q (ce + 1) (sl + N) q L (.ref (gB G + n) :: st) (hset h n (.inr (ci, fs))) (n + 1) E) : X l G T d mc ms Q ce sl pc L st h n E := by
  intro p e s m args below meth c H locs ls F hl hP hE hS
  subst hq
  have hKV : KV G s := F.2.2.2.2.2.2.2.2.1
  have hts := F.2.2.2.2.1
  have hKn := hKV.1 ci _ hci
  have hsz := hP.at_end hn
  refine W.newcK F.1 F.2.1 F.2.2.2.1 (hts _ hcl) (hts _ hins) (hts _ hini) rfl hd hm1 hm2 hKn.2.1 rfl fun H1 kC hkC e1 z1 o1 => ?_
  have hk := kk p e s m args below meth c H1 locs ls F hl (hP.push hn ⟨_, hci, by
    have e2 := e1
    rw [hsz] at e2
    exact (u_born tt hts hin hKn hkC e2 hty).to hfs⟩ z1 o1) (hE.keep (fun q hq _ => o1 q hq)) ⟨Nat.le_trans hS.1 (by omega), fun x h1 h2 => (o1 x (Nat.lt_of_lt_of_le h1 hS.1)).trans (hS.2.1 x h1 h2), hS.2.2⟩
  rw [hsz]
  exact hk
/-! the whole world as one list, for the rows of arraycopy -/
theorem vaD_set {A : Nat → Prop} {E : va_W} {j a : Nat} {e e0 : va_E} (hD : va_D A E) (hj : E[j]? = some (a, e0)) : va_D A (E.set j (a, e)) := by
  have hl : j < E.length := (List.getElem?_eq_some_iff.mp hj).1
  have adr : ∀ (i : Nat) (p : Nat × va_E), (E.set j (a, e))[i]? = some p → ∃ p0, E[i]? = some p0 ∧ p0.1 = p.1 := by
    intro i p hi
    by_cases h : i = j
    · subst h
      rw [List.getElem?_set_self hl] at hi
      cases hi
      exact ⟨_, hj, rfl⟩
    · rw [List.getElem?_set_ne (fun z => h z.symm)] at hi
      exact ⟨p, hi, rfl⟩
  refine ⟨fun i k p q hi hk h => ?_, fun i p hi => ?_⟩
  · obtain ⟨p0, e1, e2⟩ := adr i p hi
    obtain ⟨q0, e3, e4⟩ := adr k q hk
    exact hD.1 i k p0 q0 e1 e3 (by rw [e2, e4, h])
  · obtain ⟨p0, e1, e2⟩ := adr i p hi
    rw [← e2]
    exact hD.2 i p0 e1
theorem wof_len {G : GG} {h : HM} {n : Nat} : (wof G h n).length = n := by simp [wof]
theorem wx_D {G : GG} {h : HM} {E : va_W} {H : Heap} (hE : XE G E H) : va_D (FrX G) (wof G h NC ++ E) := by
  refine va_D.app ((wof_D (Nat.le_refl _)).weaken (fun k q _ h => FrA.x h)) (hE.2.weaken (fun k q _ h => FrO.x h)) (fun i j p q hi hj e => ?_)
  obtain ⟨h1, rfl⟩ := wof_mem hi
  exact (hE.o hj).ne h1 e
theorem wx_get {G : GG} {h : HM} {E : va_W} {j : Nat} : (wof G h NC ++ E)[NC + j]? = E[j]? := by
  rw [List.getElem?_append_right (by rw [wof_len]; omega), wof_len, Nat.add_sub_cancel_left]
theorem wx_set {G : GG} {h : HM} {E : va_W} {j : Nat} {x : Nat × va_E} : (wof G h NC ++ E).set (NC + j) x = wof G h NC ++ E.set j x := by
  rw [List.set_append_right _ _ (by rw [wof_len]; omega), wof_len, Nat.add_sub_cancel_left]
theorem wx_P {G : GG} {h : HM} {E : va_W} {H : Heap} (hp : va_P (gD G) vwCl (wof G h NC ++ E) H) : HP G h NC H ∧ va_P (gD G) vwCl E H :=
  ⟨HP.ofP (fun k q hq => hp k q (by
    have hl := (List.getElem?_eq_some_iff.mp hq).1
    rw [List.getElem?_append_left hl]; exact hq)), fun k q hq => hp (NC + k) q (by rw [wx_get]; exact hq)⟩
theorem X.copyE {idx j0 j1 a0 a1 N0 N1 x y z : Nat} {f g : Nat → Int32} {sp dp nn : Int32} (hd : decode T.2.1 pc = .ok (.invokestatic idx, 3)) (hw : Cond.methodLink T.1.cls idx arraycopyName ∈ BW) (hnat : Cond.native arraycopyName ∈ BW) (hstt : Cond.static arraycopyName ∈ BW) (hini : Cond.initialized "java/lang/System" ∈ BW) (hj0 : E[j0]? = some (a0, .inl (gC G 1, N0, .inl f))) (hj1 : E[j1]? = some (a1, .inl (gC G 1, N1, .inl g))) (hn : n = NC) (hx : sp = nI x) (hy : dp = nI y) (hz : nn = nI z) (h4 : x + z ≤ N0) (h5 : y + z ≤ N1) (hN0 : N0 < 65536) (hN1 : N1 < 65536) (hfit : ∀ i, fits .byte (.int (f i)) = true) (h8 : cat8 st = true) (hdd : 2 ≤ d) (hq : pc + 3 = q) (kk : X l G T d mc ms Q ce sl q L st h n (E.set j1 (a1, .inl (gC G 1, N1, .inl (va_cpy f g x y z))))) : X l G T d mc ms Q ce sl pc L (.int nn :: .int dp :: .ref a1 :: .int sp :: .ref a0 :: st) h n E := by
  intro p e s m args below meth c H locs ls F hl hP hE hS
  subst hq; subst hx; subst hy; subst hz; subst hn
  have hKV : KV G s := F.2.2.2.2.2.2.2.2.1
  have hts := F.2.2.2.2.1
  have c1 : (nI x).toNatClampNeg = x := nI_clamp (by omega)
  have c2 : (nI y).toNatClampNeg = y := nI_clamp (by omega)
  have c3 : (nI z).toNatClampNeg = z := nI_clamp (by omega)
  refine va_copyi F.1 F.2.1 (F.2.2.1.trans hl.1.symm) F.2.2.2.1 (hts _ hw) (hts _ hnat) (hts _ hstt) (hts _ hini) hKV (va_P.app hP.P hE.1) (wx_D hE) hS (NC + j0) (NC + j1) 1 1 (by rw [wx_get]; exact hj0) (by rw [wx_get]; exact hj1) rfl rfl rfl (nI_pos (by omega)) (nI_pos (by omega)) (nI_pos (by omega)) (by rw [c1, c3]; exact h4) (by rw [c2, c3]; exact h5) (fun i _ => hfit _) ?_ ?_ hd (fun H1 locs1 hP1 hD1 hS1 => ?_)
  · show 1 ≤ d
    omega
  · show _ ≤ 38 * d
    have h9 := of_decide_eq_true h8
    have h10 : nativeFrameWords "java/lang/System" "arraycopy" 5 + 11 ≤ 60 := by decide +kernel
    omega
  · rw [c1, c2, c3, wx_set] at hP1
    obtain ⟨k1, k2⟩ := wx_P hP1
    exact kk p e s m args below meth c H1 locs1 ls F hl k1 ⟨k2, vaD_set hE.2 hj1⟩ hS1
/-- out of a constant's bytes -/
theorem X.copyT {idx j1 a0 a1 N0 N1 x y z : Nat} {f g : Nat → Int32} {sp dp nn : Int32} (hd : decode T.2.1 pc = .ok (.invokestatic idx, 3)) (hw : Cond.methodLink T.1.cls idx arraycopyName ∈ BW) (hnat : Cond.native arraycopyName ∈ BW) (hstt : Cond.static arraycopyName ∈ BW) (hini : Cond.initialized "java/lang/System" ∈ BW) (hm0 : (FieldType.byte, a0, N0, fun j => Value.int (f j)) ∈ ev_ta (gA G)) (hj1 : E[j1]? = some (a1, .inl (gC G 1, N1, .inl g))) (hn : n = NC) (hx : sp = nI x) (hy : dp = nI y) (hz : nn = nI z) (h4 : x + z ≤ N0) (h5 : y + z ≤ N1) (hN0 : N0 < 65536) (hN1 : N1 < 65536) (hfit : ∀ i, i < z → fits .byte (.int (f (x + i))) = true) (h8 : cat8 st = true) (hdd : 2 ≤ d) (hq : pc + 3 = q) (kk : X l G T d mc ms Q ce sl q L st h n (E.set j1 (a1, .inl (gC G 1, N1, .inl (va_cpy f g x y z))))) : X l G T d mc ms Q ce sl pc L (.int nn :: .int dp :: .ref a1 :: .int sp :: .ref a0 :: st) h n E := by
  intro p e s m args below meth c H locs ls F hl hP hE hS
  subst hq; subst hx; subst hy; subst hz; subst hn
  have hKV : KV G s := F.2.2.2.2.2.2.2.2.1
  have hV : EVr (FrX G) G s s.heap := F.2.2.2.2.2.2.2.2.2.1
  have hts := F.2.2.2.2.1
  have c1 : (nI x).toNatClampNeg = x := nI_clamp (by omega)
  have c2 : (nI y).toNatClampNeg = y := nI_clamp (by omega)
  have c3 : (nI z).toNatClampNeg = z := nI_clamp (by omega)
  refine vk_copyt F.1 F.2.1 (F.2.2.1.trans hl.1.symm) F.2.2.2.1 (hts _ hw) (hts _ hnat) (hts _ hstt) (hts _ hini) hKV (va_P.app hP.P hE.1) (wx_D hE) hS (hV.2.2.2.2.2.2.1 _ hm0) (NC + j1) 1 (by rw [wx_get]; exact hj1) rfl (nI_pos (by omega)) (nI_pos (by omega)) (nI_pos (by omega)) (by rw [c1, c3]; exact h4) (by rw [c2, c3]; exact h5) (fun i hi => by rw [c3] at hi; rw [c1]; exact hfit i hi) ?_ ?_ hd (fun H1 locs1 hP1 hD1 hS1 => ?_)
  · show 1 ≤ d
    omega
  · show _ ≤ 38 * d
    have h9 := of_decide_eq_true h8
    have h10 : nativeFrameWords "java/lang/System" "arraycopy" 5 + 11 ≤ 60 := by decide +kernel
    omega
  · rw [c1, c2, c3, wx_set] at hP1
    obtain ⟨k1, k2⟩ := wx_P hP1
    exact kk p e s m args below meth c H1 locs1 ls F hl k1 ⟨k2, vaD_set hE.2 hj1⟩ hS1
/-! calls that are found above, by super, by an interface; on a constant text -/
theorem MWb.ws {T' : MT} {np : Nat} (M : MWb T' np) : ∀ w ∈ wsT T', w ∈ BW := by
  obtain ⟨hy, hp, h19, hini, hcode, hh⟩ := M
  rw [wsT_code hh]
  exact fun w hw => (List.mem_cons.mp hw).elim (fun e => e ▸ hcode) id
theorem X.callU {T' : MT} {np d' mc' ms' idx b : Nat} {x : MethodName} {C owner : String} {Q' : PE} {As : List Value} {r : vw_C} {ci j : Nat} {fs : List Value} (hC : CX l G T' d' mc' ms' (.ref b :: As) h n E Q') (M : MWb T' np ∧ Cond.instanceMethod T'.1 ∈ BW) (hdesc : T'.1.desc = x.desc ∨ (parseMethodDescriptor x.desc).map (fun d => d.parameters.length) = some np) (hmh : owner ≠ "java/lang/invoke/MethodHandle" ∧ owner ≠ "java/lang/invoke/VarHandle") (hsm : Cond.sameMethod x.cls owner x.name x.desc ∈ BW) (hdl : ∀ s args, (∀ w ∈ BW, w.before args s = true) → va_Decl s ⟨owner, x.name, x.desc⟩) (hsl : Cond.selects C x T'.1 ∈ BW) (hw : Cond.methodLink T.1.cls idx x ∈ BW) (hd : decode T.2.1 pc = .ok (.invokevirtual idx, 3)) (hst : st0 = As.reverse ++ .ref b :: st)
    (hj : E[j]? = some (b, .inr (ci, fs))) (hci : vwCl[ci]? = some r) (hr : r.1 = C) (hnp : As.length = np) (h8 : cat8 st = true) (hdd : d' + 1 ≤ d) (hm1 : ce + mc' ≤ mc) (hm2 : sl + ms' ≤ ms) (hq : pc + 3 = q)
    (kr : ∀ (v : Option Value) (h2 : HM) (n2 : Nat) (E2 : va_W), Q' v h2 n2 E2 → X l G T d mc ms Q (ce + mc') (sl + ms') q L (v.toList ++ st) h2 n2 E2) : X l G T d mc ms Q ce sl pc L st0 h n E := by
  intro p e s m args below meth c H locs ls F hl hP hE hS
  subst hst
  have hts := F.2.2.2.2.1
  have hKV : KV G s := F.2.2.2.2.2.2.2.2.1
  have hm := M.1.ws
  obtain ⟨⟨hy, hp, h19, hini, hcode, hh⟩, hins⟩ := M
  refine RunX.done F hl hS hq (vx_runU (As := As) (rest := st) (b := b) (C := C) (owner := owner) (x := x) ⟨F.1, F.2.1, F.2.2.1, F.2.2.2.1, F.2.2.2.2.1⟩ (hC F.2.2.2.2.2.2.2.2.2.2.2.2) ⟨⟨rfl, rfl, hdd, ?_, fun w hw => pay_bw F.2.2.2.2.1 w (hm w hw), by rw [wsT_code hh]; exact List.mem_cons_self⟩, hts _ hcode, hts _ hini, hmh, fun sig hs => ?_, hts _ hw, hts _ hsm, hdl s args hts, hts _ hsl, hts _ hins⟩ ⟨SatX.blind, ?_, fun U hU hW => ⟨rfl, SatX.start F hP hE hS hU hW⟩⟩ rfl hnp hl.1 rfl (lv_room (of_decide_eq_true h8)) hd ⟨hm1, hm2⟩) kr
  · show 8 + (T'.2.2.1 + 11) + 38 * d' ≤ 38 * d
    omega
  · rcases hdesc with h9 | h9
    · rw [h9, hs] at hp
      exact (Option.some.inj hp).symm
    · rw [hs] at h9
      exact (Option.some.inj h9).symm
  · rw [← hr]
    exact va_recv hKV hE.1 (q0 := j) hci hj
theorem X.callSU {T' : MT} {np d' mc' ms' idx b : Nat} {Q' : PE} {As : List Value} {r : vw_C} {ci j : Nat} {fs : List Value} (hC : CX l G T' d' mc' ms' (.ref b :: As) h n E Q') (M : MWb T' np ∧ Cond.instanceMethod T'.1 ∈ BW) (hni : T'.1.name ≠ "<init>") (hsm : Cond.sameMethod T'.1.cls T'.1.cls T'.1.name T'.1.desc ∈ BW) (hsu : Cond.superclass T.1.cls T'.1.cls ∈ BW) (hw : Cond.methodLink T.1.cls idx T'.1 ∈ BW) (hd : decode T.2.1 pc = .ok (.invokespecial idx, 3)) (hst : st0 = As.reverse ++ .ref b :: st)
    (hj : E[j]? = some (b, .inr (ci, fs))) (hci : vwCl[ci]? = some r) (hnp : As.length = np) (h8 : cat8 st = true) (hdd : d' + 1 ≤ d) (hm1 : ce + mc' ≤ mc) (hm2 : sl + ms' ≤ ms) (hq : pc + 3 = q)
    (kr : ∀ (v : Option Value) (h2 : HM) (n2 : Nat) (E2 : va_W), Q' v h2 n2 E2 → X l G T d mc ms Q (ce + mc') (sl + ms') q L (v.toList ++ st) h2 n2 E2) : X l G T d mc ms Q ce sl pc L st0 h n E := by
  intro p e s m args below meth c H locs ls F hl hP hE hS
  subst hst
  have hts := F.2.2.2.2.1
  have hKV : KV G s := F.2.2.2.2.2.2.2.2.1
  have hm := M.1.ws
  obtain ⟨⟨hy, hp, h19, hini, hcode, hh⟩, hins⟩ := M
  obtain ⟨hSl, hfc, kC, hkC, hkind⟩ := hKV.1 ci _ hci
  refine RunX.done F hl hS hq (vx_runSU (As := As) (rest := st) (b := b) (C := r.1) (cC := (gD G).1 ci) ⟨hfc, kC, hkC, hkind⟩ ⟨F.1, F.2.1, F.2.2.1, F.2.2.2.1, F.2.2.2.2.1⟩ (hC F.2.2.2.2.2.2.2.2.2.2.2.2) ⟨⟨rfl, rfl, hdd, ?_, fun w hw => pay_bw F.2.2.2.2.1 w (hm w hw), by rw [wsT_code hh]; exact List.mem_cons_self⟩, hts _ hw, hts _ hsm, hts _ hsu, hts _ hins, hts _ hini, hts _ hcode, hni, fun sig hs => ?_⟩ ⟨SatX.blind, ?_, fun U hU hW => ⟨rfl, SatX.start F hP hE hS hU hW⟩⟩ rfl hnp hl.1 rfl (lv_room (of_decide_eq_true h8)) hd ⟨hm1, hm2⟩) kr
  · show 8 + (T'.2.2.1 + 11) + 38 * d' ≤ 38 * d
    omega
  · rw [hs] at hp
    exact (Option.some.inj hp).symm
  · exact va_recv hKV hE.1 (q0 := j) hci hj
/-- on a constant text -/
theorem X.callO {T' : MT} {np d' mc' ms' idx a : Nat} {Q' : PE} {As : List Value} (hC : CX l G T' d' mc' ms' (.ref a :: As) h n E Q') (M : MWv T' np) (hw : Cond.methodLink T.1.cls idx T'.1 ∈ BW) (hd : decode T.2.1 pc = .ok (.invokevirtual idx, 3)) (hst : st0 = As.reverse ++ .ref a :: st)
    (ho : (T'.1.cls, a) ∈ ev_ob (gA G)) (hnp : As.length = np) (h8 : cat8 st = true) (hdd : d' + 1 ≤ d) (hm1 : ce + mc' ≤ mc) (hm2 : sl + ms' ≤ ms) (hq : pc + 3 = q)
    (kr : ∀ (v : Option Value) (h2 : HM) (n2 : Nat) (E2 : va_W), Q' v h2 n2 E2 → X l G T d mc ms Q (ce + mc') (sl + ms') q L (v.toList ++ st) h2 n2 E2) : X l G T d mc ms Q ce sl pc L st0 h n E := by
  intro p e s m args below meth c H locs ls F hl hP hE hS
  subst hst
  refine RunX.done F hl hS hq (vx_runV (As := As) (rest := st) (b := a) (C := T'.1.cls) ⟨F.1, F.2.1, F.2.2.1, F.2.2.2.1, F.2.2.2.2.1⟩ (hC F.2.2.2.2.2.2.2.2.2.2.2.2) ⟨M.1.call F.2.2.2.2.1 hdd hw, F.2.2.2.2.1 _ M.2.1, F.2.2.2.2.1 _ M.2.2⟩ ⟨SatX.blind, ?_, fun U hU hW => ⟨rfl, SatX.start F hP hE hS hU hW⟩⟩ rfl hnp hl.1 rfl (lv_room (of_decide_eq_true h8)) hd ⟨hm1, hm2⟩) kr
  have hV : EVr (FrX G) G s s.heap := F.2.2.2.2.2.2.2.2.2.1
  exact va_Orecv (hV.2.2.2.2.2.1 _ ho) hS
/-- by an interface -/
theorem RunX.done5 {p : Program} {e : Env} {s : State} {m : MethodId} {args : Array Value} {below : List Frame} {meth : Method} {c : Code} {H : Heap} {locs : List Loc} {ls : Array Slot} {mc' ms' ce sl pc q : Nat} {st0 rest : List Value} {Q' : PE} {a : Array Value} {L : List (Option Value)}
    (F : FxX l G T p s m args meth c) (hl : lvo ls T.2.2.1 L) (hS : va_S (FrX G) s.heap H locs) (hq : pc + 5 = q)
    (hr : vx_Run5 p l e (rmV d mc ms) s m args below meth c H locs ce sl mc' ms' (F0 m pc ls st0) rest (QcX G Q' a) XcX (FrX G))
    (kr : ∀ (v : Option Value) (h2 : HM) (n2 : Nat) (E2 : va_W), Q' v h2 n2 E2 → X l G T d mc ms Q (ce + mc') (sl + ms') q L (v.toList ++ rest) h2 n2 E2) :
    W p l e (rmV d mc ms) s m args below meth c H locs ce sl (vx_MQ below (QcX G Q) XcX args s mc ms (FrX G)) (F0 m pc ls st0) := by
  subst hq
  intro T9 hT X9
  rcases hr T9 hT X9 with ⟨v, st₀, t, T', L9, h0, X', hL, e1, e2, ⟨⟨v2, h2, n2, E2, ho, hp2, hE2, hq2⟩, hF⟩, st⟩ | ⟨q, st₀, t, T', L9, E9, ce9, h0, X', hL, e1, e2, hx, -⟩
  · cases ho
    obtain ⟨-, -, k3⟩ := vx_keep h0 e1 hS (fun _ _ z => z) (fun _ z => z) hL hF
    obtain ⟨t2, a1, b1⟩ := kr v h2 n2 E2 hq2 p e s m args below meth c T'.heap (locs ++ L9) ls F hl (by rw [e1]; exact hp2) (by rw [e1]; exact hE2) k3 T' rfl X'
    exact ⟨t2, st t2 a1, b1⟩
  · exact hx.elim
theorem X.callF {T' : MT} {np d' mc' ms' idx b count : Nat} {x : MethodName} {Q' : PE} {As : List Value} {r : vw_C} {ci j : Nat} {fs : List Value} (hC : CX l G T' d' mc' ms' (.ref b :: As) h n E Q') (M : MWb T' np ∧ Cond.instanceMethod T'.1 ∈ BW) (hpx : (parseMethodDescriptor x.desc).map (fun d => d.parameters.length) = some np) (hxm : x.cls ≠ "java/lang/invoke/MethodHandle" ∧ x.cls ≠ "java/lang/invoke/VarHandle") (hfw : ∀ U : State, ev_sr (gA G) U → va_Fw r.1 x T'.1 U) (hsl : Cond.selects r.1 x T'.1 ∈ BW) (hw : Cond.methodLink T.1.cls idx x ∈ BW) (hd : decode T.2.1 pc = .ok (.invokeinterface idx count, 5)) (hst : st0 = As.reverse ++ .ref b :: st)
    (hj : E[j]? = some (b, .inr (ci, fs))) (hci : vwCl[ci]? = some r) (hnp : As.length = np) (h8 : cat8 st = true) (hdd : d' + 1 ≤ d) (hm1 : ce + mc' ≤ mc) (hm2 : sl + ms' ≤ ms) (hq : pc + 5 = q)
    (kr : ∀ (v : Option Value) (h2 : HM) (n2 : Nat) (E2 : va_W), Q' v h2 n2 E2 → X l G T d mc ms Q (ce + mc') (sl + ms') q L (v.toList ++ st) h2 n2 E2) : X l G T d mc ms Q ce sl pc L st0 h n E := by
  intro p e s m args below meth c H locs ls F hl hP hE hS
  subst hst
  have hts := F.2.2.2.2.1
  have hKV : KV G s := F.2.2.2.2.2.2.2.2.1
  have hV : EVr (FrX G) G s s.heap := F.2.2.2.2.2.2.2.2.2.1
  have hm := M.1.ws
  obtain ⟨⟨hy, hp, h19, hini, hcode, hh⟩, hins⟩ := M
  obtain ⟨hSl, hfc, kC, hkC, hkind⟩ := hKV.1 ci _ hci
  obtain ⟨w1, w2, w3, w4, w5⟩ := hfw s hV.2.2.2.2.2.2.2.1
  refine RunX.done5 F hl hS hq (vx_runF (As := As) (rest := st) (b := b) (C := r.1) (cC := (gD G).1 ci) (x := x) ⟨hfc, kC, hkC, hkind⟩ ⟨F.1, F.2.1, F.2.2.1, F.2.2.2.1, F.2.2.2.2.1⟩ (hC F.2.2.2.2.2.2.2.2.2.2.2.2) ⟨⟨rfl, rfl, hdd, ?_, fun w hw => pay_bw F.2.2.2.2.1 w (hm w hw), by rw [wsT_code hh]; exact List.mem_cons_self⟩, hts _ hw, va_any rfl w1, va_any rfl w2, hts _ hsl, hts _ hins, va_any rfl w3, va_any rfl w4, va_any rfl w5, hts _ hini, hts _ hcode, hxm, fun sig hs => ?_⟩ ⟨SatX.blind, ?_, fun U hU hW => ⟨rfl, SatX.start F hP hE hS hU hW⟩⟩ rfl hnp hl.1 rfl (lv_room (of_decide_eq_true h8)) hd ⟨hm1, hm2⟩) kr
  · show 8 + (T'.2.2.1 + 11) + 38 * d' ≤ 38 * d
    omega
  · rw [hs] at hpx
    exact (Option.some.inj hpx).symm
  · exact va_recv hKV hE.1 (q0 := j) hci hj
end XC
