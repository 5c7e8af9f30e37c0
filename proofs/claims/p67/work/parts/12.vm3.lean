/-! rows on the world: fields, arrays, what stands below B, makings, throws, members of the library -/
section VH
variable {l : Launch} {G : GG} {T : MT} {d mc ms ce sl : Nat} {Q : PQ} {pc q : Nat} {L : List (Option Value)} {st : List Value} {h : HM} {n : Nat}
theorem V.get {idx k ci j : Nat} {fs : List Value} {C : String} {TT : u_T} {N : Nat} {v : Value} (hd : decode T.2.1 pc = .ok (.getfield idx, 3)) (hk : h k = .inr (ci, fs)) (hkn : k < n) (hci : vwCl[ci]? = some (C, TT, N)) (hin : ∀ w ∈ u_ws C TT N, w ∈ BW) (hj : j < N) (hdc : (TT j).1 = C) (hw : Cond.fieldLink T.1.cls idx C (TT j).2.1 (TT j).2.2.1 ∈ BW) (hv : fs[j]? = some v) (hq : pc + 3 = q) (kk : V l G T d mc ms Q ce sl q L (v :: st) h n) : V l G T d mc ms Q ce sl pc L (.ref (gB G + k) :: st) h n := by
  intro p e s m args below meth c H locs ls F hl hP hS
  subst hq
  have hKV : KV G s := F.2.2.2.2.2.2.2.2.1
  exact va_get F.1 F.2.1 F.2.2.2.2.1 hin F.2.2.2.1 hKV hP.P k (by rw [wof_get hkn, hk]) hci j hj (F.2.2.2.2.1 _ hw) (fun x hx => by rw [hdc] at hx; exact hx) hv hd (kk p e s m args below meth c H locs ls F hl hP hS)
theorem V.put {idx k ci j : Nat} {fs : List Value} {C : String} {TT : u_T} {tt : Nat → FieldType} {N : Nat} {v : Value} (hd : decode T.2.1 pc = .ok (.putfield idx, 3)) (hk : h k = .inr (ci, fs)) (hkn : k < n) (hci : vwCl[ci]? = some (C, TT, N)) (hin : ∀ w ∈ u_ws C TT N, w ∈ BW) (hty : ∀ k, k < N → parseFieldDescriptor (TT k).2.2.1 = some (tt k)) (hnm : ∀ a, a < N → ∀ b, b < N → a ≠ b → (TT a).2.1 ≠ (TT b).2.1) (hj : j < N) (hdc : (TT j).1 = C) (hw : Cond.fieldLink T.1.cls idx C (TT j).2.1 (TT j).2.2.1 ∈ BW) (hfin : (TT j).2.2.2 = false ∨ (T.1.name = "<init>" ∧ (TT j).1 = T.1.cls)) (hn : narrow (tt j) v = v) (hfit : fits (tt j) v = true) (hjl : j < fs.length) (hq : pc + 3 = q) (kk : V l G T d mc ms Q ce sl q L st (hset h k (.inr (ci, fs.set j v))) n) : V l G T d mc ms Q ce sl pc L (v :: .ref (gB G + k) :: st) h n := by
  intro p e s m args below meth c H locs ls F hl hP hS0
  subst hq
  have hKV : KV G s := F.2.2.2.2.2.2.2.2.1
  have hts := F.2.2.2.2.1
  have hown := F.2.2.2.1
  have hap := va_apart (own := T.1.cls) hts hin tt hty hnm hKV hci
  have hq9 := hP.2 k hkn
  rw [hk] at hq9
  obtain ⟨r, h1, cell, q1, q2, q3, q4⟩ := hq9
  have hr : r = (C, TT, N) := Option.some.inj (h1.symm.trans hci)
  subst hr
  obtain ⟨hS, hfc, kC, hkC, hkind⟩ := hKV.1 ci _ hci
  obtain ⟨cf, kf, fi, f, hi, hsl⟩ := hS j hj
  have hlay := hts _ (hin _ (u_in_lay hj))
  unfold u_lay at hlay
  have hst := (u_facts hfc hkC (u_lays hts hin hj) hi).1
  have hlink := hts _ hw
  have hi2 : s.fieldFound? C (TT j).2.1 (TT j).2.2.1 = some (cf, kf, fi, f) := by rw [← hdc]; exact hi
  have key : ∀ H' : Heap, H'[gB G + k]? = some (cell.setSlot f.slot v) → H'.size = H.size → (∀ q, q ≠ gB G + k → H'[q]? = H[q]?) → W p l e (rmV d mc ms) s m args below meth c H' (locs ++ [⟨gB G + k, f.slot⟩]) ce sl (vx_MQ below (QcV G Q) (XcV G Q) args s mc ms (FrA G)) (F0 m (pc + 3) ls st) := by
    intro H' e1 e2 e3
    refine kk p e s m args below meth c H' _ ls F hl (hP.set ⟨_, hci, ?_⟩ e2 e3) (hS0.put e2 e3 (hP.fr hkn))
    rw [hsl] at e1
    exact t_OB.to (V := updV (vp_V fs) j v) ⟨_, e1, q2, q3, t_set q4 hap hj v⟩ (fun i _ => vp_updV_set hjl v i)
  rcases hfin with hfin | ⟨hini, hdecl⟩
  · rw [if_neg (by rw [hfin]; decide)] at hlay
    have h6 := u_store hfc hkC hkind hlay hi (hty j hj) hn hfit
    exact W.putK F.1 F.2.1 (f := f) ⟨hown, hlink, ⟨_, _, _, hi2⟩, hst⟩ (by rw [q2]; exact h6) q1 q3 (by rw [hsl]; exact k2_hasslot (q4 j hj)) rfl rfl hd key
  · by_cases hf : (TT j).2.2.2 = true
    · rw [if_pos hf] at hlay
      have hcf : m.cls = cf := by
        obtain ⟨_, _, c', _, _, _, -, -, hf', -, -, -, hown2, -⟩ := Cond.laysFinal_spec hlay
        have e1 : c' = cf := by have := hi.symm.trans hf'; simp at this; exact this.1.symm
        rw [hdecl] at hown2
        rw [← e1]; exact Option.some.inj (hown.symm.trans hown2)
      have h6 := u_fits hfc hkC hkind (Or.inr hlay) hi (hty j hj) hn hfit
      exact W.putFinK F.1 F.2.1 hown hlink hi2 hst hcf (F.2.2.2.2.2.2.2.1 hini) (by rw [q2]; exact h6) q1 q3 (by rw [hsl]; exact k2_hasslot (q4 j hj)) rfl rfl hd key
    · rw [if_neg hf] at hlay
      have h6 := u_store hfc hkC hkind hlay hi (hty j hj) hn hfit
      exact W.putK F.1 F.2.1 (f := f) ⟨hown, hlink, ⟨_, _, _, hi2⟩, hst⟩ (by rw [q2]; exact h6) q1 q3 (by rw [hsl]; exact k2_hasslot (q4 j hj)) rfl rfl hd key
/-! arrays: an index is a natural -/
theorem V.iald {k N i : Nat} {f : Nat → Int32} {x : Int32} (hd : decode T.2.1 pc = .ok (.iaload, 1)) (hk : h k = .inl (gC G 0, N, .inl f)) (hkn : k < n) (hi : i < N) (hN : N < 2 ^ 31) (hx : x = nI i) (hq : pc + 1 = q) (kk : V l G T d mc ms Q ce sl q L (.int (f i) :: st) h n) : V l G T d mc ms Q ce sl pc L (.int x :: .ref (gB G + k) :: st) h n := by
  intro p e s m args below meth c H locs ls F hl hP hS
  subst hq; subst hx
  have hKV : KV G s := F.2.2.2.2.2.2.2.2.1
  refine va_iald F.1 F.2.1 hKV hP.P k 0 (by rw [wof_get hkn, hk]) rfl (vp_in_nI hi hN) hd ?_
  rw [nI_clamp (by omega)]
  exact kk p e s m args below meth c H locs ls F hl hP hS
theorem V.bald {k N i : Nat} {f : Nat → Int32} {x : Int32} (hd : decode T.2.1 pc = .ok (.baload, 1)) (hk : h k = .inl (gC G 1, N, .inl f)) (hkn : k < n) (hi : i < N) (hN : N < 2 ^ 31) (hx : x = nI i) (hq : pc + 1 = q) (kk : V l G T d mc ms Q ce sl q L (.int (f i) :: st) h n) : V l G T d mc ms Q ce sl pc L (.int x :: .ref (gB G + k) :: st) h n := by
  intro p e s m args below meth c H locs ls F hl hP hS
  subst hq; subst hx
  have hKV : KV G s := F.2.2.2.2.2.2.2.2.1
  refine va_bald F.1 F.2.1 hKV hP.P k 1 (by rw [wof_get hkn, hk]) rfl (vp_in_nI hi hN) hd ?_
  rw [nI_clamp (by omega)]
  exact kk p e s m args below meth c H locs ls F hl hP hS
theorem V.zald {k N i : Nat} {f : Nat → Int32} {x : Int32} (hd : decode T.2.1 pc = .ok (.baload, 1)) (hk : h k = .inl (gC G 2, N, .inl f)) (hkn : k < n) (hi : i < N) (hN : N < 2 ^ 31) (hx : x = nI i) (hq : pc + 1 = q) (kk : V l G T d mc ms Q ce sl q L (.int (f i) :: st) h n) : V l G T d mc ms Q ce sl pc L (.int x :: .ref (gB G + k) :: st) h n := by
  intro p e s m args below meth c H locs ls F hl hP hS
  subst hq; subst hx
  have hKV : KV G s := F.2.2.2.2.2.2.2.2.1
  refine va_zald F.1 F.2.1 hKV hP.P k 2 (by rw [wof_get hkn, hk]) rfl (vp_in_nI hi hN) hd ?_
  rw [nI_clamp (by omega)]
  exact kk p e s m args below meth c H locs ls F hl hP hS
theorem V.aald {k N i t0 : Nat} {C : String} {f : Nat → Option Nat} {a : Nat} {x : Int32} (hd : decode T.2.1 pc = .ok (.aaload, 1)) (hk : h k = .inl (gC G t0, N, .inr (.inr (.inr (.inr f))))) (hkn : k < n) (ht : (tysG G)[t0]? = some (gC G t0, .object C)) (hi : i < N) (hN : N < 2 ^ 31) (hx : x = nI i) (hf : f i = some a) (hq : pc + 1 = q) (kk : V l G T d mc ms Q ce sl q L (.ref a :: st) h n) : V l G T d mc ms Q ce sl pc L (.int x :: .ref (gB G + k) :: st) h n := by
  intro p e s m args below meth c H locs ls F hl hP hS
  subst hq; subst hx
  have hKV : KV G s := F.2.2.2.2.2.2.2.2.1
  refine va_aldq F.1 F.2.1 hKV hP.P k t0 (by rw [wof_get hkn, hk]) ht (vp_in_nI hi hN) hd ?_
  rw [nI_clamp (by omega), hf]
  exact kk p e s m args below meth c H locs ls F hl hP hS
theorem V.iast {k N i : Nat} {f : Nat → Int32} {x y : Int32} (hd : decode T.2.1 pc = .ok (.iastore, 1)) (hk : h k = .inl (gC G 0, N, .inl f)) (hkn : k < n) (hi : i < N) (hN : N < 2 ^ 31) (hx : x = nI i) (hq : pc + 1 = q) (kk : V l G T d mc ms Q ce sl q L st (hset h k (.inl (gC G 0, N, .inl (upd f i y)))) n) : V l G T d mc ms Q ce sl pc L (.int y :: .int x :: .ref (gB G + k) :: st) h n := by
  intro p e s m args below meth c H locs ls F hl hP hS
  subst hq; subst hx
  have hKV : KV G s := F.2.2.2.2.2.2.2.2.1
  have hc := hP.2 k hkn
  rw [hk] at hc
  refine W.iast F.1 F.2.1 hc ((hKV.2 0 _ rfl).1 N (fun j => .int (f j))) (fun q => by cases q) (by show ¬ (nI i < 0 ∨ (arrV _ _ _).slots.size ≤ _); rw [arrV_size]; exact vp_in_nI hi hN) rfl rfl hd fun H1 e1 z oq => ?_
  refine kk p e s m args below meth c H1 _ ls F hl (hP.set ?_ z oq) (hS.put z oq (hP.fr hkn))
  show H1[gB G + k]? = some (vp_cell _ _)
  rw [e1, vp_cell_i, vp_cell_i, arrV_store, nI_clamp (by omega)]
  congr 2
  funext j
  by_cases hj : j = i
  · subst hj; simp [updV, upd]
  · simp [updV, upd, hj]
theorem V.bast {k N i : Nat} {f : Nat → Int32} {x y : Int32} (hd : decode T.2.1 pc = .ok (.bastore, 1)) (hk : h k = .inl (gC G 1, N, .inl f)) (hkn : k < n) (hi : i < N) (hN : N < 2 ^ 31) (hx : x = nI i) (hq : pc + 1 = q) (kk : V l G T d mc ms Q ce sl q L st (hset h k (.inl (gC G 1, N, .inl (upd f i (vp_nar .byte y))))) n) : V l G T d mc ms Q ce sl pc L (.int y :: .int x :: .ref (gB G + k) :: st) h n := by
  intro p e s m args below meth c H locs ls F hl hP hS
  subst hq; subst hx
  have hKV : KV G s := F.2.2.2.2.2.2.2.2.1
  have hc := hP.2 k hkn
  rw [hk] at hc
  refine W.bast F.1 F.2.1 hc ((hKV.2 1 _ rfl).1 N (fun j => .int (f j))) (fun q => by cases q) (by show ¬ (nI i < 0 ∨ (arrV _ _ _).slots.size ≤ _); rw [arrV_size]; exact vp_in_nI hi hN) rfl rfl hd fun H1 e1 z oq => ?_
  refine kk p e s m args below meth c H1 _ ls F hl (hP.set ?_ z oq) (hS.put z oq (hP.fr hkn))
  show H1[gB G + k]? = some (vp_cell _ _)
  rw [e1, vp_cell_i, vp_cell_i, arrV_store, nI_clamp (by omega)]
  congr 2
  funext j
  by_cases hj : j = i
  · subst hj; simp [updV, upd, vp_nar, narrow]
  · simp [updV, upd, hj]
theorem V.zast {k N i : Nat} {f : Nat → Int32} {x y : Int32} (hd : decode T.2.1 pc = .ok (.bastore, 1)) (hk : h k = .inl (gC G 2, N, .inl f)) (hkn : k < n) (hi : i < N) (hN : N < 2 ^ 31) (hx : x = nI i) (hq : pc + 1 = q) (kk : V l G T d mc ms Q ce sl q L st (hset h k (.inl (gC G 2, N, .inl (upd f i (vp_nar .boolean y))))) n) : V l G T d mc ms Q ce sl pc L (.int y :: .int x :: .ref (gB G + k) :: st) h n := by
  intro p e s m args below meth c H locs ls F hl hP hS
  subst hq; subst hx
  have hKV : KV G s := F.2.2.2.2.2.2.2.2.1
  have hc := hP.2 k hkn
  rw [hk] at hc
  refine W.zast F.1 F.2.1 hc ((hKV.2 2 _ rfl).1 N (fun j => .int (f j))) (fun q => by cases q) (by show ¬ (nI i < 0 ∨ (arrV _ _ _).slots.size ≤ _); rw [arrV_size]; exact vp_in_nI hi hN) rfl rfl hd fun H1 e1 z oq => ?_
  refine kk p e s m args below meth c H1 _ ls F hl (hP.set ?_ z oq) (hS.put z oq (hP.fr hkn))
  show H1[gB G + k]? = some (vp_cell _ _)
  rw [e1, vp_cell_i, vp_cell_i, arrV_store, nI_clamp (by omega)]
  congr 2
  funext j
  by_cases hj : j = i
  · subst hj; simp [updV, upd, vp_nar, narrow]
  · simp [updV, upd, hj]
/-- a reference to one of our own objects into an array of its class -/
theorem V.aast {k N i t0 k2 ci : Nat} {r : vw_C} {vs : List Value} {f : Nat → Option Nat} {x : Int32} (hd : decode T.2.1 pc = .ok (.aastore, 1)) (hk : h k = .inl (gC G t0, N, .inr (.inr (.inr (.inr f))))) (hkn : k < n) (ht : (tysG G)[t0]? = some (gC G t0, .object r.1)) (hk2 : h k2 = .inr (ci, vs)) (hkn2 : k2 < n) (hc : vwCl[ci]? = some r) (hi : i < N) (hN : N < 2 ^ 31) (hx : x = nI i) (hq : pc + 1 = q) (kk : V l G T d mc ms Q ce sl q L st (hset h k (.inl (gC G t0, N, .inr (.inr (.inr (.inr (va_up f i (some (gB G + k2)))))))) ) n) : V l G T d mc ms Q ce sl pc L (.ref (gB G + k2) :: .int x :: .ref (gB G + k) :: st) h n := by
  intro p e s m args below meth c H locs ls F hl hP hS
  subst hq; subst hx
  have hKV : KV G s := F.2.2.2.2.2.2.2.2.1
  have hca := hP.2 k hkn
  rw [hk] at hca
  have hcv := hP.2 k2 hkn2
  rw [hk2] at hcv
  obtain ⟨r', hr', cellV, g1, g2, g3, -⟩ := hcv
  have hcls := (hKV.1 ci r hc).2
  obtain ⟨kA, comp, k1, k2', k3, -⟩ := (hKV.2 t0 _ ht).2
  have hcomp : comp = (gD G).1 ci := Option.some.inj (k3.symm.trans hcls.1)
  subst hcomp
  obtain ⟨kC, hkC, -⟩ := hcls.2
  have h0 : ¬ nI i < 0 := nI_pos (by omega)
  refine W.aast F.1 F.2.1 hca (fun q h => by cases h) (fun h => by cases h) k1 k2' rfl hkC ⟨h0, by show _ < (arrV _ _ _).slots.size; rw [arrV_size, nI_clamp (by omega)]; exact hi⟩ g1 (fun q h => by rw [g3] at h; cases h) (by rw [g2]; exact hkC) (by rw [g2]; exact va_assign hcls) rfl rfl hd fun H1 e1 z oq => ?_
  refine kk p e s m args below meth c H1 _ ls F hl (hP.set ?_ z oq) (hS.put z oq (hP.fr hkn))
  show H1[gB G + k]? = some (vp_cell _ _)
  rw [e1, vp_cell_q, vp_cell_q, arrV_store, nI_clamp (by omega)]
  congr 2
  funext j
  by_cases hj : j = i
  · subst hj; simp [updV, va_up, va_rf]
  · simp [updV, va_up, hj]
/-! what stands below B -/
theorem V.gets {idx : Nat} {C nm ds : String} {v : Value} (hd : decode T.2.1 pc = .ok (.getstatic idx, 3)) (hm : (C, nm, ds, v) ∈ ev_st (gA G)) (hw : Cond.fieldLink T.1.cls idx C nm ds ∈ BW) (hq : pc + 3 = q) (kk : V l G T d mc ms Q ce sl q L (v :: st) h n) : V l G T d mc ms Q ce sl pc L st h n := by
  intro p e s m args below meth c H locs ls F hl hP hS
  subst hq
  have hE : EV G s s.heap := F.2.2.2.2.2.2.2.2.2.1
  exact va_gets F.1 F.2.1 (hE.2.2.2.1 _ hm) hS F.2.2.2.1 (F.2.2.2.2.1 _ hw) (fun x hx => hx) hd (kk p e s m args below meth c H locs ls F hl hP hS)
theorem V.getO {idx a : Nat} {o C nm ds : String} {v : Value} (hd : decode T.2.1 pc = .ok (.getfield idx, 3)) (hm : (o, nm, ds, v, a) ∈ ev_of (gA G)) (ho : o = C) (hw : Cond.fieldLink T.1.cls idx C nm ds ∈ BW) (hq : pc + 3 = q) (kk : V l G T d mc ms Q ce sl q L (v :: st) h n) : V l G T d mc ms Q ce sl pc L (.ref a :: st) h n := by
  intro p e s m args below meth c H locs ls F hl hP hS
  subst hq
  subst ho
  have hE : EV G s s.heap := F.2.2.2.2.2.2.2.2.2.1
  exact vk_getf F.1 F.2.1 (hE.2.2.2.2.1 _ hm) hS F.2.2.2.1 (F.2.2.2.2.1 _ hw) (fun x hx => hx) hd (kk p e s m args below meth c H locs ls F hl hP hS)
theorem V.tald {a N i : Nat} {f : Nat → Value} {x : Int32} {v : Value} (hd : decode T.2.1 pc = .ok (.iaload, 1)) (hm : (FieldType.int, a, N, f) ∈ ev_ta (gA G)) (hi : i < N) (hN : N < 2 ^ 31) (hx : x = nI i) (hf : f i = v) (hq : pc + 1 = q) (kk : V l G T d mc ms Q ce sl q L (v :: st) h n) : V l G T d mc ms Q ce sl pc L (.int x :: .ref a :: st) h n := by
  intro p e s m args below meth c H locs ls F hl hP hS
  subst hq; subst hx
  have hE : EV G s s.heap := F.2.2.2.2.2.2.2.2.2.1
  exact va_ti F.1 F.2.1 (hE.2.2.2.2.2.2.1 _ hm) hS (vp_in_nI hi hN) (by rw [nI_clamp (by omega)]; exact hf) hd (kk p e s m args below meth c H locs ls F hl hP hS)
theorem V.tbald {a N i : Nat} {f : Nat → Value} {x : Int32} {v : Value} (hd : decode T.2.1 pc = .ok (.baload, 1)) (hm : (FieldType.byte, a, N, f) ∈ ev_ta (gA G)) (hi : i < N) (hN : N < 2 ^ 31) (hx : x = nI i) (hf : f i = v) (hq : pc + 1 = q) (kk : V l G T d mc ms Q ce sl q L (v :: st) h n) : V l G T d mc ms Q ce sl pc L (.int x :: .ref a :: st) h n := by
  intro p e s m args below meth c H locs ls F hl hP hS
  subst hq; subst hx
  have hE : EV G s s.heap := F.2.2.2.2.2.2.2.2.2.1
  exact va_tb F.1 F.2.1 (hE.2.2.2.2.2.2.1 _ hm) hS (vp_in_nI hi hN) (by rw [nI_clamp (by omega)]; exact hf) hd (kk p e s m args below meth c H locs ls F hl hP hS)
theorem V.taald {a N i : Nat} {C : String} {f : Nat → Value} {x : Int32} {v : Value} (hd : decode T.2.1 pc = .ok (.aaload, 1)) (hm : (FieldType.object C, a, N, f) ∈ ev_ta (gA G)) (hi : i < N) (hN : N < 2 ^ 31) (hx : x = nI i) (hf : f i = v) (hq : pc + 1 = q) (kk : V l G T d mc ms Q ce sl q L (v :: st) h n) : V l G T d mc ms Q ce sl pc L (.int x :: .ref a :: st) h n := by
  intro p e s m args below meth c H locs ls F hl hP hS
  subst hq; subst hx
  have hE : EV G s s.heap := F.2.2.2.2.2.2.2.2.2.1
  exact vb_tq F.1 F.2.1 (hE.2.2.2.2.2.2.1 _ hm) hS (vp_in_nI hi hN) (by rw [nI_clamp (by omega)]; exact hf) hd (kk p e s m args below meth c H locs ls F hl hP hS)
theorem V.tlen {a N : Nat} {ty : FieldType} {f : Nat → Value} {v : Int32} (hd : decode T.2.1 pc = .ok (.arraylength, 1)) (hm : (ty, a, N, f) ∈ ev_ta (gA G)) (hv : Int32.ofNat N = v) (hq : pc + 1 = q) (kk : V l G T d mc ms Q ce sl q L (.int v :: st) h n) : V l G T d mc ms Q ce sl pc L (.ref a :: st) h n := by
  intro p e s m args below meth c H locs ls F hl hP hS
  subst hq
  have hE : EV G s s.heap := F.2.2.2.2.2.2.2.2.2.1
  exact va_tlen F.1 F.2.1 (hE.2.2.2.2.2.2.1 _ hm) hS hv hd (kk p e s m args below meth c H locs ls F hl hP hS)
/-- the script -/
theorem V.sld {i : Nat} {x : Int32} (hd : decode T.2.1 pc = .ok (.iaload, 1)) (hi : i < gL G) (hN : gL G < 2 ^ 31) (hx : x = nI i) (hq : pc + 1 = q) (kk : V l G T d mc ms Q ce sl q L (.int (gX G i) :: st) h n) : V l G T d mc ms Q ce sl pc L (.int x :: .ref (gb G) :: st) h n := by
  intro p e s m args below meth c H locs ls F hl hP hS
  subst hq; subst hx
  have hE : EV G s s.heap := F.2.2.2.2.2.2.2.2.2.1
  refine va_sld F.1 F.2.1 hE.1.1 hE.lt hE.1.2 hS (vp_in_nI hi hN) hd ?_
  rw [nI_clamp (by omega)]
  exact kk p e s m args below meth c H locs ls F hl hP hS
theorem V.slen (hd : decode T.2.1 pc = .ok (.arraylength, 1)) (hq : pc + 1 = q) (kk : V l G T d mc ms Q ce sl q L (.int (nI (gL G)) :: st) h n) : V l G T d mc ms Q ce sl pc L (.ref (gb G) :: st) h n := by
  intro p e s m args below meth c H locs ls F hl hP hS
  subst hq
  have hE : EV G s s.heap := F.2.2.2.2.2.2.2.2.2.1
  exact va_slen F.1 F.2.1 hE.1.1 hE.lt hE.1.2 hS hd (kk p e s m args below meth c H locs ls F hl hP hS)
/-- a text's constant -/
theorem V.ldcS {i j : Nat} {tx : String} (hd : decode T.2.1 pc = .ok (.ldc i, 2)) (hj : j < ev_ks.length) (hk : ev_ks.getD j ("", 0) = (T.1.cls, i)) (hq : pc + 2 = q) (kk : V l G T d mc ms Q ce sl q L (.ref (gA G (100 + j)) :: st) h n) : V l G T d mc ms Q ce sl pc L st h n := by
  intro p e s m args below meth c H locs ls F hl hP hS
  subst hq
  have hE : EV G s s.heap := F.2.2.2.2.2.2.2.2.2.1
  have hR := hE.2.2.2.2.2.2.2.1.1 j hj
  rw [hk] at hR
  exact va_ldcS F.1 F.2.1 F.2.2.2.1 hR hd (kk p e s m args below meth c H locs ls F hl hP hS)
end VH
