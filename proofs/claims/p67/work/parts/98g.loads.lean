/-! loads: the text of a building, laid and loaded -/
theorem XE.out3 {G : GG} {R : va_W} {H : Heap} {a x y : Nat × va_E} (hE : XE G (x :: y :: a :: R) H) : XE G (a :: x :: y :: R) H := (hE.cons (fun h => h.sw) (fun p hp => by
  simp only [List.mem_cons] at hp ⊢
  rcases hp with h | h | h
  · exact Or.inr (Or.inl h)
  · exact Or.inl h
  · exact Or.inr (Or.inr h))).sw
/-- a builder whose text is M -/
def SBL (G : GG) (b : Nat) (M : List Nat) (R E : va_W) : Prop := ∃ (ml : Int32) (t : Nat → Nat) (c q : Nat), SB G b ml t c q R E ∧ c ≤ q ∧ TL t c M
theorem SBL.eq {G : GG} {b : Nat} {M M2 : List Nat} {R E : va_W} (h : SBL G b M R E) (e : M = M2) : SBL G b M2 R E := e ▸ h
abbrev rnE (v : Int32) : va_E := .inr (3, [.int v])
theorem zB_ok : ∀ j, j < 4 → defaultValue (tyJ4 j) = vp_V [.null, .int 0, .int 0, .int 0] j := by
  intro j hj
  rcases (show j = 0 ∨ j = 1 ∨ j = 2 ∨ j = 3 by omega) with rfl | rfl | rfl | rfl <;> rfl
section XB
variable {l : Launch} {G : GG} {T : MT} {d mc ms ce sl idx b B r0 k : Nat} {Q : PE} {pc q : Nat} {L : List (Option Value)} {st : List Value} {h : HM} {R E : va_W} {M S : List Nat} {v : Nat} {w : Int32}
theorem X.sbI (hd : decode T.2.1 pc = .ok (.invokevirtual idx, 3)) (hS : SBL G b M R E) (hl : M.length ≤ B) (hB : B + 2 ≤ 400) (hv : v < 100) (hw : Cond.methodLink T.1.cls idx TJ4_append_bf812.1 ∈ BW) (h8 : cat8 st = true) (hdd : 5 + 1 ≤ d) (hm1 : ce + 1 ≤ mc) (hm2 : sl + 1000 ≤ ms) (hq : pc + 3 = q) (kk : ∀ E2, SBL G b (M ++ dL v) R E2 → (M ++ dL v).length ≤ B + 2 → X l G T d mc ms Q (ce + 1) (sl + 1000) q L (.ref b :: st) h NC E2) : X l G T d mc ms Q ce sl pc L (.int (nI v) :: .ref b :: st) h NC E := by
  obtain ⟨ml, t, c, q9, ⟨va, N, f, rfl, hqN, hN, hL, hf⟩, hcq, hT⟩ := hS
  have hlen := dL_len v
  have h1 := (TL.dec hv).1
  have h2 := hT.1
  refine X.callV (As := [_]) (j := 0) (ci := 4) (kX_sbI ⟨va, N, f, rfl, hqN, hN, hL, hf⟩ hcq hv (by omega)) MJ4_append_bf812 hw hd rfl rfl rfl rfl rfl h8 hdd hm1 hm2 hq (fun v2 h2 n2 E2 hQ => ?_)
  obtain ⟨rfl, rfl, rfl, hS2⟩ := hQ
  exact kk E2 ⟨ml, _, _, _, hS2, Nat.le_refl _, hT.cat (TL.dec hv)⟩ (by rw [List.length_append]; omega)
theorem X.sbC (hd : decode T.2.1 pc = .ok (.invokevirtual idx, 3)) (hS : SBL G b M R E) (hl : M.length ≤ B) (hB : B + 1 ≤ 400) (hv : v < 128) (hw : Cond.methodLink T.1.cls idx TJ4_append_cf468.1 ∈ BW) (h8 : cat8 st = true) (hdd : 5 + 1 ≤ d) (hm1 : ce + 1 ≤ mc) (hm2 : sl + 1000 ≤ ms) (hq : pc + 3 = q) (kk : ∀ E2, SBL G b (M ++ [v]) R E2 → (M ++ [v]).length ≤ B + 1 → X l G T d mc ms Q (ce + 1) (sl + 1000) q L (.ref b :: st) h NC E2) : X l G T d mc ms Q ce sl pc L (.int (nI v) :: .ref b :: st) h NC E := by
  obtain ⟨ml, t, c, q9, ⟨va, N, f, rfl, hqN, hN, hL, hf⟩, hcq, hT⟩ := hS
  have h2 := hT.1
  refine X.callV (As := [_]) (j := 0) (ci := 4) (kX_sbC ⟨va, N, f, rfl, hqN, hN, hL, hf⟩ hcq hv (by omega)) MJ4_append_cf468 hw hd rfl rfl rfl rfl rfl h8 hdd hm1 hm2 hq (fun v2 h2 n2 E2 hQ => ?_)
  obtain ⟨rfl, rfl, rfl, hS2⟩ := hQ
  exact kk E2 ⟨ml, _, _, _, hS2, Nat.le_refl _, hT.cat TL.chr⟩ (by rw [List.length_append, List.length_singleton]; omega)
theorem X.sbS {j : Nat} (hd : decode T.2.1 pc = .ok (.invokevirtual idx, 3)) (hS : SBL G b M R E) (hl : M.length ≤ B) (hB : B + 9 ≤ 400) (hj : j < ev_ks.length) (hT2 : TL (jT j) (jLen j) S) (hS9 : S.length ≤ 9) (hw : Cond.methodLink T.1.cls idx TJ4_append_15ec4.1 ∈ BW) (h8 : cat8 st = true) (hdd : 5 + 1 ≤ d) (hm1 : ce + 1 ≤ mc) (hm2 : sl + 1000 ≤ ms) (hq : pc + 3 = q) (kk : ∀ E2, SBL G b (M ++ S) R E2 → (M ++ S).length ≤ B + 9 → X l G T d mc ms Q (ce + 1) (sl + 1000) q L (.ref b :: st) h NC E2) : X l G T d mc ms Q ce sl pc L (.ref (gA G (100 + j)) :: .ref b :: st) h NC E := by
  obtain ⟨ml, t, c, q9, ⟨va, N, f, rfl, hqN, hN, hL, hf⟩, hcq, hT⟩ := hS
  have h2 := hT.1
  have h3 := hT2.1
  refine X.callV (As := [_]) (j := 0) (ci := 4) (kX_sbS ⟨va, N, f, rfl, hqN, hN, hL, hf⟩ hcq hj (by omega)) MJ4_append_15ec4 hw hd rfl rfl rfl rfl rfl h8 hdd hm1 hm2 hq (fun v2 h2 n2 E2 hQ => ?_)
  obtain ⟨rfl, rfl, rfl, hS2⟩ := hQ
  exact kk E2 ⟨ml, _, _, _, hS2, Nat.le_refl _, hT.cat hT2⟩ (by rw [List.length_append]; omega)
theorem X.rn (hd : decode T.2.1 pc = .ok (.invokevirtual idx, 3)) (hS : SBL G b M ((r0, rnE w) :: R) E) (hk : 0 < k) (hk2 : k < 2 ^ 31) (hw : Cond.methodLink T.1.cls idx TX5_next.1 ∈ BW) (h8 : cat8 st = true) (hdd : 0 + 1 ≤ d) (hm1 : ce ≤ mc) (hm2 : sl ≤ ms) (hq : pc + 3 = q) (kk : ∀ (z : Nat) (E2 : va_W), z < k → SBL G b M ((r0, rnE (rnS w)) :: R) E2 → X l G T d mc ms Q ce sl q L (.int (nI z) :: st) h NC E2) : X l G T d mc ms Q ce sl pc L (.int (nI k) :: .ref r0 :: st) h NC E := by
  obtain ⟨ml, t, c, q9, ⟨va, N, f, rfl, hqN, hN, hL, hf⟩, hcq, hT⟩ := hS
  refine X.ex (fun H h => h.out3) ?_
  refine X.callV (As := [_]) (j := 0) (ci := 3) (kX_rnNext hk hk2) MX5_next hw hd rfl rfl rfl rfl rfl h8 hdd hm1 hm2 hq (fun v2 h2 n2 E2 hQ => ?_)
  obtain ⟨rfl, rfl, rfl, rfl⟩ := hQ
  refine X.ex (fun H h => h.in3) ?_
  exact kk _ _ (rnD_lt hk) ⟨ml, t, c, q9, ⟨va, N, f, rfl, hqN, hN, hL, hf⟩, hcq, hT⟩
/-- a method of the class, with any post-condition -/
theorem X.cX {σ : St} {T' : MT} {d' mc' ms' np : Nat} {P : Ans → St → Prop} {w : Value} {st0 : List Value} (As : List Value) (hd : decode T.2.1 pc = .ok (.invokevirtual idx, 3)) (hst : st0 = As.reverse ++ .ref (gB G + 0) :: st) (hC : CtX l G T' d' mc' ms' (.ref (gB G + 0) :: As) σ P) (M : MWv T' np) (hw : Cond.methodLink T.1.cls idx T'.1 ∈ BW) {TT : u_T} {N : Nat} (hci : vwCl[2]? = some (T'.1.cls, TT, N)) (hnp : As.length = np) (h8 : cat8 st = true) (hdd : d' + 1 ≤ d) (hP : ∀ a τ, P a τ → a = .inl (some w)) (hq : pc + 3 = q) (hm1 : ce + mc' ≤ mc) (hm2 : sl + ms' ≤ ms) (kk : ∀ τ : St, P (.inl (some w)) τ → X l G T d mc ms Q (ce + mc') (sl + ms') q L (w :: st) (hof G τ) NC E) : X l G T d mc ms Q ce sl pc L st0 (hof G σ) NC E := by
  refine X.callVc (As := As) (k := 0) (ci := 2) (fs := fsL G (sF σ 0)) hC M hw hd hst (hof_at (k := 0) rfl) (by decide) hci hnp h8 hdd hm1 hm2 hq (fun E8 h2 n2 hQ => ?_) (fun v2 h2 n2 hQ => ?_)
  · obtain ⟨τ, -, -, hp⟩ := hQ
    cases hP _ _ hp
  · obtain ⟨τ, rfl, rfl, hp⟩ := hQ
    cases hP _ _ hp
    exact kk τ hp
end XB
/-! the letters -/
theorem A8.get {M : List Nat} (h : ∀ x, x ∈ M → x < 128) : ∀ i, i < M.length → M.getD i 0 < 128 := fun i hi => by
  rw [List.getD_eq_getElem?_getD, List.getElem?_eq_getElem hi]
  exact h _ (List.getElem_mem hi)
theorem dL_8 {v : Nat} (hv : v < 100) : ∀ x, x ∈ dL v → x < 128 := fun x hx => by
  have h := dL_dg hv x hx
  unfold dgN at h
  simp only [Bool.and_eq_true, decide_eq_true_eq] at h
  omega
theorem clT_8 {N : Nat} {c : Cl} (hN : N ≤ 100) (hc : clOk N c) : ∀ x, x ∈ clT c → x < 128 := fun x hx => by
  obtain ⟨c1, c2, -, c4⟩ := hc
  unfold clT at hx
  simp only [List.mem_append, List.mem_cons, List.not_mem_nil, or_false] at hx
  rcases hx with (h | h | h | h) | h | h | h | h | h | h
  · omega
  · omega
  · omega
  · omega
  · omega
  · exact dL_8 (by omega) x h
  · omega
  · exact dL_8 (by omega) x h
  · cases e : c.2.2 with
    | none => rw [e] at h; cases h
    | some t =>
      rw [e] at h
      have h' : x ∈ [32, 97, 116] ++ 32 :: dL t := h
      simp only [List.mem_append, List.mem_cons, List.not_mem_nil, or_false] at h'
      rcases h' with (h' | h' | h') | h' | h'
      · omega
      · omega
      · omega
      · omega
      · exact dL_8 (c4 t e) x h'
  · omega
theorem clsT_8 {N : Nat} (hN : N ≤ 100) : ∀ {cs : List Cl}, (∀ c, c ∈ cs → clOk N c) → ∀ x, x ∈ clsT cs → x < 128
  | [], _, x, hx => nomatch hx
  | c :: cs, hc, x, hx => by
    rcases List.mem_append.mp (show x ∈ clT c ++ clsT cs from hx) with h | h
    · exact clT_8 hN (hc c List.mem_cons_self) x h
    · exact clsT_8 hN (fun y hy => hc y (List.mem_cons_of_mem _ hy)) x h
theorem ldT_8 {N C p : Nat} {cs : List Cl} (hN : N < 100) (hC : C < 100) (hp : p ≤ 2) (hcs : ∀ c, c ∈ cs → clOk N c) : ∀ x, x ∈ ldT N C p cs → x < 128 := fun x hx => by
  unfold ldT at hx
  simp only [List.mem_append, List.mem_cons, List.not_mem_nil, or_false] at hx
  rcases hx with (h | h | h | h) | h | h | h | h | h | h | h | h
  · omega
  · omega
  · omega
  · omega
  · omega
  · exact dL_8 hN x h
  · omega
  · exact dL_8 hC x h
  · omega
  · have h2 := (poW_le hp).1 x h
    unfold leN at h2
    simp only [Bool.and_eq_true, decide_eq_true_eq] at h2
    omega
  · omega
  · exact clsT_8 (by omega) hcs x h
/-! the class's state after lays -/
def abI (a : Ab) (o : Txt) : Ab := (aU a, a.2.1, a.2.2.1, o, a.2.2.2.2)
theorem CL.i {σ τ : St} {a : Ab} {o : Txt} (h : CL σ a) (hf : FrI σ τ) (hO : CI τ o) : CL τ (abI a o) := by
  obtain ⟨⟨q1, h1⟩, ⟨np, n1, n2, n3, n4, n5⟩, h3, h4, h5, h6⟩ := h
  have k : ∀ p w q2, 0 < p → (p + 6 < 18 ∨ 18 < p) → RC σ p w q2 → RC τ p w q2 := fun p w q2 hp hp2 hr => hr.keep (funext fun j => hf.1 p j (by omega)) (fun j _ _ => hf.2.1 j (by omega))
  refine ⟨⟨q1, k _ _ _ (by decide) (by decide) h1⟩, ⟨np, n1, (hf.1 0 3 (by decide)).trans n2, (hf.1 0 4 (by decide)).trans n3, n4, fun i hi => ?_⟩, fun s hs => ⟨by rw [hf.2.1 17 (by decide)]; exact (h3 s hs).1, fun hb => ?_⟩, hO, ⟨(hf.1 19 7 (by decide)).trans h5.1, (hf.1 19 8 (by decide)).trans h5.2⟩, ⟨(hf.1 0 11 (by decide)).trans h6.1, fun i hi => by rw [hf.2.1 23 (by decide)]; exact h6.2 i hi⟩⟩
  · obtain ⟨q2, hr⟩ := n5 i hi
    exact ⟨q2, k _ _ _ (by omega) (by omega) hr⟩
  · obtain ⟨q2, hr⟩ := (h3 s hs).2 hb
    exact ⟨q2, k _ _ _ (by omega) (by omega) hr⟩
/-- what loads leaves -/
def QLoads (G : GG) (N P : Nat) : PE := fun v h2 n2 _ => ∃ (τ : St) (u : Vw) (qq : Nat → Nat) (r : Nat) (hv : Nat → Vw), v = some (.int 1) ∧ h2 = hof G τ ∧ n2 = NC ∧ RC τ 1 u qq ∧ WJ u ∧ CH τ r hv ∧ un u = P ∧ us u 0 = nI N ∧ us u 3 = 0
/-! one more call behind the text -/
theorem cls_next {M0 : List Nat} {cs : List Cl} {o d : Nat} : (((((M0 ++ clsT cs) ++ [99, 97, 108, 108, 32]) ++ dL o) ++ [32]) ++ dL d) ++ [59] = M0 ++ clsT (cs ++ [(o, d, none)]) := by
  rw [clsT_app]
  unfold clT atT
  simp only [List.append_assoc, List.cons_append, List.nil_append]
theorem cls_next2 {M0 : List Nat} {cs : List Cl} {o d t : Nat} : (((((((M0 ++ clsT cs) ++ [99, 97, 108, 108, 32]) ++ dL o) ++ [32]) ++ dL d) ++ [32, 97, 116, 32]) ++ dL t) ++ [59] = M0 ++ clsT (cs ++ [(o, d, some t)]) := by
  rw [clsT_app]
  unfold clT atT
  simp only [List.append_assoc, List.cons_append, List.nil_append]
theorem clOk_app {N : Nat} {cs : List Cl} {c : Cl} (h : ∀ x, x ∈ cs → clOk N x) (hc : clOk N c) : ∀ x, x ∈ cs ++ [c] → clOk N x := fun x hx => by
  rcases List.mem_append.mp hx with e | e
  · exact h x e
  · rw [List.mem_singleton.mp e]; exact hc
theorem other {o k N : Nat} (ho : o < N) (hk : k < N - 1) : (o + 1 + k) % N < N ∧ (o + 1 + k) % N ≠ o := by
  refine ⟨Nat.mod_lt _ (by omega), ?_⟩
  rcases Nat.lt_or_ge (o + 1 + k) N with z | z
  · rw [Nat.mod_eq_of_lt z]
    omega
  · rw [Nat.mod_eq_sub_mod z, Nat.mod_eq_of_lt (by omega)]
    omega
theorem hd_text {N C p : Nat} {cs : List Cl} : (((([108, 105, 102, 116, 32] ++ dL N) ++ [32]) ++ dL C) ++ 32 :: (poW p ++ [59])) ++ clsT cs = ldT N C p cs := by
  unfold ldT
  simp only [List.append_assoc, List.cons_append, List.nil_append]
set_option maxHeartbeats 1000000 in
theorem loads_pol {l : Launch} {G : GG} {h : HM} {Q : PE} {ce sl b Nf P r0 p : Nat} {M : List Nat} {R E : va_W} {w5 w6 w7 : Option Value} (hp : p < 3) (hS : SBL G b M R E) (hl : M.length ≤ 100) (hce : ce + 1 ≤ 110) (hsl : sl + 1000 ≤ 80000) (next : ∀ E2, SBL G b (M ++ 32 :: (poW p ++ [59])) R E2 → (M ++ 32 :: (poW p ++ [59])).length ≤ 109 → X l G TL_loads 9 110 80000 Q (ce + 1) (sl + 1000) 61 [some (.ref (gB G + 0)), some (.ref r0), some (.int (nI Nf)), some (.int (nI P)), some (.int (nI p)), w5, w6, w7] [.ref b] h NC E2) : X l G TL_loads 9 110 80000 Q ce sl 35 [some (.ref (gB G + 0)), some (.ref r0), some (.int (nI Nf)), some (.int (nI P)), some (.int (nI p)), w5, w6, w7] [.ref b] h NC E := by
  rcases (show p = 0 ∨ p = 1 ∨ p = 2 by omega) with rfl | rfl | rfl
  · refine X.iload (q := 37) dL_loads_35 rfl rfl ?_
    refine X.if_ne (tgt := 45) (q := 40) dL_loads_37 (by decide) rfl (fun c37 => ?_) (fun c37 => ?_)
    · exact absurd rfl c37
    · refine X.ldcS (tx := "") (j := 9) (q := 42) dL_loads_40 (by decide) (by decide +kernel) rfl ?_
      refine X.goto (tgt := 58) dL_loads_42 (by decide) ?_
      refine X.sbS (j := 9) (B := 100) (q := 61) dL_loads_58 hS hl (by decide) (by decide) TL.j9 (by decide) bw_745 rfl (by decide) (by omega) (by omega) rfl (fun E9 hS hl => ?_)
      exact next _ hS hl
  · refine X.iload (q := 37) dL_loads_35 rfl rfl ?_
    refine X.if_ne (tgt := 45) (q := 40) dL_loads_37 (by decide) rfl (fun c37 => ?_) (fun c37 => ?_)
    · refine X.iload (q := 47) dL_loads_45 rfl rfl ?_
      refine X.iconst (q := 48) dL_loads_47 (v := 1) rfl rfl ?_
      refine X.icmp_ne (tgt := 56) (q := 51) dL_loads_48 (by decide) rfl (fun c48 => ?_) (fun c48 => ?_)
      · exact absurd rfl c48
      · refine X.ldcS (tx := "") (j := 10) (q := 53) dL_loads_51 (by decide) (by decide +kernel) rfl ?_
        refine X.goto (tgt := 58) dL_loads_53 (by decide) ?_
        refine X.sbS (j := 10) (B := 100) (q := 61) dL_loads_58 hS hl (by decide) (by decide) TL.j10 (by decide) bw_745 rfl (by decide) (by omega) (by omega) rfl (fun E9 hS hl => ?_)
        exact next _ hS hl
    · exact absurd c37 (by decide)
  · refine X.iload (q := 37) dL_loads_35 rfl rfl ?_
    refine X.if_ne (tgt := 45) (q := 40) dL_loads_37 (by decide) rfl (fun c37 => ?_) (fun c37 => ?_)
    · refine X.iload (q := 47) dL_loads_45 rfl rfl ?_
      refine X.iconst (q := 48) dL_loads_47 (v := 1) rfl rfl ?_
      refine X.icmp_ne (tgt := 56) (q := 51) dL_loads_48 (by decide) rfl (fun c48 => ?_) (fun c48 => ?_)
      · refine X.ldcS (tx := "") (j := 11) (q := 58) dL_loads_56 (by decide) (by decide +kernel) rfl ?_
        refine X.sbS (j := 11) (B := 100) (q := 61) dL_loads_58 hS hl (by decide) (by decide) TL.j11 (by decide) bw_745 rfl (by decide) (by omega) (by omega) rfl (fun E9 hS hl => ?_)
        exact next _ hS hl
      · exact absurd c48 (by decide)
    · exact absurd c37 (by decide)
set_option maxHeartbeats 2000000 in
theorem loads_loop {l : Launch} {G : GG} {h : HM} {Q : PE} {b Nf P r0 : Nat} {M0 : List Nat} {R : va_W} {w4 : Option Value} (hN : 2 ≤ Nf ∧ Nf ≤ 10) (hP : P ≤ 10) (hM0 : M0.length ≤ 110) (next : ∀ (cs : List Cl) (v : Int32) (ce sl : Nat) (E : va_W) (w6 w7 : Option Value), cs.length = P → (∀ c, c ∈ cs → clOk Nf c) → SBL G b (M0 ++ clsT cs) ((r0, rnE v) :: R) E → ce ≤ 80 → sl ≤ 78000 → X l G TL_loads 9 110 80000 Q ce sl 153 [some (.ref (gB G + 0)), some (.ref r0), some (.int (nI Nf)), some (.int (nI P)), w4, some (.ref b), w6, w7] [] h NC E) : ∀ (m : Nat) (cs : List Cl) (k ce sl : Nat) (v : Int32) (E : va_W) (w7 : Option Value), m = P - k → cs.length = k → k ≤ P → (∀ c, c ∈ cs → clOk Nf c) → SBL G b (M0 ++ clsT cs) ((r0, rnE v) :: R) E → ce ≤ 8 + 7 * k → sl ≤ 7000 + 7000 * k → X l G TL_loads 9 110 80000 Q ce sl 66 [some (.ref (gB G + 0)), some (.ref r0), some (.int (nI Nf)), some (.int (nI P)), w4, some (.ref b), some (.int (nI k)), w7] [] h NC E := by
  intro m
  induction m using Nat.strongRecOn with
  | _ m ih =>
      intro cs k ce sl v E w7 hm hk hkP0 hok hS hce hsl
      subst hm
      have hl : (M0 ++ clsT cs).length ≤ 290 := by
        have := clsT_len cs
        rw [List.length_append]
        omega
      refine X.iload (q := 68) dL_loads_66 rfl rfl ?_
      refine X.iload_n (q := 69) dL_loads_68 rfl rfl ?_
      refine X.icmp_ge (tgt := 153) (q := 72) dL_loads_69 (by decide) rfl (fun c69 => ?_) (fun c69 => ?_)
      · have hkP : k = P := by have := nle c69 (by omega) (by omega); omega
        exact next cs v ce sl E _ _ (by omega) hok hS (by omega) (by omega)
      · have hkP : k < P := nnle c69 (by omega) (by omega)
        refine X.aload_n (q := 73) dL_loads_72 rfl rfl ?_
        refine X.iload_n (q := 74) dL_loads_73 rfl rfl ?_
        refine X.rn (k := Nf) (q := 77) dL_loads_74 hS (by omega) (by omega) bw_539 rfl (by decide) (by omega) (by omega) rfl (fun o E9 ho9 hS => ?_)
        refine X.istore (q := 79) dL_loads_77 rfl rfl rfl ?_
        refine X.aload (q := 81) dL_loads_79 rfl rfl ?_
        refine X.ldcS (tx := "") (j := 12) (q := 83) dL_loads_81 (by decide) (by decide +kernel) rfl ?_
        refine X.sbS (j := 12) (B := 290) (q := 86) dL_loads_83 hS hl (by decide) (by decide) TL.j12 (by decide) bw_745 rfl (by decide) (by omega) (by omega) rfl (fun E9 hS hl => ?_)
        refine X.iload (q := 88) dL_loads_86 rfl rfl ?_
        refine X.sbI (v := o) (B := 299) (q := 91) dL_loads_88 hS hl (by decide) (by omega) bw_695 rfl (by decide) (by omega) (by omega) rfl (fun E9 hS hl => ?_)
        refine X.bipush (q := 93) dL_loads_91 (v := 32) rfl rfl ?_
        refine X.sbC (v := 32) (B := 301) (q := 96) dL_loads_93 hS hl (by decide) (by decide) bw_720 rfl (by decide) (by omega) (by omega) rfl (fun E9 hS hl => ?_)
        refine X.iload (q := 98) dL_loads_96 rfl rfl ?_
        refine X.iconst (q := 99) dL_loads_98 (v := 1) rfl rfl ?_
        refine X.iadd (q := 100) dL_loads_99 rfl ?_
        rw [nI_1]
        refine X.aload_n (q := 101) dL_loads_100 rfl rfl ?_
        refine X.iload_n (q := 102) dL_loads_101 rfl rfl ?_
        refine X.iconst (q := 103) dL_loads_102 (v := 1) rfl rfl ?_
        refine X.isub (q := 104) dL_loads_103 rfl ?_
        rw [show nI Nf - 1 = nI (Nf - 1) from nI_sub (b := 1) (by omega) (by omega)]
        refine X.rn (k := Nf - 1) (q := 107) dL_loads_104 hS (by omega) (by omega) bw_539 rfl (by decide) (by omega) (by omega) rfl (fun z E9 hz9 hS => ?_)
        refine X.iadd (q := 108) dL_loads_107 rfl ?_
        rw [nI_plus]
        refine X.iload_n (q := 109) dL_loads_108 rfl rfl ?_
        refine X.irem (q := 110) dL_loads_109 (fun z9 => by have := neq (b := 0) z9 (by omega) (by omega); omega) rfl ?_
        rw [show nI (o + 1 + z) - nI (o + 1 + z) / nI Nf * nI Nf = nI ((o + 1 + z) % Nf) from nI_rem (by omega) (by omega) (by omega)]
        refine X.sbI (v := (o + 1 + z) % Nf) (B := 302) (q := 113) dL_loads_110 hS hl (by decide) (by have := (other ho9 hz9).1; omega) bw_695 rfl (by decide) (by omega) (by omega) rfl (fun E9 hS hl => ?_)
        refine X.pop (q := 114) dL_loads_113 rfl rfl ?_
        refine X.aload_n (q := 115) dL_loads_114 rfl rfl ?_
        refine X.iconst (q := 116) dL_loads_115 (v := 2) rfl rfl ?_
        refine X.rn (k := 2) (q := 119) dL_loads_116 hS (by decide) (by decide) bw_539 rfl (by decide) (by omega) (by omega) rfl (fun y E9 hy9 hS => ?_)
        refine X.if_ne (tgt := 139) (q := 122) dL_loads_119 (by decide) rfl (fun c119 => ?_) (fun c119 => ?_)
        · refine X.aload (q := 141) dL_loads_139 rfl rfl ?_
          refine X.bipush (q := 143) dL_loads_141 (v := 59) rfl rfl ?_
          refine X.sbC (v := 59) (B := 304) (q := 146) dL_loads_143 hS hl (by decide) (by decide) bw_720 rfl (by decide) (by omega) (by omega) rfl (fun E9 hS hl => ?_)
          refine X.pop (q := 147) dL_loads_146 rfl rfl ?_
          refine X.iinc (q := 150) dL_loads_147 rfl (by first | exact nI_inc _ | rfl) rfl rfl rfl ?_
          refine X.goto (tgt := 66) dL_loads_150 (by decide) ?_
          exact ih (P - (k + 1)) (by omega) (cs ++ [(o, (o + 1 + z) % Nf, none)]) (k + 1) _ _ _ _ _ rfl (by rw [List.length_append, List.length_singleton]; omega) (by omega) (clOk_app hok ⟨ho9, (other ho9 hz9).1, (other ho9 hz9).2, fun t ht => by cases ht⟩) (hS.eq cls_next) (by omega) (by omega)
        · refine X.aload (q := 124) dL_loads_122 rfl rfl ?_
          refine X.ldcS (tx := "") (j := 13) (q := 126) dL_loads_124 (by decide) (by decide +kernel) rfl ?_
          refine X.sbS (j := 13) (B := 304) (q := 129) dL_loads_126 hS hl (by decide) (by decide) TL.j13 (by decide) bw_745 rfl (by decide) (by omega) (by omega) rfl (fun E9 hS hl => ?_)
          refine X.aload_n (q := 130) dL_loads_129 rfl rfl ?_
          refine X.bipush (q := 132) dL_loads_130 (v := 40) rfl rfl ?_
          refine X.rn (k := 40) (q := 135) dL_loads_132 hS (by decide) (by decide) bw_539 rfl (by decide) (by omega) (by omega) rfl (fun x E9 hx9 hS => ?_)
          refine X.sbI (v := x) (B := 313) (q := 138) dL_loads_135 hS hl (by decide) (by omega) bw_695 rfl (by decide) (by omega) (by omega) rfl (fun E9 hS hl => ?_)
          refine X.pop (q := 139) dL_loads_138 rfl rfl ?_
          refine X.aload (q := 141) dL_loads_139 rfl rfl ?_
          refine X.bipush (q := 143) dL_loads_141 (v := 59) rfl rfl ?_
          refine X.sbC (v := 59) (B := 315) (q := 146) dL_loads_143 hS hl (by decide) (by decide) bw_720 rfl (by decide) (by omega) (by omega) rfl (fun E9 hS hl => ?_)
          refine X.pop (q := 147) dL_loads_146 rfl rfl ?_
          refine X.iinc (q := 150) dL_loads_147 rfl (by first | exact nI_inc _ | rfl) rfl rfl rfl ?_
          refine X.goto (tgt := 66) dL_loads_150 (by decide) ?_
          exact ih (P - (k + 1)) (by omega) (cs ++ [(o, (o + 1 + z) % Nf, some x)]) (k + 1) _ _ _ _ _ rfl (by rw [List.length_append, List.length_singleton]; omega) (by omega) (clOk_app hok ⟨ho9, (other ho9 hz9).1, (other ho9 hz9).2, fun t ht => by cases ht; omega⟩) (hS.eq cls_next2) (by omega) (by omega)
set_option maxHeartbeats 1000000 in
theorem loads_end {l : Launch} {G : GG} {σ : St} {a : Ab} {ce sl b Nf P r0 C p : Nat} {cs : List Cl} {R E : va_W} {w6 w7 : Option Value} (hCL : CL σ a) (hA : AOk a) (hN : 2 ≤ Nf ∧ Nf ≤ 10) (hC : 1 ≤ C ∧ C ≤ 8) (hp : p ≤ 2) (hP : P ≤ 10) (hok : ∀ c, c ∈ cs → clOk Nf c) (hcP : cs.length = P) (hS : SBL G b (ldT Nf C p cs) R E) (hce : ce ≤ 80) (hsl : sl ≤ 78000) : X l G TL_loads 9 110 80000 (QLoads G Nf P) ce sl 153 [some (.ref (gB G + 0)), some (.ref r0), some (.int (nI Nf)), some (.int (nI P)), some (.int (nI p)), some (.ref b), w6, w7] [] (hof G σ) NC E := by
  have hlen := ldT_len (N := Nf) (C := C) hp cs
  have h8 := ldT_8 (N := Nf) (C := C) (by omega) (by omega) hp hok
  obtain ⟨l1, l2, l3, l4, l5⟩ := loaded (N := Nf) (C := C) (p := p) (by omega) hC hp hok (by omega)
  have hld := load_ok (o := tO (ldT Nf C p cs)) (tO_at (A8.get h8)) (tO_by (A8.get h8)) (by show (ldT Nf C p cs).length ≤ 500; omega) (by omega) hC hp hok (by omega)
  obtain ⟨ml, t, c, q9, ⟨va, Nn, f, rfl, hqN, hN1, hL, hf⟩, hcq, hT1, hT2⟩ := hS
  subst hT1
  refine X.aload_n (q := 154) dL_loads_153 rfl rfl ?_
  refine X.aload (q := 156) dL_loads_154 rfl rfl ?_
  refine X.callS (q := 159) (As := [_, _]) (kL_lays hCL.2.2.2.1 hA.2.2.2.1 (Nat.le_trans hcq hqN) hN1 hL (fun i hi => by rw [hT2 i hi]; exact A8.get h8 i hi) (by omega)) ML_lays bw_748 dL_loads_156 rfl rfl rfl (by decide) (by omega) (by omega) rfl (fun v2 h2 n2 E2 hQ => ?_)
  obtain ⟨τ, g, rfl, rfl, rfl, rfl, hF, hCI, hg⟩ := hQ
  have hCL2 : CL τ (abI a (tO (ldT Nf C p cs))) := hCL.i hF ⟨hCI.1, fun i hi => (hCI.2 i hi).trans (by
    show g i = nI ((ldT Nf C p cs).getD i 0)
    rw [hg i hi, hT2 i hi])⟩
  refine X.if_eq (tgt := 205) (q := 162) dL_loads_159 (by decide) rfl (fun c159 => ?_) (fun c159 => ?_)
  · exact absurd c159 (by decide)
  · refine X.aload_n (q := 163) dL_loads_162 rfl rfl ?_
    refine X.cX (As := []) (w := .int (nI P)) (q := 166) dL_loads_163 rfl (kL_load hCL2 ⟨hA.1, hA.2.1, hA.2.2.1, by show (ldT Nf C p cs).length ≤ 500; omega, hA.2.2.2.2⟩ (tO_by (A8.get h8))) MX4_load bw_793 rfl rfl rfl (by decide) (fun a9 τ9 h9 => by rw [h9.2.2, show loadR (aI (abI a (tO (ldT Nf C p cs)))) = _ from hld]; show (Sum.inl (some (Value.int (nI (un (adds (begu (nI Nf) (nI C) (nI p)) cs))))) : Ans) = _; rw [l2, hcP]) rfl (by omega) (by omega) (fun τ2 hp2 => ?_)
    obtain ⟨-, hCL3, -⟩ := hp2
    rw [show loadR (aI (abI a (tO (ldT Nf C p cs)))) = _ from hld] at hCL3
    obtain ⟨⟨qq, hR⟩, hH, -, -, he, -⟩ := hCL3
    refine X.iload_n (q := 167) dL_loads_166 rfl rfl ?_
    refine X.icmp_ne (tgt := 205) (q := 170) dL_loads_167 (by decide) rfl (fun c167 => ?_) (fun c167 => ?_)
    · exact absurd rfl c167
    · refine X.aload_n (q := 171) dL_loads_170 rfl rfl ?_
      refine X.c0 (w := .int (nI Nf)) (q := 174) dL_loads_171 (kL_floorCount hR) MX4_floorCount bw_969 rfl rfl (by decide) (congrArg Value.int l3) rfl ?_
      refine X.iload_n (q := 175) dL_loads_174 rfl rfl ?_
      refine X.icmp_ne (tgt := 205) (q := 178) dL_loads_175 (by decide) rfl (fun c175 => ?_) (fun c175 => ?_)
      · exact absurd rfl c175
      · refine X.aload_n (q := 179) dL_loads_178 rfl rfl ?_
        refine X.c0 (w := .int (nI p)) (q := 182) dL_loads_179 (kL_policy hR) MX4_policy bw_209 rfl rfl (by decide) (congrArg Value.int l4) rfl ?_
        refine X.iload (q := 184) dL_loads_182 rfl rfl ?_
        refine X.icmp_ne (tgt := 205) (q := 187) dL_loads_184 (by decide) rfl (fun c184 => ?_) (fun c184 => ?_)
        · exact absurd rfl c184
        · refine X.aload_n (q := 188) dL_loads_187 rfl rfl ?_
          refine X.c0 (w := .int 0) (q := 191) dL_loads_188 kL_parseError MX4_parseError bw_973 rfl rfl (by decide) (congrArg Value.int he.1) rfl ?_
          refine X.if_ne (tgt := 205) (q := 194) dL_loads_191 (by decide) rfl (fun c191 => ?_) (fun c191 => ?_)
          · exact absurd rfl c191
          · refine X.aload_n (q := 195) dL_loads_194 rfl rfl ?_
            refine X.c0 (w := .int 0) (q := 198) dL_loads_195 (kL_time hR) MX4_time bw_213 rfl rfl (by decide) (congrArg Value.int l5) rfl ?_
            refine X.if_ne (tgt := 205) (q := 201) dL_loads_198 (by decide) rfl (fun c198 => ?_) (fun c198 => ?_)
            · exact absurd rfl c198
            · refine X.iconst (q := 202) dL_loads_201 (v := 1) rfl rfl ?_
              refine X.goto (tgt := 206) dL_loads_202 (by decide) ?_
              exact X.zret (ty := .boolean) rfl dL_loads_206 rfl ⟨τ2, _, qq, _, _, rfl, rfl, rfl, hR, l1, hH, l2.trans hcP, l3, l5⟩
set_option maxHeartbeats 1000000 in
theorem kL_loads {l : Launch} {G : GG} {σ : St} {a : Ab} {Nf P r0 : Nat} {v : Int32} {R : va_W} (hCL : CL σ a) (hA : AOk a) (hN : 2 ≤ Nf ∧ Nf ≤ 10) (hP : P ≤ 10) : CX l G TL_loads 9 110 80000 [.ref (gB G + 0), .ref r0, .int (nI Nf), .int (nI P)] (hof G σ) NC ((r0, rnE v) :: R) (QLoads G Nf P) := by
  refine CX.ofX (by decide +kernel) rfl rfl (Nat.le_of_ble_eq_true rfl) ?_
  refine X.aload_n (q := 1) dL_loads_0 rfl rfl ?_
  refine X.iconst (q := 2) dL_loads_1 (v := 3) rfl rfl ?_
  refine X.callV (q := 5) (As := [_]) (j := 0) (ci := 3) (kX_rnNext (k := 3) (by decide) (by decide)) MX5_next bw_539 dL_loads_2 rfl rfl rfl rfl rfl rfl (by decide) (by omega) (by omega) rfl (fun v2 h2 n2 E2 hQ => ?_)
  obtain ⟨rfl, rfl, rfl, rfl⟩ := hQ
  have hp9 := rnD_lt (v := rnS v) (show 0 < 3 by decide)
  generalize rnD (rnS v) 3 = p at hp9 ⊢
  refine X.istore (q := 7) dL_loads_5 rfl rfl rfl ?_
  refine X.new (q := 10) (ci := 4) (N := 4) (fs := [.null, .int 0, .int 0, .int 0]) dL_loads_7 rfl inJ4 tyJ4_ok bw_544 bw_545 bw_6 zB_ok rfl (by decide) (by decide) rfl (fun b => ?_)
  refine X.dup (q := 11) dL_loads_10 rfl rfl ?_
  refine X.ldcS (tx := "") (j := 8) (q := 13) dL_loads_11 (by decide) (by decide +kernel) rfl ?_
  refine X.callI (q := 16) (As := [_]) (kX_sbInit (j := 8) (t := fun _ => 0) (by decide)) MJ4_init_a7421 rfl bw_547 dL_loads_13 rfl rfl rfl (by decide) (by decide) (by decide) rfl (fun v2 h2 n2 E2 hQ => ?_)
  obtain ⟨rfl, rfl, rfl, hS0⟩ := hQ
  have hS : SBL G b ([] ++ [108, 105, 102, 116, 32]) ((r0, rnE (rnS v)) :: R) E2 := ⟨0, _, _, _, hS0, Nat.le_refl _, by
    have h9 := TL.cat (t := fun _ => 0) (TL.nil) TL.j8
    rw [Nat.zero_add] at h9
    exact h9⟩
  have hl : ([] ++ [108, 105, 102, 116, 32] : List Nat).length ≤ 5 := by decide
  refine X.iload_n (q := 17) dL_loads_16 rfl rfl ?_
  refine X.sbI (v := Nf) (B := 5) (q := 20) dL_loads_17 hS hl (by decide) (by omega) bw_695 rfl (by decide) (by omega) (by omega) rfl (fun E9 hS hl => ?_)
  refine X.bipush (q := 22) dL_loads_20 (v := 32) rfl rfl ?_
  refine X.sbC (v := 32) (B := 7) (q := 25) dL_loads_22 hS hl (by decide) (by decide) bw_720 rfl (by decide) (by omega) (by omega) rfl (fun E9 hS hl => ?_)
  refine X.iconst (q := 26) dL_loads_25 (v := 1) rfl rfl ?_
  refine X.aload_n (q := 27) dL_loads_26 rfl rfl ?_
  refine X.iconst (q := 28) dL_loads_27 (v := 4) rfl rfl ?_
  refine X.rn (k := 4) (q := 31) dL_loads_28 hS (by decide) (by decide) bw_539 rfl (by decide) (by omega) (by omega) rfl (fun z E9 hz9 hS => ?_)
  refine X.iadd (q := 32) dL_loads_31 rfl ?_
  rw [show (1 : Int32) + nI z = nI (1 + z) from nI_plus (a := 1)]
  refine X.sbI (v := 1 + z) (B := 8) (q := 35) dL_loads_32 hS hl (by decide) (by omega) bw_695 rfl (by decide) (by omega) (by omega) rfl (fun E9 hS hl => ?_)
  refine loads_pol hp9 hS (Nat.le_trans hl (by decide)) (by decide) (by decide) (fun E9 hS hl => ?_)
  refine X.astore (q := 63) dL_loads_61 rfl rfl rfl ?_
  refine X.iconst (q := 64) dL_loads_63 (v := 0) rfl rfl ?_
  refine X.istore (q := 66) dL_loads_64 rfl rfl rfl ?_
  refine loads_loop hN hP (Nat.le_trans hl (by decide)) (fun cs v9 ce9 sl9 E9 w6 w7 hcP hok hS9 hc9 hs9 => loads_end hCL hA hN (C := 1 + z) (by omega) (by omega) hP hok hcP (hS9.eq (by rw [List.nil_append]; exact hd_text)) hc9 hs9) (P - 0) [] 0 _ _ _ _ _ rfl rfl (Nat.zero_le _) (fun c hc => nomatch hc) (hS.eq (by rw [show clsT [] = [] from rfl, List.append_nil])) (by decide) (by decide)
