/-! the class's methods, called from the law; draw -/
def TL_law : MT := (yL_law, cL_law, 17, (some .boolean), [(0, 0, 0, 0)])
section XL
variable {l : Launch} {G : GG} {T T' : MT} {d mc ms ce sl d' np idx : Nat} {Q : PE} {pc q : Nat} {L : List (Option Value)} {st : List Value} {σ : St} {E : va_W} {v w x y : Value} {okb : Bool} {E9 : String}
theorem ansA_tt {E : String} {v : Value} : ansA true E v = .inl (some v) := rfl
theorem X.c0 (hd : decode T.2.1 pc = .ok (.invokevirtual idx, 3)) (hC : CtS l G T' d' [.ref (gB G + 0)] σ (some v) σ) (M : MWv T' 0) (hw : Cond.methodLink T.1.cls idx T'.1 ∈ BW) {TT : u_T} {N : Nat} (hci : vwCl[2]? = some (T'.1.cls, TT, N)) (h8 : cat8 st = true) (hdd : d' + 1 ≤ d) (hv : v = w) (hq : pc + 3 = q) (kk : X l G T d mc ms Q ce sl q L (w :: st) (hof G σ) NC E) (hm1 : ce ≤ mc := by omega) (hm2 : sl ≤ ms := by omega) : X l G T d mc ms Q ce sl pc L (.ref (gB G + 0) :: st) (hof G σ) NC E := by
  refine X.callVc (As := []) (k := 0) (ci := 2) (fs := fsL G (sF σ 0)) hC M hw hd rfl (hof_at (k := 0) rfl) (by decide) hci rfl h8 hdd hm1 hm2 hq (fun E9 h2 n2 hQ => nomatch hQ.1) (fun v2 h2 n2 hQ => ?_)
  obtain ⟨e1, rfl, rfl⟩ := hQ
  cases e1
  subst hv
  exact kk
theorem X.c1 (hd : decode T.2.1 pc = .ok (.invokevirtual idx, 3)) (hC : CtX l G T' d' 1 6 [.ref (gB G + 0), x] σ (fun a τ => τ = σ ∧ a = ansA okb E9 v)) (M : MWv T' 1) (hw : Cond.methodLink T.1.cls idx T'.1 ∈ BW) {TT : u_T} {N : Nat} (hci : vwCl[2]? = some (T'.1.cls, TT, N)) (h8 : cat8 st = true) (hdd : d' + 1 ≤ d) (hok : okb = true) (hv : v = w) (hq : pc + 3 = q) (kk : X l G T d mc ms Q (ce + 1) (sl + 6) q L (w :: st) (hof G σ) NC E) (hm1 : ce + 1 ≤ mc := by omega) (hm2 : sl + 6 ≤ ms := by omega) : X l G T d mc ms Q ce sl pc L (x :: .ref (gB G + 0) :: st) (hof G σ) NC E := by
  subst hok
  refine X.callVc (As := [x]) (k := 0) (ci := 2) (fs := fsL G (sF σ 0)) hC M hw hd rfl (hof_at (k := 0) rfl) (by decide) hci rfl h8 hdd hm1 hm2 hq (fun E8 h2 n2 hQ => ?_) (fun v2 h2 n2 hQ => ?_)
  · obtain ⟨τ, -, -, -, e⟩ := hQ
    rw [ansA_tt] at e
    cases e
  · obtain ⟨τ, rfl, rfl, rfl, e⟩ := hQ
    rw [ansA_tt] at e
    cases e
    subst hv
    exact kk
theorem X.c2 (hd : decode T.2.1 pc = .ok (.invokevirtual idx, 3)) (hC : CtX l G T' d' 1 6 [.ref (gB G + 0), x, y] σ (fun a τ => τ = σ ∧ a = ansA okb E9 v)) (M : MWv T' 2) (hw : Cond.methodLink T.1.cls idx T'.1 ∈ BW) {TT : u_T} {N : Nat} (hci : vwCl[2]? = some (T'.1.cls, TT, N)) (h8 : cat8 st = true) (hdd : d' + 1 ≤ d) (hok : okb = true) (hv : v = w) (hq : pc + 3 = q) (kk : X l G T d mc ms Q (ce + 1) (sl + 6) q L (w :: st) (hof G σ) NC E) (hm1 : ce + 1 ≤ mc := by omega) (hm2 : sl + 6 ≤ ms := by omega) : X l G T d mc ms Q ce sl pc L (y :: x :: .ref (gB G + 0) :: st) (hof G σ) NC E := by
  subst hok
  refine X.callVc (As := [x, y]) (k := 0) (ci := 2) (fs := fsL G (sF σ 0)) hC M hw hd rfl (hof_at (k := 0) rfl) (by decide) hci rfl h8 hdd hm1 hm2 hq (fun E8 h2 n2 hQ => ?_) (fun v2 h2 n2 hQ => ?_)
  · obtain ⟨τ, -, -, -, e⟩ := hQ
    rw [ansA_tt] at e
    cases e
  · obtain ⟨τ, rfl, rfl, rfl, e⟩ := hQ
    rw [ansA_tt] at e
    cases e
    subst hv
    exact kk
/-- a method that changes the lift -/
theorem X.cH {P : Ans → St → Prop} (hd : decode T.2.1 pc = .ok (.invokevirtual idx, 3)) (hC : CtX l G T' d' 1 6 [.ref (gB G + 0), x] σ P) (M : MWv T' 1) (hw : Cond.methodLink T.1.cls idx T'.1 ∈ BW) {TT : u_T} {N : Nat} (hci : vwCl[2]? = some (T'.1.cls, TT, N)) (h8 : cat8 st = true) (hdd : d' + 1 ≤ d) (hP : ∀ a τ, P a τ → a = .inl (some w)) (hq : pc + 3 = q) (kk : ∀ τ : St, P (.inl (some w)) τ → X l G T d mc ms Q (ce + 1) (sl + 6) q L (w :: st) (hof G τ) NC E) (hm1 : ce + 1 ≤ mc := by omega) (hm2 : sl + 6 ≤ ms := by omega) : X l G T d mc ms Q ce sl pc L (x :: .ref (gB G + 0) :: st) (hof G σ) NC E := by
  refine X.callVc (As := [x]) (k := 0) (ci := 2) (fs := fsL G (sF σ 0)) hC M hw hd rfl (hof_at (k := 0) rfl) (by decide) hci rfl h8 hdd hm1 hm2 hq (fun E8 h2 n2 hQ => ?_) (fun v2 h2 n2 hQ => ?_)
  · obtain ⟨τ, -, -, hp⟩ := hQ
    cases hP _ _ hp
  · obtain ⟨τ, rfl, rfl, hp⟩ := hQ
    cases hP _ _ hp
    exact kk τ hp
/-- a method that answers, with a post-condition -/
theorem X.cP {P : Option Value → St → Prop} (As : List Value) {st0 : List Value} (hd : decode T.2.1 pc = .ok (.invokevirtual idx, 3)) (hst : st0 = As.reverse ++ .ref (gB G + 0) :: st) (hC : CtP l G T' d' (.ref (gB G + 0) :: As) σ P) (M : MWv T' np) (hw : Cond.methodLink T.1.cls idx T'.1 ∈ BW) {TT : u_T} {N : Nat} (hci : vwCl[2]? = some (T'.1.cls, TT, N)) (h8 : cat8 st = true) (hdd : d' + 1 ≤ d) (hnp : As.length = np) (hP : ∀ v τ, P v τ → v = some w) (hq : pc + 3 = q) (kk : ∀ τ : St, P (some w) τ → X l G T d mc ms Q ce sl q L (w :: st) (hof G τ) NC E) (hm1 : ce ≤ mc := by omega) (hm2 : sl ≤ ms := by omega) : X l G T d mc ms Q ce sl pc L st0 (hof G σ) NC E := by
  refine X.callVc (As := As) (k := 0) (ci := 2) (fs := fsL G (sF σ 0)) hC M hw hd hst (hof_at (k := 0) rfl) (by decide) hci hnp h8 hdd hm1 hm2 hq (fun E8 h2 n2 hQ => ?_) (fun v2 h2 n2 hQ => ?_)
  · obtain ⟨v3, τ, e, -⟩ := hQ
    cases e
  · obtain ⟨v3, τ, e, rfl, rfl, hp⟩ := hQ
    cases e
    cases hP _ _ hp
    exact kk τ hp
end XL
theorem nI_div {a k : Nat} (ha : a < 2 ^ 31) (hk : k < 2 ^ 31) : nI a / nI k = nI (a / k) := by
  apply Int32.toInt_inj.mp
  rw [Int32.toInt_div, nI_toInt ha, nI_toInt hk]
  have hq : a / k ≤ a := Nat.div_le_self _ _
  rw [nI_toInt (by omega)]
  rw [show ((a : Int).tdiv (k : Int)) = ((a / k : Nat) : Int) from rfl]
  generalize a / k = z at hq ⊢
  exact Int.bmod_eq_of_le (by omega) (by omega)
/-- what draw answers -/
def drw (G : GG) (k : Nat) : Nat := if k < gL G then (gX G k).toBitVec.toNat % 2147483648 else 0
theorem drw_lt (G : GG) (k : Nat) : drw G k < 2147483648 := by
  unfold drw
  split
  · exact Nat.mod_lt _ (by decide)
  · decide
theorem and31 {v : Int32} : v &&& (2147483647 : Int32) = nI (v.toBitVec.toNat % 2147483648) := by
  apply Int32.toBitVec_inj.mp
  apply BitVec.eq_of_toNat_eq
  have e1 : (nI (v.toBitVec.toNat % 2147483648)).toBitVec.toNat = v.toBitVec.toNat % 2147483648 := by
    show (BitVec.ofNat 32 _).toNat = _
    rw [BitVec.toNat_ofNat]
    exact Nat.mod_eq_of_lt (by have := Nat.mod_lt v.toBitVec.toNat (show 0 < 2147483648 by decide); omega)
  rw [e1]
  show (v.toBitVec &&& 2147483647#32).toNat = _
  rw [BitVec.toNat_and]
  show v.toBitVec.toNat &&& 2147483647 = _
  exact Nat.and_two_pow_sub_one_eq_mod _ 31
set_option maxHeartbeats 1000000 in
theorem kX_draw {l : Launch} {G : GG} {h : HM} {n : Nat} {E : va_W} {k : Nat} (hk : k < 1000) (hL : gL G ≤ 1000) : CX l G TL_draw 0 0 0 [.ref (gb G), .int (nI k)] h n E (RtX (some (.int (nI (drw G k)))) h n E) := by
  refine CX.ofX (by decide +kernel) rfl rfl (Nat.le_of_ble_eq_true rfl) ?_
  refine X.iload_n (q := 1) dL_draw_0 rfl rfl ?_
  refine X.aload_n (q := 2) dL_draw_1 rfl rfl ?_
  refine X.slen (q := 3) dL_draw_2 rfl ?_
  refine X.icmp_ge (tgt := 15) (q := 6) dL_draw_3 (by decide) rfl (fun c3 => ?_) (fun c3 => ?_)
  · have hkl : ¬ k < gL G := fun z => Int32.not_le.mpr (nI_lt z (by omega)) c3
    refine X.iconst (q := 16) dL_draw_15 (v := 0) rfl rfl ?_
    exact X.iret dL_draw_16 rfl ⟨by unfold drw; rw [if_neg hkl]; rfl, rfl, rfl, rfl⟩
  · have hkl : k < gL G := by
      rcases Nat.lt_or_ge k (gL G) with z | z
      · exact z
      · exact absurd (Int32.not_lt.mp (nI_nlt z (by omega))) c3
    refine X.aload_n (q := 7) dL_draw_6 rfl rfl ?_
    refine X.iload_n (q := 8) dL_draw_7 rfl rfl ?_
    refine X.sld (i := k) (q := 9) dL_draw_8 hkl (by omega) rfl rfl ?_
    refine X.ldc (q := 11) dL_draw_9 (v := 2147483647) bw_535 rfl ?_
    refine X.iand (q := 12) dL_draw_11 rfl ?_
    rw [and31]
    refine X.goto (tgt := 16) dL_draw_12 (by decide) ?_
    exact X.iret dL_draw_16 rfl ⟨by unfold drw; rw [if_pos hkl], rfl, rfl, rfl⟩
