/-! contracts over the state; calls by them -/
def RetS (G : GG) (v : Option Value) (τ : St) : PQ := fun a h n => a = .inl v ∧ h = hof G τ ∧ n = NC
def RetP (G : GG) (P : Option Value → St → Prop) : PQ := fun a h n => ∃ (v : Option Value) (τ : St), a = .inl v ∧ h = hof G τ ∧ n = NC ∧ P v τ
def RetX (G : GG) (P : Ans → St → Prop) : PQ := fun a h n => ∃ τ : St, h = hof G τ ∧ n = NC ∧ P a τ
def CtS (l : Launch) (G : GG) (T : MT) (d : Nat) (av : List Value) (σ : St) (v : Option Value) (τ : St) : Prop := Ct l G T d 0 0 av (hof G σ) NC (RetS G v τ)
def CtP (l : Launch) (G : GG) (T : MT) (d : Nat) (av : List Value) (σ : St) (P : Option Value → St → Prop) : Prop := Ct l G T d 0 0 av (hof G σ) NC (RetP G P)
def CtX (l : Launch) (G : GG) (T : MT) (d mc ms : Nat) (av : List Value) (σ : St) (P : Ans → St → Prop) : Prop := Ct l G T d mc ms av (hof G σ) NC (RetX G P)
theorem CtS.P {l : Launch} {G : GG} {T : MT} {d : Nat} {av : List Value} {σ τ : St} {v : Option Value} {P : Option Value → St → Prop} (h : CtS l G T d av σ v τ) (hP : P v τ) : CtP l G T d av σ P := Ct.mono h (fun a h2 n2 q => ⟨v, τ, q.1, q.2.1, q.2.2, hP⟩)
theorem CtP.mono {l : Launch} {G : GG} {T : MT} {d : Nat} {av : List Value} {σ : St} {P P2 : Option Value → St → Prop} (h : CtP l G T d av σ P) (hP : ∀ v τ, P v τ → P2 v τ) : CtP l G T d av σ P2 := Ct.mono h (fun a h2 n2 ⟨v, τ, q1, q2, q3, q4⟩ => ⟨v, τ, q1, q2, q3, hP v τ q4⟩)
theorem CtX.mono {l : Launch} {G : GG} {T : MT} {d mc ms : Nat} {av : List Value} {σ : St} {P P2 : Ans → St → Prop} (h : CtX l G T d mc ms av σ P) (hP : ∀ a τ, P a τ → P2 a τ) : CtX l G T d mc ms av σ P2 := Ct.mono h (fun a h2 n2 ⟨τ, q2, q3, q4⟩ => ⟨τ, q2, q3, hP a τ q4⟩)
theorem nI_inc (n : Nat) : nI n + Int32.ofInt 1 = nI (n + 1) := nI_1 n
theorem nI_dec (n : Nat) : nI (n + 1) + Int32.ofInt (-1) = nI n := pk_m1 n
section CC
variable {l : Launch} {G : GG} {T T' : MT} {d mc ms ce sl d' np idx k : Nat} {Q : PQ} {pc q : Nat} {L : List (Option Value)} {st st0 : List Value} {σ τ : St} {v : Option Value} {P : Option Value → St → Prop} {PX : Ans → St → Prop} {mc' ms' : Nat}

theorem V.cVL (As : List Value) (hd : decode T.2.1 pc = .ok (.invokevirtual idx, 3)) (hst : st0 = As.reverse ++ .ref (gB G + k) :: st) (hC : CtS l G T' d' (.ref (gB G + k) :: As) σ v τ) (hM : MWv T' np) (hw : Cond.methodLink T.1.cls idx T'.1 ∈ BW) (hk : kd k = 0) {TT : u_T} {N : Nat} (hci : vwCl[2]? = some (T'.1.cls, TT, N)) (hnp : As.length = np) (h8 : cat8 st = true) (hdd : d' + 1 ≤ d) (hq : pc + 3 = q) (kk : V l G T d mc ms Q ce sl q L (v.toList ++ st) (hof G τ) NC) (hm1 : ce ≤ mc := by omega) (hm2 : sl ≤ ms := by omega) : V l G T d mc ms Q ce sl pc L st0 (hof G σ) NC := by
  refine V.callV (ci := 2) (fs := fsL G (sF σ k)) hC hM hw hd hst (hof_at hk) (kd_lt hk (by decide)) hci hnp h8 hdd hm1 hm2 hq (fun v2 h2 n2 hQ => ?_) (fun E h2 n2 hQ => ?_)
  · obtain ⟨e1, rfl, rfl⟩ := hQ
    cases e1
    exact kk
  · cases hQ.1
theorem V.cVLP (As : List Value) (hd : decode T.2.1 pc = .ok (.invokevirtual idx, 3)) (hst : st0 = As.reverse ++ .ref (gB G + k) :: st) (hC : CtP l G T' d' (.ref (gB G + k) :: As) σ P) (hM : MWv T' np) (hw : Cond.methodLink T.1.cls idx T'.1 ∈ BW) (hk : kd k = 0) {TT : u_T} {N : Nat} (hci : vwCl[2]? = some (T'.1.cls, TT, N)) (hnp : As.length = np) (h8 : cat8 st = true) (hdd : d' + 1 ≤ d) (hq : pc + 3 = q) (kk : ∀ (v : Option Value) (τ : St), P v τ → V l G T d mc ms Q ce sl q L (v.toList ++ st) (hof G τ) NC) (hm1 : ce ≤ mc := by omega) (hm2 : sl ≤ ms := by omega) : V l G T d mc ms Q ce sl pc L st0 (hof G σ) NC := by
  refine V.callV (ci := 2) (fs := fsL G (sF σ k)) hC hM hw hd hst (hof_at hk) (kd_lt hk (by decide)) hci hnp h8 hdd hm1 hm2 hq (fun v2 h2 n2 hQ => ?_) (fun E h2 n2 hQ => ?_)
  · obtain ⟨v3, τ, e1, rfl, rfl, hp⟩ := hQ
    cases e1
    exact kk _ τ hp
  · obtain ⟨v3, τ, e1, -⟩ := hQ
    cases e1
theorem V.cVLX (As : List Value) (hd : decode T.2.1 pc = .ok (.invokevirtual idx, 3)) (hst : st0 = As.reverse ++ .ref (gB G + k) :: st) (hC : CtX l G T' d' mc' ms' (.ref (gB G + k) :: As) σ PX) (hM : MWv T' np) (hw : Cond.methodLink T.1.cls idx T'.1 ∈ BW) (hk : kd k = 0) {TT : u_T} {N : Nat} (hci : vwCl[2]? = some (T'.1.cls, TT, N)) (hnp : As.length = np) (h8 : cat8 st = true) (hdd : d' + 1 ≤ d) (hq : pc + 3 = q) (hm1 : ce + mc' ≤ mc) (hm2 : sl + ms' ≤ ms) (kk : ∀ (v : Option Value) (τ : St), PX (.inl v) τ → V l G T d mc ms Q (ce + mc') (sl + ms') q L (v.toList ++ st) (hof G τ) NC) (kx : ∀ (E : String) (τ : St), PX (.inr E) τ → VX l G T d mc ms Q (ce + mc') (sl + ms') pc L E (hof G τ) NC) : V l G T d mc ms Q ce sl pc L st0 (hof G σ) NC := by
  refine V.callV (ci := 2) (fs := fsL G (sF σ k)) hC hM hw hd hst (hof_at hk) (kd_lt hk (by decide)) hci hnp h8 hdd hm1 hm2 hq (fun v2 h2 n2 hQ => ?_) (fun E h2 n2 hQ => ?_)
  · obtain ⟨τ, rfl, rfl, hp⟩ := hQ
    exact kk _ τ hp
  · obtain ⟨τ, rfl, rfl, hp⟩ := hQ
    exact kx _ τ hp
theorem V.cVS (As : List Value) (hd : decode T.2.1 pc = .ok (.invokevirtual idx, 3)) (hst : st0 = As.reverse ++ .ref (gB G + k) :: st) (hC : CtS l G T' d' (.ref (gB G + k) :: As) σ v τ) (hM : MWv T' np) (hw : Cond.methodLink T.1.cls idx T'.1 ∈ BW) (hk : kd k = 1) {TT : u_T} {N : Nat} (hci : vwCl[1]? = some (T'.1.cls, TT, N)) (hnp : As.length = np) (h8 : cat8 st = true) (hdd : d' + 1 ≤ d) (hq : pc + 3 = q) (kk : V l G T d mc ms Q ce sl q L (v.toList ++ st) (hof G τ) NC) (hm1 : ce ≤ mc := by omega) (hm2 : sl ≤ ms := by omega) : V l G T d mc ms Q ce sl pc L st0 (hof G σ) NC := by
  refine V.callV (ci := 1) (fs := fsS G k (sF σ k)) hC hM hw hd hst (hof_at hk) (kd_lt hk (by decide)) hci hnp h8 hdd hm1 hm2 hq (fun v2 h2 n2 hQ => ?_) (fun E h2 n2 hQ => ?_)
  · obtain ⟨e1, rfl, rfl⟩ := hQ
    cases e1
    exact kk
  · cases hQ.1
theorem V.cVSP (As : List Value) (hd : decode T.2.1 pc = .ok (.invokevirtual idx, 3)) (hst : st0 = As.reverse ++ .ref (gB G + k) :: st) (hC : CtP l G T' d' (.ref (gB G + k) :: As) σ P) (hM : MWv T' np) (hw : Cond.methodLink T.1.cls idx T'.1 ∈ BW) (hk : kd k = 1) {TT : u_T} {N : Nat} (hci : vwCl[1]? = some (T'.1.cls, TT, N)) (hnp : As.length = np) (h8 : cat8 st = true) (hdd : d' + 1 ≤ d) (hq : pc + 3 = q) (kk : ∀ (v : Option Value) (τ : St), P v τ → V l G T d mc ms Q ce sl q L (v.toList ++ st) (hof G τ) NC) (hm1 : ce ≤ mc := by omega) (hm2 : sl ≤ ms := by omega) : V l G T d mc ms Q ce sl pc L st0 (hof G σ) NC := by
  refine V.callV (ci := 1) (fs := fsS G k (sF σ k)) hC hM hw hd hst (hof_at hk) (kd_lt hk (by decide)) hci hnp h8 hdd hm1 hm2 hq (fun v2 h2 n2 hQ => ?_) (fun E h2 n2 hQ => ?_)
  · obtain ⟨v3, τ, e1, rfl, rfl, hp⟩ := hQ
    cases e1
    exact kk _ τ hp
  · obtain ⟨v3, τ, e1, -⟩ := hQ
    cases e1
theorem V.cVSX (As : List Value) (hd : decode T.2.1 pc = .ok (.invokevirtual idx, 3)) (hst : st0 = As.reverse ++ .ref (gB G + k) :: st) (hC : CtX l G T' d' mc' ms' (.ref (gB G + k) :: As) σ PX) (hM : MWv T' np) (hw : Cond.methodLink T.1.cls idx T'.1 ∈ BW) (hk : kd k = 1) {TT : u_T} {N : Nat} (hci : vwCl[1]? = some (T'.1.cls, TT, N)) (hnp : As.length = np) (h8 : cat8 st = true) (hdd : d' + 1 ≤ d) (hq : pc + 3 = q) (hm1 : ce + mc' ≤ mc) (hm2 : sl + ms' ≤ ms) (kk : ∀ (v : Option Value) (τ : St), PX (.inl v) τ → V l G T d mc ms Q (ce + mc') (sl + ms') q L (v.toList ++ st) (hof G τ) NC) (kx : ∀ (E : String) (τ : St), PX (.inr E) τ → VX l G T d mc ms Q (ce + mc') (sl + ms') pc L E (hof G τ) NC) : V l G T d mc ms Q ce sl pc L st0 (hof G σ) NC := by
  refine V.callV (ci := 1) (fs := fsS G k (sF σ k)) hC hM hw hd hst (hof_at hk) (kd_lt hk (by decide)) hci hnp h8 hdd hm1 hm2 hq (fun v2 h2 n2 hQ => ?_) (fun E h2 n2 hQ => ?_)
  · obtain ⟨τ, rfl, rfl, hp⟩ := hQ
    exact kk _ τ hp
  · obtain ⟨τ, rfl, rfl, hp⟩ := hQ
    exact kx _ τ hp
theorem V.cVP (As : List Value) (hd : decode T.2.1 pc = .ok (.invokevirtual idx, 3)) (hst : st0 = As.reverse ++ .ref (gB G + k) :: st) (hC : CtS l G T' d' (.ref (gB G + k) :: As) σ v τ) (hM : MWv T' np) (hw : Cond.methodLink T.1.cls idx T'.1 ∈ BW) (hk : kd k = 7) {TT : u_T} {N : Nat} (hci : vwCl[0]? = some (T'.1.cls, TT, N)) (hnp : As.length = np) (h8 : cat8 st = true) (hdd : d' + 1 ≤ d) (hq : pc + 3 = q) (kk : V l G T d mc ms Q ce sl q L (v.toList ++ st) (hof G τ) NC) (hm1 : ce ≤ mc := by omega) (hm2 : sl ≤ ms := by omega) : V l G T d mc ms Q ce sl pc L st0 (hof G σ) NC := by
  refine V.callV (ci := 0) (fs := fsP G (sF σ k) (sS σ)) hC hM hw hd hst (hof_at hk) (kd_lt hk (by decide)) hci hnp h8 hdd hm1 hm2 hq (fun v2 h2 n2 hQ => ?_) (fun E h2 n2 hQ => ?_)
  · obtain ⟨e1, rfl, rfl⟩ := hQ
    cases e1
    exact kk
  · cases hQ.1
theorem V.cVPP (As : List Value) (hd : decode T.2.1 pc = .ok (.invokevirtual idx, 3)) (hst : st0 = As.reverse ++ .ref (gB G + k) :: st) (hC : CtP l G T' d' (.ref (gB G + k) :: As) σ P) (hM : MWv T' np) (hw : Cond.methodLink T.1.cls idx T'.1 ∈ BW) (hk : kd k = 7) {TT : u_T} {N : Nat} (hci : vwCl[0]? = some (T'.1.cls, TT, N)) (hnp : As.length = np) (h8 : cat8 st = true) (hdd : d' + 1 ≤ d) (hq : pc + 3 = q) (kk : ∀ (v : Option Value) (τ : St), P v τ → V l G T d mc ms Q ce sl q L (v.toList ++ st) (hof G τ) NC) (hm1 : ce ≤ mc := by omega) (hm2 : sl ≤ ms := by omega) : V l G T d mc ms Q ce sl pc L st0 (hof G σ) NC := by
  refine V.callV (ci := 0) (fs := fsP G (sF σ k) (sS σ)) hC hM hw hd hst (hof_at hk) (kd_lt hk (by decide)) hci hnp h8 hdd hm1 hm2 hq (fun v2 h2 n2 hQ => ?_) (fun E h2 n2 hQ => ?_)
  · obtain ⟨v3, τ, e1, rfl, rfl, hp⟩ := hQ
    cases e1
    exact kk _ τ hp
  · obtain ⟨v3, τ, e1, -⟩ := hQ
    cases e1
theorem V.cVPX (As : List Value) (hd : decode T.2.1 pc = .ok (.invokevirtual idx, 3)) (hst : st0 = As.reverse ++ .ref (gB G + k) :: st) (hC : CtX l G T' d' mc' ms' (.ref (gB G + k) :: As) σ PX) (hM : MWv T' np) (hw : Cond.methodLink T.1.cls idx T'.1 ∈ BW) (hk : kd k = 7) {TT : u_T} {N : Nat} (hci : vwCl[0]? = some (T'.1.cls, TT, N)) (hnp : As.length = np) (h8 : cat8 st = true) (hdd : d' + 1 ≤ d) (hq : pc + 3 = q) (hm1 : ce + mc' ≤ mc) (hm2 : sl + ms' ≤ ms) (kk : ∀ (v : Option Value) (τ : St), PX (.inl v) τ → V l G T d mc ms Q (ce + mc') (sl + ms') q L (v.toList ++ st) (hof G τ) NC) (kx : ∀ (E : String) (τ : St), PX (.inr E) τ → VX l G T d mc ms Q (ce + mc') (sl + ms') pc L E (hof G τ) NC) : V l G T d mc ms Q ce sl pc L st0 (hof G σ) NC := by
  refine V.callV (ci := 0) (fs := fsP G (sF σ k) (sS σ)) hC hM hw hd hst (hof_at hk) (kd_lt hk (by decide)) hci hnp h8 hdd hm1 hm2 hq (fun v2 h2 n2 hQ => ?_) (fun E h2 n2 hQ => ?_)
  · obtain ⟨τ, rfl, rfl, hp⟩ := hQ
    exact kk _ τ hp
  · obtain ⟨τ, rfl, rfl, hp⟩ := hQ
    exact kx _ τ hp
theorem V.cSt (As : List Value) (hd : decode T.2.1 pc = .ok (.invokestatic idx, 3)) (hst : st0 = As.reverse ++ st) (hC : CtS l G T' d' As σ v τ) (hM : MWs T' np) (hw : Cond.methodLink T.1.cls idx T'.1 ∈ BW) (hnp : As.length = np) (h8 : cat8 st = true) (hdd : d' + 1 ≤ d) (hq : pc + 3 = q) (kk : V l G T d mc ms Q ce sl q L (v.toList ++ st) (hof G τ) NC) (hm1 : ce ≤ mc := by omega) (hm2 : sl ≤ ms := by omega) : V l G T d mc ms Q ce sl pc L st0 (hof G σ) NC := by
  refine V.callS hC hM hw hd hst hnp h8 hdd hm1 hm2 hq (fun v2 h2 n2 hQ => ?_) (fun E h2 n2 hQ => ?_)
  · obtain ⟨e1, rfl, rfl⟩ := hQ
    cases e1
    exact kk
  · cases hQ.1
theorem V.cStP (As : List Value) (hd : decode T.2.1 pc = .ok (.invokestatic idx, 3)) (hst : st0 = As.reverse ++ st) (hC : CtP l G T' d' As σ P) (hM : MWs T' np) (hw : Cond.methodLink T.1.cls idx T'.1 ∈ BW) (hnp : As.length = np) (h8 : cat8 st = true) (hdd : d' + 1 ≤ d) (hq : pc + 3 = q) (kk : ∀ (v : Option Value) (τ : St), P v τ → V l G T d mc ms Q ce sl q L (v.toList ++ st) (hof G τ) NC) (hm1 : ce ≤ mc := by omega) (hm2 : sl ≤ ms := by omega) : V l G T d mc ms Q ce sl pc L st0 (hof G σ) NC := by
  refine V.callS hC hM hw hd hst hnp h8 hdd hm1 hm2 hq (fun v2 h2 n2 hQ => ?_) (fun E h2 n2 hQ => ?_)
  · obtain ⟨v3, τ, e1, rfl, rfl, hp⟩ := hQ
    cases e1
    exact kk _ τ hp
  · obtain ⟨v3, τ, e1, -⟩ := hQ
    cases e1
theorem V.cStX (As : List Value) (hd : decode T.2.1 pc = .ok (.invokestatic idx, 3)) (hst : st0 = As.reverse ++ st) (hC : CtX l G T' d' mc' ms' As σ PX) (hM : MWs T' np) (hw : Cond.methodLink T.1.cls idx T'.1 ∈ BW) (hnp : As.length = np) (h8 : cat8 st = true) (hdd : d' + 1 ≤ d) (hq : pc + 3 = q) (hm1 : ce + mc' ≤ mc) (hm2 : sl + ms' ≤ ms) (kk : ∀ (v : Option Value) (τ : St), PX (.inl v) τ → V l G T d mc ms Q (ce + mc') (sl + ms') q L (v.toList ++ st) (hof G τ) NC) (kx : ∀ (E : String) (τ : St), PX (.inr E) τ → VX l G T d mc ms Q (ce + mc') (sl + ms') pc L E (hof G τ) NC) : V l G T d mc ms Q ce sl pc L st0 (hof G σ) NC := by
  refine V.callS hC hM hw hd hst hnp h8 hdd hm1 hm2 hq (fun v2 h2 n2 hQ => ?_) (fun E h2 n2 hQ => ?_)
  · obtain ⟨τ, rfl, rfl, hp⟩ := hQ
    exact kk _ τ hp
  · obtain ⟨τ, rfl, rfl, hp⟩ := hQ
    exact kx _ τ hp
theorem CtS.ofV {av : List Value} (hy : plainName T.1.cls = true) (hh : T.2.2.2.2 = []) (hc : (av.all fun v => v.category == 1) = true) (hn : av.length ≤ T.2.2.1) (body : V l G T d 0 0 (RetS G v τ) 0 0 0 (L0 av T.2.2.1) [] (hof G σ) NC) : CtS l G T d av σ v τ := Ct.ofV hy hh hc hn body
theorem CtP.ofV {av : List Value} (hy : plainName T.1.cls = true) (hh : T.2.2.2.2 = []) (hc : (av.all fun v => v.category == 1) = true) (hn : av.length ≤ T.2.2.1) (body : V l G T d 0 0 (RetP G P) 0 0 0 (L0 av T.2.2.1) [] (hof G σ) NC) : CtP l G T d av σ P := Ct.ofV hy hh hc hn body
theorem CtX.ofV {av : List Value} (hy : plainName T.1.cls = true) (hh : T.2.2.2.2 = []) (hc : (av.all fun v => v.category == 1) = true) (hn : av.length ≤ T.2.2.1) (body : V l G T d mc ms (RetX G PX) 0 0 0 (L0 av T.2.2.1) [] (hof G σ) NC) : CtX l G T d mc ms av σ PX := Ct.ofV hy hh hc hn body
end CC
