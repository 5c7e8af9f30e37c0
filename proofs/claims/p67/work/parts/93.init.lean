/-! the constructors -/
/-- an object at k whose fields are fs, its arrays behind it -/
def nwW (h : HM) (k ci : Nat) (fs : List Value) (as : List va_E) : HM := fun a => if a = k then .inr (ci, fs) else if k < a ∧ a ≤ k + as.length then as.getD (a - k - 1) (.inr (0, [])) else h a
section NW
variable {h : HM} {k ci n i : Nat} {fs fs2 : List Value} {as : List va_E} {e : va_E}
theorem nw_at : nwW h k ci fs as k = .inr (ci, fs) := if_pos rfl
theorem nw_new : hset h k (.inr (ci, fs)) = nwW h k ci fs [] := funext fun a => by
  by_cases e : a = k
  · subst e; rw [nw_at]; simp [hset]
  · have : ¬ (k < a ∧ a ≤ k + 0) := by omega
    simp [hset, nwW, e, this]
    intro h1 h2; omega
theorem nw_put : hset (nwW h k ci fs as) k (.inr (ci, fs2)) = nwW h k ci fs2 as := funext fun a => by
  by_cases e : a = k
  · subst e; rw [nw_at]; simp [hset]
  · simp [hset, nwW, e]
theorem nw_push (hn : n = k + 1 + as.length) : hset (nwW h k ci fs as) n e = nwW h k ci fs (as ++ [e]) := funext fun a => by
  subst hn
  by_cases e1 : a = k + 1 + as.length
  · subst e1
    have h1 : ¬ k + 1 + as.length = k := by omega
    have h2 : k < k + 1 + as.length ∧ k + 1 + as.length ≤ k + (as.length + 1) := by omega
    have h3 : k + 1 + as.length - k - 1 = as.length := by omega
    simp [hset, nwW, h1, h3]
    intro h4; omega
  · by_cases e2 : a = k
    · subst e2
      simp [hset, nwW]
      exact fun h4 => absurd h4 e1
    · by_cases e3 : k < a ∧ a ≤ k + as.length
      · have h4 : k < a ∧ a ≤ k + (as.length + 1) := by omega
        have h5 : a - k - 1 < as.length := by omega
        simp only [hset, nwW, e1, e2, e3, if_false, if_true, and_self, List.length_append, List.length_cons, List.length_nil, Nat.zero_add, h4]
        simp [List.getElem?_append_left h5]
      · have h4 : ¬ (k < a ∧ a ≤ k + (as.length + 1)) := by omega
        simp only [hset, nwW, e1, e2, e3, if_false, List.length_append, List.length_cons, List.length_nil, Nat.zero_add, h4]
theorem nw_arr (hi : i < as.length) (hn : n = k + 1 + i) : hset (nwW h k ci fs as) n e = nwW h k ci fs (as.set i e) := funext fun a => by
  subst hn
  by_cases e1 : a = k + 1 + i
  · subst e1
    have h1 : ¬ k + 1 + i = k := by omega
    have h2 : k < k + 1 + i ∧ k + 1 + i ≤ k + as.length := by omega
    have h3 : k + 1 + i - k - 1 = i := by omega
    simp only [hset, nwW, h1, if_false, if_true, List.length_set, h2, and_self, h3]
    simp [hi]
  · by_cases e2 : a = k
    · subst e2
      simp [hset, nwW]
      exact fun h4 => absurd h4 e1
    · by_cases e3 : k < a ∧ a ≤ k + as.length
      · have h5 : ¬ i = a - k - 1 := by omega
        simp only [hset, nwW, e1, e2, e3, if_false, if_true, and_self, List.length_set]
        simp [h5]
      · simp only [hset, nwW, e1, e2, e3, if_false, List.length_set]
end NW
abbrev arI (G : GG) (t N : Nat) : va_E := .inl (gC G t, N, .inl (fun _ => 0))
def simF : Nat → Int32 := fun j => us (begu 10 4 2) j
def RetR (h2 : HM) (n2 : Nat) : PQ := fun a h n => a = .inl none ∧ h = h2 ∧ n = n2
def zS : List Value := [.int 0, .int 0, .int 0, .int 0, .int 0, .int 0, .int 0, .int 0, .int 0, .int 0, .int 0, .int 0, .int 0, .null, .null, .null, .null, .null, .null]
def zP : List Value := [.null, .null, .null, .int 0, .int 0, .null, .int 0, .int 0, .int 0]
def zL : List Value := [.null, .null, .null, .int 0, .int 0, .null, .null, .null, .int 0, .null, .null, .int 0]
set_option maxHeartbeats 2000000 in
theorem kR_begin {l : Launch} {G : GG} {h : HM} {k n : Nat} {fs : List Value} {as : List va_E} {f c p : Int32} (hfs : fs.length = 19) (hk : k < n) : Ct l G TX3_begin 0 0 0 [.ref (gB G + k), .int f, .int c, .int p] (nwW h k 1 fs as) n (RetR (nwW h k 1 ((((((((((((((fs).set 0 (.int f)).set 1 (.int c)).set 2 (.int p)).set 3 (.int 0)).set 4 (.int 0)).set 5 (.int 1)).set 6 (.int 0)).set 7 (.int 0)).set 8 (.int 0)).set 9 (.int 0)).set 10 (.int 0)).set 11 (.int 0)).set 12 (.int 0)) as) n) := by
  refine Ct.ofV (by decide +kernel) rfl rfl (Nat.le_of_ble_eq_true rfl) ?_
  refine V.aload_n (q := 1) dX3_begin_0 rfl rfl ?_
  refine V.iload_n (q := 2) dX3_begin_1 rfl rfl ?_
  refine V.put (q := 5) (j := 0) dX3_begin_2 nw_at (by omega) rfl inX3 tyX3_ok nmX3 (by decide) rfl bw_43 (Or.inl rfl) rfl rfl (by first | omega | (simp only [List.length_set]; omega)) rfl ?_
  refine V.to rfl rfl nw_put rfl ?_
  refine V.aload_n (q := 6) dX3_begin_5 rfl rfl ?_
  refine V.iload_n (q := 7) dX3_begin_6 rfl rfl ?_
  refine V.put (q := 10) (j := 1) dX3_begin_7 nw_at (by omega) rfl inX3 tyX3_ok nmX3 (by decide) rfl bw_46 (Or.inl rfl) rfl rfl (by first | omega | (simp only [List.length_set]; omega)) rfl ?_
  refine V.to rfl rfl nw_put rfl ?_
  refine V.aload_n (q := 11) dX3_begin_10 rfl rfl ?_
  refine V.iload_n (q := 12) dX3_begin_11 rfl rfl ?_
  refine V.put (q := 15) (j := 2) dX3_begin_12 nw_at (by omega) rfl inX3 tyX3_ok nmX3 (by decide) rfl bw_49 (Or.inl rfl) rfl rfl (by first | omega | (simp only [List.length_set]; omega)) rfl ?_
  refine V.to rfl rfl nw_put rfl ?_
  refine V.aload_n (q := 16) dX3_begin_15 rfl rfl ?_
  refine V.iconst (q := 17) dX3_begin_16 (v := 0) rfl rfl ?_
  refine V.put (q := 20) (j := 3) dX3_begin_17 nw_at (by omega) rfl inX3 tyX3_ok nmX3 (by decide) rfl bw_52 (Or.inl rfl) rfl rfl (by first | omega | (simp only [List.length_set]; omega)) rfl ?_
  refine V.to rfl rfl nw_put rfl ?_
  refine V.aload_n (q := 21) dX3_begin_20 rfl rfl ?_
  refine V.iconst (q := 22) dX3_begin_21 (v := 0) rfl rfl ?_
  refine V.put (q := 25) (j := 4) dX3_begin_22 nw_at (by omega) rfl inX3 tyX3_ok nmX3 (by decide) rfl bw_55 (Or.inl rfl) rfl rfl (by first | omega | (simp only [List.length_set]; omega)) rfl ?_
  refine V.to rfl rfl nw_put rfl ?_
  refine V.aload_n (q := 26) dX3_begin_25 rfl rfl ?_
  refine V.iconst (q := 27) dX3_begin_26 (v := 1) rfl rfl ?_
  refine V.put (q := 30) (j := 5) dX3_begin_27 nw_at (by omega) rfl inX3 tyX3_ok nmX3 (by decide) rfl bw_58 (Or.inl rfl) rfl rfl (by first | omega | (simp only [List.length_set]; omega)) rfl ?_
  refine V.to rfl rfl nw_put rfl ?_
  refine V.aload_n (q := 31) dX3_begin_30 rfl rfl ?_
  refine V.iconst (q := 32) dX3_begin_31 (v := 0) rfl rfl ?_
  refine V.put (q := 35) (j := 6) dX3_begin_32 nw_at (by omega) rfl inX3 tyX3_ok nmX3 (by decide) rfl bw_60 (Or.inl rfl) rfl rfl (by first | omega | (simp only [List.length_set]; omega)) rfl ?_
  refine V.to rfl rfl nw_put rfl ?_
  refine V.aload_n (q := 36) dX3_begin_35 rfl rfl ?_
  refine V.iconst (q := 37) dX3_begin_36 (v := 0) rfl rfl ?_
  refine V.put (q := 40) (j := 7) dX3_begin_37 nw_at (by omega) rfl inX3 tyX3_ok nmX3 (by decide) rfl bw_63 (Or.inl rfl) rfl rfl (by first | omega | (simp only [List.length_set]; omega)) rfl ?_
  refine V.to rfl rfl nw_put rfl ?_
  refine V.aload_n (q := 41) dX3_begin_40 rfl rfl ?_
  refine V.iconst (q := 42) dX3_begin_41 (v := 0) rfl rfl ?_
  refine V.put (q := 45) (j := 8) dX3_begin_42 nw_at (by omega) rfl inX3 tyX3_ok nmX3 (by decide) rfl bw_65 (Or.inl rfl) rfl rfl (by first | omega | (simp only [List.length_set]; omega)) rfl ?_
  refine V.to rfl rfl nw_put rfl ?_
  refine V.aload_n (q := 46) dX3_begin_45 rfl rfl ?_
  refine V.iconst (q := 47) dX3_begin_46 (v := 0) rfl rfl ?_
  refine V.put (q := 50) (j := 9) dX3_begin_47 nw_at (by omega) rfl inX3 tyX3_ok nmX3 (by decide) rfl bw_67 (Or.inl rfl) rfl rfl (by first | omega | (simp only [List.length_set]; omega)) rfl ?_
  refine V.to rfl rfl nw_put rfl ?_
  refine V.aload_n (q := 51) dX3_begin_50 rfl rfl ?_
  refine V.iconst (q := 52) dX3_begin_51 (v := 0) rfl rfl ?_
  refine V.put (q := 55) (j := 10) dX3_begin_52 nw_at (by omega) rfl inX3 tyX3_ok nmX3 (by decide) rfl bw_68 (Or.inl rfl) rfl rfl (by first | omega | (simp only [List.length_set]; omega)) rfl ?_
  refine V.to rfl rfl nw_put rfl ?_
  refine V.aload_n (q := 56) dX3_begin_55 rfl rfl ?_
  refine V.iconst (q := 57) dX3_begin_56 (v := 0) rfl rfl ?_
  refine V.put (q := 60) (j := 11) dX3_begin_57 nw_at (by omega) rfl inX3 tyX3_ok nmX3 (by decide) rfl bw_71 (Or.inl rfl) rfl rfl (by first | omega | (simp only [List.length_set]; omega)) rfl ?_
  refine V.to rfl rfl nw_put rfl ?_
  refine V.aload_n (q := 61) dX3_begin_60 rfl rfl ?_
  refine V.iconst (q := 62) dX3_begin_61 (v := 0) rfl rfl ?_
  refine V.put (q := 65) (j := 12) dX3_begin_62 nw_at (by omega) rfl inX3 tyX3_ok nmX3 (by decide) rfl bw_74 (Or.inl rfl) rfl rfl (by first | omega | (simp only [List.length_set]; omega)) rfl ?_
  refine V.to rfl rfl nw_put rfl ?_
  exact V.vret dX3_begin_65 rfl ⟨rfl, rfl, rfl⟩
def z6 (G : GG) : List va_E := [arI G 0 40, arI G 0 40, arI G 0 40, arI G 0 40, arI G 0 40, arI G 0 40]
set_option maxHeartbeats 2000000 in
theorem kR_sim {l : Launch} {G : GG} {h : HM} {k : Nat} (hk : k + 7 ≤ NC) : Ct l G TX3_init 1 6 240 [.ref (gB G + k)] (nwW h k 1 zS []) (k + 1) (RetR (nwW h k 1 (fsS G k simF) (z6 G)) (k + 7)) := by
  have hk : k + 7 ≤ 94 := hk
  refine Ct.ofV (by decide +kernel) rfl rfl (Nat.le_of_ble_eq_true rfl) ?_
  refine V.aload_n (q := 1) dX3_init_0 rfl rfl ?_
  refine V.objInit (q := 4) dX3_init_1 bw_38 bw_31 bw_32 rfl (by decide) rfl ?_
  refine V.aload_n (q := 5) dX3_init_4 rfl rfl ?_
  refine V.bipush (q := 7) dX3_init_5 (v := 40) rfl rfl ?_
  refine V.newarr (q := 9) (t0 := 0) (N := 40) (a0 := (40, .inl (fun _ => 0))) dX3_init_7 bw_127 rfl trivial rfl (fun _ => rfl) rfl (by decide) (by decide) (by omega) (by omega) (by omega) rfl ?_
  refine V.to rfl rfl (nw_push rfl) rfl ?_
  refine V.put (q := 12) (j := 13) dX3_init_9 nw_at (by omega) rfl inX3 tyX3_ok nmX3 (by decide) rfl bw_76 (Or.inr ⟨rfl, rfl⟩) rfl rfl (Nat.le_of_ble_eq_true rfl) rfl ?_
  refine V.to rfl rfl nw_put rfl ?_
  refine V.aload_n (q := 13) dX3_init_12 rfl rfl ?_
  refine V.bipush (q := 15) dX3_init_13 (v := 40) rfl rfl ?_
  refine V.newarr (q := 17) (t0 := 0) (N := 40) (a0 := (40, .inl (fun _ => 0))) dX3_init_15 bw_127 rfl trivial rfl (fun _ => rfl) rfl (by decide) (by decide) (by omega) (by omega) (by omega) rfl ?_
  refine V.to rfl rfl (nw_push rfl) rfl ?_
  refine V.put (q := 20) (j := 14) dX3_init_17 nw_at (by omega) rfl inX3 tyX3_ok nmX3 (by decide) rfl bw_78 (Or.inr ⟨rfl, rfl⟩) rfl rfl (Nat.le_of_ble_eq_true rfl) rfl ?_
  refine V.to rfl rfl nw_put rfl ?_
  refine V.aload_n (q := 21) dX3_init_20 rfl rfl ?_
  refine V.bipush (q := 23) dX3_init_21 (v := 40) rfl rfl ?_
  refine V.newarr (q := 25) (t0 := 0) (N := 40) (a0 := (40, .inl (fun _ => 0))) dX3_init_23 bw_127 rfl trivial rfl (fun _ => rfl) rfl (by decide) (by decide) (by omega) (by omega) (by omega) rfl ?_
  refine V.to rfl rfl (nw_push rfl) rfl ?_
  refine V.put (q := 28) (j := 15) dX3_init_25 nw_at (by omega) rfl inX3 tyX3_ok nmX3 (by decide) rfl bw_80 (Or.inr ⟨rfl, rfl⟩) rfl rfl (Nat.le_of_ble_eq_true rfl) rfl ?_
  refine V.to rfl rfl nw_put rfl ?_
  refine V.aload_n (q := 29) dX3_init_28 rfl rfl ?_
  refine V.bipush (q := 31) dX3_init_29 (v := 40) rfl rfl ?_
  refine V.newarr (q := 33) (t0 := 0) (N := 40) (a0 := (40, .inl (fun _ => 0))) dX3_init_31 bw_127 rfl trivial rfl (fun _ => rfl) rfl (by decide) (by decide) (by omega) (by omega) (by omega) rfl ?_
  refine V.to rfl rfl (nw_push rfl) rfl ?_
  refine V.put (q := 36) (j := 16) dX3_init_33 nw_at (by omega) rfl inX3 tyX3_ok nmX3 (by decide) rfl bw_82 (Or.inr ⟨rfl, rfl⟩) rfl rfl (Nat.le_of_ble_eq_true rfl) rfl ?_
  refine V.to rfl rfl nw_put rfl ?_
  refine V.aload_n (q := 37) dX3_init_36 rfl rfl ?_
  refine V.bipush (q := 39) dX3_init_37 (v := 40) rfl rfl ?_
  refine V.newarr (q := 41) (t0 := 0) (N := 40) (a0 := (40, .inl (fun _ => 0))) dX3_init_39 bw_127 rfl trivial rfl (fun _ => rfl) rfl (by decide) (by decide) (by omega) (by omega) (by omega) rfl ?_
  refine V.to rfl rfl (nw_push rfl) rfl ?_
  refine V.put (q := 44) (j := 17) dX3_init_41 nw_at (by omega) rfl inX3 tyX3_ok nmX3 (by decide) rfl bw_84 (Or.inr ⟨rfl, rfl⟩) rfl rfl (Nat.le_of_ble_eq_true rfl) rfl ?_
  refine V.to rfl rfl nw_put rfl ?_
  refine V.aload_n (q := 45) dX3_init_44 rfl rfl ?_
  refine V.bipush (q := 47) dX3_init_45 (v := 40) rfl rfl ?_
  refine V.newarr (q := 49) (t0 := 0) (N := 40) (a0 := (40, .inl (fun _ => 0))) dX3_init_47 bw_127 rfl trivial rfl (fun _ => rfl) rfl (by decide) (by decide) (by omega) (by omega) (by omega) rfl ?_
  refine V.to rfl rfl (nw_push rfl) rfl ?_
  refine V.put (q := 52) (j := 18) dX3_init_49 nw_at (by omega) rfl inX3 tyX3_ok nmX3 (by decide) rfl bw_86 (Or.inr ⟨rfl, rfl⟩) rfl rfl (Nat.le_of_ble_eq_true rfl) rfl ?_
  refine V.to rfl rfl nw_put rfl ?_
  refine V.aload_n (q := 53) dX3_init_52 rfl rfl ?_
  refine V.bipush (q := 55) dX3_init_53 (v := 10) rfl rfl ?_
  refine V.iconst (q := 56) dX3_init_55 (v := 4) rfl rfl ?_
  refine V.iconst (q := 57) dX3_init_56 (v := 2) rfl rfl ?_
  refine V.callV (q := 60) (ci := 1) (As := [.int 10, .int 4, .int 2]) (kR_begin (k := k) rfl (by omega)) MX3_begin bw_39 dX3_init_57 rfl nw_at (by omega) rfl rfl (by decide) (by decide) (by omega) (by omega) rfl (fun v h2 n2 hQ => ?_) (fun E h2 n2 hQ => nomatch hQ.1)
  obtain ⟨e1, rfl, rfl⟩ := hQ
  cases e1
  exact V.vret dX3_init_60 rfl ⟨rfl, rfl, rfl⟩
def scF : Nat → Int32 := fun j => if j = 8 then -1 else 0
abbrev zK (G : GG) : va_E := .inl (gC G 5, 501, .inr (.inr (.inr (.inr (fun _ => none)))))
def z3 (G : GG) : List va_E := [zK G, arI G 0 501, arI G 0 501]
set_option maxHeartbeats 2000000 in
theorem kR_scr {l : Launch} {G : GG} {h : HM} {k : Nat} (hk : k = 19) : Ct l G TX2_init 1 3 1503 [.ref (gB G + k)] (nwW h k 0 zP []) (k + 1) (RetR (nwW h k 0 (fsP G scF none) (z3 G)) (k + 4)) := by
  subst hk
  have h9 : NC = 94 := rfl
  refine Ct.ofV (by decide +kernel) rfl rfl (Nat.le_of_ble_eq_true rfl) ?_
  refine V.aload_n (q := 1) dX2_init_0 rfl rfl ?_
  refine V.objInit (q := 4) dX2_init_1 bw_134 bw_31 bw_32 rfl (by decide) rfl ?_
  refine V.aload_n (q := 5) dX2_init_4 rfl rfl ?_
  refine V.sipush (q := 8) dX2_init_5 (v := 501) rfl rfl ?_
  refine V.newarrQ (q := 11) (t0 := 5) (N := 501) (C := "LiftScheduler$Kind") dX2_init_8 bw_135 (fun U hU => hU.2.2.2.2.2.2.1) rfl rfl (by decide) (by omega) (by omega) (by omega) rfl ?_
  refine V.to rfl rfl (nw_push rfl) rfl ?_
  refine V.put (q := 14) (j := 0) dX2_init_11 nw_at (by omega) rfl inX2 tyX2_ok nmX2 (by decide) rfl bw_137 (Or.inr ⟨rfl, rfl⟩) rfl rfl (Nat.le_of_ble_eq_true rfl) rfl ?_
  refine V.to rfl rfl nw_put rfl ?_
  refine V.aload_n (q := 15) dX2_init_14 rfl rfl ?_
  refine V.sipush (q := 18) dX2_init_15 (v := 501) rfl rfl ?_
  refine V.newarr (q := 20) (t0 := 0) (N := 501) (a0 := (501, .inl (fun _ => 0))) dX2_init_18 bw_127 rfl trivial rfl (fun _ => rfl) rfl (by decide) (by decide) (by omega) (by omega) (by omega) rfl ?_
  refine V.to rfl rfl (nw_push rfl) rfl ?_
  refine V.put (q := 23) (j := 1) dX2_init_20 nw_at (by omega) rfl inX2 tyX2_ok nmX2 (by decide) rfl bw_138 (Or.inr ⟨rfl, rfl⟩) rfl rfl (Nat.le_of_ble_eq_true rfl) rfl ?_
  refine V.to rfl rfl nw_put rfl ?_
  refine V.aload_n (q := 24) dX2_init_23 rfl rfl ?_
  refine V.sipush (q := 27) dX2_init_24 (v := 501) rfl rfl ?_
  refine V.newarr (q := 29) (t0 := 0) (N := 501) (a0 := (501, .inl (fun _ => 0))) dX2_init_27 bw_127 rfl trivial rfl (fun _ => rfl) rfl (by decide) (by decide) (by omega) (by omega) (by omega) rfl ?_
  refine V.to rfl rfl (nw_push rfl) rfl ?_
  refine V.put (q := 32) (j := 2) dX2_init_29 nw_at (by omega) rfl inX2 tyX2_ok nmX2 (by decide) rfl bw_139 (Or.inr ⟨rfl, rfl⟩) rfl rfl (Nat.le_of_ble_eq_true rfl) rfl ?_
  refine V.to rfl rfl nw_put rfl ?_
  refine V.aload_n (q := 33) dX2_init_32 rfl rfl ?_
  refine V.iconst (q := 34) dX2_init_33 (v := 0) rfl rfl ?_
  refine V.put (q := 37) (j := 3) dX2_init_34 nw_at (by omega) rfl inX2 tyX2_ok nmX2 (by decide) rfl bw_140 (Or.inl rfl) rfl rfl (Nat.le_of_ble_eq_true rfl) rfl ?_
  refine V.to rfl rfl nw_put rfl ?_
  refine V.aload_n (q := 38) dX2_init_37 rfl rfl ?_
  refine V.iconst (q := 39) dX2_init_38 (v := 0) rfl rfl ?_
  refine V.put (q := 42) (j := 4) dX2_init_39 nw_at (by omega) rfl inX2 tyX2_ok nmX2 (by decide) rfl bw_141 (Or.inl rfl) rfl rfl (Nat.le_of_ble_eq_true rfl) rfl ?_
  refine V.to rfl rfl nw_put rfl ?_
  refine V.aload_n (q := 43) dX2_init_42 rfl rfl ?_
  refine V.iconst (q := 44) dX2_init_43 (v := 0) rfl rfl ?_
  refine V.put (q := 47) (j := 6) dX2_init_44 nw_at (by omega) rfl inX2 tyX2_ok nmX2 (by decide) rfl bw_143 (Or.inl rfl) rfl rfl (Nat.le_of_ble_eq_true rfl) rfl ?_
  refine V.to rfl rfl nw_put rfl ?_
  refine V.aload_n (q := 48) dX2_init_47 rfl rfl ?_
  refine V.iconst (q := 49) dX2_init_48 (v := 0) rfl rfl ?_
  refine V.put (q := 52) (j := 7) dX2_init_49 nw_at (by omega) rfl inX2 tyX2_ok nmX2 (by decide) rfl bw_144 (Or.inl rfl) rfl rfl (Nat.le_of_ble_eq_true rfl) rfl ?_
  refine V.to rfl rfl nw_put rfl ?_
  refine V.aload_n (q := 53) dX2_init_52 rfl rfl ?_
  refine V.iconst (q := 54) dX2_init_53 (v := -1) rfl rfl ?_
  refine V.put (q := 57) (j := 8) dX2_init_54 nw_at (by omega) rfl inX2 tyX2_ok nmX2 (by decide) rfl bw_146 (Or.inl rfl) rfl rfl (Nat.le_of_ble_eq_true rfl) rfl ?_
  refine V.to rfl rfl nw_put rfl ?_
  exact V.vret dX2_init_57 rfl ⟨rfl, rfl, rfl⟩
