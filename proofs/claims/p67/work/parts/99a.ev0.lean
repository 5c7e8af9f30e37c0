/-! at the start all that stands below B is there -/
def evF : List Cond := flatC (Cond.and given_1 narrow_1)
def strT (j : Nat) : Term := Term.string (ev_ks.getD j ("", 0)).1 (ev_ks.getD j ("", 0)).2
def kndT (i : Nat) : Term := Term.static "LiftScheduler$Kind" (ev_kn.getD i "") "LLiftScheduler$Kind;"
abbrev swT : Term := Term.static "LiftScheduler$1" "$SwitchMap$LiftScheduler$Kind" "[I"
abbrev ksT : Term := Term.static "LiftScheduler$Script" "KINDS" "[LLiftScheduler$Kind;"
abbrev dtT : Term := Term.static "java/lang/Integer" "DigitTens" "[B"
abbrev doT : Term := Term.static "java/lang/Integer" "DigitOnes" "[B"
def ev_so : List Nat := [375, 393, 414, 432, 449, 479, 517, 549, 579, 588, 599, 612, 623, 632, 640, 670, 674, 682, 687, 697, 702, 707, 713, 721, 731, 742, 751, 763, 771, 780, 791, 800, 808, 815, 825, 834, 845, 855, 867]
def ev_ko : List Nat := [257, 322, 325, 328, 292, 331, 301, 334, 337, 340, 343, 346, 349, 352, 304, 307, 310, 313, 316, 319, 289, 295, 298, 217, 251, 254]
def ev_ni : List Nat := [366, 356, 359, 368, 357, 367, 365, 355, 370, 360, 372, 362, 371, 361, 374, 364, 369, 358, 373, 363]
def ev_lk : List Nat := [856, 994, 995, 996, 893, 997, 911, 998, 999, 1000, 1001, 1002, 1003, 1004, 940, 942, 944, 946, 948, 950, 887, 899, 901, 814, 848, 850]
def ev_sr9 : List Nat := [282, 358, 416, 430, 468, 478, 520, 521, 546, 742, 743, 744, 746, 747, 968, 993, 1005, 1006, 1007, 1008, 1009, 1010, 1011, 1012, 1013, 1014, 1015, 1016, 1017, 1018, 1019, 1020, 1021, 1022, 1023, 1024, 1025, 1026, 1027]
def ev_ci : List Nat := [615, 243, 471, 351, 759]
def ev_di : List Nat := [881, 244, 245, 246, 247, 248, 249]
theorem ev_f1 : ∀ j, j < 39 → evF[ev_so.getD j 0]? = some (.exactly (strT j) "java/lang/String") := by decide +kernel
theorem ev_f2 : ∀ j, j < 39 → evF[ev_so.getD j 0 + 1]? = some (.eq (.field (strT j) "java/lang/String" "coder" "B") (.int 0)) := by decide +kernel
theorem ev_f3 : ∀ j, j < 39 → evF[ev_so.getD j 0 + 2]? = some (.arrayOf (.field (strT j) "java/lang/String" "value" "[B") .byte) := by decide +kernel
theorem ev_f4 : ∀ j, j < 39 → evF[ev_so.getD j 0 + 3]? = some (.eq (.length (.field (strT j) "java/lang/String" "value" "[B")) (.int (Int32.ofNat (ev_by.getD j []).length))) := by decide +kernel
theorem ev_f5 : ∀ j, j < 39 → ∀ k, k < (ev_by.getD j []).length → evF[ev_so.getD j 0 + (4 + k)]? = some (.eq (.elem (.field (strT j) "java/lang/String" "value" "[B") (.int (Int32.ofNat k))) (.int ((ev_by.getD j []).getD k 0))) := by decide +kernel
theorem ev_f6 : ∀ j, j < 39 → (ev_by.getD j []).length < 2 ^ 31 := by decide +kernel
theorem ev_g1 : ∀ i, i < 26 → evF[ev_ko.getD i 0]? = some (.exactly (kndT i) "LiftScheduler$Kind") := by decide +kernel
theorem ev_g2 : ∀ i, i < 26 → evF[ev_ko.getD i 0 + 1]? = some (.eq (.field (kndT i) "java/lang/Enum" "ordinal" "I") (.int (nI i))) := by decide +kernel
theorem ev_g3 : ∀ i, i < 26 → evF[ev_ko.getD i 0 + 2]? = some (.eq (.field (kndT i) "LiftScheduler$Kind" "text" "Ljava/lang/String;") (strT (ev_tx.getD i 0))) := by decide +kernel
theorem ev_g4 : ∀ i, i < 26 → ev_tx.getD i 0 < 39 := by decide +kernel
theorem ev_h1 : evF[261]? = some (.arrayOf swT .int) := by decide +kernel
theorem ev_h2 : evF[262]? = some (.eq (.length swT) (.int (Int32.ofNat 26))) := by decide +kernel
theorem ev_h3 : ∀ k, k < 26 → evF[263 + k]? = some (.eq (.elem swT (.int (Int32.ofNat k))) (.int (ev_sw.getD k 0))) := by decide +kernel
theorem ev_h4 : evF[222]? = some (.arrayOf ksT (.object "LiftScheduler$Kind")) := by decide +kernel
theorem ev_h5 : evF[223]? = some (.eq (.length ksT) (.int (Int32.ofNat 26))) := by decide +kernel
theorem ev_h6 : ∀ k, k < 26 → evF[225 + k]? = some (.eq (.elem ksT (.int (Int32.ofNat k))) (kndT k)) := by decide +kernel
theorem ev_d1 : evF[115]? = some (.arrayOf dtT .byte) := by decide +kernel
theorem ev_d2 : evF[116]? = some (.eq (.length dtT) (.int (Int32.ofNat 100))) := by decide +kernel
theorem ev_d3 : ∀ k, k < 100 → evF[117 + k]? = some (.eq (.elem dtT (.int (Int32.ofNat k))) (.int (ev_dt.getD k 0))) := by decide +kernel
theorem ev_o1 : evF[12]? = some (.arrayOf doT .byte) := by decide +kernel
theorem ev_o2 : evF[13]? = some (.eq (.length doT) (.int (Int32.ofNat 100))) := by decide +kernel
theorem ev_o3 : ∀ k, k < 100 → evF[14 + k]? = some (.eq (.elem doT (.int (Int32.ofNat k))) (.int (ev_do.getD k 0))) := by decide +kernel
theorem ev_h7 : evF[6]? = some (.eq (.static "java/lang/String" "COMPACT_STRINGS" "Z") (.int 1)) := by decide +kernel
theorem ev_h8 : evF[7]? = some (.isRef (.static "jdk/internal/util/Preconditions" "SIOOBE_FORMATTER" "Ljava/util/function/BiFunction;")) := by decide +kernel
theorem ev_h9 : evF[4]? = some (.isRef (.static Bundle.tN "UNASSIGNED_STACK" Bundle.steD)) := by decide +kernel
theorem ev_h10 : evF[5]? = some (.isRef (.static Bundle.tN "SUPPRESSED_SENTINEL" Bundle.listD)) := by decide +kernel
theorem ev_h11 : ∀ i, i < ev_nc.length → evF[ev_ni.getD i 0]? = some (.not (.castable (ev_nc.getD i ("", "")).1 (ev_nc.getD i ("", "")).2)) := by decide +kernel
theorem ev_t1 : ∀ i, i < 26 → tables_1[ev_lk.getD i 0]? = some (.laysStatic "LiftScheduler$Kind" (ev_kn.getD i "") "LLiftScheduler$Kind;") := by decide +kernel
theorem ev_t2 : ∀ j, j < 39 → tables_1[ev_sr9.getD j 0]? = some (.stringRef (ev_ks.getD j ("", 0)).1 (ev_ks.getD j ("", 0)).2 (ev_sx.getD j "")) := by decide +kernel
theorem ev_t3 : ∀ i, i < ev_ca.length → tables_1[ev_ci.getD i 0]? = some (.castable (ev_ca.getD i ("", "")).1 (ev_ca.getD i ("", "")).2) := by decide +kernel
theorem ev_t4 : ∀ i, i < ev_dc.length → tables_1[ev_di.getD i 0]? = some (.declares (ev_dc.getD i ⟨"", "", ""⟩)) := by decide +kernel
theorem ev_t5 : tables_1[878]? = some (.laysStatic "LiftScheduler$1" "$SwitchMap$LiftScheduler$Kind" "[I") := by decide +kernel
theorem ev_t6 : tables_1[826]? = some (.laysStatic "LiftScheduler$Script" "KINDS" "[LLiftScheduler$Kind;") := by decide +kernel
theorem ev_t7 : tables_1[563]? = some (.laysStatic "java/lang/String" "COMPACT_STRINGS" "Z") := by decide +kernel
theorem ev_t8 : tables_1[638]? = some (.laysStatic "jdk/internal/util/Preconditions" "SIOOBE_FORMATTER" "Ljava/util/function/BiFunction;") := by decide +kernel
theorem ev_t9 : tables_1[268]? = some (.laysStatic Bundle.tN "UNASSIGNED_STACK" Bundle.steD) := by decide +kernel
theorem ev_t10 : tables_1[270]? = some (.laysStatic Bundle.tN "SUPPRESSED_SENTINEL" Bundle.listD) := by decide +kernel
theorem ev_t11 : tables_1[131]? = some (.methodLinkNest "LiftScheduler" 46 ⟨"LiftScheduler$Script", "<init>", "()V"⟩ "LiftScheduler") := by decide +kernel
theorem ev_t12 : tables_1[128]? = some (.arrayOver (.object "LiftScheduler$Simulation")) := by decide +kernel
theorem ev_t13 : tables_1[136]? = some (.arrayOver (.object "LiftScheduler$Kind")) := by decide +kernel
theorem ev_t14 : tables_1[711]? = some (.laysStatic "java/lang/Integer" "DigitTens" "[B") := by decide +kernel
theorem ev_t15 : tables_1[709]? = some (.laysStatic "java/lang/Integer" "DigitOnes" "[B") := by decide +kernel
theorem ev_u7 : tables_1[15]? = some (.initialized "java/lang/Integer") := by decide +kernel
theorem ev_w1 : tables_1[758]? = some (.declares ⟨"java/lang/CharSequence", "length", "()I"⟩) := by decide +kernel
theorem ev_w2 : tables_1[757]? = some (.interfaceMethod "java/lang/CharSequence" "java/lang/CharSequence" "length" "()I") := by decide +kernel
theorem ev_w3 : tables_1[763]? = some (.publicMethod ⟨"java/lang/StringBuilder", "length", "()I"⟩) := by decide +kernel
theorem ev_w4 : tables_1[761]? = some (.unhidden "java/lang/StringBuilder" "length" "()I") := by decide +kernel
theorem ev_w5 : tables_1[759]? = some (.castable "java/lang/StringBuilder" "java/lang/CharSequence") := by decide +kernel
theorem ev_x1 : tables_1[771]? = some (.declares ⟨"java/lang/CharSequence", "charAt", "(I)C"⟩) := by decide +kernel
theorem ev_x2 : tables_1[770]? = some (.interfaceMethod "java/lang/CharSequence" "java/lang/CharSequence" "charAt" "(I)C") := by decide +kernel
theorem ev_x3 : tables_1[775]? = some (.publicMethod ⟨"java/lang/StringBuilder", "charAt", "(I)C"⟩) := by decide +kernel
theorem ev_x4 : tables_1[773]? = some (.unhidden "java/lang/StringBuilder" "charAt" "(I)C") := by decide +kernel
theorem ev_u1 : tables_1[17]? = some (.initialized "LiftScheduler$Kind") := by decide +kernel
theorem ev_u2 : tables_1[18]? = some (.initialized "LiftScheduler$1") := by decide +kernel
theorem ev_u3 : tables_1[4]? = some (.initialized "LiftScheduler$Script") := by decide +kernel
theorem ev_u4 : tables_1[7]? = some (.initialized "java/lang/String") := by decide +kernel
theorem ev_u5 : tables_1[13]? = some (.initialized "jdk/internal/util/Preconditions") := by decide +kernel
theorem ev_u6 : tables_1[19]? = some (.initialized Bundle.tN) := by decide +kernel
section E0
variable {A : Array Value} {s : State} {P : Nat → Prop}
theorem ev_get (hg : (Cond.and given_1 narrow_1).before A s = true) {i : Nat} {w : Cond} (h : evF[i]? = some w) : w.before A s = true := flat_of_before _ hg _ (List.mem_of_getElem? h)
theorem ev_tab (hts : ∀ w ∈ lw_tbl, w.before A s = true) {i : Nat} {w : Cond} (h : tables_1[i]? = some w) : w.before A s = true := hts _ (List.mem_append_right _ (List.mem_of_getElem? h))
theorem ev_str (hg : (Cond.and given_1 narrow_1).before A s = true) (hA : ∀ a : Nat, a < s.heap.size → ¬ P a) : ∃ aK aV : Nat → Nat, ∀ j, j < 39 → (strT j).eval A s none [] s = some (.ref (aK j)) ∧ va_O "java/lang/String" (aK j) P s s.heap ∧ va_OF "java/lang/String" "coder" "B" (.int 0) (aK j) P s s.heap ∧ va_OF "java/lang/String" "value" "[B" (.ref (aV j)) (aK j) P s s.heap ∧ va_T .byte (aV j) (ev_by.getD j []).length (fun k => .int ((ev_by.getD j []).getD k 0)) P s s.heap := by
  have h0 : ∀ j : Nat, ∃ y : Nat × Nat, j < 39 → (strT j).eval A s none [] s = some (.ref y.1) ∧ va_O "java/lang/String" y.1 P s s.heap ∧ va_OF "java/lang/String" "coder" "B" (.int 0) y.1 P s s.heap ∧ va_OF "java/lang/String" "value" "[B" (.ref y.2) y.1 P s s.heap ∧ va_T .byte y.2 (ev_by.getD j []).length (fun k => .int ((ev_by.getD j []).getD k 0)) P s s.heap := by
    intro j
    by_cases hj : j < 39
    · obtain ⟨a, c, ca, ka, q1, q2, q3, q4, q5, q6, -⟩ := Cond.exactly_spec (args := A) (first := s) (o := none) (s := s) (idx := []) (t := strT j) (cls := "java/lang/String") (ev_get hg (ev_f1 j hj))
      obtain ⟨t, ht, hT⟩ := va_Tof (f := fun k => .int ((ev_by.getD j []).getD k 0)) (A := P) (ev_f6 j hj) (ev_get hg (ev_f3 j hj)) (va_eqt (ev_get hg (ev_f4 j hj))) (fun k hk => va_eqt (ev_get hg (ev_f5 j hj k hk))) hA
      exact ⟨(a, t), fun _ => ⟨q1, ⟨ca, q3, q5, by rw [q6]; exact q2, hA a (Array.getElem?_eq_some_iff.mp q3).1⟩, vk_OFof q1 (va_eqt (ev_get hg (ev_f2 j hj))) hA, vk_OFof q1 ht hA, hT⟩⟩
    · exact ⟨(0, 0), fun h => absurd h hj⟩
  obtain ⟨y, hy⟩ := Classical.axiomOfChoice h0
  exact ⟨fun j => (y j).1, fun j => (y j).2, fun j hj => hy j hj⟩
theorem ev_knd (hg : (Cond.and given_1 narrow_1).before A s = true) (hts : ∀ w ∈ lw_tbl, w.before A s = true) (hA : ∀ a : Nat, a < s.heap.size → ¬ P a) {aK : Nat → Nat} (hK : ∀ j, j < 39 → (strT j).eval A s none [] s = some (.ref (aK j))) : ∃ ad : Nat → Nat, ∀ i, i < 26 → (kndT i).eval A s none [] s = some (.ref (ad i)) ∧ va_Z "LiftScheduler$Kind" (ev_kn.getD i "") "LLiftScheduler$Kind;" (.ref (ad i)) P s s.heap ∧ va_O "LiftScheduler$Kind" (ad i) P s s.heap ∧ va_OF "java/lang/Enum" "ordinal" "I" (.int (nI i)) (ad i) P s s.heap ∧ va_OF "LiftScheduler$Kind" "text" "Ljava/lang/String;" (.ref (aK (ev_tx.getD i 0))) (ad i) P s s.heap := by
  have h0 : ∀ i : Nat, ∃ a : Nat, i < 26 → (kndT i).eval A s none [] s = some (.ref a) ∧ va_Z "LiftScheduler$Kind" (ev_kn.getD i "") "LLiftScheduler$Kind;" (.ref a) P s s.heap ∧ va_O "LiftScheduler$Kind" a P s s.heap ∧ va_OF "java/lang/Enum" "ordinal" "I" (.int (nI i)) a P s s.heap ∧ va_OF "LiftScheduler$Kind" "text" "Ljava/lang/String;" (.ref (aK (ev_tx.getD i 0))) a P s s.heap := by
    intro i
    by_cases hi : i < 26
    · obtain ⟨a, c, ca, ka, q1, q2, q3, q4, q5, q6, -⟩ := Cond.exactly_spec (args := A) (first := s) (o := none) (s := s) (idx := []) (t := kndT i) (cls := "LiftScheduler$Kind") (ev_get hg (ev_g1 i hi))
      exact ⟨a, fun _ => ⟨q1, va_Zof (ev_tab hts (ev_t1 i hi)) (ev_tab hts ev_u1) q1 hA, ⟨ca, q3, q5, by rw [q6]; exact q2, hA a (Array.getElem?_eq_some_iff.mp q3).1⟩, vk_OFof q1 (va_eqt (ev_get hg (ev_g2 i hi))) hA, vk_OFof q1 (va_eqv (ev_get hg (ev_g3 i hi)) (hK _ (ev_g4 i hi))) hA⟩⟩
    · exact ⟨0, fun h => absurd h hi⟩
  obtain ⟨y, hy⟩ := Classical.axiomOfChoice h0
  exact ⟨y, fun i hi => hy i hi⟩
def adE (ad aK aV : Nat → Nat) (tS tK tD tO : Nat) (k : Nat) : Nat := if k < 26 then ad k else if k = 26 then tS else if k = 27 then tK else if k = 28 then tD else if k = 29 then tO else if k < 200 then aK (k - 100) else aV (k - 200)
theorem adE_k {ad aK aV : Nat → Nat} {tS tK tD tO i : Nat} (hi : i < 26) : adE ad aK aV tS tK tD tO i = ad i := if_pos hi
theorem adE_s {ad aK aV : Nat → Nat} {tS tK tD tO j : Nat} (hj : j < 39) : adE ad aK aV tS tK tD tO (100 + j) = aK j := by
  unfold adE
  rw [if_neg (by omega), if_neg (by omega), if_neg (by omega), if_neg (by omega), if_neg (by omega), if_pos (by omega), show 100 + j - 100 = j by omega]
theorem adE_v {ad aK aV : Nat → Nat} {tS tK tD tO j : Nat} : adE ad aK aV tS tK tD tO (200 + j) = aV j := by
  unfold adE
  rw [if_neg (by omega), if_neg (by omega), if_neg (by omega), if_neg (by omega), if_neg (by omega), if_neg (by omega), show 200 + j - 200 = j by omega]
theorem OF_same {o n d : String} {v w : Value} {t : Nat} {U : State} {H : Heap} (h1 : va_OF o n d v t P U H) (h2 : va_OF o n d w t P U H) : v = w := by
  obtain ⟨cf, k, i, f, cell, a1, a2, a3, a4, a5, a6⟩ := h1
  obtain ⟨cf', k', i', f', cell', b1, b2, b3, b4, b5, b6⟩ := h2
  cases a1.symm.trans b1
  cases a3.symm.trans b3
  exact Option.some.inj (a5.symm.trans b5)
theorem ev_0 (hg : (Cond.and given_1 narrow_1).before A s = true) (hts : ∀ w ∈ lw_tbl, w.before A s = true) (hA : ∀ a : Nat, a < s.heap.size → ¬ P a) : ∃ gA : Nat → Nat, vx_Zq Bundle.tN "UNASSIGNED_STACK" Bundle.steD P s s.heap ∧ vx_Zq Bundle.tN "SUPPRESSED_SENTINEL" Bundle.listD P s s.heap ∧
  (∀ q ∈ ev_st gA, va_Z q.1 q.2.1 q.2.2.1 q.2.2.2 P s s.heap) ∧ (∀ q ∈ ev_of gA, va_OF q.1 q.2.1 q.2.2.1 q.2.2.2.1 q.2.2.2.2 P s s.heap) ∧
  (∀ q ∈ ev_ob gA, va_O q.1 q.2 P s s.heap) ∧ (∀ q ∈ ev_ta gA, va_T q.1 q.2.1 q.2.2.1 q.2.2.2 P s s.heap) ∧ ev_sr gA s ∧ va_Zq "jdk/internal/util/Preconditions" "SIOOBE_FORMATTER" "Ljava/util/function/BiFunction;" P s s.heap := by
  obtain ⟨aK, aV, hS⟩ := ev_str hg hA
  obtain ⟨ad, hK⟩ := ev_knd hg hts hA (fun j hj => (hS j hj).1)
  obtain ⟨tS, hs1, hs2⟩ := va_Tof (f := fun k => .int (ev_sw.getD k 0)) (A := P) (by decide) (ev_get hg ev_h1) (va_eqt (ev_get hg ev_h2)) (fun k hk => va_eqt (ev_get hg (ev_h3 k hk))) hA
  obtain ⟨tK, hk1, hk2⟩ := va_Tof (f := fun k => .ref (ad k)) (A := P) (by decide) (ev_get hg ev_h4) (va_eqt (ev_get hg ev_h5)) (fun k hk => va_eqv (ev_get hg (ev_h6 k hk)) (hK k hk).1) hA
  obtain ⟨tD, hd1, hd2⟩ := va_Tof (f := fun k => .int (ev_dt.getD k 0)) (A := P) (by decide) (ev_get hg ev_d1) (va_eqt (ev_get hg ev_d2)) (fun k hk => va_eqt (ev_get hg (ev_d3 k hk))) hA
  obtain ⟨tO, ho1, ho2⟩ := va_Tof (f := fun k => .int (ev_do.getD k 0)) (A := P) (by decide) (ev_get hg ev_o1) (va_eqt (ev_get hg ev_o2)) (fun k hk => va_eqt (ev_get hg (ev_o3 k hk))) hA
  have hl : ev_ks.length = 39 := rfl
  have e26 : adE ad aK aV tS tK tD tO 26 = tS := rfl
  have e27 : adE ad aK aV tS tK tD tO 27 = tK := rfl
  refine ⟨adE ad aK aV tS tK tD tO, vx_Zqof (ev_tab hts ev_t9) (ev_tab hts ev_u6) (ev_get hg ev_h9) hA, vx_Zqof (ev_tab hts ev_t10) (ev_tab hts ev_u6) (ev_get hg ev_h10) hA, ?_, ?_, ?_, ?_, ⟨?_, ?_, ?_, ?_, va_Nw.of rfl (ev_tab hts ev_t11), va_AO.of (ev_tab hts ev_t12), va_AO.of (ev_tab hts ev_t13), ?_, ?_⟩, va_Zqof (ev_tab hts ev_t8) (ev_tab hts ev_u5) (ev_get hg ev_h8) hA⟩
  · intro y hy
    rcases List.mem_append.mp hy with h | h
    · obtain ⟨i, hi, rfl⟩ := List.mem_map.mp h
      have hi := List.mem_range.mp hi
      show va_Z "LiftScheduler$Kind" (ev_kn.getD i "") "LLiftScheduler$Kind;" (.ref (adE ad aK aV tS tK tD tO i)) P s s.heap
      rw [adE_k hi]
      exact (hK i hi).2.1
    · rcases List.mem_cons.mp h with rfl | h
      · exact va_Zof (ev_tab hts ev_t5) (ev_tab hts ev_u2) hs1 hA
      · rcases List.mem_cons.mp h with rfl | h
        · exact va_Zof (ev_tab hts ev_t6) (ev_tab hts ev_u3) hk1 hA
        · rcases List.mem_cons.mp h with rfl | h
          · exact va_Zof (ev_tab hts ev_t7) (ev_tab hts ev_u4) (va_eqi (ev_get hg ev_h7)) hA
          · rcases List.mem_cons.mp h with rfl | h
            · exact va_Zof (ev_tab hts ev_t14) (ev_tab hts ev_u7) hd1 hA
            · rcases List.mem_cons.mp h with rfl | h
              · exact va_Zof (ev_tab hts ev_t15) (ev_tab hts ev_u7) ho1 hA
              · exact absurd h List.not_mem_nil
  · intro y hy
    rcases List.mem_append.mp hy with h | h
    · obtain ⟨i, hi, h⟩ := List.mem_flatMap.mp h
      have hi := List.mem_range.mp hi
      rcases List.mem_cons.mp h with rfl | h
      · show va_OF "java/lang/Enum" "ordinal" "I" (.int (nI i)) (adE ad aK aV tS tK tD tO i) P s s.heap
        rw [adE_k hi]
        exact (hK i hi).2.2.2.1
      · rcases List.mem_cons.mp h with rfl | h
        · show va_OF "LiftScheduler$Kind" "text" "Ljava/lang/String;" (.ref (adE ad aK aV tS tK tD tO (100 + ev_tx.getD i 0))) (adE ad aK aV tS tK tD tO i) P s s.heap
          rw [adE_k hi, adE_s (ev_g4 i hi)]
          exact (hK i hi).2.2.2.2
        · exact absurd h List.not_mem_nil
    · obtain ⟨j, hj, h⟩ := List.mem_flatMap.mp h
      have hj : j < 39 := List.mem_range.mp hj
      rcases List.mem_cons.mp h with rfl | h
      · show va_OF "java/lang/String" "coder" "B" (.int 0) (adE ad aK aV tS tK tD tO (100 + j)) P s s.heap
        rw [adE_s hj]
        exact (hS j hj).2.2.1
      · rcases List.mem_cons.mp h with rfl | h
        · show va_OF "java/lang/String" "value" "[B" (.ref (adE ad aK aV tS tK tD tO (200 + j))) (adE ad aK aV tS tK tD tO (100 + j)) P s s.heap
          rw [adE_s hj, adE_v]
          exact (hS j hj).2.2.2.1
        · exact absurd h List.not_mem_nil
  · intro y hy
    rcases List.mem_append.mp hy with h | h
    · obtain ⟨i, hi, rfl⟩ := List.mem_map.mp h
      have hi := List.mem_range.mp hi
      show va_O "LiftScheduler$Kind" (adE ad aK aV tS tK tD tO i) P s s.heap
      rw [adE_k hi]
      exact (hK i hi).2.2.1
    · obtain ⟨j, hj, rfl⟩ := List.mem_map.mp h
      have hj : j < 39 := List.mem_range.mp hj
      show va_O "java/lang/String" (adE ad aK aV tS tK tD tO (100 + j)) P s s.heap
      rw [adE_s hj]
      exact (hS j hj).2.1
  · intro y hy
    rcases List.mem_append.mp hy with h | h
    · rcases List.mem_cons.mp h with rfl | h
      · exact hs2
      · rcases List.mem_cons.mp h with rfl | h
        · show va_T (.object "LiftScheduler$Kind") tK 26 (fun k => .ref (adE ad aK aV tS tK tD tO k)) P s s.heap
          obtain ⟨cell, z1, z2, z3, z4, z5, z6, z7⟩ := hk2
          exact ⟨cell, z1, z2, z3, z4, z5, fun k hk => by
            rw [z6 k hk]
            show some (Value.ref (ad k)) = some (Value.ref (adE ad aK aV tS tK tD tO k))
            rw [adE_k hk], z7⟩
        · rcases List.mem_cons.mp h with rfl | h
          · exact hd2
          · rcases List.mem_cons.mp h with rfl | h
            · exact ho2
            · exact absurd h List.not_mem_nil
    · obtain ⟨j, hj, rfl⟩ := List.mem_map.mp h
      have hj : j < 39 := List.mem_range.mp hj
      show va_T .byte (adE ad aK aV tS tK tD tO (200 + j)) (ev_by.getD j []).length (fun k => .int ((ev_by.getD j []).getD k 0)) P s s.heap
      rw [adE_v]
      exact (hS j hj).2.2.2.2
  · intro j hj
    have hj : j < 39 := hj
    rw [adE_s hj]
    exact vk_R.of (A := A) (ev_tab hts (ev_t2 j hj)) (hS j hj).1
  · intro i j hi hj e
    rw [adE_k hi, adE_k hj] at e
    have h1 := (hK i hi).2.2.2.1
    have h2 := (hK j hj).2.2.2.1
    rw [← e] at h2
    exact neq (Value.int.inj (OF_same h1 h2)) (by omega) (by omega)
  · intro y hy
    obtain ⟨i, hi, e⟩ := List.mem_iff_getElem.mp hy
    have h := ev_tab hts (ev_t3 i hi)
    have e2 : ev_ca.getD i ("", "") = y := by simp [List.getD, hi, e]
    rw [e2] at h
    exact va_Nw.of rfl h
  · intro y hy
    obtain ⟨i, hi, e⟩ := List.mem_iff_getElem.mp hy
    have h := ev_get hg (ev_h11 i hi)
    have e2 : ev_nc.getD i ("", "") = y := by simp [List.getD, hi, e]
    rw [e2] at h
    exact va_Nc.of h
  · intro y hy
    obtain ⟨i, hi, e⟩ := List.mem_iff_getElem.mp hy
    have h := ev_tab hts (ev_t4 i hi)
    have e2 : ev_dc.getD i ⟨"", "", ""⟩ = y := by simp [List.getD, hi, e]
    rw [e2] at h
    exact va_Nw.of rfl h
  · intro y hy
    rcases List.mem_cons.mp hy with rfl | hy
    · exact va_Fw.of (ev_tab hts ev_w1) (ev_tab hts ev_w2) (ev_tab hts ev_w3) (ev_tab hts ev_w4) (ev_tab hts ev_w5)
    · rcases List.mem_cons.mp hy with rfl | hy
      · exact va_Fw.of (ev_tab hts ev_x1) (ev_tab hts ev_x2) (ev_tab hts ev_x3) (ev_tab hts ev_x4) (ev_tab hts ev_w5)
      · exact absurd hy List.not_mem_nil
/-- the classes and the arrays' classes -/
theorem kv_a {ty : FieldType} (hp : match ty with | .object _ => False | _ => True) (h : (Cond.arrayClass ty).before A s = true) : ∃ c : ClassId, ArrOfT s c ty ∧ va_RA s c ty := by
  obtain ⟨c, k, comp, h1, h2, h3⟩ := Cond.arrayClass_spec h
  refine ⟨c, fun N z => ⟨(fun k h => by cases h), k, h2, comp, h3⟩, ?_⟩
  cases ty <;> first | exact h1 | exact hp.elim
theorem kv_o {C : String} (h : (Cond.arrayOver (.object C)).before A s = true) : ∃ c : ClassId, ArrOfT s c (.object C) ∧ va_RA s c (.object C) := by
  obtain ⟨comp, c, k, h1, h2, h3, h4, h5⟩ := Cond.arrayOver_spec h
  exact ⟨c, fun N z => ⟨(fun k h => by cases h), k, h3, comp, h4⟩, k, comp, h3, h4, h1, h5⟩
/-- a private method of AbstractStringBuilder is what an object of StringBuilder has under its name -/
theorem sel_priv {C : String} {y y0 : MethodName} {s : State} {args : Array Value} (hc : y.cls = y0.cls) (hy : y.cls ≠ "java/lang/invoke/MethodHandle" ∧ y.cls ≠ "java/lang/invoke/VarHandle") (h0 : (Cond.selects C y0 y0).before args s = true) (hpriv : (Cond.privateMethod y).before args s = true) (hinst : (Cond.instanceMethod y).before args s = true) : (Cond.selects C y y).before args s = true := by
  obtain ⟨c, r, m, e1, -, e3, -, mk0, e5, e6⟩ := Cond.selects_spec h0
  obtain ⟨mk, methM, hnamed, hmethM, -, -⟩ := Cond.instanceMethod_spec hinst
  have hfound : s.methodFound? y.cls y.name y.desc = some mk := State.methodFound?_of_named hnamed hy
  have hcls : mk.cls = m.cls := Option.some.inj ((findClass_of_methodNamed hnamed).symm.trans ((congrArg s.vm.findClass hc).trans (findClass_of_methodNamed e3)))
  have hsel : selectMethod {} s.vm c mk = .method mk := selectMethod_private hmethM (Cond.privateMethod_at hpriv mk methM hnamed hmethM)
  simp only [Cond.before, Cond.holds, Cond.value, e1, hfound, hnamed, hsel, hcls, e5]
  simp
  exact e6
theorem ev_p0 : tables_1[622]? = some (.selects "java/lang/StringBuilder" ⟨"java/lang/AbstractStringBuilder", "isLatin1", "()Z"⟩ ⟨"java/lang/AbstractStringBuilder", "isLatin1", "()Z"⟩) := by decide +kernel
def ev_pi : List (Nat × Nat) := [(592, 593), (596, 597), (652, 653), (656, 657)]
theorem ev_p1 : ∀ i, i < 4 → tables_1[(ev_pi.getD i (0, 0)).1]? = some (.privateMethod (sxM.getD i ⟨"", "", ""⟩)) := by decide +kernel
theorem ev_p2 : ∀ i, i < 4 → tables_1[(ev_pi.getD i (0, 0)).2]? = some (.instanceMethod (sxM.getD i ⟨"", "", ""⟩)) := by decide +kernel
theorem ev_p3 : ∀ i, i < 4 → (sxM.getD i ⟨"", "", ""⟩).cls = "java/lang/AbstractStringBuilder" := by decide +kernel
theorem bw_0hts (hts : ∀ w ∈ lw_tbl, w.before A s = true) : ∀ w ∈ BW, w.before A s = true := by
  intro w hw
  rcases List.mem_append.mp (List.mem_filter.mp hw).1 with h | h
  · exact hts w h
  · obtain ⟨y, hy, rfl⟩ := List.mem_map.mp h
    obtain ⟨i, hi, e⟩ := List.mem_iff_getElem.mp hy
    have h4 : i < 4 := hi
    have e2 : sxM.getD i ⟨"", "", ""⟩ = y := by
      rw [List.getD_eq_getElem?_getD, List.getElem?_eq_getElem hi, e]
      rfl
    have p3 := ev_p3 i h4
    rw [e2] at p3
    have q1 := ev_tab hts (ev_p1 i h4)
    have q2 := ev_tab hts (ev_p2 i h4)
    rw [e2] at q1 q2
    exact sel_priv p3 (by rw [p3]; decide) (ev_tab hts ev_p0) q1 q2
theorem kv_0 (hts : ∀ w ∈ lw_tbl, w.before A s = true) : ∃ (D : va_G) (gC : Nat → ClassId), va_K D vwCl [(gC 0, .int), (gC 1, .byte), (gC 2, .boolean), (gC 3, .int), (gC 4, .object "LiftScheduler$Simulation"), (gC 5, .object "LiftScheduler$Kind")] s := by
  have hb : ∀ w ∈ BW, w.before A s = true := bw_0hts hts
  obtain ⟨c2, i2, k2⟩ := u_known hb inX2 (hb _ bw_130)
  obtain ⟨c3, i3, k3⟩ := u_known hb inX3 (hb _ bw_34)
  obtain ⟨c4, i4, k4⟩ := u_known hb inX4 (hb _ bw_26)
  obtain ⟨c5, i5, k5⟩ := u_known hb inX5 (hb _ bw_523)
  obtain ⟨c6, i6, k6⟩ := u_known hb inJ4 (hb _ bw_545)
  obtain ⟨d0, hd0⟩ := kv_a trivial (hb _ bw_127)
  obtain ⟨d1, hd1⟩ := kv_a trivial (hb _ bw_167)
  obtain ⟨d2, hd2⟩ := kv_a trivial (hb _ bw_166)
  obtain ⟨d4, hd4⟩ := kv_o (ev_tab hts ev_t12)
  obtain ⟨d5, hd5⟩ := kv_o (ev_tab hts ev_t13)
  refine ⟨(fun c => if c = 0 then c2 else if c = 1 then c3 else if c = 2 then c4 else if c = 3 then c5 else c6, fun c => if c = 0 then i2 else if c = 1 then i3 else if c = 2 then i4 else if c = 3 then i5 else i6), fun k => if k = 0 then d0 else if k = 1 then d1 else if k = 2 then d2 else if k = 3 then d0 else if k = 4 then d4 else d5, fun c r hr => ?_, fun k r hr => ?_⟩
  · have hl := (List.getElem?_eq_some_iff.mp hr).1
    rcases (show c = 0 ∨ c = 1 ∨ c = 2 ∨ c = 3 ∨ c = 4 by have : c < 5 := hl; omega) with rfl | rfl | rfl | rfl | rfl <;> cases hr <;> assumption
  · have hl := (List.getElem?_eq_some_iff.mp hr).1
    rcases (show k = 0 ∨ k = 1 ∨ k = 2 ∨ k = 3 ∨ k = 4 ∨ k = 5 by have : k < 6 := hl; omega) with rfl | rfl | rfl | rfl | rfl | rfl <;> cases hr <;> assumption
end E0
