/-! at the start all that stands below B is there -/
def evF : List Cond := flatC (Cond.and given_1 narrow_1)
def strT (j : Nat) : Term := Term.string (ev_ks.getD j ("", 0)).1 (ev_ks.getD j ("", 0)).2
def kndT (i : Nat) : Term := Term.static "LiftScheduler$Kind" (ev_kn.getD i "") "LLiftScheduler$Kind;"
abbrev swT : Term := Term.static "LiftScheduler$1" "$SwitchMap$LiftScheduler$Kind" "[I"
abbrev ksT : Term := Term.static "LiftScheduler$Script" "KINDS" "[LLiftScheduler$Kind;"
def ev_so : List Nat := [188, 218, 250, 268, 289, 307, 324, 356, 386, 419, 450, 477, 507, 545, 575, 591, 612, 620, 629, 640, 649, 659, 667, 673, 680, 690, 699, 707, 717, 728, 737, 749, 757, 768, 778, 790, 800, 804, 813, 818, 829, 834, 839, 846, 855, 866, 878, 888, 901, 910, 920, 932, 942, 951, 959, 970, 980, 992, 1003, 1016]
def ev_ko : List Nat := [49, 116, 119, 122, 84, 125, 93, 128, 131, 134, 137, 140, 143, 146, 96, 99, 102, 105, 108, 111, 81, 87, 90, 4, 43, 46]
def ev_ni : List Nat := [179, 170, 149, 163, 156, 173, 153, 167, 160, 181, 171, 151, 165, 158, 180, 150, 164, 157, 182, 172, 152, 166, 159, 183, 174, 168, 161, 185, 176, 155, 162, 184, 175, 154, 169, 187, 178, 186, 177]
def ev_lk : List Nat := [557, 1619, 1620, 1621, 594, 1622, 612, 1623, 1624, 1625, 1626, 1627, 1628, 1629, 636, 638, 640, 642, 644, 646, 588, 600, 602, 484, 549, 551]
def ev_sr9 : List Nat := [708, 741, 753, 776, 850, 863, 918, 928, 949, 950, 951, 960, 961, 984, 996, 1004, 1084, 1118, 1119, 1120, 1133, 1146, 1155, 1163, 1247, 1256, 1265, 1266, 1267, 1268, 1269, 1270, 1275, 1276, 1281, 1286, 1618, 1630, 1631, 1632, 1633, 1634, 1635, 1636, 1637, 1638, 1639, 1640, 1641, 1642, 1643, 1644, 1645, 1646, 1647, 1648, 1649, 1650, 1651, 1652]
def ev_ci : List Nat := [669, 921, 769]
def ev_di : List Nat := [582, 670, 671, 672, 673, 674, 675]
theorem ev_f1 : ∀ j, j < 60 → evF[ev_so.getD j 0]? = some (.exactly (strT j) "java/lang/String") := by decide +kernel
theorem ev_f2 : ∀ j, j < 60 → evF[ev_so.getD j 0 + 1]? = some (.eq (.field (strT j) "java/lang/String" "coder" "B") (.int 0)) := by decide +kernel
theorem ev_f3 : ∀ j, j < 60 → evF[ev_so.getD j 0 + 2]? = some (.arrayOf (.field (strT j) "java/lang/String" "value" "[B") .byte) := by decide +kernel
theorem ev_f4 : ∀ j, j < 60 → evF[ev_so.getD j 0 + 3]? = some (.eq (.length (.field (strT j) "java/lang/String" "value" "[B")) (.int (Int32.ofNat (ev_by.getD j []).length))) := by decide +kernel
theorem ev_f5 : ∀ j, j < 60 → ∀ k, k < (ev_by.getD j []).length → evF[ev_so.getD j 0 + (4 + k)]? = some (.eq (.elem (.field (strT j) "java/lang/String" "value" "[B") (.int (Int32.ofNat k))) (.int ((ev_by.getD j []).getD k 0))) := by decide +kernel
theorem ev_f6 : ∀ j, j < 60 → (ev_by.getD j []).length < 2 ^ 31 := by decide +kernel
theorem ev_g1 : ∀ i, i < 26 → evF[ev_ko.getD i 0]? = some (.exactly (kndT i) "LiftScheduler$Kind") := by decide +kernel
theorem ev_g2 : ∀ i, i < 26 → evF[ev_ko.getD i 0 + 1]? = some (.eq (.field (kndT i) "java/lang/Enum" "ordinal" "I") (.int (nI i))) := by decide +kernel
theorem ev_g3 : ∀ i, i < 26 → evF[ev_ko.getD i 0 + 2]? = some (.eq (.field (kndT i) "LiftScheduler$Kind" "text" "Ljava/lang/String;") (strT (ev_tx.getD i 0))) := by decide +kernel
theorem ev_g4 : ∀ i, i < 26 → ev_tx.getD i 0 < 60 := by decide +kernel
theorem ev_h1 : evF[53]? = some (.arrayOf swT .int) := by decide +kernel
theorem ev_h2 : evF[54]? = some (.eq (.length swT) (.int (Int32.ofNat 26))) := by decide +kernel
theorem ev_h3 : ∀ k, k < 26 → evF[55 + k]? = some (.eq (.elem swT (.int (Int32.ofNat k))) (.int (ev_sw.getD k 0))) := by decide +kernel
theorem ev_h4 : evF[9]? = some (.arrayOf ksT (.object "LiftScheduler$Kind")) := by decide +kernel
theorem ev_h5 : evF[10]? = some (.eq (.length ksT) (.int (Int32.ofNat 26))) := by decide +kernel
theorem ev_h6 : ∀ k, k < 26 → evF[12 + k]? = some (.eq (.elem ksT (.int (Int32.ofNat k))) (kndT k)) := by decide +kernel
theorem ev_h7 : evF[38]? = some (.eq (.static "java/lang/String" "COMPACT_STRINGS" "Z") (.int 1)) := by decide +kernel
theorem ev_h8 : evF[39]? = some (.isRef (.static "jdk/internal/util/Preconditions" "SIOOBE_FORMATTER" "Ljava/util/function/BiFunction;")) := by decide +kernel
theorem ev_h9 : evF[114]? = some (.isRef (.static Bundle.tN "UNASSIGNED_STACK" Bundle.steD)) := by decide +kernel
theorem ev_h10 : evF[115]? = some (.isRef (.static Bundle.tN "SUPPRESSED_SENTINEL" Bundle.listD)) := by decide +kernel
theorem ev_h11 : ∀ i, i < ev_nc.length → evF[ev_ni.getD i 0]? = some (.not (.castable (ev_nc.getD i ("", "")).1 (ev_nc.getD i ("", "")).2)) := by decide +kernel
theorem ev_t1 : ∀ i, i < 26 → tables_1[ev_lk.getD i 0]? = some (.laysStatic "LiftScheduler$Kind" (ev_kn.getD i "") "LLiftScheduler$Kind;") := by decide +kernel
theorem ev_t2 : ∀ j, j < 60 → tables_1[ev_sr9.getD j 0]? = some (.stringRef (ev_ks.getD j ("", 0)).1 (ev_ks.getD j ("", 0)).2 (ev_sx.getD j "")) := by decide +kernel
theorem ev_t3 : ∀ i, i < ev_ca.length → tables_1[ev_ci.getD i 0]? = some (.castable (ev_ca.getD i ("", "")).1 (ev_ca.getD i ("", "")).2) := by decide +kernel
theorem ev_t4 : ∀ i, i < ev_dc.length → tables_1[ev_di.getD i 0]? = some (.declares (ev_dc.getD i ⟨"", "", ""⟩)) := by decide +kernel
theorem ev_t5 : tables_1[579]? = some (.laysStatic "LiftScheduler$1" "$SwitchMap$LiftScheduler$Kind" "[I") := by decide +kernel
theorem ev_t6 : tables_1[496]? = some (.laysStatic "LiftScheduler$Script" "KINDS" "[LLiftScheduler$Kind;") := by decide +kernel
theorem ev_t7 : tables_1[509]? = some (.laysStatic "java/lang/String" "COMPACT_STRINGS" "Z") := by decide +kernel
theorem ev_t8 : tables_1[525]? = some (.laysStatic "jdk/internal/util/Preconditions" "SIOOBE_FORMATTER" "Ljava/util/function/BiFunction;") := by decide +kernel
theorem ev_t9 : tables_1[694]? = some (.laysStatic Bundle.tN "UNASSIGNED_STACK" Bundle.steD) := by decide +kernel
theorem ev_t10 : tables_1[696]? = some (.laysStatic Bundle.tN "SUPPRESSED_SENTINEL" Bundle.listD) := by decide +kernel
theorem ev_t11 : tables_1[129]? = some (.methodLinkNest "LiftScheduler" 46 ⟨"LiftScheduler$Script", "<init>", "()V"⟩ "LiftScheduler") := by decide +kernel
theorem ev_t12 : tables_1[126]? = some (.arrayOver (.object "LiftScheduler$Simulation")) := by decide +kernel
theorem ev_t13 : tables_1[134]? = some (.arrayOver (.object "LiftScheduler$Kind")) := by decide +kernel
theorem ev_u1 : tables_1[6]? = some (.initialized "LiftScheduler$Kind") := by decide +kernel
theorem ev_u2 : tables_1[11]? = some (.initialized "LiftScheduler$1") := by decide +kernel
theorem ev_u3 : tables_1[3]? = some (.initialized "LiftScheduler$Script") := by decide +kernel
theorem ev_u4 : tables_1[7]? = some (.initialized "java/lang/String") := by decide +kernel
theorem ev_u5 : tables_1[9]? = some (.initialized "jdk/internal/util/Preconditions") := by decide +kernel
theorem ev_u6 : tables_1[12]? = some (.initialized Bundle.tN) := by decide +kernel
section E0
variable {A : Array Value} {s : State} {P : Nat → Prop}
theorem ev_get (hg : (Cond.and given_1 narrow_1).before A s = true) {i : Nat} {w : Cond} (h : evF[i]? = some w) : w.before A s = true := flat_of_before _ hg _ (List.mem_of_getElem? h)
theorem ev_tab (hts : ∀ w ∈ lw_tbl, w.before A s = true) {i : Nat} {w : Cond} (h : tables_1[i]? = some w) : w.before A s = true := hts _ (List.mem_append_right _ (List.mem_of_getElem? h))
theorem ev_str (hg : (Cond.and given_1 narrow_1).before A s = true) (hA : ∀ a : Nat, a < s.heap.size → ¬ P a) : ∃ aK aV : Nat → Nat, ∀ j, j < 60 → (strT j).eval A s none [] s = some (.ref (aK j)) ∧ va_O "java/lang/String" (aK j) P s s.heap ∧ va_OF "java/lang/String" "coder" "B" (.int 0) (aK j) P s s.heap ∧ va_OF "java/lang/String" "value" "[B" (.ref (aV j)) (aK j) P s s.heap ∧ va_T .byte (aV j) (ev_by.getD j []).length (fun k => .int ((ev_by.getD j []).getD k 0)) P s s.heap := by
  have h0 : ∀ j : Nat, ∃ y : Nat × Nat, j < 60 → (strT j).eval A s none [] s = some (.ref y.1) ∧ va_O "java/lang/String" y.1 P s s.heap ∧ va_OF "java/lang/String" "coder" "B" (.int 0) y.1 P s s.heap ∧ va_OF "java/lang/String" "value" "[B" (.ref y.2) y.1 P s s.heap ∧ va_T .byte y.2 (ev_by.getD j []).length (fun k => .int ((ev_by.getD j []).getD k 0)) P s s.heap := by
    intro j
    by_cases hj : j < 60
    · obtain ⟨a, c, ca, ka, q1, q2, q3, q4, q5, q6, -⟩ := Cond.exactly_spec (args := A) (first := s) (o := none) (s := s) (idx := []) (t := strT j) (cls := "java/lang/String") (ev_get hg (ev_f1 j hj))
      obtain ⟨t, ht, hT⟩ := va_Tof (f := fun k => .int ((ev_by.getD j []).getD k 0)) (A := P) (ev_f6 j hj) (ev_get hg (ev_f3 j hj)) (va_eqt (ev_get hg (ev_f4 j hj))) (fun k hk => va_eqt (ev_get hg (ev_f5 j hj k hk))) hA
      exact ⟨(a, t), fun _ => ⟨q1, ⟨ca, q3, q5, by rw [q6]; exact q2, hA a (Array.getElem?_eq_some_iff.mp q3).1⟩, vk_OFof q1 (va_eqt (ev_get hg (ev_f2 j hj))) hA, vk_OFof q1 ht hA, hT⟩⟩
    · exact ⟨(0, 0), fun h => absurd h hj⟩
  obtain ⟨y, hy⟩ := Classical.axiomOfChoice h0
  exact ⟨fun j => (y j).1, fun j => (y j).2, fun j hj => hy j hj⟩
theorem ev_knd (hg : (Cond.and given_1 narrow_1).before A s = true) (hts : ∀ w ∈ lw_tbl, w.before A s = true) (hA : ∀ a : Nat, a < s.heap.size → ¬ P a) {aK : Nat → Nat} (hK : ∀ j, j < 60 → (strT j).eval A s none [] s = some (.ref (aK j))) : ∃ ad : Nat → Nat, ∀ i, i < 26 → (kndT i).eval A s none [] s = some (.ref (ad i)) ∧ va_Z "LiftScheduler$Kind" (ev_kn.getD i "") "LLiftScheduler$Kind;" (.ref (ad i)) P s s.heap ∧ va_O "LiftScheduler$Kind" (ad i) P s s.heap ∧ va_OF "java/lang/Enum" "ordinal" "I" (.int (nI i)) (ad i) P s s.heap ∧ va_OF "LiftScheduler$Kind" "text" "Ljava/lang/String;" (.ref (aK (ev_tx.getD i 0))) (ad i) P s s.heap := by
  have h0 : ∀ i : Nat, ∃ a : Nat, i < 26 → (kndT i).eval A s none [] s = some (.ref a) ∧ va_Z "LiftScheduler$Kind" (ev_kn.getD i "") "LLiftScheduler$Kind;" (.ref a) P s s.heap ∧ va_O "LiftScheduler$Kind" a P s s.heap ∧ va_OF "java/lang/Enum" "ordinal" "I" (.int (nI i)) a P s s.heap ∧ va_OF "LiftScheduler$Kind" "text" "Ljava/lang/String;" (.ref (aK (ev_tx.getD i 0))) a P s s.heap := by
    intro i
    by_cases hi : i < 26
    · obtain ⟨a, c, ca, ka, q1, q2, q3, q4, q5, q6, -⟩ := Cond.exactly_spec (args := A) (first := s) (o := none) (s := s) (idx := []) (t := kndT i) (cls := "LiftScheduler$Kind") (ev_get hg (ev_g1 i hi))
      exact ⟨a, fun _ => ⟨q1, va_Zof (ev_tab hts (ev_t1 i hi)) (ev_tab hts ev_u1) q1 hA, ⟨ca, q3, q5, by rw [q6]; exact q2, hA a (Array.getElem?_eq_some_iff.mp q3).1⟩, vk_OFof q1 (va_eqt (ev_get hg (ev_g2 i hi))) hA, vk_OFof q1 (va_eqv (ev_get hg (ev_g3 i hi)) (hK _ (ev_g4 i hi))) hA⟩⟩
    · exact ⟨0, fun h => absurd h hi⟩
  obtain ⟨y, hy⟩ := Classical.axiomOfChoice h0
  exact ⟨y, fun i hi => hy i hi⟩
def adE (ad aK aV : Nat → Nat) (tS tK : Nat) (k : Nat) : Nat := if k < 26 then ad k else if k = 26 then tS else if k = 27 then tK else if k < 200 then aK (k - 100) else aV (k - 200)
theorem adE_k {ad aK aV : Nat → Nat} {tS tK i : Nat} (hi : i < 26) : adE ad aK aV tS tK i = ad i := if_pos hi
theorem adE_s {ad aK aV : Nat → Nat} {tS tK j : Nat} (hj : j < 60) : adE ad aK aV tS tK (100 + j) = aK j := by
  unfold adE
  rw [if_neg (by omega), if_neg (by omega), if_neg (by omega), if_pos (by omega), show 100 + j - 100 = j by omega]
theorem adE_v {ad aK aV : Nat → Nat} {tS tK j : Nat} : adE ad aK aV tS tK (200 + j) = aV j := by
  unfold adE
  rw [if_neg (by omega), if_neg (by omega), if_neg (by omega), if_neg (by omega), show 200 + j - 200 = j by omega]
theorem OF_same {o n d : String} {v w : Value} {t : Nat} {U : State} {H : Heap} (h1 : va_OF o n d v t P U H) (h2 : va_OF o n d w t P U H) : v = w := by
  obtain ⟨cf, k, i, f, cell, a1, a2, a3, a4, a5, a6⟩ := h1
  obtain ⟨cf', k', i', f', cell', b1, b2, b3, b4, b5, b6⟩ := h2
  cases a1.symm.trans b1
  cases a3.symm.trans b3
  exact Option.some.inj (a5.symm.trans b5)
theorem ev_0 (hg : (Cond.and given_1 narrow_1).before A s = true) (hts : ∀ w ∈ lw_tbl, w.before A s = true) (hA : ∀ a : Nat, a < s.heap.size → ¬ P a) : ∃ gA : Nat → Nat, vx_Zq Bundle.tN "UNASSIGNED_STACK" Bundle.steD P s s.heap ∧ vx_Zq Bundle.tN "SUPPRESSED_SENTINEL" Bundle.listD P s s.heap ∧
  (∀ q ∈ ev_st gA, va_Z q.1 q.2.1 q.2.2.1 q.2.2.2 P s s.heap) ∧ (∀ q ∈ ev_of gA, va_OF q.1 q.2.1 q.2.2.1 q.2.2.2.1 q.2.2.2.2 P s s.heap) ∧
  (∀ q ∈ ev_ob gA, va_O q.1 q.2 P s s.heap) ∧ (∀ q ∈ ev_ta gA, va_T q.1 q.2.1 q.2.2.1 q.2.2.2 P s s.heap) ∧ ev_sr gA s ∧ va_Zq "jdk/internal/util/Preconditions" "SIOOBE_FORMATTER" "Ljava/util/function/BiFunction;" P s s.heap := by
  obtain ⟨aK, aV, hS⟩ := ev_str hg hA
  obtain ⟨ad, hK⟩ := ev_knd hg hts hA (fun j hj => (hS j hj).1)
  obtain ⟨tS, hs1, hs2⟩ := va_Tof (f := fun k => .int (ev_sw.getD k 0)) (A := P) (by decide) (ev_get hg ev_h1) (va_eqt (ev_get hg ev_h2)) (fun k hk => va_eqt (ev_get hg (ev_h3 k hk))) hA
  obtain ⟨tK, hk1, hk2⟩ := va_Tof (f := fun k => .ref (ad k)) (A := P) (by decide) (ev_get hg ev_h4) (va_eqt (ev_get hg ev_h5)) (fun k hk => va_eqv (ev_get hg (ev_h6 k hk)) (hK k hk).1) hA
  have hl : ev_ks.length = 60 := rfl
  have e26 : adE ad aK aV tS tK 26 = tS := rfl
  have e27 : adE ad aK aV tS tK 27 = tK := rfl
  refine ⟨adE ad aK aV tS tK, vx_Zqof (ev_tab hts ev_t9) (ev_tab hts ev_u6) (ev_get hg ev_h9) hA, vx_Zqof (ev_tab hts ev_t10) (ev_tab hts ev_u6) (ev_get hg ev_h10) hA, ?_, ?_, ?_, ?_, ⟨?_, ?_, ?_, ?_, va_Nw.of rfl (ev_tab hts ev_t11), va_AO.of (ev_tab hts ev_t12), va_AO.of (ev_tab hts ev_t13), ?_⟩, va_Zqof (ev_tab hts ev_t8) (ev_tab hts ev_u5) (ev_get hg ev_h8) hA⟩
  · intro y hy
    rcases List.mem_append.mp hy with h | h
    · obtain ⟨i, hi, rfl⟩ := List.mem_map.mp h
      have hi := List.mem_range.mp hi
      show va_Z "LiftScheduler$Kind" (ev_kn.getD i "") "LLiftScheduler$Kind;" (.ref (adE ad aK aV tS tK i)) P s s.heap
      rw [adE_k hi]
      exact (hK i hi).2.1
    · rcases List.mem_cons.mp h with rfl | h
      · exact va_Zof (ev_tab hts ev_t5) (ev_tab hts ev_u2) hs1 hA
      · rcases List.mem_cons.mp h with rfl | h
        · exact va_Zof (ev_tab hts ev_t6) (ev_tab hts ev_u3) hk1 hA
        · rcases List.mem_cons.mp h with rfl | h
          · exact va_Zof (ev_tab hts ev_t7) (ev_tab hts ev_u4) (va_eqi (ev_get hg ev_h7)) hA
          · exact absurd h List.not_mem_nil
  · intro y hy
    rcases List.mem_append.mp hy with h | h
    · obtain ⟨i, hi, h⟩ := List.mem_flatMap.mp h
      have hi := List.mem_range.mp hi
      rcases List.mem_cons.mp h with rfl | h
      · show va_OF "java/lang/Enum" "ordinal" "I" (.int (nI i)) (adE ad aK aV tS tK i) P s s.heap
        rw [adE_k hi]
        exact (hK i hi).2.2.2.1
      · rcases List.mem_cons.mp h with rfl | h
        · show va_OF "LiftScheduler$Kind" "text" "Ljava/lang/String;" (.ref (adE ad aK aV tS tK (100 + ev_tx.getD i 0))) (adE ad aK aV tS tK i) P s s.heap
          rw [adE_k hi, adE_s (ev_g4 i hi)]
          exact (hK i hi).2.2.2.2
        · exact absurd h List.not_mem_nil
    · obtain ⟨j, hj, h⟩ := List.mem_flatMap.mp h
      have hj : j < 60 := List.mem_range.mp hj
      rcases List.mem_cons.mp h with rfl | h
      · show va_OF "java/lang/String" "coder" "B" (.int 0) (adE ad aK aV tS tK (100 + j)) P s s.heap
        rw [adE_s hj]
        exact (hS j hj).2.2.1
      · rcases List.mem_cons.mp h with rfl | h
        · show va_OF "java/lang/String" "value" "[B" (.ref (adE ad aK aV tS tK (200 + j))) (adE ad aK aV tS tK (100 + j)) P s s.heap
          rw [adE_s hj, adE_v]
          exact (hS j hj).2.2.2.1
        · exact absurd h List.not_mem_nil
  · intro y hy
    rcases List.mem_append.mp hy with h | h
    · obtain ⟨i, hi, rfl⟩ := List.mem_map.mp h
      have hi := List.mem_range.mp hi
      show va_O "LiftScheduler$Kind" (adE ad aK aV tS tK i) P s s.heap
      rw [adE_k hi]
      exact (hK i hi).2.2.1
    · obtain ⟨j, hj, rfl⟩ := List.mem_map.mp h
      have hj : j < 60 := List.mem_range.mp hj
      show va_O "java/lang/String" (adE ad aK aV tS tK (100 + j)) P s s.heap
      rw [adE_s hj]
      exact (hS j hj).2.1
  · intro y hy
    rcases List.mem_append.mp hy with h | h
    · rcases List.mem_cons.mp h with rfl | h
      · exact hs2
      · rcases List.mem_cons.mp h with rfl | h
        · show va_T (.object "LiftScheduler$Kind") tK 26 (fun k => .ref (adE ad aK aV tS tK k)) P s s.heap
          obtain ⟨cell, z1, z2, z3, z4, z5, z6, z7⟩ := hk2
          exact ⟨cell, z1, z2, z3, z4, z5, fun k hk => by
            rw [z6 k hk]
            show some (Value.ref (ad k)) = some (Value.ref (adE ad aK aV tS tK k))
            rw [adE_k hk], z7⟩
        · exact absurd h List.not_mem_nil
    · obtain ⟨j, hj, rfl⟩ := List.mem_map.mp h
      have hj : j < 60 := List.mem_range.mp hj
      show va_T .byte (adE ad aK aV tS tK (200 + j)) (ev_by.getD j []).length (fun k => .int ((ev_by.getD j []).getD k 0)) P s s.heap
      rw [adE_v]
      exact (hS j hj).2.2.2.2
  · intro j hj
    have hj : j < 60 := hj
    rw [adE_s hj]
    exact vk_R.of (A := A) (ev_tab hts (ev_t2 j hj)) (hS j hj).1
  · intro i j hi hj e
    rw [adE_k hi, adE_k hj] at e
    have h1 := (hK i hi).2.2.2.1
    have h2 := (hK j hj).2.2.2.1
    rw [← e] at h2
    exact neq (Value.int.inj (OF_same h1 h2)) (by omega) (by omega)
  · intro y hy
    obtain ⟨i, hi, e⟩ := List.mem_iff_getElem.mp hy
    have h := ev_tab hts (ev_t3 i hi)
    have e2 : ev_ca.getD i ("", "") = y := by simp [List.getD, hi, e]
    rw [e2] at h
    exact va_Nw.of rfl h
  · intro y hy
    obtain ⟨i, hi, e⟩ := List.mem_iff_getElem.mp hy
    have h := ev_get hg (ev_h11 i hi)
    have e2 : ev_nc.getD i ("", "") = y := by simp [List.getD, hi, e]
    rw [e2] at h
    exact va_Nc.of h
  · intro y hy
    obtain ⟨i, hi, e⟩ := List.mem_iff_getElem.mp hy
    have h := ev_tab hts (ev_t4 i hi)
    have e2 : ev_dc.getD i ⟨"", "", ""⟩ = y := by simp [List.getD, hi, e]
    rw [e2] at h
    exact va_Nw.of rfl h
/-- the classes and the arrays' classes -/
theorem kv_a {ty : FieldType} (hp : match ty with | .object _ => False | _ => True) (h : (Cond.arrayClass ty).before A s = true) : ∃ c : ClassId, ArrOfT s c ty ∧ va_RA s c ty := by
  obtain ⟨c, k, comp, h1, h2, h3⟩ := Cond.arrayClass_spec h
  refine ⟨c, fun N z => ⟨(fun k h => by cases h), k, h2, comp, h3⟩, ?_⟩
  cases ty <;> first | exact h1 | exact hp.elim
theorem kv_o {C : String} (h : (Cond.arrayOver (.object C)).before A s = true) : ∃ c : ClassId, ArrOfT s c (.object C) ∧ va_RA s c (.object C) := by
  obtain ⟨comp, c, k, h1, h2, h3, h4, h5⟩ := Cond.arrayOver_spec h
  exact ⟨c, fun N z => ⟨(fun k h => by cases h), k, h3, comp, h4⟩, k, comp, h3, h4, h1, h5⟩
theorem kv_0 (hts : ∀ w ∈ lw_tbl, w.before A s = true) : ∃ (D : va_G) (gC : Nat → ClassId), va_K D vwCl [(gC 0, .int), (gC 1, .byte), (gC 2, .boolean), (gC 3, .long), (gC 4, .object "LiftScheduler$Simulation"), (gC 5, .object "LiftScheduler$Kind")] s := by
  have hb : ∀ w ∈ BW, w.before A s = true := fun w hw => hts w (List.mem_filter.mp hw).1
  obtain ⟨c2, i2, k2⟩ := u_known hb inX2 (hb _ bw_128)
  obtain ⟨c3, i3, k3⟩ := u_known hb inX3 (hb _ bw_29)
  obtain ⟨c4, i4, k4⟩ := u_known hb inX4 (hb _ bw_21)
  obtain ⟨c5, i5, k5⟩ := u_known hb inX5 (hb _ bw_1006)
  obtain ⟨d0, hd0⟩ := kv_a trivial (hb _ bw_125)
  obtain ⟨d1, hd1⟩ := kv_a trivial (hb _ bw_167)
  obtain ⟨d2, hd2⟩ := kv_a trivial (hb _ bw_166)
  obtain ⟨d3, hd3⟩ := kv_a trivial (hb _ bw_1612)
  obtain ⟨d4, hd4⟩ := kv_o (ev_tab hts ev_t12)
  obtain ⟨d5, hd5⟩ := kv_o (ev_tab hts ev_t13)
  refine ⟨(fun c => if c = 0 then c2 else if c = 1 then c3 else if c = 2 then c4 else c5, fun c => if c = 0 then i2 else if c = 1 then i3 else if c = 2 then i4 else i5), fun k => if k = 0 then d0 else if k = 1 then d1 else if k = 2 then d2 else if k = 3 then d3 else if k = 4 then d4 else d5, fun c r hr => ?_, fun k r hr => ?_⟩
  · have hl := (List.getElem?_eq_some_iff.mp hr).1
    rcases (show c = 0 ∨ c = 1 ∨ c = 2 ∨ c = 3 by have : c < 4 := hl; omega) with rfl | rfl | rfl | rfl <;> cases hr <;> assumption
  · have hl := (List.getElem?_eq_some_iff.mp hr).1
    rcases (show k = 0 ∨ k = 1 ∨ k = 2 ∨ k = 3 ∨ k = 4 ∨ k = 5 by have : k < 6 := hl; omega) with rfl | rfl | rfl | rfl | rfl | rfl <;> cases hr <;> assumption
end E0
