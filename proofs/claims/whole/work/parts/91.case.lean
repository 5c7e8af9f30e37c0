/-! each case's two calls -/
theorem sO_at {σ : St} {x : Int64} : sO (stO σ 0 x) 0 = x := by
  show vp_updL (sO σ) 0 x 0 = x
  simp [vp_updL]
theorem ML.long {σ : St} {a : Ab} {x : Int64} (h : ML σ a) : ML (stO σ 0 x) a := h.fr (fun _ _ _ => ⟨rfl, rfl⟩)
theorem wbT_asc (u : Vw) (hn : un u ≤ 40) : ∀ k, AscT (wbT u k)
  | 0 => fun i hi => absurd hi (Nat.not_lt_zero i)
  | k + 1 => by
    have h1 := wbT_asc u hn k
    have h2 : AscT (wbC (wbT u k) k) := by
      unfold wbC
      split
      · exact h1
      · exact AscT_wr h1 ⟨44, by decide, rfl⟩
    have h3 := AscT_wrN h2 (n := wtN u (nI k)) (by have := wtN_le u (nI k); omega)
    show AscT (wbL u _ k)
    unfold wbL
    split
    · exact AscT_wrN (AscT_wr h3 ⟨42, by decide, rfl⟩) (by have h9 : many u 2 ≤ un u := cnt_le _ _; omega)
    · exact h3
set_option maxHeartbeats 1000000 in
theorem c1_floorCount {l : Launch} {G : GG} {σ : St} {a : Ab} (hK : AK a) (hC : CL σ a) (hM : ML σ a) : CtP l G TX4_floorCount 0 [.ref (gB G + 0)] σ (fun v τ => v = some (.int (us (aU a) 0)) ∧ CL τ (a) ∧ ML τ a) := by
  have hI := hK.1.1.1
  have ht := hK.1.1.2
  obtain ⟨qq, hR⟩ := hC.1
  exact (kL_floorCount hR).P ⟨rfl, hC, hM⟩
set_option maxHeartbeats 1000000 in
theorem c2_floorCount {l : Launch} {G : GG} {σ : St} {a : Ab} (hK : AK a) (hC : CL σ (a)) (hM : ML σ a) : CtP l G TX5_floorCount 0 [.ref (gB G + 94)] σ (fun v τ => v = some (.int (us (aU a) 0)) ∧ CL τ (a) ∧ ML τ (a)) := by
  have hI := hK.1.1.1
  have ht := hK.1.1.2
  exact (kM_floorCount hM.1).mono (fun v τ h => ⟨h.1, hC.fr h.2.1.a2, hM.rd h.2.1 h.2.2.1⟩)
set_option maxHeartbeats 1000000 in
theorem c1_capacity {l : Launch} {G : GG} {σ : St} {a : Ab} (hK : AK a) (hC : CL σ a) (hM : ML σ a) : CtP l G TX4_capacity 0 [.ref (gB G + 0)] σ (fun v τ => v = some (.int (us (aU a) 1)) ∧ CL τ (a) ∧ ML τ a) := by
  have hI := hK.1.1.1
  have ht := hK.1.1.2
  obtain ⟨qq, hR⟩ := hC.1
  exact (kL_capacity hR).P ⟨rfl, hC, hM⟩
set_option maxHeartbeats 1000000 in
theorem c2_capacity {l : Launch} {G : GG} {σ : St} {a : Ab} (hK : AK a) (hC : CL σ (a)) (hM : ML σ a) : CtP l G TX5_capacity 0 [.ref (gB G + 94)] σ (fun v τ => v = some (.int (us (aU a) 1)) ∧ CL τ (a) ∧ ML τ (a)) := by
  have hI := hK.1.1.1
  have ht := hK.1.1.2
  exact (kM_capacity hM.1).mono (fun v τ h => ⟨h.1, hC.fr h.2.1.a2, hM.rd h.2.1 h.2.2.1⟩)
set_option maxHeartbeats 1000000 in
theorem c1_policy {l : Launch} {G : GG} {σ : St} {a : Ab} (hK : AK a) (hC : CL σ a) (hM : ML σ a) : CtP l G TX4_policy 0 [.ref (gB G + 0)] σ (fun v τ => v = some (.int (us (aU a) 2)) ∧ CL τ (a) ∧ ML τ a) := by
  have hI := hK.1.1.1
  have ht := hK.1.1.2
  obtain ⟨qq, hR⟩ := hC.1
  exact (kL_policy hR).P ⟨rfl, hC, hM⟩
set_option maxHeartbeats 1000000 in
theorem c2_policy {l : Launch} {G : GG} {σ : St} {a : Ab} (hK : AK a) (hC : CL σ (a)) (hM : ML σ a) : CtP l G TX5_policy 0 [.ref (gB G + 94)] σ (fun v τ => v = some (.int (us (aU a) 2)) ∧ CL τ (a) ∧ ML τ (a)) := by
  have hI := hK.1.1.1
  have ht := hK.1.1.2
  exact (kM_policy hM.1).mono (fun v τ h => ⟨h.1, hC.fr h.2.1.a2, hM.rd h.2.1 h.2.2.1⟩)
set_option maxHeartbeats 1000000 in
theorem c1_time {l : Launch} {G : GG} {σ : St} {a : Ab} (hK : AK a) (hC : CL σ a) (hM : ML σ a) : CtP l G TX4_time 0 [.ref (gB G + 0)] σ (fun v τ => v = some (.int (us (aU a) 3)) ∧ CL τ (a) ∧ ML τ a) := by
  have hI := hK.1.1.1
  have ht := hK.1.1.2
  obtain ⟨qq, hR⟩ := hC.1
  exact (kL_time hR).P ⟨rfl, hC, hM⟩
set_option maxHeartbeats 1000000 in
theorem c2_time {l : Launch} {G : GG} {σ : St} {a : Ab} (hK : AK a) (hC : CL σ (a)) (hM : ML σ a) : CtP l G TX5_time 0 [.ref (gB G + 94)] σ (fun v τ => v = some (.int (us (aU a) 3)) ∧ CL τ (a) ∧ ML τ (a)) := by
  have hI := hK.1.1.1
  have ht := hK.1.1.2
  exact (kM_time hM.1).mono (fun v τ h => ⟨h.1, hC.fr h.2.1.a2, hM.rd h.2.1 h.2.2.1⟩)
set_option maxHeartbeats 1000000 in
theorem c1_floor {l : Launch} {G : GG} {σ : St} {a : Ab} (hK : AK a) (hC : CL σ a) (hM : ML σ a) : CtP l G TX4_floor 0 [.ref (gB G + 0)] σ (fun v τ => v = some (.int (us (aU a) 4)) ∧ CL τ (a) ∧ ML τ a) := by
  have hI := hK.1.1.1
  have ht := hK.1.1.2
  obtain ⟨qq, hR⟩ := hC.1
  exact (kL_floor hR).P ⟨rfl, hC, hM⟩
set_option maxHeartbeats 1000000 in
theorem c2_floor {l : Launch} {G : GG} {σ : St} {a : Ab} (hK : AK a) (hC : CL σ (a)) (hM : ML σ a) : CtP l G TX5_floor 0 [.ref (gB G + 94)] σ (fun v τ => v = some (.int (us (aU a) 4)) ∧ CL τ (a) ∧ ML τ (a)) := by
  have hI := hK.1.1.1
  have ht := hK.1.1.2
  exact (kM_floor hM.1).mono (fun v τ h => ⟨h.1, hC.fr h.2.1.a2, hM.rd h.2.1 h.2.2.1⟩)
set_option maxHeartbeats 1000000 in
theorem c1_isUpward {l : Launch} {G : GG} {σ : St} {a : Ab} (hK : AK a) (hC : CL σ a) (hM : ML σ a) : CtP l G TX4_isUpward 0 [.ref (gB G + 0)] σ (fun v τ => v = some (.int (us (aU a) 5)) ∧ CL τ (a) ∧ ML τ a) := by
  have hI := hK.1.1.1
  have ht := hK.1.1.2
  obtain ⟨qq, hR⟩ := hC.1
  exact (kL_isUpward hR hI.2.2.2.2.2.2.1).P ⟨rfl, hC, hM⟩
set_option maxHeartbeats 1000000 in
theorem c2_isUpward {l : Launch} {G : GG} {σ : St} {a : Ab} (hK : AK a) (hC : CL σ (a)) (hM : ML σ a) : CtP l G TX5_isUpward 0 [.ref (gB G + 94)] σ (fun v τ => v = some (.int (us (aU a) 5)) ∧ CL τ (a) ∧ ML τ (a)) := by
  have hI := hK.1.1.1
  have ht := hK.1.1.2
  exact (kM_isUpward hM.1 hI.2.2.2.2.2.2.1).mono (fun v τ h => ⟨h.1, hC.fr h.2.1.a2, hM.rd h.2.1 h.2.2.1⟩)
set_option maxHeartbeats 1000000 in
theorem c1_isFull {l : Launch} {G : GG} {σ : St} {a : Ab} (hK : AK a) (hC : CL σ a) (hM : ML σ a) : CtP l G TX4_isFull 0 [.ref (gB G + 0)] σ (fun v τ => v = some (.int (if nI (many (aU a) 2) = us (aU a) 1 then 1 else 0)) ∧ CL τ (a) ∧ ML τ a) := by
  have hI := hK.1.1.1
  have ht := hK.1.1.2
  obtain ⟨qq, hR⟩ := hC.1
  exact (kL_isFull hR).P ⟨rfl, hC, hM⟩
set_option maxHeartbeats 1000000 in
theorem c2_isFull {l : Launch} {G : GG} {σ : St} {a : Ab} (hK : AK a) (hC : CL σ (a)) (hM : ML σ a) : CtP l G TX5_isFull 5 [.ref (gB G + 94)] σ (fun v τ => v = some (.int (if nI (many (aU a) 2) = us (aU a) 1 then 1 else 0)) ∧ CL τ (a) ∧ ML τ (a)) := by
  have hI := hK.1.1.1
  have ht := hK.1.1.2
  exact (kM_isFull hM.1 hI).mono (fun v τ h => ⟨h.1, hC.fr h.2.1.a2, hM.rd h.2.1 h.2.2.1⟩)
set_option maxHeartbeats 1000000 in
theorem c1_stopMask {l : Launch} {G : GG} {σ : St} {a : Ab} (hK : AK a) (hC : CL σ a) (hM : ML σ a) : CtP l G TX4_stopMask 1 [.ref (gB G + 0)] σ (fun v τ => v = some (.int (stp (aU a))) ∧ CL τ (a) ∧ ML τ a) := by
  have hI := hK.1.1.1
  have ht := hK.1.1.2
  obtain ⟨qq, hR⟩ := hC.1
  exact (kL_stopMask hR).P ⟨rfl, hC, hM⟩
set_option maxHeartbeats 1000000 in
theorem c2_stopMask {l : Launch} {G : GG} {σ : St} {a : Ab} (hK : AK a) (hC : CL σ (a)) (hM : ML σ a) : CtP l G TX5_stopMask 6 [.ref (gB G + 94)] σ (fun v τ => v = some (.int (stp (aU a))) ∧ CL τ (a) ∧ ML τ (a)) := by
  have hI := hK.1.1.1
  have ht := hK.1.1.2
  exact (kM_stopMask hM.1 hI).mono (fun v τ h => ⟨h.1, hC.fr h.2.1.a2, hM.rd h.2.1 h.2.2.1⟩)
set_option maxHeartbeats 1000000 in
theorem c1_distance {l : Launch} {G : GG} {σ : St} {a : Ab} (hK : AK a) (hC : CL σ a) (hM : ML σ a) : CtP l G TX4_distance 0 [.ref (gB G + 0)] σ (fun v τ => v = some (.int (us (aU a) 6)) ∧ CL τ (a) ∧ ML τ a) := by
  have hI := hK.1.1.1
  have ht := hK.1.1.2
  obtain ⟨qq, hR⟩ := hC.1
  exact (kL_distance hR).P ⟨rfl, hC, hM⟩
set_option maxHeartbeats 1000000 in
theorem c2_distance {l : Launch} {G : GG} {σ : St} {a : Ab} (hK : AK a) (hC : CL σ (a)) (hM : ML σ a) : CtP l G TX5_distance 0 [.ref (gB G + 94)] σ (fun v τ => v = some (.int (us (aU a) 6)) ∧ CL τ (a) ∧ ML τ (a)) := by
  have hI := hK.1.1.1
  have ht := hK.1.1.2
  exact (kM_distance hM.1).mono (fun v τ h => ⟨h.1, hC.fr h.2.1.a2, hM.rd h.2.1 h.2.2.1⟩)
set_option maxHeartbeats 1000000 in
theorem c1_doorTicks {l : Launch} {G : GG} {σ : St} {a : Ab} (hK : AK a) (hC : CL σ a) (hM : ML σ a) : CtP l G TX4_doorTicks 0 [.ref (gB G + 0)] σ (fun v τ => v = some (.int (us (aU a) 7)) ∧ CL τ (a) ∧ ML τ a) := by
  have hI := hK.1.1.1
  have ht := hK.1.1.2
  obtain ⟨qq, hR⟩ := hC.1
  exact (kL_doorTicks hR).P ⟨rfl, hC, hM⟩
set_option maxHeartbeats 1000000 in
theorem c2_doorTicks {l : Launch} {G : GG} {σ : St} {a : Ab} (hK : AK a) (hC : CL σ (a)) (hM : ML σ a) : CtP l G TX5_doorTicks 0 [.ref (gB G + 94)] σ (fun v τ => v = some (.int (us (aU a) 7)) ∧ CL τ (a) ∧ ML τ (a)) := by
  have hI := hK.1.1.1
  have ht := hK.1.1.2
  exact (kM_doorTicks hM.1).mono (fun v τ h => ⟨h.1, hC.fr h.2.1.a2, hM.rd h.2.1 h.2.2.1⟩)
set_option maxHeartbeats 1000000 in
theorem c1_idleTicks {l : Launch} {G : GG} {σ : St} {a : Ab} (hK : AK a) (hC : CL σ a) (hM : ML σ a) : CtP l G TX4_idleTicks 0 [.ref (gB G + 0)] σ (fun v τ => v = some (.int (us (aU a) 8)) ∧ CL τ (a) ∧ ML τ a) := by
  have hI := hK.1.1.1
  have ht := hK.1.1.2
  obtain ⟨qq, hR⟩ := hC.1
  exact (kL_idleTicks hR).P ⟨rfl, hC, hM⟩
set_option maxHeartbeats 1000000 in
theorem c2_idleTicks {l : Launch} {G : GG} {σ : St} {a : Ab} (hK : AK a) (hC : CL σ (a)) (hM : ML σ a) : CtP l G TX5_idleTicks 0 [.ref (gB G + 94)] σ (fun v τ => v = some (.int (us (aU a) 8)) ∧ CL τ (a) ∧ ML τ (a)) := by
  have hI := hK.1.1.1
  have ht := hK.1.1.2
  exact (kM_idleTicks hM.1).mono (fun v τ h => ⟨h.1, hC.fr h.2.1.a2, hM.rd h.2.1 h.2.2.1⟩)
set_option maxHeartbeats 1000000 in
theorem c1_reversals {l : Launch} {G : GG} {σ : St} {a : Ab} (hK : AK a) (hC : CL σ a) (hM : ML σ a) : CtP l G TX4_reversals 0 [.ref (gB G + 0)] σ (fun v τ => v = some (.int (us (aU a) 9)) ∧ CL τ (a) ∧ ML τ a) := by
  have hI := hK.1.1.1
  have ht := hK.1.1.2
  obtain ⟨qq, hR⟩ := hC.1
  exact (kL_reversals hR).P ⟨rfl, hC, hM⟩
set_option maxHeartbeats 1000000 in
theorem c2_reversals {l : Launch} {G : GG} {σ : St} {a : Ab} (hK : AK a) (hC : CL σ (a)) (hM : ML σ a) : CtP l G TX5_reversals 0 [.ref (gB G + 94)] σ (fun v τ => v = some (.int (us (aU a) 9)) ∧ CL τ (a) ∧ ML τ (a)) := by
  have hI := hK.1.1.1
  have ht := hK.1.1.2
  exact (kM_reversals hM.1).mono (fun v τ h => ⟨h.1, hC.fr h.2.1.a2, hM.rd h.2.1 h.2.2.1⟩)
set_option maxHeartbeats 1000000 in
theorem c1_passengerCount {l : Launch} {G : GG} {σ : St} {a : Ab} (hK : AK a) (hC : CL σ a) (hM : ML σ a) : CtP l G TX4_passengerCount 0 [.ref (gB G + 0)] σ (fun v τ => v = some (.int (nI (un (aU a)))) ∧ CL τ (a) ∧ ML τ a) := by
  have hI := hK.1.1.1
  have ht := hK.1.1.2
  obtain ⟨qq, hR⟩ := hC.1
  exact (kL_passengerCount hR).P ⟨rfl, hC, hM⟩
set_option maxHeartbeats 1000000 in
theorem c2_passengerCount {l : Launch} {G : GG} {σ : St} {a : Ab} (hK : AK a) (hC : CL σ (a)) (hM : ML σ a) : CtP l G TX5_passengerCount 0 [.ref (gB G + 94)] σ (fun v τ => v = some (.int (nI (un (aU a)))) ∧ CL τ (a) ∧ ML τ (a)) := by
  have hI := hK.1.1.1
  have ht := hK.1.1.2
  exact (kM_passengerCount hM.1).mono (fun v τ h => ⟨h.1, hC.fr h.2.1.a2, hM.rd h.2.1 h.2.2.1⟩)
set_option maxHeartbeats 1000000 in
theorem c1_firstWaiting {l : Launch} {G : GG} {σ : St} {a : Ab} (hK : AK a) (hC : CL σ a) (hM : ML σ a) : CtP l G TX4_firstWaiting 1 [.ref (gB G + 0)] σ (fun v τ => v = some (.int (oI (fw (aU a) (isW (aU a)) (un (aU a))))) ∧ CL τ (a) ∧ ML τ a) := by
  have hI := hK.1.1.1
  have ht := hK.1.1.2
  obtain ⟨qq, hR⟩ := hC.1
  exact (kL_firstWaiting hR hI.lb).P ⟨rfl, hC, hM⟩
set_option maxHeartbeats 1000000 in
theorem c2_firstWaiting {l : Launch} {G : GG} {σ : St} {a : Ab} (hK : AK a) (hC : CL σ (a)) (hM : ML σ a) : CtP l G TX5_firstWaiting 4 [.ref (gB G + 94)] σ (fun v τ => v = some (.int (oI (fw (aU a) (isW (aU a)) (un (aU a))))) ∧ CL τ (a) ∧ ML τ (a)) := by
  have hI := hK.1.1.1
  have ht := hK.1.1.2
  exact (kM_firstWaiting hM.1).mono (fun v τ h => ⟨h.1, hC.fr h.2.1.a2, hM.rd h.2.1 h.2.2.1⟩)
set_option maxHeartbeats 1000000 in
theorem c1_busiestOrigin {l : Launch} {G : GG} {σ : St} {a : Ab} (hK : AK a) (hC : CL σ a) (hM : ML σ a) : CtP l G TX4_busiestOrigin 0 [.ref (gB G + 0)] σ (fun v τ => v = some (.int (oI (boC (aU a) (uN (aU a))).1)) ∧ CL τ (a) ∧ ML τ a) := by
  have hI := hK.1.1.1
  have ht := hK.1.1.2
  obtain ⟨qq, hR⟩ := hC.1
  exact (kL_busiestOrigin hR hI).P ⟨rfl, hC, hM⟩
set_option maxHeartbeats 1000000 in
theorem c2_busiestOrigin {l : Launch} {G : GG} {σ : St} {a : Ab} (hK : AK a) (hC : CL σ (a)) (hM : ML σ a) : CtP l G TX5_busiestOrigin 3 [.ref (gB G + 94)] σ (fun v τ => v = some (.int (oI (boC (aU a) (uN (aU a))).1)) ∧ CL τ (a) ∧ ML τ (a)) := by
  have hI := hK.1.1.1
  have ht := hK.1.1.2
  exact (kM_busiestOrigin hM.1 hI).mono (fun v τ h => ⟨h.1, hC.fr h.2.1.a2, hM.rd h.2.1 h.2.2.1⟩)
set_option maxHeartbeats 1000000 in
theorem c1_nextArrival {l : Launch} {G : GG} {σ : St} {a : Ab} (hK : AK a) (hC : CL σ a) (hM : ML σ a) : CtP l G TX4_nextArrival 0 [.ref (gB G + 0)] σ (fun v τ => v = some (.int (nxI (aU a) (un (aU a)))) ∧ CL τ (a) ∧ ML τ a) := by
  have hI := hK.1.1.1
  have ht := hK.1.1.2
  obtain ⟨qq, hR⟩ := hC.1
  exact (kL_nextArrival hR).P ⟨rfl, hC, hM⟩
set_option maxHeartbeats 1000000 in
theorem c2_nextArrival {l : Launch} {G : GG} {σ : St} {a : Ab} (hK : AK a) (hC : CL σ (a)) (hM : ML σ a) : CtP l G TX5_nextArrival 3 [.ref (gB G + 94)] σ (fun v τ => v = some (.int (nxI (aU a) (un (aU a)))) ∧ CL τ (a) ∧ ML τ (a)) := by
  have hI := hK.1.1.1
  have ht := hK.1.1.2
  exact (kM_nextArrival hM.1 hI).mono (fun v τ h => ⟨h.1, hC.fr h.2.1.a2, hM.rd h.2.1 h.2.2.1⟩)
set_option maxHeartbeats 1000000 in
theorem c1_totalRide {l : Launch} {G : GG} {σ : St} {a : Ab} (hK : AK a) (hC : CL σ a) (hM : ML σ a) : CtP l G TX4_totalRide 1 [.ref (gB G + 0)] σ (fun v τ => v = some (.int (rsum (aU a))) ∧ CL τ (a) ∧ ML τ a) := by
  have hI := hK.1.1.1
  have ht := hK.1.1.2
  obtain ⟨qq, hR⟩ := hC.1
  exact (kL_totalRide hR hI.hr).P ⟨rfl, hC, hM⟩
set_option maxHeartbeats 1000000 in
theorem c2_totalRide {l : Launch} {G : GG} {σ : St} {a : Ab} (hK : AK a) (hC : CL σ (a)) (hM : ML σ a) : CtP l G TX5_totalRide 4 [.ref (gB G + 94)] σ (fun v τ => v = some (.int (rsum (aU a))) ∧ CL τ (a) ∧ ML τ (a)) := by
  have hI := hK.1.1.1
  have ht := hK.1.1.2
  exact (kM_totalRide hM.1).mono (fun v τ h => ⟨h.1, hC.fr h.2.1.a2, hM.rd h.2.1 h.2.2.1⟩)
set_option maxHeartbeats 1000000 in
theorem c1_longestRide {l : Launch} {G : GG} {σ : St} {a : Ab} (hK : AK a) (hC : CL σ a) (hM : ML σ a) : CtP l G TX4_longestRide 1 [.ref (gB G + 0)] σ (fun v τ => v = some (.int (rmax (aU a))) ∧ CL τ (a) ∧ ML τ a) := by
  have hI := hK.1.1.1
  have ht := hK.1.1.2
  obtain ⟨qq, hR⟩ := hC.1
  exact (kL_longestRide hR).P ⟨rfl, hC, hM⟩
set_option maxHeartbeats 1000000 in
theorem c2_longestRide {l : Launch} {G : GG} {σ : St} {a : Ab} (hK : AK a) (hC : CL σ (a)) (hM : ML σ a) : CtP l G TX5_longestRide 3 [.ref (gB G + 94)] σ (fun v τ => v = some (.int (rmax (aU a))) ∧ CL τ (a) ∧ ML τ (a)) := by
  have hI := hK.1.1.1
  have ht := hK.1.1.2
  exact (kM_longestRide hM.1).mono (fun v τ h => ⟨h.1, hC.fr h.2.1.a2, hM.rd h.2.1 h.2.2.1⟩)
set_option maxHeartbeats 1000000 in
theorem c1_lastDone {l : Launch} {G : GG} {σ : St} {a : Ab} (hK : AK a) (hC : CL σ a) (hM : ML σ a) : CtP l G TX4_lastDone 0 [.ref (gB G + 0)] σ (fun v τ => v = some (.int (oI (ldN (aU a) (un (aU a))))) ∧ CL τ (a) ∧ ML τ a) := by
  have hI := hK.1.1.1
  have ht := hK.1.1.2
  obtain ⟨qq, hR⟩ := hC.1
  exact (kL_lastDone hR hI.h4).P ⟨rfl, hC, hM⟩
set_option maxHeartbeats 1000000 in
theorem c2_lastDone {l : Launch} {G : GG} {σ : St} {a : Ab} (hK : AK a) (hC : CL σ (a)) (hM : ML σ a) : CtP l G TX5_lastDone 2 [.ref (gB G + 94)] σ (fun v τ => v = some (.int (oI (ldN (aU a) (un (aU a))))) ∧ CL τ (a) ∧ ML τ (a)) := by
  have hI := hK.1.1.1
  have ht := hK.1.1.2
  exact (kM_lastDone hM.1 hI).mono (fun v τ h => ⟨h.1, hC.fr h.2.1.a2, hM.rd h.2.1 h.2.2.1⟩)
set_option maxHeartbeats 1000000 in
theorem c1_movingShare {l : Launch} {G : GG} {σ : St} {a : Ab} (hK : AK a) (hC : CL σ a) (hM : ML σ a) : CtP l G TX4_movingShare 0 [.ref (gB G + 0)] σ (fun v τ => v = some (.float (msF (aU a))) ∧ CL τ (a) ∧ ML τ a) := by
  have hI := hK.1.1.1
  have ht := hK.1.1.2
  obtain ⟨qq, hR⟩ := hC.1
  exact (kL_movingShare hR hI ht).P ⟨rfl, hC, hM⟩
set_option maxHeartbeats 1000000 in
theorem c2_movingShare {l : Launch} {G : GG} {σ : St} {a : Ab} (hK : AK a) (hC : CL σ (a)) (hM : ML σ a) : CtP l G TX5_movingShare 0 [.ref (gB G + 94)] σ (fun v τ => v = some (.float (msF (aU a))) ∧ CL τ (a) ∧ ML τ (a)) := by
  have hI := hK.1.1.1
  have ht := hK.1.1.2
  exact (kM_movingShare hM.1 hI ht).mono (fun v τ h => ⟨h.1, hC.fr h.2.1.a2, hM.rd h.2.1 h.2.2.1⟩)
set_option maxHeartbeats 1000000 in
theorem c1_totalWait {l : Launch} {G : GG} {σ : St} {a : Ab} (hK : AK a) (hC : CL σ a) (hM : ML σ a) : CtP l G TX4_totalWait 2 [.ref (gB G + 0)] σ (fun v τ => v = some (.int (wsum (aU a))) ∧ CL τ (a) ∧ ML τ a) := by
  have hI := hK.1.1.1
  have ht := hK.1.1.2
  obtain ⟨qq, hR⟩ := hC.1
  exact (kL_totalWait hR hI.hw).P ⟨rfl, hC, hM⟩
set_option maxHeartbeats 1000000 in
theorem c2_totalWait {l : Launch} {G : GG} {σ : St} {a : Ab} (hK : AK a) (hC : CL σ (a)) (hM : ML σ a) : CtP l G TX5_totalWait 4 [.ref (gB G + 94)] σ (fun v τ => v = some (.int (wsum (aU a))) ∧ CL τ (a) ∧ ML τ (a)) := by
  have hI := hK.1.1.1
  have ht := hK.1.1.2
  exact (kM_totalWait hM.1).mono (fun v τ h => ⟨h.1, hC.fr h.2.1.a2, hM.rd h.2.1 h.2.2.1⟩)
set_option maxHeartbeats 1000000 in
theorem c1_longestWait {l : Launch} {G : GG} {σ : St} {a : Ab} (hK : AK a) (hC : CL σ a) (hM : ML σ a) : CtP l G TX4_longestWait 2 [.ref (gB G + 0)] σ (fun v τ => v = some (.int (wmax (aU a))) ∧ CL τ (a) ∧ ML τ a) := by
  have hI := hK.1.1.1
  have ht := hK.1.1.2
  obtain ⟨qq, hR⟩ := hC.1
  exact (kL_longestWait hR).P ⟨rfl, hC, hM⟩
set_option maxHeartbeats 1000000 in
theorem c2_longestWait {l : Launch} {G : GG} {σ : St} {a : Ab} (hK : AK a) (hC : CL σ (a)) (hM : ML σ a) : CtP l G TX5_longestWait 4 [.ref (gB G + 94)] σ (fun v τ => v = some (.int (wmax (aU a))) ∧ CL τ (a) ∧ ML τ (a)) := by
  have hI := hK.1.1.1
  have ht := hK.1.1.2
  exact (kM_longestWait hM.1).mono (fun v τ h => ⟨h.1, hC.fr h.2.1.a2, hM.rd h.2.1 h.2.2.1⟩)
set_option maxHeartbeats 1000000 in
theorem c1_meanWait {l : Launch} {G : GG} {σ : St} {a : Ab} (hK : AK a) (hC : CL σ a) (hM : ML σ a) : CtP l G TX4_meanWait 2 [.ref (gB G + 0)] σ (fun v τ => v = some (.double (mwD (aU a))) ∧ CL τ (a) ∧ ML τ a) := by
  have hI := hK.1.1.1
  have ht := hK.1.1.2
  obtain ⟨qq, hR⟩ := hC.1
  exact (kL_meanWait hR hI).P ⟨rfl, hC, hM⟩
set_option maxHeartbeats 1000000 in
theorem c2_meanWait {l : Launch} {G : GG} {σ : St} {a : Ab} (hK : AK a) (hC : CL σ (a)) (hM : ML σ a) : CtP l G TX5_meanWait 4 [.ref (gB G + 94)] σ (fun v τ => v = some (.double (mwD (aU a))) ∧ CL τ (a) ∧ ML τ (a)) := by
  have hI := hK.1.1.1
  have ht := hK.1.1.2
  exact (kM_meanWait hM.1).mono (fun v τ h => ⟨h.1, hC.fr h.2.1.a2, hM.rd h.2.1 h.2.2.1⟩)
set_option maxHeartbeats 1000000 in
theorem c1_isFinished {l : Launch} {G : GG} {σ : St} {a : Ab} (hK : AK a) (hC : CL σ a) (hM : ML σ a) : CtP l G TX4_isFinished 1 [.ref (gB G + 0)] σ (fun v τ => v = some (.int (if many (aU a) 3 = un (aU a) then 1 else 0)) ∧ CL τ (a) ∧ ML τ a) := by
  have hI := hK.1.1.1
  have ht := hK.1.1.2
  obtain ⟨qq, hR⟩ := hC.1
  exact (kL_isFinished hR).P ⟨rfl, hC, hM⟩
set_option maxHeartbeats 1000000 in
theorem c2_isFinished {l : Launch} {G : GG} {σ : St} {a : Ab} (hK : AK a) (hC : CL σ (a)) (hM : ML σ a) : CtP l G TX5_isFinished 5 [.ref (gB G + 94)] σ (fun v τ => v = some (.int (if many (aU a) 3 = un (aU a) then 1 else 0)) ∧ CL τ (a) ∧ ML τ (a)) := by
  have hI := hK.1.1.1
  have ht := hK.1.1.2
  exact (kM_isFinished hM.1).mono (fun v τ h => ⟨h.1, hC.fr h.2.1.a2, hM.rd h.2.1 h.2.2.1⟩)
set_option maxHeartbeats 1000000 in
theorem c1_ticksToFinish {l : Launch} {G : GG} {σ : St} {a : Ab} (hK : AK a) (hC : CL σ a) (hM : ML σ a) : CtP l G TX4_ticksToFinish 5 [.ref (gB G + 0)] σ (fun v τ => v = some (.int (nI (fcn (aU a) (us (aU a) 2) (us (aU a) 1)))) ∧ CL τ (a) ∧ ML τ a) := by
  have hI := hK.1.1.1
  have ht := hK.1.1.2
  obtain ⟨qq, hR⟩ := hC.1
  exact (kL_ticksToFinish hR hI ht).mono (fun v τ h => ⟨h.1, hC.s8 h.2, hM.fr (h.2.a1 (by decide))⟩)
set_option maxHeartbeats 1000000 in
theorem c2_ticksToFinish {l : Launch} {G : GG} {σ : St} {a : Ab} (hK : AK a) (hC : CL σ (a)) (hM : ML σ a) : CtP l G TX5_ticksToFinish 11 [.ref (gB G + 94)] σ (fun v τ => v = some (.int (nI (fcn (aU a) (us (aU a) 2) (us (aU a) 1)))) ∧ CL τ (a) ∧ ML τ (a)) := by
  have hI := hK.1.1.1
  have ht := hK.1.1.2
  exact (kM_ticksToFinish hM.1 hI ht).mono (fun v τ h => ⟨h.1, hC.fr h.2.1.a2, hM.rd h.2.1 h.2.2.1⟩)
set_option maxHeartbeats 1000000 in
theorem c1_bestPolicy {l : Launch} {G : GG} {σ : St} {a : Ab} (hK : AK a) (hC : CL σ a) (hM : ML σ a) : CtP l G TX4_bestPolicy 6 [.ref (gB G + 0)] σ (fun v τ => v = some (.int ((bpL (aU a) 2).1)) ∧ CL τ (a) ∧ ML τ a) := by
  have hI := hK.1.1.1
  have ht := hK.1.1.2
  obtain ⟨qq, hR⟩ := hC.1
  exact (kL_bestPolicy hR hI ht).mono (fun v τ h => ⟨h.1, hC.s8 h.2, hM.fr (h.2.a1 (by decide))⟩)
set_option maxHeartbeats 1000000 in
theorem c2_bestPolicy {l : Launch} {G : GG} {σ : St} {a : Ab} (hK : AK a) (hC : CL σ (a)) (hM : ML σ a) : CtP l G TX5_bestPolicy 12 [.ref (gB G + 94)] σ (fun v τ => v = some (.int ((bpL (aU a) 2).1)) ∧ CL τ (a) ∧ ML τ (a)) := by
  have hI := hK.1.1.1
  have ht := hK.1.1.2
  exact (kM_bestPolicy hM.1 hI ht).mono (fun v τ h => ⟨h.1, hC.fr h.2.1.a2, hM.rd h.2.1 h.2.2.1⟩)
set_option maxHeartbeats 1000000 in
theorem c1_undoDepth {l : Launch} {G : GG} {σ : St} {a : Ab} (hK : AK a) (hC : CL σ a) (hM : ML σ a) : CtP l G TX4_undoDepth 0 [.ref (gB G + 0)] σ (fun v τ => v = some (.int (nI (aR a))) ∧ CL τ (a) ∧ ML τ a) := by
  have hI := hK.1.1.1
  have ht := hK.1.1.2
  obtain ⟨qq, hR⟩ := hC.1
  exact (kL_undoDepth hR hC.2.1).P ⟨rfl, hC, hM⟩
set_option maxHeartbeats 1000000 in
theorem c2_undoDepth {l : Launch} {G : GG} {σ : St} {a : Ab} (hK : AK a) (hC : CL σ (a)) (hM : ML σ a) : CtP l G TX5_undoDepth 0 [.ref (gB G + 94)] σ (fun v τ => v = some (.int (nI (aR a))) ∧ CL τ (a) ∧ ML τ (a)) := by
  have hI := hK.1.1.1
  have ht := hK.1.1.2
  exact (kM_undoDepth hM.1 hM.2.1).mono (fun v τ h => ⟨h.1, hC.fr h.2.1.a2, hM.rd h.2.1 h.2.2.1⟩)
theorem kM_parseError2 {l : Launch} {G : GG} {σ : St} : CtS l G TX5_parseError 0 [.ref (gB G + 94)] σ (some (.int (sF (stF σ 94 0 0) 94 11))) (stF σ 94 0 0) := by
  refine CtS.ofV (by decide +kernel) rfl rfl (Nat.le_of_ble_eq_true rfl) ?_
  refine V.aload_n (q := 1) dX5_parseError_0 rfl rfl ?_
  refine V.iconst (q := 2) dX5_parseError_1 (v := 0) rfl rfl ?_
  refine V.pM (q := 5) dX5_parseError_2 (j := 0) rfl bw_1011 rfl rfl rfl rfl rfl rfl ?_
  refine V.aload_n (q := 6) dX5_parseError_5 rfl rfl ?_
  refine V.gM (q := 9) dX5_parseError_6 (j := 11) rfl bw_1022 rfl rfl rfl rfl ?_
  exact V.iret dX5_parseError_9 rfl ⟨rfl, rfl, rfl⟩
set_option maxHeartbeats 1000000 in
theorem c1_parseError {l : Launch} {G : GG} {σ : St} {a : Ab} (hK : AK a) (hC : CL σ a) (hM : ML σ a) : CtP l G TX4_parseError 0 [.ref (gB G + 0)] σ (fun v τ => v = some (.int (aE a)) ∧ CL τ (a) ∧ ML τ a) := by
  exact kL_parseError.P ⟨by rw [hC.2.2.2.2.1.1], hC, hM⟩
set_option maxHeartbeats 1000000 in
theorem c2_parseError {l : Launch} {G : GG} {σ : St} {a : Ab} (hK : AK a) (hC : CL σ (a)) (hM : ML σ a) : CtP l G TX5_parseError 0 [.ref (gB G + 94)] σ (fun v τ => v = some (.int (aE a)) ∧ CL τ (a) ∧ ML τ (a)) := by
  exact kM_parseError2.P ⟨by rw [stF_in (by decide), hM.2.2.2.2.1.1], hC.fr FrX.z.a2, hM.rd FrX.z hM.1.scF⟩
theorem kM_parseErrorPosition2 {l : Launch} {G : GG} {σ : St} : CtS l G TX5_parseErrorPosition 0 [.ref (gB G + 94)] σ (some (.int (sF (stF σ 94 0 0) 94 10))) (stF σ 94 0 0) := by
  refine CtS.ofV (by decide +kernel) rfl rfl (Nat.le_of_ble_eq_true rfl) ?_
  refine V.aload_n (q := 1) dX5_parseErrorPosition_0 rfl rfl ?_
  refine V.iconst (q := 2) dX5_parseErrorPosition_1 (v := 0) rfl rfl ?_
  refine V.pM (q := 5) dX5_parseErrorPosition_2 (j := 0) rfl bw_1011 rfl rfl rfl rfl rfl rfl ?_
  refine V.aload_n (q := 6) dX5_parseErrorPosition_5 rfl rfl ?_
  refine V.gM (q := 9) dX5_parseErrorPosition_6 (j := 10) rfl bw_1021 rfl rfl rfl rfl ?_
  exact V.iret dX5_parseErrorPosition_9 rfl ⟨rfl, rfl, rfl⟩
set_option maxHeartbeats 1000000 in
theorem c1_parseErrorPosition {l : Launch} {G : GG} {σ : St} {a : Ab} (hK : AK a) (hC : CL σ a) (hM : ML σ a) : CtP l G TX4_parseErrorPosition 0 [.ref (gB G + 0)] σ (fun v τ => v = some (.int (aP a)) ∧ CL τ (a) ∧ ML τ a) := by
  exact kL_parseErrorPosition.P ⟨by rw [hC.2.2.2.2.1.2], hC, hM⟩
set_option maxHeartbeats 1000000 in
theorem c2_parseErrorPosition {l : Launch} {G : GG} {σ : St} {a : Ab} (hK : AK a) (hC : CL σ (a)) (hM : ML σ a) : CtP l G TX5_parseErrorPosition 0 [.ref (gB G + 94)] σ (fun v τ => v = some (.int (aP a)) ∧ CL τ (a) ∧ ML τ (a)) := by
  exact kM_parseErrorPosition2.P ⟨by rw [stF_in (by decide), hM.2.2.2.2.1.2], hC.fr FrX.z.a2, hM.rd FrX.z hM.1.scF⟩
set_option maxHeartbeats 1000000 in
theorem c1_append {l : Launch} {G : GG} {σ : St} {a : Ab} (hK : AK a) {p q s t w : Int32} (hC : CL σ a) (hM : ML σ a) : CtP l G TX4_append 1 [.ref (gB G + 0), .int p, .int q, .int s, .int t, .int w] σ (fun v τ => v = some (.int (if (aI a).1 + 20 ≤ 500 then nI ((aI a).1 + 20) else -1)) ∧ CL τ (abI a (if (aI a).1 + 20 ≤ 500 then ap20 (aI a) p q s t w else aI a)) ∧ ML τ a) := by
  have hI := hK.1.1.1
  have ht := hK.1.1.2
  obtain ⟨qq, hR⟩ := hC.1
  exact (kL_append hC.2.2.2.1 hK.1.2.2.2.1).mono (fun v τ h => ⟨h.1, hC.i h.2.1 h.2.2, hM.fr h.2.1.a1⟩)
set_option maxHeartbeats 1000000 in
theorem c2_append {l : Launch} {G : GG} {σ : St} {a : Ab} (hK : AK a) {p q s t w : Int32} (hC : CL σ (abI a (if (aI a).1 + 20 ≤ 500 then ap20 (aI a) p q s t w else aI a))) (hM : ML σ a) : CtP l G TX5_append 0 [.ref (gB G + 94), .int p, .int q, .int s, .int t, .int w] σ (fun v τ => v = some (.int (if (aI a).1 + 20 ≤ 500 then nI ((aI a).1 + 20) else -1)) ∧ CL τ (abI a (if (aI a).1 + 20 ≤ 500 then ap20 (aI a) p q s t w else aI a)) ∧ ML τ (abI a (if (aI a).1 + 20 ≤ 500 then ap20 (aI a) p q s t w else aI a))) := by
  have hI := hK.1.1.1
  have ht := hK.1.1.2
  exact (kM_append hM.2.2.2.1 hK.1.2.2.2.1).mono (fun v τ h => ⟨h.1, hC.fr h.2.1.a2, hM.i h.2.1 h.2.2.1⟩)
set_option maxHeartbeats 1000000 in
theorem c1_truncate {l : Launch} {G : GG} {σ : St} {a : Ab} (hK : AK a) {x : Int32} (hC : CL σ a) (hM : ML σ a) : CtP l G TX4_truncate 0 [.ref (gB G + 0), .int x] σ (fun v τ => v = some (.int (bI (trB (aI a) x))) ∧ CL τ (abI a (if trB (aI a) x = true then (x.toNatClampNeg, (aI a).2) else aI a)) ∧ ML τ a) := by
  have hI := hK.1.1.1
  have ht := hK.1.1.2
  obtain ⟨qq, hR⟩ := hC.1
  exact (kL_truncate hC.2.2.2.1 hK.1.2.2.2.1).mono (fun v τ h => ⟨h.1, hC.i h.2.1 h.2.2, hM.fr h.2.1.a1⟩)
set_option maxHeartbeats 1000000 in
theorem c2_truncate {l : Launch} {G : GG} {σ : St} {a : Ab} (hK : AK a) {x : Int32} (hC : CL σ (abI a (if trB (aI a) x = true then (x.toNatClampNeg, (aI a).2) else aI a))) (hM : ML σ a) : CtP l G TX5_truncate 0 [.ref (gB G + 94), .int x] σ (fun v τ => v = some (.int (bI (trB (aI a) x))) ∧ CL τ (abI a (if trB (aI a) x = true then (x.toNatClampNeg, (aI a).2) else aI a)) ∧ ML τ (abI a (if trB (aI a) x = true then (x.toNatClampNeg, (aI a).2) else aI a))) := by
  have hI := hK.1.1.1
  have ht := hK.1.1.2
  exact (kM_truncate hM.2.2.2.1 hK.1.2.2.2.1).mono (fun v τ h => ⟨h.1, hC.fr h.2.1.a2, hM.i h.2.1 h.2.2.1⟩)
set_option maxHeartbeats 1000000 in
theorem c1_runToEnd {l : Launch} {G : GG} {σ : St} {a : Ab} (hK : AK a) (hC : CL σ a) (hM : ML σ a) : CtP l G TX4_runToEnd 4 [.ref (gB G + 0)] σ (fun v τ => v = some (.int (nI (fzn (999 - uT (aU a)) (aU a)))) ∧ CL τ (abC true a (fzu (999 - uT (aU a)) (aU a))) ∧ ML τ a) := by
  have hI := hK.1.1.1
  have ht := hK.1.1.2
  obtain ⟨qq, hR⟩ := hC.1
  exact (kL_runToEnd hR hI ht hC.2.1).mono (fun v τ h => ⟨h.1, hC.chg h.2, hM.fr h.2.1.a1⟩)
set_option maxHeartbeats 1000000 in
theorem c2_runToEnd {l : Launch} {G : GG} {σ : St} {a : Ab} (hK : AK a) (hC : CL σ (abC true a (fzu (999 - uT (aU a)) (aU a)))) (hM : ML σ a) : CtP l G TX5_runToEnd 10 [.ref (gB G + 94)] σ (fun v τ => v = some (.int (nI (fzn (999 - uT (aU a)) (aU a)))) ∧ CL τ (abC true a (fzu (999 - uT (aU a)) (aU a))) ∧ ML τ (abC true a (fzu (999 - uT (aU a)) (aU a)))) := by
  have hI := hK.1.1.1
  have ht := hK.1.1.2
  exact (kM_runToEnd hM.1 hI ht hM.2.1).mono (fun v τ h => ⟨h.1, hC.fr h.2.1.1.a2, hM.chg h.2.1⟩)
set_option maxHeartbeats 1000000 in
theorem c1_writeStatus {l : Launch} {G : GG} {σ : St} {a : Ab} (hK : AK a) (hC : CL σ a) (hM : ML σ a) : CtP l G TX4_writeStatus 2 [.ref (gB G + 0)] σ (fun v τ => v = some (.int (nI (un (aU a)))) ∧ CL τ (abO a (wrST (aU a) (un (aU a)))) ∧ ML τ a) := by
  have hI := hK.1.1.1
  have ht := hK.1.1.2
  obtain ⟨qq, hR⟩ := hC.1
  exact (kL_writeStatus hR).mono (fun v τ h => ⟨h.1, hC.out h.2.1 h.2.2, hM.fr h.2.1.a1⟩)
set_option maxHeartbeats 1000000 in
theorem c2_writeStatus {l : Launch} {G : GG} {σ : St} {a : Ab} (hK : AK a) (hC : CL σ (abO a (wrST (aU a) (un (aU a))))) (hM : ML σ a) : CtP l G TX5_writeStatus 3 [.ref (gB G + 94)] σ (fun v τ => v = some (.int (nI (un (aU a)))) ∧ CL τ (abO a (wrST (aU a) (un (aU a)))) ∧ ML τ (abO a (wrST (aU a) (un (aU a))))) := by
  have hI := hK.1.1.1
  have ht := hK.1.1.2
  exact (kM_writeStatus hM.1).mono (fun v τ h => ⟨h.1, hC.fr h.2.1.a2, hM.out h.2.1 h.2.2.1⟩)
set_option maxHeartbeats 1000000 in
theorem c1_writeBuilding {l : Launch} {G : GG} {σ : St} {a : Ab} (hK : AK a) (hC : CL σ a) (hM : ML σ a) : CtP l G TX4_writeBuilding 2 [.ref (gB G + 0)] σ (fun v τ => v = some (.int (nI (wbT (aU a) (uN (aU a))).1)) ∧ CL τ (abO a (wbT (aU a) (uN (aU a)))) ∧ ML τ a) := by
  have hI := hK.1.1.1
  have ht := hK.1.1.2
  obtain ⟨qq, hR⟩ := hC.1
  exact (kL_writeBuilding hR hI).mono (fun v τ h => ⟨h.1, hC.out h.2.1 h.2.2, hM.fr h.2.1.a1⟩)
set_option maxHeartbeats 1000000 in
theorem c2_writeBuilding {l : Launch} {G : GG} {σ : St} {a : Ab} (hK : AK a) (hC : CL σ (abO a (wbT (aU a) (uN (aU a))))) (hM : ML σ a) : CtP l G TX5_writeBuilding 4 [.ref (gB G + 94)] σ (fun v τ => v = some (.int (nI (wbT (aU a) (uN (aU a))).1)) ∧ CL τ (abO a (wbT (aU a) (uN (aU a)))) ∧ ML τ (abO a (wbT (aU a) (uN (aU a))))) := by
  have hI := hK.1.1.1
  have ht := hK.1.1.2
  exact (kM_writeBuilding hM.1 hI).mono (fun v τ h => ⟨h.1, hC.fr h.2.1.a2, hM.out h.2.1 h.2.2.1⟩)
theorem AK.wb {a : Ab} (hK : AK a) : AK (abO a (wbT (aU a) (uN (aU a)))) := by
  have hI := hK.1.1.1
  obtain ⟨hF0, hN0, hFN0, h20, h2⟩ := hI.F
  refine hK.out ?_ (wbT_asc _ hI.1 _)
  have h9 := (wbT_len (u := aU a) ⟨by omega, hF0⟩ (uN (aU a)) h20).2 (by omega)
  rw [if_pos hFN0] at h9
  omega
set_option maxHeartbeats 1000000 in
theorem c1_outputByte {l : Launch} {G : GG} {σ : St} {a : Ab} (hK : AK a) {x : Int32} (hC : CL σ a) (hM : ML σ a) : CtP l G TX4_outputByte 0 [.ref (gB G + 0), .int x] σ (fun v τ => v = some (.int (obI (aO a) x)) ∧ CL τ (a) ∧ ML τ a) := by
  have hI := hK.1.1.1
  have ht := hK.1.1.2
  obtain ⟨qq, hR⟩ := hC.1
  exact (kL_outputByte hC.2.2.2.2.2 hK.1.2.2.2.2.1).P ⟨rfl, hC, hM⟩
set_option maxHeartbeats 1000000 in
theorem c2_outputByte {l : Launch} {G : GG} {σ : St} {a : Ab} (hK : AK a) {x : Int32} (hC : CL σ (a)) (hM : ML σ a) : CtP l G TX5_outputByte 1 [.ref (gB G + 94), .int x] σ (fun v τ => v = some (.int (obI (aO a) x)) ∧ CL τ (a) ∧ ML τ (a)) := by
  have hI := hK.1.1.1
  have ht := hK.1.1.2
  exact (kM_outputByte hM.2.2.2.2.2 (by have := hK.1.2.2.2.2.1; omega) hK.1.2.2.2.2.2).mono (fun v τ h => ⟨h.1, hC.fr h.2.1.a2, hM.out h.2.1 h.2.2.1⟩)
set_option maxHeartbeats 1000000 in
theorem w1_targetBy {l : Launch} {G : GG} {σ : St} {a : Ab} (hK : AK a) {x : Int32} (hC : CL σ a) (hM : ML σ a) : CtX l G TL_targetBy 8 1 6 [.ref (gB G + 0), .int x, .ref (gB G + 99)] σ (fun w τ => ∃ k : Int32, w = .inl (some (.int k)) ∧ CL τ (a) ∧ ML τ a ∧ k = (if okI 0 2 x = true then 0 else 1) ∧ (k = 0 → sO τ 0 = (if okI 0 2 x = true then tgt (aU a) x else 0).toInt64)) := by
  have hI := hK.1.1.1
  have ht := hK.1.1.2
  obtain ⟨qq, hR⟩ := hC.1
  refine (kW_targetBy hR hI).mono (fun w τ h => ?_)
  cases g : (okI 0 2 x) with
  | true =>
    obtain ⟨e1, rfl⟩ := h.1 g
    exact ⟨0, e1, hC.long, hM.long, rfl, fun _ => sO_at⟩
  | false =>
    obtain ⟨e1, rfl⟩ := h.2 g
    exact ⟨1, e1, hC, hM, rfl, fun z => absurd z (by decide)⟩
set_option maxHeartbeats 1000000 in
theorem m2_targetBy {l : Launch} {G : GG} {σ : St} {a : Ab} (hK : AK a) {x : Int32} (hC : CL σ (a)) (hM : ML σ a) : CtP l G TX5_targetBy 7 [.ref (gB G + 94), .int x] σ (fun v τ => v = some (.int (if okI 0 2 x = true then tgt (aU a) x else 0)) ∧ CL τ (a) ∧ ML τ (a) ∧ thr τ = (if okI 0 2 x = true then 0 else 1) ∧ sO τ = sO σ) := by
  have hI := hK.1.1.1
  have ht := hK.1.1.2
  exact (kM_targetBy hM.1 hI).mono (fun v τ h => ⟨h.1, hC.fr h.2.1.a2, hM.rd h.2.1 h.2.2.1, h.2.2.2, sO_x h.2.1⟩)
set_option maxHeartbeats 1000000 in
theorem w1_statusOf {l : Launch} {G : GG} {σ : St} {a : Ab} (hK : AK a) {x : Int32} (hC : CL σ a) (hM : ML σ a) : CtX l G TL_statusOf 8 1 6 [.ref (gB G + 0), .int x, .ref (gB G + 99)] σ (fun w τ => ∃ k : Int32, w = .inl (some (.int k)) ∧ CL τ (a) ∧ ML τ a ∧ k = (if okP (aU a) x = true then 0 else 1) ∧ (k = 0 → sO τ 0 = (if okP (aU a) x = true then stat (aU a) x.toNatClampNeg else 0).toInt64)) := by
  have hI := hK.1.1.1
  have ht := hK.1.1.2
  obtain ⟨qq, hR⟩ := hC.1
  refine (kW_statusOf hR hI).mono (fun w τ h => ?_)
  cases g : (okP (aU a) x) with
  | true =>
    obtain ⟨e1, rfl⟩ := h.1 g
    exact ⟨0, e1, hC.long, hM.long, rfl, fun _ => sO_at⟩
  | false =>
    obtain ⟨e1, rfl⟩ := h.2 g
    exact ⟨1, e1, hC, hM, rfl, fun z => absurd z (by decide)⟩
set_option maxHeartbeats 1000000 in
theorem m2_statusOf {l : Launch} {G : GG} {σ : St} {a : Ab} (hK : AK a) {x : Int32} (hC : CL σ (a)) (hM : ML σ a) : CtP l G TX5_statusOf 3 [.ref (gB G + 94), .int x] σ (fun v τ => v = some (.int (if okP (aU a) x = true then stat (aU a) x.toNatClampNeg else 0)) ∧ CL τ (a) ∧ ML τ (a) ∧ thr τ = (if okP (aU a) x = true then 0 else 1) ∧ sO τ = sO σ) := by
  have hI := hK.1.1.1
  have ht := hK.1.1.2
  exact (kM_statusOf hM.1).mono (fun v τ h => ⟨h.1, hC.fr h.2.1.a2, hM.rd h.2.1 h.2.2.1, h.2.2.2, sO_x h.2.1⟩)
set_option maxHeartbeats 1000000 in
theorem w1_originOf {l : Launch} {G : GG} {σ : St} {a : Ab} (hK : AK a) {x : Int32} (hC : CL σ a) (hM : ML σ a) : CtX l G TL_originOf 8 1 6 [.ref (gB G + 0), .int x, .ref (gB G + 99)] σ (fun w τ => ∃ k : Int32, w = .inl (some (.int k)) ∧ CL τ (a) ∧ ML τ a ∧ k = (if okP (aU a) x = true then 0 else 1) ∧ (k = 0 → sO τ 0 = (if okP (aU a) x = true then ur (aU a) 0 x.toNatClampNeg else 0).toInt64)) := by
  have hI := hK.1.1.1
  have ht := hK.1.1.2
  obtain ⟨qq, hR⟩ := hC.1
  refine (kW_originOf hR hI).mono (fun w τ h => ?_)
  cases g : (okP (aU a) x) with
  | true =>
    obtain ⟨e1, rfl⟩ := h.1 g
    exact ⟨0, e1, hC.long, hM.long, rfl, fun _ => sO_at⟩
  | false =>
    obtain ⟨e1, rfl⟩ := h.2 g
    exact ⟨1, e1, hC, hM, rfl, fun z => absurd z (by decide)⟩
set_option maxHeartbeats 1000000 in
theorem m2_originOf {l : Launch} {G : GG} {σ : St} {a : Ab} (hK : AK a) {x : Int32} (hC : CL σ (a)) (hM : ML σ a) : CtP l G TX5_originOf 2 [.ref (gB G + 94), .int x] σ (fun v τ => v = some (.int (if okP (aU a) x = true then ur (aU a) 0 x.toNatClampNeg else 0)) ∧ CL τ (a) ∧ ML τ (a) ∧ thr τ = (if okP (aU a) x = true then 0 else 1) ∧ sO τ = sO σ) := by
  have hI := hK.1.1.1
  have ht := hK.1.1.2
  exact (kM_originOf hM.1).mono (fun v τ h => ⟨h.1, hC.fr h.2.1.a2, hM.rd h.2.1 h.2.2.1, h.2.2.2, sO_x h.2.1⟩)
set_option maxHeartbeats 1000000 in
theorem w1_destinationOf {l : Launch} {G : GG} {σ : St} {a : Ab} (hK : AK a) {x : Int32} (hC : CL σ a) (hM : ML σ a) : CtX l G TL_destinationOf 8 1 6 [.ref (gB G + 0), .int x, .ref (gB G + 99)] σ (fun w τ => ∃ k : Int32, w = .inl (some (.int k)) ∧ CL τ (a) ∧ ML τ a ∧ k = (if okP (aU a) x = true then 0 else 1) ∧ (k = 0 → sO τ 0 = (if okP (aU a) x = true then ur (aU a) 1 x.toNatClampNeg else 0).toInt64)) := by
  have hI := hK.1.1.1
  have ht := hK.1.1.2
  obtain ⟨qq, hR⟩ := hC.1
  refine (kW_destinationOf hR hI).mono (fun w τ h => ?_)
  cases g : (okP (aU a) x) with
  | true =>
    obtain ⟨e1, rfl⟩ := h.1 g
    exact ⟨0, e1, hC.long, hM.long, rfl, fun _ => sO_at⟩
  | false =>
    obtain ⟨e1, rfl⟩ := h.2 g
    exact ⟨1, e1, hC, hM, rfl, fun z => absurd z (by decide)⟩
set_option maxHeartbeats 1000000 in
theorem m2_destinationOf {l : Launch} {G : GG} {σ : St} {a : Ab} (hK : AK a) {x : Int32} (hC : CL σ (a)) (hM : ML σ a) : CtP l G TX5_destinationOf 2 [.ref (gB G + 94), .int x] σ (fun v τ => v = some (.int (if okP (aU a) x = true then ur (aU a) 1 x.toNatClampNeg else 0)) ∧ CL τ (a) ∧ ML τ (a) ∧ thr τ = (if okP (aU a) x = true then 0 else 1) ∧ sO τ = sO σ) := by
  have hI := hK.1.1.1
  have ht := hK.1.1.2
  exact (kM_destinationOf hM.1).mono (fun v τ h => ⟨h.1, hC.fr h.2.1.a2, hM.rd h.2.1 h.2.2.1, h.2.2.2, sO_x h.2.1⟩)
set_option maxHeartbeats 1000000 in
theorem w1_arrivalOf {l : Launch} {G : GG} {σ : St} {a : Ab} (hK : AK a) {x : Int32} (hC : CL σ a) (hM : ML σ a) : CtX l G TL_arrivalOf 8 1 6 [.ref (gB G + 0), .int x, .ref (gB G + 99)] σ (fun w τ => ∃ k : Int32, w = .inl (some (.int k)) ∧ CL τ (a) ∧ ML τ a ∧ k = (if okP (aU a) x = true then 0 else 1) ∧ (k = 0 → sO τ 0 = (if okP (aU a) x = true then ur (aU a) 2 x.toNatClampNeg else 0).toInt64)) := by
  have hI := hK.1.1.1
  have ht := hK.1.1.2
  obtain ⟨qq, hR⟩ := hC.1
  refine (kW_arrivalOf hR hI).mono (fun w τ h => ?_)
  cases g : (okP (aU a) x) with
  | true =>
    obtain ⟨e1, rfl⟩ := h.1 g
    exact ⟨0, e1, hC.long, hM.long, rfl, fun _ => sO_at⟩
  | false =>
    obtain ⟨e1, rfl⟩ := h.2 g
    exact ⟨1, e1, hC, hM, rfl, fun z => absurd z (by decide)⟩
set_option maxHeartbeats 1000000 in
theorem m2_arrivalOf {l : Launch} {G : GG} {σ : St} {a : Ab} (hK : AK a) {x : Int32} (hC : CL σ (a)) (hM : ML σ a) : CtP l G TX5_arrivalOf 2 [.ref (gB G + 94), .int x] σ (fun v τ => v = some (.int (if okP (aU a) x = true then ur (aU a) 2 x.toNatClampNeg else 0)) ∧ CL τ (a) ∧ ML τ (a) ∧ thr τ = (if okP (aU a) x = true then 0 else 1) ∧ sO τ = sO σ) := by
  have hI := hK.1.1.1
  have ht := hK.1.1.2
  exact (kM_arrivalOf hM.1).mono (fun v τ h => ⟨h.1, hC.fr h.2.1.a2, hM.rd h.2.1 h.2.2.1, h.2.2.2, sO_x h.2.1⟩)
set_option maxHeartbeats 1000000 in
theorem w1_boardedAt {l : Launch} {G : GG} {σ : St} {a : Ab} (hK : AK a) {x : Int32} (hC : CL σ a) (hM : ML σ a) : CtX l G TL_boardedAt 8 1 6 [.ref (gB G + 0), .int x, .ref (gB G + 99)] σ (fun w τ => ∃ k : Int32, w = .inl (some (.int k)) ∧ CL τ (a) ∧ ML τ a ∧ k = (if okP (aU a) x = true then 0 else 1) ∧ (k = 0 → sO τ 0 = (if okP (aU a) x = true then ur (aU a) 3 x.toNatClampNeg else 0).toInt64)) := by
  have hI := hK.1.1.1
  have ht := hK.1.1.2
  obtain ⟨qq, hR⟩ := hC.1
  refine (kW_boardedAt hR hI).mono (fun w τ h => ?_)
  cases g : (okP (aU a) x) with
  | true =>
    obtain ⟨e1, rfl⟩ := h.1 g
    exact ⟨0, e1, hC.long, hM.long, rfl, fun _ => sO_at⟩
  | false =>
    obtain ⟨e1, rfl⟩ := h.2 g
    exact ⟨1, e1, hC, hM, rfl, fun z => absurd z (by decide)⟩
set_option maxHeartbeats 1000000 in
theorem m2_boardedAt {l : Launch} {G : GG} {σ : St} {a : Ab} (hK : AK a) {x : Int32} (hC : CL σ (a)) (hM : ML σ a) : CtP l G TX5_boardedAt 2 [.ref (gB G + 94), .int x] σ (fun v τ => v = some (.int (if okP (aU a) x = true then ur (aU a) 3 x.toNatClampNeg else 0)) ∧ CL τ (a) ∧ ML τ (a) ∧ thr τ = (if okP (aU a) x = true then 0 else 1) ∧ sO τ = sO σ) := by
  have hI := hK.1.1.1
  have ht := hK.1.1.2
  exact (kM_boardedAt hM.1).mono (fun v τ h => ⟨h.1, hC.fr h.2.1.a2, hM.rd h.2.1 h.2.2.1, h.2.2.2, sO_x h.2.1⟩)
set_option maxHeartbeats 1000000 in
theorem w1_leftAt {l : Launch} {G : GG} {σ : St} {a : Ab} (hK : AK a) {x : Int32} (hC : CL σ a) (hM : ML σ a) : CtX l G TL_leftAt 8 1 6 [.ref (gB G + 0), .int x, .ref (gB G + 99)] σ (fun w τ => ∃ k : Int32, w = .inl (some (.int k)) ∧ CL τ (a) ∧ ML τ a ∧ k = (if okP (aU a) x = true then 0 else 1) ∧ (k = 0 → sO τ 0 = (if okP (aU a) x = true then ur (aU a) 4 x.toNatClampNeg else 0).toInt64)) := by
  have hI := hK.1.1.1
  have ht := hK.1.1.2
  obtain ⟨qq, hR⟩ := hC.1
  refine (kW_leftAt hR hI).mono (fun w τ h => ?_)
  cases g : (okP (aU a) x) with
  | true =>
    obtain ⟨e1, rfl⟩ := h.1 g
    exact ⟨0, e1, hC.long, hM.long, rfl, fun _ => sO_at⟩
  | false =>
    obtain ⟨e1, rfl⟩ := h.2 g
    exact ⟨1, e1, hC, hM, rfl, fun z => absurd z (by decide)⟩
set_option maxHeartbeats 1000000 in
theorem m2_leftAt {l : Launch} {G : GG} {σ : St} {a : Ab} (hK : AK a) {x : Int32} (hC : CL σ (a)) (hM : ML σ a) : CtP l G TX5_leftAt 2 [.ref (gB G + 94), .int x] σ (fun v τ => v = some (.int (if okP (aU a) x = true then ur (aU a) 4 x.toNatClampNeg else 0)) ∧ CL τ (a) ∧ ML τ (a) ∧ thr τ = (if okP (aU a) x = true then 0 else 1) ∧ sO τ = sO σ) := by
  have hI := hK.1.1.1
  have ht := hK.1.1.2
  exact (kM_leftAt hM.1).mono (fun v τ h => ⟨h.1, hC.fr h.2.1.a2, hM.rd h.2.1 h.2.2.1, h.2.2.2, sO_x h.2.1⟩)
set_option maxHeartbeats 1000000 in
theorem w1_waitOf {l : Launch} {G : GG} {σ : St} {a : Ab} (hK : AK a) {x : Int32} (hC : CL σ a) (hM : ML σ a) : CtX l G TL_waitOf 8 1 6 [.ref (gB G + 0), .int x, .ref (gB G + 99)] σ (fun w τ => ∃ k : Int32, w = .inl (some (.int k)) ∧ CL τ (a) ∧ ML τ a ∧ k = (if okP (aU a) x = true then 0 else 1) ∧ (k = 0 → sO τ 0 = (if okP (aU a) x = true then wtI (aU a) x.toNatClampNeg else 0).toInt64)) := by
  have hI := hK.1.1.1
  have ht := hK.1.1.2
  obtain ⟨qq, hR⟩ := hC.1
  refine (kW_waitOf hR hI).mono (fun w τ h => ?_)
  cases g : (okP (aU a) x) with
  | true =>
    obtain ⟨e1, rfl⟩ := h.1 g
    exact ⟨0, e1, hC.long, hM.long, rfl, fun _ => sO_at⟩
  | false =>
    obtain ⟨e1, rfl⟩ := h.2 g
    exact ⟨1, e1, hC, hM, rfl, fun z => absurd z (by decide)⟩
set_option maxHeartbeats 1000000 in
theorem m2_waitOf {l : Launch} {G : GG} {σ : St} {a : Ab} (hK : AK a) {x : Int32} (hC : CL σ (a)) (hM : ML σ a) : CtP l G TX5_waitOf 3 [.ref (gB G + 94), .int x] σ (fun v τ => v = some (.int (if okP (aU a) x = true then wtI (aU a) x.toNatClampNeg else 0)) ∧ CL τ (a) ∧ ML τ (a) ∧ thr τ = (if okP (aU a) x = true then 0 else 1) ∧ sO τ = sO σ) := by
  have hI := hK.1.1.1
  have ht := hK.1.1.2
  exact (kM_waitOf hM.1).mono (fun v τ h => ⟨h.1, hC.fr h.2.1.a2, hM.rd h.2.1 h.2.2.1, h.2.2.2, sO_x h.2.1⟩)
set_option maxHeartbeats 1000000 in
theorem w1_rideOf {l : Launch} {G : GG} {σ : St} {a : Ab} (hK : AK a) {x : Int32} (hC : CL σ a) (hM : ML σ a) : CtX l G TL_rideOf 8 1 6 [.ref (gB G + 0), .int x, .ref (gB G + 99)] σ (fun w τ => ∃ k : Int32, w = .inl (some (.int k)) ∧ CL τ (a) ∧ ML τ a ∧ k = (if okP (aU a) x = true then 0 else 1) ∧ (k = 0 → sO τ 0 = (if okP (aU a) x = true then rdI (aU a) x.toNatClampNeg else 0).toInt64)) := by
  have hI := hK.1.1.1
  have ht := hK.1.1.2
  obtain ⟨qq, hR⟩ := hC.1
  refine (kW_rideOf hR hI).mono (fun w τ h => ?_)
  cases g : (okP (aU a) x) with
  | true =>
    obtain ⟨e1, rfl⟩ := h.1 g
    exact ⟨0, e1, hC.long, hM.long, rfl, fun _ => sO_at⟩
  | false =>
    obtain ⟨e1, rfl⟩ := h.2 g
    exact ⟨1, e1, hC, hM, rfl, fun z => absurd z (by decide)⟩
set_option maxHeartbeats 1000000 in
theorem m2_rideOf {l : Launch} {G : GG} {σ : St} {a : Ab} (hK : AK a) {x : Int32} (hC : CL σ (a)) (hM : ML σ a) : CtP l G TX5_rideOf 3 [.ref (gB G + 94), .int x] σ (fun v τ => v = some (.int (if okP (aU a) x = true then rdI (aU a) x.toNatClampNeg else 0)) ∧ CL τ (a) ∧ ML τ (a) ∧ thr τ = (if okP (aU a) x = true then 0 else 1) ∧ sO τ = sO σ) := by
  have hI := hK.1.1.1
  have ht := hK.1.1.2
  exact (kM_rideOf hM.1).mono (fun v τ h => ⟨h.1, hC.fr h.2.1.a2, hM.rd h.2.1 h.2.2.1, h.2.2.2, sO_x h.2.1⟩)
set_option maxHeartbeats 1000000 in
theorem w1_detourOf {l : Launch} {G : GG} {σ : St} {a : Ab} (hK : AK a) {x : Int32} (hC : CL σ a) (hM : ML σ a) : CtX l G TL_detourOf 8 1 6 [.ref (gB G + 0), .int x, .ref (gB G + 99)] σ (fun w τ => ∃ k : Int32, w = .inl (some (.int k)) ∧ CL τ (a) ∧ ML τ a ∧ k = (if okP (aU a) x = true then 0 else 1) ∧ (k = 0 → sO τ 0 = (if okP (aU a) x = true then dtI (aU a) x.toNatClampNeg else 0).toInt64)) := by
  have hI := hK.1.1.1
  have ht := hK.1.1.2
  obtain ⟨qq, hR⟩ := hC.1
  refine (kW_detourOf hR hI).mono (fun w τ h => ?_)
  cases g : (okP (aU a) x) with
  | true =>
    obtain ⟨e1, rfl⟩ := h.1 g
    exact ⟨0, e1, hC.long, hM.long, rfl, fun _ => sO_at⟩
  | false =>
    obtain ⟨e1, rfl⟩ := h.2 g
    exact ⟨1, e1, hC, hM, rfl, fun z => absurd z (by decide)⟩
set_option maxHeartbeats 1000000 in
theorem m2_detourOf {l : Launch} {G : GG} {σ : St} {a : Ab} (hK : AK a) {x : Int32} (hC : CL σ (a)) (hM : ML σ a) : CtP l G TX5_detourOf 3 [.ref (gB G + 94), .int x] σ (fun v τ => v = some (.int (if okP (aU a) x = true then dtI (aU a) x.toNatClampNeg else 0)) ∧ CL τ (a) ∧ ML τ (a) ∧ thr τ = (if okP (aU a) x = true then 0 else 1) ∧ sO τ = sO σ) := by
  have hI := hK.1.1.1
  have ht := hK.1.1.2
  exact (kM_detourOf hM.1 hI).mono (fun v τ h => ⟨h.1, hC.fr h.2.1.a2, hM.rd h.2.1 h.2.2.1, h.2.2.2, sO_x h.2.1⟩)
set_option maxHeartbeats 1000000 in
theorem w1_countStatus {l : Launch} {G : GG} {σ : St} {a : Ab} (hK : AK a) {x : Int32} (hC : CL σ a) (hM : ML σ a) : CtX l G TL_countStatus 8 1 6 [.ref (gB G + 0), .int x, .ref (gB G + 99)] σ (fun w τ => ∃ k : Int32, w = .inl (some (.int k)) ∧ CL τ (a) ∧ ML τ a ∧ k = (if okI 0 3 x = true then 0 else 1) ∧ (k = 0 → sO τ 0 = (if okI 0 3 x = true then nI (many (aU a) x) else 0).toInt64)) := by
  have hI := hK.1.1.1
  have ht := hK.1.1.2
  obtain ⟨qq, hR⟩ := hC.1
  refine (kW_countStatus hR hI).mono (fun w τ h => ?_)
  cases g : (okI 0 3 x) with
  | true =>
    obtain ⟨e1, rfl⟩ := h.1 g
    exact ⟨0, e1, hC.long, hM.long, rfl, fun _ => sO_at⟩
  | false =>
    obtain ⟨e1, rfl⟩ := h.2 g
    exact ⟨1, e1, hC, hM, rfl, fun z => absurd z (by decide)⟩
set_option maxHeartbeats 1000000 in
theorem m2_countStatus {l : Launch} {G : GG} {σ : St} {a : Ab} (hK : AK a) {x : Int32} (hC : CL σ (a)) (hM : ML σ a) : CtP l G TX5_countStatus 4 [.ref (gB G + 94), .int x] σ (fun v τ => v = some (.int (if okI 0 3 x = true then nI (many (aU a) x) else 0)) ∧ CL τ (a) ∧ ML τ (a) ∧ thr τ = (if okI 0 3 x = true then 0 else 1) ∧ sO τ = sO σ) := by
  have hI := hK.1.1.1
  have ht := hK.1.1.2
  exact (kM_countStatus hM.1).mono (fun v τ h => ⟨h.1, hC.fr h.2.1.a2, hM.rd h.2.1 h.2.2.1, h.2.2.2, sO_x h.2.1⟩)
set_option maxHeartbeats 1000000 in
theorem w1_waitingAt {l : Launch} {G : GG} {σ : St} {a : Ab} (hK : AK a) {x : Int32} (hC : CL σ a) (hM : ML σ a) : CtX l G TL_waitingAt 8 1 6 [.ref (gB G + 0), .int x, .ref (gB G + 99)] σ (fun w τ => ∃ k : Int32, w = .inl (some (.int k)) ∧ CL τ (a) ∧ ML τ a ∧ k = (if okF (aU a) x = true then 0 else 1) ∧ (k = 0 → sO τ 0 = (if okF (aU a) x = true then nI (cnt (fun j => (ur (aU a) 0 j == x) && (stat (aU a) j == 1)) (un (aU a))) else 0).toInt64)) := by
  have hI := hK.1.1.1
  have ht := hK.1.1.2
  obtain ⟨qq, hR⟩ := hC.1
  refine (kW_waitingAt hR hI).mono (fun w τ h => ?_)
  cases g : (okF (aU a) x) with
  | true =>
    obtain ⟨e1, rfl⟩ := h.1 g
    exact ⟨0, e1, hC.long, hM.long, rfl, fun _ => sO_at⟩
  | false =>
    obtain ⟨e1, rfl⟩ := h.2 g
    exact ⟨1, e1, hC, hM, rfl, fun z => absurd z (by decide)⟩
set_option maxHeartbeats 1000000 in
theorem m2_waitingAt {l : Launch} {G : GG} {σ : St} {a : Ab} (hK : AK a) {x : Int32} (hC : CL σ (a)) (hM : ML σ a) : CtP l G TX5_waitingAt 4 [.ref (gB G + 94), .int x] σ (fun v τ => v = some (.int (if okF (aU a) x = true then nI (cnt (fun j => (ur (aU a) 0 j == x) && (stat (aU a) j == 1)) (un (aU a))) else 0)) ∧ CL τ (a) ∧ ML τ (a) ∧ thr τ = (if okF (aU a) x = true then 0 else 1) ∧ sO τ = sO σ) := by
  have hI := hK.1.1.1
  have ht := hK.1.1.2
  exact (kM_waitingAt hM.1 hI).mono (fun v τ h => ⟨h.1, hC.fr h.2.1.a2, hM.rd h.2.1 h.2.2.1, h.2.2.2, sO_x h.2.1⟩)
set_option maxHeartbeats 1000000 in
theorem w1_queueAt {l : Launch} {G : GG} {σ : St} {a : Ab} (hK : AK a) {x y : Int32} (hC : CL σ a) (hM : ML σ a) : CtX l G TL_queueAt 8 1 6 [.ref (gB G + 0), .int x, .int y, .ref (gB G + 99)] σ (fun w τ => ∃ k : Int32, w = .inl (some (.int k)) ∧ CL τ (a) ∧ ML τ a ∧ k = (if okF (aU a) x = true then 0 else 1) ∧ (k = 0 → sO τ 0 = (if okF (aU a) x = true then qaI (aU a) x y else 0).toInt64)) := by
  have hI := hK.1.1.1
  have ht := hK.1.1.2
  obtain ⟨qq, hR⟩ := hC.1
  refine (kW_queueAt hR hI).mono (fun w τ h => ?_)
  cases g : (okF (aU a) x) with
  | true =>
    obtain ⟨e1, rfl⟩ := h.1 g
    exact ⟨0, e1, hC.long, hM.long, rfl, fun _ => sO_at⟩
  | false =>
    obtain ⟨e1, rfl⟩ := h.2 g
    exact ⟨1, e1, hC, hM, rfl, fun z => absurd z (by decide)⟩
set_option maxHeartbeats 1000000 in
theorem m2_queueAt {l : Launch} {G : GG} {σ : St} {a : Ab} (hK : AK a) {x y : Int32} (hC : CL σ (a)) (hM : ML σ a) : CtP l G TX5_queueAt 4 [.ref (gB G + 94), .int x, .int y] σ (fun v τ => v = some (.int (if okF (aU a) x = true then qaI (aU a) x y else 0)) ∧ CL τ (a) ∧ ML τ (a) ∧ thr τ = (if okF (aU a) x = true then 0 else 1) ∧ sO τ = sO σ) := by
  have hI := hK.1.1.1
  have ht := hK.1.1.2
  exact (kM_queueAt hM.1 hI).mono (fun v τ h => ⟨h.1, hC.fr h.2.1.a2, hM.rd h.2.1 h.2.2.1, h.2.2.2, sO_x h.2.1⟩)
set_option maxHeartbeats 1000000 in
theorem w1_ridingTo {l : Launch} {G : GG} {σ : St} {a : Ab} (hK : AK a) {x : Int32} (hC : CL σ a) (hM : ML σ a) : CtX l G TL_ridingTo 8 1 6 [.ref (gB G + 0), .int x, .ref (gB G + 99)] σ (fun w τ => ∃ k : Int32, w = .inl (some (.int k)) ∧ CL τ (a) ∧ ML τ a ∧ k = (if okF (aU a) x = true then 0 else 1) ∧ (k = 0 → sO τ 0 = (if okF (aU a) x = true then nI (cnt (fun j => (ur (aU a) 1 j == x) && (stat (aU a) j == 2)) (un (aU a))) else 0).toInt64)) := by
  have hI := hK.1.1.1
  have ht := hK.1.1.2
  obtain ⟨qq, hR⟩ := hC.1
  refine (kW_ridingTo hR hI).mono (fun w τ h => ?_)
  cases g : (okF (aU a) x) with
  | true =>
    obtain ⟨e1, rfl⟩ := h.1 g
    exact ⟨0, e1, hC.long, hM.long, rfl, fun _ => sO_at⟩
  | false =>
    obtain ⟨e1, rfl⟩ := h.2 g
    exact ⟨1, e1, hC, hM, rfl, fun z => absurd z (by decide)⟩
set_option maxHeartbeats 1000000 in
theorem m2_ridingTo {l : Launch} {G : GG} {σ : St} {a : Ab} (hK : AK a) {x : Int32} (hC : CL σ (a)) (hM : ML σ a) : CtP l G TX5_ridingTo 3 [.ref (gB G + 94), .int x] σ (fun v τ => v = some (.int (if okF (aU a) x = true then nI (cnt (fun j => (ur (aU a) 1 j == x) && (stat (aU a) j == 2)) (un (aU a))) else 0)) ∧ CL τ (a) ∧ ML τ (a) ∧ thr τ = (if okF (aU a) x = true then 0 else 1) ∧ sO τ = sO σ) := by
  have hI := hK.1.1.1
  have ht := hK.1.1.2
  exact (kM_ridingTo hM.1 hI).mono (fun v τ h => ⟨h.1, hC.fr h.2.1.a2, hM.rd h.2.1 h.2.2.1, h.2.2.2, sO_x h.2.1⟩)
set_option maxHeartbeats 1000000 in
theorem w1_passengersBetween {l : Launch} {G : GG} {σ : St} {a : Ab} (hK : AK a) {x y : Int32} (hC : CL σ a) (hM : ML σ a) : CtX l G TL_passengersBetween 8 2 12 [.ref (gB G + 0), .int x, .int y, .ref (gB G + 99)] σ (fun w τ => ∃ k : Int32, w = .inl (some (.int k)) ∧ CL τ (a) ∧ ML τ a ∧ k = (if (okF (aU a) x && okF (aU a) y) = true then 0 else 1) ∧ (k = 0 → sO τ 0 = (if (okF (aU a) x && okF (aU a) y) = true then nI (cnt (fun j => (ur (aU a) 0 j == x) && (ur (aU a) 1 j == y)) (un (aU a))) else 0).toInt64)) := by
  have hI := hK.1.1.1
  have ht := hK.1.1.2
  obtain ⟨qq, hR⟩ := hC.1
  refine (kW_passengersBetween hR hI).mono (fun w τ h => ?_)
  cases g : ((okF (aU a) x && okF (aU a) y)) with
  | true =>
    obtain ⟨e1, rfl⟩ := h.1 g
    exact ⟨0, e1, hC.long, hM.long, rfl, fun _ => sO_at⟩
  | false =>
    obtain ⟨e1, rfl⟩ := h.2 g
    exact ⟨1, e1, hC, hM, rfl, fun z => absurd z (by decide)⟩
set_option maxHeartbeats 1000000 in
theorem m2_passengersBetween {l : Launch} {G : GG} {σ : St} {a : Ab} (hK : AK a) {x y : Int32} (hC : CL σ (a)) (hM : ML σ a) : CtP l G TX5_passengersBetween 2 [.ref (gB G + 94), .int x, .int y] σ (fun v τ => v = some (.int (if (okF (aU a) x && okF (aU a) y) = true then nI (cnt (fun j => (ur (aU a) 0 j == x) && (ur (aU a) 1 j == y)) (un (aU a))) else 0)) ∧ CL τ (a) ∧ ML τ (a) ∧ thr τ = (if (okF (aU a) x && okF (aU a) y) = true then 0 else 1) ∧ sO τ = sO σ) := by
  have hI := hK.1.1.1
  have ht := hK.1.1.2
  exact (kM_passengersBetween hM.1 hI).mono (fun v τ h => ⟨h.1, hC.fr h.2.1.a2, hM.rd h.2.1 h.2.2.1, h.2.2.2, sO_x h.2.1⟩)
set_option maxHeartbeats 1000000 in
theorem w1_ticksWithPolicy {l : Launch} {G : GG} {σ : St} {a : Ab} (hK : AK a) {x : Int32} (hC : CL σ a) (hM : ML σ a) : CtX l G TL_ticksWithPolicy 8 1 6 [.ref (gB G + 0), .int x, .ref (gB G + 99)] σ (fun w τ => ∃ k : Int32, w = .inl (some (.int k)) ∧ CL τ (a) ∧ ML τ a ∧ k = (if okI 0 2 x = true then 0 else 1) ∧ (k = 0 → sO τ 0 = (if okI 0 2 x = true then nI (fcn (aU a) x (us (aU a) 1)) else 0).toInt64)) := by
  have hI := hK.1.1.1
  have ht := hK.1.1.2
  obtain ⟨qq, hR⟩ := hC.1
  refine (kW_ticksWithPolicy hR hI ht).mono (fun w τ h => ?_)
  obtain ⟨υ, hf, h⟩ := h
  have hC := hC.s8 hf
  have hM := hM.fr (hf.a1 (by decide))
  cases g : (okI 0 2 x) with
  | true =>
    obtain ⟨e1, rfl⟩ := h.1 g
    exact ⟨0, e1, hC.long, hM.long, rfl, fun _ => sO_at⟩
  | false =>
    obtain ⟨e1, rfl⟩ := h.2 g
    exact ⟨1, e1, hC, hM, rfl, fun z => absurd z (by decide)⟩
set_option maxHeartbeats 1000000 in
theorem m2_ticksWithPolicy {l : Launch} {G : GG} {σ : St} {a : Ab} (hK : AK a) {x : Int32} (hC : CL σ (a)) (hM : ML σ a) : CtP l G TX5_ticksWithPolicy 11 [.ref (gB G + 94), .int x] σ (fun v τ => v = some (.int (if okI 0 2 x = true then nI (fcn (aU a) x (us (aU a) 1)) else 0)) ∧ CL τ (a) ∧ ML τ (a) ∧ thr τ = (if okI 0 2 x = true then 0 else 1) ∧ sO τ = sO σ) := by
  have hI := hK.1.1.1
  have ht := hK.1.1.2
  exact (kM_ticksWithPolicy hM.1 hI ht).mono (fun v τ h => ⟨h.1, hC.fr h.2.1.a2, hM.rd h.2.1 h.2.2.1, h.2.2.2, sO_x h.2.1⟩)
set_option maxHeartbeats 1000000 in
theorem w1_waitWithPolicy {l : Launch} {G : GG} {σ : St} {a : Ab} (hK : AK a) {x : Int32} (hC : CL σ a) (hM : ML σ a) : CtX l G TL_waitWithPolicy 8 1 6 [.ref (gB G + 0), .int x, .ref (gB G + 99)] σ (fun w τ => ∃ k : Int32, w = .inl (some (.int k)) ∧ CL τ (a) ∧ ML τ a ∧ k = (if okI 0 2 x = true then 0 else 1) ∧ (k = 0 → sO τ 0 = (if okI 0 2 x = true then fcw (aU a) x else 0).toInt64)) := by
  have hI := hK.1.1.1
  have ht := hK.1.1.2
  obtain ⟨qq, hR⟩ := hC.1
  refine (kW_waitWithPolicy hR hI ht).mono (fun w τ h => ?_)
  obtain ⟨υ, hf, h⟩ := h
  have hC := hC.s8 hf
  have hM := hM.fr (hf.a1 (by decide))
  cases g : (okI 0 2 x) with
  | true =>
    obtain ⟨e1, rfl⟩ := h.1 g
    exact ⟨0, e1, hC.long, hM.long, rfl, fun _ => sO_at⟩
  | false =>
    obtain ⟨e1, rfl⟩ := h.2 g
    exact ⟨1, e1, hC, hM, rfl, fun z => absurd z (by decide)⟩
set_option maxHeartbeats 1000000 in
theorem m2_waitWithPolicy {l : Launch} {G : GG} {σ : St} {a : Ab} (hK : AK a) {x : Int32} (hC : CL σ (a)) (hM : ML σ a) : CtP l G TX5_waitWithPolicy 12 [.ref (gB G + 94), .int x] σ (fun v τ => v = some (.int (if okI 0 2 x = true then fcw (aU a) x else 0)) ∧ CL τ (a) ∧ ML τ (a) ∧ thr τ = (if okI 0 2 x = true then 0 else 1) ∧ sO τ = sO σ) := by
  have hI := hK.1.1.1
  have ht := hK.1.1.2
  exact (kM_waitWithPolicy hM.1 hI ht).mono (fun v τ h => ⟨h.1, hC.fr h.2.1.a2, hM.rd h.2.1 h.2.2.1, h.2.2.2, sO_x h.2.1⟩)
set_option maxHeartbeats 1000000 in
theorem w1_longestWaitWithPolicy {l : Launch} {G : GG} {σ : St} {a : Ab} (hK : AK a) {x : Int32} (hC : CL σ a) (hM : ML σ a) : CtX l G TL_longestWaitWithPolicy 8 1 6 [.ref (gB G + 0), .int x, .ref (gB G + 99)] σ (fun w τ => ∃ k : Int32, w = .inl (some (.int k)) ∧ CL τ (a) ∧ ML τ a ∧ k = (if okI 0 2 x = true then 0 else 1) ∧ (k = 0 → sO τ 0 = (if okI 0 2 x = true then wmax (fcu (aU a) x (us (aU a) 1)) else 0).toInt64)) := by
  have hI := hK.1.1.1
  have ht := hK.1.1.2
  obtain ⟨qq, hR⟩ := hC.1
  refine (kW_longestWaitWithPolicy hR hI ht).mono (fun w τ h => ?_)
  obtain ⟨υ, hf, h⟩ := h
  have hC := hC.s8 hf
  have hM := hM.fr (hf.a1 (by decide))
  cases g : (okI 0 2 x) with
  | true =>
    obtain ⟨e1, rfl⟩ := h.1 g
    exact ⟨0, e1, hC.long, hM.long, rfl, fun _ => sO_at⟩
  | false =>
    obtain ⟨e1, rfl⟩ := h.2 g
    exact ⟨1, e1, hC, hM, rfl, fun z => absurd z (by decide)⟩
set_option maxHeartbeats 1000000 in
theorem m2_longestWaitWithPolicy {l : Launch} {G : GG} {σ : St} {a : Ab} (hK : AK a) {x : Int32} (hC : CL σ (a)) (hM : ML σ a) : CtP l G TX5_longestWaitWithPolicy 11 [.ref (gB G + 94), .int x] σ (fun v τ => v = some (.int (if okI 0 2 x = true then wmax (fcu (aU a) x (us (aU a) 1)) else 0)) ∧ CL τ (a) ∧ ML τ (a) ∧ thr τ = (if okI 0 2 x = true then 0 else 1) ∧ sO τ = sO σ) := by
  have hI := hK.1.1.1
  have ht := hK.1.1.2
  exact (kM_longestWaitWithPolicy hM.1 hI ht).mono (fun v τ h => ⟨h.1, hC.fr h.2.1.a2, hM.rd h.2.1 h.2.2.1, h.2.2.2, sO_x h.2.1⟩)
set_option maxHeartbeats 1000000 in
theorem w1_expectedAt {l : Launch} {G : GG} {σ : St} {a : Ab} (hK : AK a) {x : Int32} (hC : CL σ a) (hM : ML σ a) : CtX l G TL_expectedAt 8 1 6 [.ref (gB G + 0), .int x, .ref (gB G + 99)] σ (fun w τ => ∃ k : Int32, w = .inl (some (.int k)) ∧ CL τ (a) ∧ ML τ a ∧ k = (if okP (aU a) x = true then 0 else 1) ∧ (k = 0 → sO τ 0 = (if okP (aU a) x = true then ur (fcu (aU a) (us (aU a) 2) (us (aU a) 1)) 4 x.toNatClampNeg else 0).toInt64)) := by
  have hI := hK.1.1.1
  have ht := hK.1.1.2
  obtain ⟨qq, hR⟩ := hC.1
  refine (kW_expectedAt hR hI ht).mono (fun w τ h => ?_)
  obtain ⟨υ, hf, h⟩ := h
  have hC := hC.s8 hf
  have hM := hM.fr (hf.a1 (by decide))
  cases g : (okP (aU a) x) with
  | true =>
    obtain ⟨e1, rfl⟩ := h.1 g
    exact ⟨0, e1, hC.long, hM.long, rfl, fun _ => sO_at⟩
  | false =>
    obtain ⟨e1, rfl⟩ := h.2 g
    exact ⟨1, e1, hC, hM, rfl, fun z => absurd z (by decide)⟩
set_option maxHeartbeats 1000000 in
theorem m2_expectedAt {l : Launch} {G : GG} {σ : St} {a : Ab} (hK : AK a) {x : Int32} (hC : CL σ (a)) (hM : ML σ a) : CtP l G TX5_expectedAt 11 [.ref (gB G + 94), .int x] σ (fun v τ => v = some (.int (if okP (aU a) x = true then ur (fcu (aU a) (us (aU a) 2) (us (aU a) 1)) 4 x.toNatClampNeg else 0)) ∧ CL τ (a) ∧ ML τ (a) ∧ thr τ = (if okP (aU a) x = true then 0 else 1) ∧ sO τ = sO σ) := by
  have hI := hK.1.1.1
  have ht := hK.1.1.2
  exact (kM_expectedAt hM.1 hI ht).mono (fun v τ h => ⟨h.1, hC.fr h.2.1.a2, hM.rd h.2.1 h.2.2.1, h.2.2.2, sO_x h.2.1⟩)
set_option maxHeartbeats 1000000 in
theorem w1_ticksWithCapacity {l : Launch} {G : GG} {σ : St} {a : Ab} (hK : AK a) {x : Int32} (hC : CL σ a) (hM : ML σ a) : CtX l G TL_ticksWithCapacity 8 1 6 [.ref (gB G + 0), .int x, .ref (gB G + 99)] σ (fun w τ => ∃ k : Int32, w = .inl (some (.int k)) ∧ CL τ (a) ∧ ML τ a ∧ k = (if okI 1 8 x = true then (if decide (nI (many (aU a) 2) ≤ x) = true then 0 else 2) else 1) ∧ (k = 0 → sO τ 0 = (if (okI 1 8 x && decide (nI (many (aU a) 2) ≤ x)) = true then nI (fcn (aU a) (us (aU a) 2) x) else 0).toInt64)) := by
  have hI := hK.1.1.1
  have ht := hK.1.1.2
  obtain ⟨qq, hR⟩ := hC.1
  refine (kW_ticksWithCapacity hR hI ht).mono (fun w τ h => ?_)
  obtain ⟨υ, hf, h⟩ := h
  have hC2 := hC.s8 hf
  have hM2 := hM.fr (hf.a1 (by decide))
  cases g : (okI 1 8 x) with
  | false =>
    obtain ⟨e1, rfl⟩ := h.2.1 g
    try rw [g] at hC2
    exact ⟨1, e1, hC2, hM2, rfl, fun z => absurd z (by decide)⟩
  | true =>
    try rw [g] at hC2
    cases g2 : (decide (nI (many (aU a) 2) ≤ x)) with
    | false =>
      try rw [g2] at hC2
      obtain ⟨e1, rfl⟩ := h.2.2 g g2
      exact ⟨2, e1, hC2, hM2, rfl, fun z => absurd z (by decide)⟩
    | true =>
      try rw [g2] at hC2
      obtain ⟨e1, rfl⟩ := h.1 g g2
      exact ⟨0, e1, hC2.long, hM2.long, rfl, fun _ => sO_at⟩
set_option maxHeartbeats 1000000 in
theorem m2_ticksWithCapacity {l : Launch} {G : GG} {σ : St} {a : Ab} (hK : AK a) {x : Int32} (hC : CL σ (a)) (hM : ML σ a) : CtP l G TX5_ticksWithCapacity 11 [.ref (gB G + 94), .int x] σ (fun v τ => v = some (.int (if (okI 1 8 x && decide (nI (many (aU a) 2) ≤ x)) = true then nI (fcn (aU a) (us (aU a) 2) x) else 0)) ∧ CL τ (a) ∧ ML τ (a) ∧ thr τ = (if okI 1 8 x = true then (if decide (nI (many (aU a) 2) ≤ x) = true then 0 else 2) else 1) ∧ sO τ = sO σ) := by
  have hI := hK.1.1.1
  have ht := hK.1.1.2
  exact (kM_ticksWithCapacity hM.1 hI ht).mono (fun v τ h => ⟨h.1, hC.fr h.2.1.a2, hM.rd h.2.1 h.2.2.1, h.2.2.2, sO_x h.2.1⟩)
set_option maxHeartbeats 1000000 in
theorem w1_setCapacity {l : Launch} {G : GG} {σ : St} {a : Ab} (hK : AK a) {x : Int32} (hC : CL σ a) (hM : ML σ a) : CtX l G TL_setCapacity 8 1 6 [.ref (gB G + 0), .int x, .ref (gB G + 99)] σ (fun w τ => ∃ k : Int32, w = .inl (some (.int k)) ∧ CL τ (abC (okI 1 8 x && decide (nI (many (aU a) 2) ≤ x)) a (uS (aU a) 1 x)) ∧ ML τ a ∧ k = (if okI 1 8 x = true then (if decide (nI (many (aU a) 2) ≤ x) = true then 0 else 2) else 1) ∧ (k = 0 → sO τ 0 = (if (okI 1 8 x && decide (nI (many (aU a) 2) ≤ x)) = true then us (aU a) 1 else 0).toInt64)) := by
  have hI := hK.1.1.1
  have ht := hK.1.1.2
  obtain ⟨qq, hR⟩ := hC.1
  refine (kW_setCapacity hR hI ht hC.2.1).mono (fun w τ h => ?_)
  obtain ⟨υ, hf, h⟩ := h
  have hC2 := hC.chg hf
  have hM2 := hM.fr hf.1.a1
  cases g : (okI 1 8 x) with
  | false =>
    obtain ⟨e1, rfl⟩ := h.2.1 g
    try rw [g] at hC2
    exact ⟨1, e1, hC2, hM2, rfl, fun z => absurd z (by decide)⟩
  | true =>
    try rw [g] at hC2
    cases g2 : (decide (nI (many (aU a) 2) ≤ x)) with
    | false =>
      try rw [g2] at hC2
      obtain ⟨e1, rfl⟩ := h.2.2 g g2
      exact ⟨2, e1, hC2, hM2, rfl, fun z => absurd z (by decide)⟩
    | true =>
      try rw [g2] at hC2
      obtain ⟨e1, rfl⟩ := h.1 g g2
      exact ⟨0, e1, hC2.long, hM2.long, rfl, fun _ => sO_at⟩
set_option maxHeartbeats 1000000 in
theorem m2_setCapacity {l : Launch} {G : GG} {σ : St} {a : Ab} (hK : AK a) {x : Int32} (hC : CL σ (abC (okI 1 8 x && decide (nI (many (aU a) 2) ≤ x)) a (uS (aU a) 1 x))) (hM : ML σ a) : CtP l G TX5_setCapacity 5 [.ref (gB G + 94), .int x] σ (fun v τ => v = some (.int (if (okI 1 8 x && decide (nI (many (aU a) 2) ≤ x)) = true then us (aU a) 1 else 0)) ∧ CL τ (abC (okI 1 8 x && decide (nI (many (aU a) 2) ≤ x)) a (uS (aU a) 1 x)) ∧ ML τ (abC (okI 1 8 x && decide (nI (many (aU a) 2) ≤ x)) a (uS (aU a) 1 x)) ∧ thr τ = (if okI 1 8 x = true then (if decide (nI (many (aU a) 2) ≤ x) = true then 0 else 2) else 1) ∧ sO τ = sO σ) := by
  have hI := hK.1.1.1
  have ht := hK.1.1.2
  exact (kM_setCapacity hM.1 hI ht hM.2.1).mono (fun v τ h => ⟨h.1, hC.fr h.2.1.1.a2, hM.chg h.2.1, h.2.2, sO_mc h.2.1.1⟩)
set_option maxHeartbeats 1000000 in
theorem w1_run {l : Launch} {G : GG} {σ : St} {a : Ab} (hK : AK a) {x : Int32} (hC : CL σ a) (hM : ML σ a) : CtX l G TL_run 8 1 6 [.ref (gB G + 0), .int x, .ref (gB G + 99)] σ (fun w τ => ∃ k : Int32, w = .inl (some (.int k)) ∧ CL τ (abC (okI 1 999 x && decide (us (aU a) 3 + x ≤ 999)) a (tks x.toNatClampNeg (aU a))) ∧ ML τ a ∧ k = (if okI 1 999 x = true then (if decide (us (aU a) 3 + x ≤ 999) = true then 0 else 2) else 1) ∧ (k = 0 → sO τ 0 = (if (okI 1 999 x && decide (us (aU a) 3 + x ≤ 999)) = true then us (tks x.toNatClampNeg (aU a)) 4 else 0).toInt64)) := by
  have hI := hK.1.1.1
  have ht := hK.1.1.2
  obtain ⟨qq, hR⟩ := hC.1
  refine (kW_run hR hI ht hC.2.1).mono (fun w τ h => ?_)
  obtain ⟨υ, hf, h⟩ := h
  have hC2 := hC.chg hf
  have hM2 := hM.fr hf.1.a1
  cases g : (okI 1 999 x) with
  | false =>
    obtain ⟨e1, rfl⟩ := h.2.1 g
    try rw [g] at hC2
    exact ⟨1, e1, hC2, hM2, rfl, fun z => absurd z (by decide)⟩
  | true =>
    try rw [g] at hC2
    cases g2 : (decide (us (aU a) 3 + x ≤ 999)) with
    | false =>
      try rw [g2] at hC2
      obtain ⟨e1, rfl⟩ := h.2.2 g g2
      exact ⟨2, e1, hC2, hM2, rfl, fun z => absurd z (by decide)⟩
    | true =>
      try rw [g2] at hC2
      obtain ⟨e1, rfl⟩ := h.1 g g2
      exact ⟨0, e1, hC2.long, hM2.long, rfl, fun _ => sO_at⟩
set_option maxHeartbeats 1000000 in
theorem m2_run {l : Launch} {G : GG} {σ : St} {a : Ab} (hK : AK a) {x : Int32} (hC : CL σ (abC (okI 1 999 x && decide (us (aU a) 3 + x ≤ 999)) a (tks x.toNatClampNeg (aU a)))) (hM : ML σ a) : CtP l G TX5_run 9 [.ref (gB G + 94), .int x] σ (fun v τ => v = some (.int (if (okI 1 999 x && decide (us (aU a) 3 + x ≤ 999)) = true then us (tks x.toNatClampNeg (aU a)) 4 else 0)) ∧ CL τ (abC (okI 1 999 x && decide (us (aU a) 3 + x ≤ 999)) a (tks x.toNatClampNeg (aU a))) ∧ ML τ (abC (okI 1 999 x && decide (us (aU a) 3 + x ≤ 999)) a (tks x.toNatClampNeg (aU a))) ∧ thr τ = (if okI 1 999 x = true then (if decide (us (aU a) 3 + x ≤ 999) = true then 0 else 2) else 1) ∧ sO τ = sO σ) := by
  have hI := hK.1.1.1
  have ht := hK.1.1.2
  exact (kM_run hM.1 hI ht hM.2.1).mono (fun v τ h => ⟨h.1, hC.fr h.2.1.1.a2, hM.chg h.2.1, h.2.2, sO_mc h.2.1.1⟩)
set_option maxHeartbeats 1000000 in
theorem w1_setPolicy {l : Launch} {G : GG} {σ : St} {a : Ab} (hK : AK a) {x : Int32} (hC : CL σ a) (hM : ML σ a) : CtX l G TL_setPolicy 8 1 6 [.ref (gB G + 0), .int x, .ref (gB G + 99)] σ (fun w τ => ∃ k : Int32, w = .inl (some (.int k)) ∧ CL τ (abC (okI 0 2 x) a (uS (aU a) 2 x)) ∧ ML τ a ∧ k = (if okI 0 2 x = true then 0 else 1) ∧ (k = 0 → sO τ 0 = (if okI 0 2 x = true then us (aU a) 2 else 0).toInt64)) := by
  have hI := hK.1.1.1
  have ht := hK.1.1.2
  obtain ⟨qq, hR⟩ := hC.1
  refine (kW_setPolicy hR hI ht hC.2.1).mono (fun w τ h => ?_)
  obtain ⟨υ, hf, h⟩ := h
  have hC2 := hC.chg hf
  have hM2 := hM.fr hf.1.a1
  cases g : (okI 0 2 x) with
  | true =>
    obtain ⟨e1, rfl⟩ := h.1 g
    rw [g] at hC2
    exact ⟨0, e1, hC2.long, hM2.long, rfl, fun _ => sO_at⟩
  | false =>
    obtain ⟨e1, rfl⟩ := h.2 g
    rw [g] at hC2
    exact ⟨1, e1, hC2, hM2, rfl, fun z => absurd z (by decide)⟩
set_option maxHeartbeats 1000000 in
theorem m2_setPolicy {l : Launch} {G : GG} {σ : St} {a : Ab} (hK : AK a) {x : Int32} (hC : CL σ (abC (okI 0 2 x) a (uS (aU a) 2 x))) (hM : ML σ a) : CtP l G TX5_setPolicy 2 [.ref (gB G + 94), .int x] σ (fun v τ => v = some (.int (if okI 0 2 x = true then us (aU a) 2 else 0)) ∧ CL τ (abC (okI 0 2 x) a (uS (aU a) 2 x)) ∧ ML τ (abC (okI 0 2 x) a (uS (aU a) 2 x)) ∧ thr τ = (if okI 0 2 x = true then 0 else 1) ∧ sO τ = sO σ) := by
  have hI := hK.1.1.1
  have ht := hK.1.1.2
  exact (kM_setPolicy hM.1 hI ht hM.2.1).mono (fun v τ h => ⟨h.1, hC.fr h.2.1.1.a2, hM.chg h.2.1, h.2.2, sO_mc h.2.1.1⟩)
set_option maxHeartbeats 1000000 in
theorem w1_addPassenger {l : Launch} {G : GG} {σ : St} {a : Ab} (hK : AK a) {x y t : Int32} (hC : CL σ a) (hM : ML σ a) : CtX l G TL_addPassenger 8 3 18 [.ref (gB G + 0), .int x, .int y, .int t, .ref (gB G + 99)] σ (fun w τ => ∃ k : Int32, w = .inl (some (.int k)) ∧ CL τ (abC ((okF (aU a) x && okF (aU a) y) && ((apC (aU a) x y t) && (decide (nI (un (aU a)) < 40)))) a (addu (aU a) x y t)) ∧ ML τ a ∧ k = (if (okF (aU a) x && okF (aU a) y) = true then (if (apC (aU a) x y t) = true then (if (decide (nI (un (aU a)) < 40)) = true then 0 else 3) else 2) else 1) ∧ (k = 0 → sO τ 0 = (if ((okF (aU a) x && okF (aU a) y) && ((apC (aU a) x y t) && (decide (nI (un (aU a)) < 40)))) = true then nI (un (aU a)) else 0).toInt64)) := by
  have hI := hK.1.1.1
  have ht := hK.1.1.2
  obtain ⟨qq, hR⟩ := hC.1
  refine (kW_addPassenger hR hI ht hC.2.1).mono (fun w τ h => ?_)
  obtain ⟨υ, hf, k, h⟩ := h
  have hC2 := hC.chg hf
  have hM2 := hM.fr hf.1.a1
  rcases h with ⟨g1, g2, g3, rfl, e1, rfl⟩ | ⟨g1, rfl, e1, rfl⟩ | ⟨g1, g2, rfl, e1, rfl⟩ | ⟨g1, g2, g3, rfl, e1, rfl⟩
  · exact ⟨0, e1, hC2.long, hM2.long, by rw [if_pos g1, if_pos g2, if_pos g3], fun _ => by rw [g1, g2, g3]; exact sO_at⟩
  · exact ⟨1, e1, hC2, hM2, by rw [if_neg (by rw [g1]; decide)], fun z => absurd z (by decide)⟩
  · exact ⟨2, e1, hC2, hM2, by rw [if_pos g1, if_neg (by rw [g2]; decide)], fun z => absurd z (by decide)⟩
  · exact ⟨3, e1, hC2, hM2, by rw [if_pos g1, if_pos g2, if_neg (by rw [g3]; decide)], fun z => absurd z (by decide)⟩
set_option maxHeartbeats 1000000 in
theorem m2_addPassenger {l : Launch} {G : GG} {σ : St} {a : Ab} (hK : AK a) {x y t : Int32} (hC : CL σ (abC ((okF (aU a) x && okF (aU a) y) && ((apC (aU a) x y t) && (decide (nI (un (aU a)) < 40)))) a (addu (aU a) x y t))) (hM : ML σ a) : CtP l G TX5_addPassenger 3 [.ref (gB G + 94), .int x, .int y, .int t] σ (fun v τ => v = some (.int (if ((okF (aU a) x && okF (aU a) y) && ((apC (aU a) x y t) && (decide (nI (un (aU a)) < 40)))) = true then nI (un (aU a)) else 0)) ∧ CL τ (abC ((okF (aU a) x && okF (aU a) y) && ((apC (aU a) x y t) && (decide (nI (un (aU a)) < 40)))) a (addu (aU a) x y t)) ∧ ML τ (abC ((okF (aU a) x && okF (aU a) y) && ((apC (aU a) x y t) && (decide (nI (un (aU a)) < 40)))) a (addu (aU a) x y t)) ∧ thr τ = (if (okF (aU a) x && okF (aU a) y) = true then (if (apC (aU a) x y t) = true then (if (decide (nI (un (aU a)) < 40)) = true then 0 else 3) else 2) else 1) ∧ sO τ = sO σ) := by
  have hI := hK.1.1.1
  have ht := hK.1.1.2
  exact (kM_addPassenger hM.1 hI ht hM.2.1).mono (fun v τ h => ⟨h.1, hC.fr h.2.1.1.a2, hM.chg h.2.1, h.2.2, sO_mc h.2.1.1⟩)
set_option maxHeartbeats 1000000 in
theorem w1_undo {l : Launch} {G : GG} {σ : St} {a : Ab} (hK : AK a) (hC : CL σ a) (hM : ML σ a) : CtX l G TL_undo 8 1 6 [.ref (gB G + 0), .ref (gB G + 99)] σ (fun w τ => ∃ k : Int32, w = .inl (some (.int k)) ∧ CL τ (abUn a) ∧ ML τ a ∧ k = (if 0 < aR a then (0 : Int32) else 1) ∧ (k = 0 → sO τ 0 = (if 0 < aR a then nI (aR a - 1) else 0).toInt64)) := by
  have hI := hK.1.1.1
  have ht := hK.1.1.2
  obtain ⟨qq, hR⟩ := hC.1
  refine (kW_undo hR hC.2.1 hK.1.2.1).mono (fun w τ h => ?_)
  obtain ⟨υ, ⟨hf, hp, hz⟩, h⟩ := h
  have hM2 := hM.fr hf.a1
  by_cases g : 0 < aR a
  · obtain ⟨e1, rfl⟩ := h.1 (decide_eq_true g)
    obtain ⟨h1, h2⟩ := hp g
    unfold abUn
    rw [if_pos g, if_pos g, if_pos g]
    exact ⟨0, e1, (hC.ch hf h1 h2).long, hM2.long, rfl, fun _ => sO_at⟩
  · obtain ⟨e1, rfl⟩ := h.2 (decide_eq_false g)
    unfold abUn
    rw [if_neg g, if_neg g]
    refine ⟨1, e1, ?_, hM2, rfl, fun z => absurd z (by decide)⟩
    rw [hz (by omega)]
    exact hC
set_option maxHeartbeats 1000000 in
theorem m2_undo {l : Launch} {G : GG} {σ : St} {a : Ab} (hK : AK a) (hC : CL σ (abUn a)) (hM : ML σ a) : CtP l G TX5_undo 1 [.ref (gB G + 94)] σ (fun v τ => v = some (.int (if 0 < aR a then nI (aR a - 1) else 0)) ∧ CL τ (abUn a) ∧ ML τ (abUn a) ∧ thr τ = (if 0 < aR a then (0 : Int32) else 1) ∧ sO τ = sO σ) := by
  have hI := hK.1.1.1
  have ht := hK.1.1.2
  refine (kM_undo hM.1 hM.2.1).mono (fun v τ h => ?_)
  obtain ⟨e1, hf, hp, hz, h9⟩ := h
  refine ⟨e1, hC.fr hf.a2, ?_, h9, sO_mc hf⟩
  unfold abUn
  by_cases g : 0 < aR a
  · rw [if_pos g]
    exact hM.mc hf (hp g).1 (hp g).2
  · rw [if_neg g]
    have hz := hz (by omega)
    exact hM.mc hf hz.1 hz.2
theorem okS_c {x : Int32} : (okS x = false ∧ okI 0 1 x = false) ∨ x = 0 ∨ x = 1 := by
  by_cases h : okS x = true
  · obtain ⟨e, h2⟩ := okS_i h
    rcases (show x.toNatClampNeg = 0 ∨ x.toNatClampNeg = 1 by omega) with q | q
    · rw [q] at e; exact Or.inr (Or.inl e)
    · rw [q] at e; exact Or.inr (Or.inr e)
  · refine Or.inl ⟨Bool.eq_false_iff.mpr h, Bool.eq_false_iff.mpr (fun z => h ?_)⟩
    unfold okI at z
    unfold okS
    simp only [Bool.and_eq_true, decide_eq_true_eq] at z ⊢
    refine ⟨z.1, Int32.lt_iff_toInt_lt.mpr ?_⟩
    have h1 := Int32.le_iff_toInt_le.mp z.2
    have h2 : (1 : Int32).toInt = 1 := by decide
    have h3 : (2 : Int32).toInt = 2 := by decide
    omega
set_option maxHeartbeats 1000000 in
theorem w1_save {l : Launch} {G : GG} {σ : St} {a : Ab} (hK : AK a) {x : Int32} (hC : CL σ a) (hM : ML σ a) : CtX l G TL_save 8 1 6 [.ref (gB G + 0), .int x, .ref (gB G + 99)] σ (fun w τ => ∃ k : Int32, w = .inl (some (.int k)) ∧ CL τ (abSv a x) ∧ ML τ a ∧ k = (if okS x = true then 0 else 1) ∧ (k = 0 → sO τ 0 = (if (!(aB a x.toNatClampNeg)) = true then 1 else 0))) := by
  have hI := hK.1.1.1
  have ht := hK.1.1.2
  obtain ⟨qq, hR⟩ := hC.1
  refine (kW_save hR hI hC.2.2.1).mono (fun w τ h => ?_)
  obtain ⟨υ, ⟨hf, hp, hz⟩, h⟩ := h
  have hM2 := hM.fr hf.a1
  unfold abSv
  cases g : okS x with
  | true =>
    obtain ⟨e1, rfl⟩ := h.1 g
    rw [if_pos rfl]
    exact ⟨0, e1, (hC.svS hf (hp g)).long, hM2.long, rfl, fun _ => sO_at⟩
  | false =>
    obtain ⟨e1, rfl⟩ := h.2 g
    rw [if_neg (by decide)]
    refine ⟨1, e1, ?_, hM2, rfl, fun z => absurd z (by decide)⟩
    rw [hz g]
    exact hC
set_option maxHeartbeats 1000000 in
theorem m2_save {l : Launch} {G : GG} {σ : St} {a : Ab} (hK : AK a) {x : Int32} (hC : CL σ (abSv a x)) (hM : ML σ a) : CtP l G TX5_save 1 [.ref (gB G + 94), .int x] σ (fun v τ => v = some (.int (if okS x = true then bI (!(aB a x.toNatClampNeg)) else 0)) ∧ CL τ (abSv a x) ∧ ML τ (abSv a x) ∧ thr τ = (if okS x = true then 0 else 1) ∧ sO τ = sO σ) := by
  have hI := hK.1.1.1
  have ht := hK.1.1.2
  rcases okS_c (x := x) with ⟨g, g2⟩ | rfl | rfl
  · refine (kM_saveN hM.1 hM.2.2.1 g2).mono (fun v τ h => ?_)
    unfold abSv at hC ⊢
    rw [g] at hC ⊢
    exact ⟨h.1, hC.fr h.2.1.a2, hM.rd h.2.1 h.2.2.1, h.2.2.2, sO_x h.2.1⟩
  · exact (kM_save0 hM.1 hM.2.2.1).mono (fun v τ h => ⟨h.1, hC.fr h.2.1.a2, hM.ms h.2.1 h.2.2.1, h.2.2.2, sO_ms h.2.1⟩)
  · exact (kM_save1 hM.1 hM.2.2.1).mono (fun v τ h => ⟨h.1, hC.fr h.2.1.a2, hM.ms h.2.1 h.2.2.1, h.2.2.2, sO_ms h.2.1⟩)
set_option maxHeartbeats 1000000 in
theorem w1_restore {l : Launch} {G : GG} {σ : St} {a : Ab} (hK : AK a) {x : Int32} (hC : CL σ a) (hM : ML σ a) : CtX l G TL_restore 8 2 12 [.ref (gB G + 0), .int x, .ref (gB G + 99)] σ (fun w τ => ∃ k : Int32, w = .inl (some (.int k)) ∧ CL τ (abRs a x) ∧ ML τ a ∧ k = (if okS x = true then (if aB a x.toNatClampNeg = true then 0 else 2) else 1) ∧ (k = 0 → sO τ 0 = (if (okS x && aB a x.toNatClampNeg) = true then us (aV a x.toNatClampNeg) 3 else 0).toInt64)) := by
  have hI := hK.1.1.1
  have ht := hK.1.1.2
  obtain ⟨qq, hR⟩ := hC.1
  refine (kW_restore hR hC.2.1 hC.2.2.1 hK.1.2.2.1).mono (fun w τ h => ?_)
  obtain ⟨υ, ⟨hf, hp, hz⟩, h⟩ := h
  have hM2 := hM.fr hf.a1
  unfold abRs
  cases g : okS x with
  | false =>
    obtain ⟨e1, rfl⟩ := h.2.1 g
    refine ⟨1, e1, ?_, hM2, rfl, fun z => absurd z (by decide)⟩
    rw [hz (by rw [g]; rfl)]
    exact hC
  | true =>
    cases g2 : aB a x.toNatClampNeg with
    | false =>
      obtain ⟨e1, rfl⟩ := h.2.2 g g2
      refine ⟨2, e1, ?_, hM2, rfl, fun z => absurd z (by decide)⟩
      rw [hz (by rw [g, g2]; rfl)]
      exact hC
    | true =>
      obtain ⟨e1, rfl⟩ := h.1 g g2
      obtain ⟨h1, h2⟩ := hp (by rw [g, g2]; rfl)
      exact ⟨0, e1, (hC.ch hf h1 h2).long, hM2.long, rfl, fun _ => sO_at⟩
set_option maxHeartbeats 1000000 in
theorem m2_restore {l : Launch} {G : GG} {σ : St} {a : Ab} (hK : AK a) {x : Int32} (hC : CL σ (abRs a x)) (hM : ML σ a) : CtP l G TX5_restore 1 [.ref (gB G + 94), .int x] σ (fun v τ => v = some (.int (if (okS x && aB a x.toNatClampNeg) = true then us (aV a x.toNatClampNeg) 3 else 0)) ∧ CL τ (abRs a x) ∧ ML τ (abRs a x) ∧ thr τ = (if okS x = true then (if aB a x.toNatClampNeg = true then 0 else 2) else 1) ∧ sO τ = sO σ) := by
  have hI := hK.1.1.1
  have ht := hK.1.1.2
  rcases okS_c (x := x) with ⟨g, g2⟩ | rfl | rfl
  · refine (kM_restoreN hM.1 g2).mono (fun v τ h => ?_)
    unfold abRs at hC ⊢
    rw [g] at hC ⊢
    exact ⟨h.1, hC.fr h.2.1.a2, hM.rd h.2.1 h.2.2.1, h.2.2.2, sO_x h.2.1⟩
  · refine (kM_restore0 hM.1 hM.2.2.1 hM.2.1).mono (fun v τ h => ?_)
    obtain ⟨e1, hf, hp, hz, h9⟩ := h
    refine ⟨e1, hC.fr hf.a2, ?_, h9, sO_mc hf⟩
    show ML τ (if aB a 0 = true then abW a 0 (aH a) (aV a 0) else a)
    cases g2 : aB a 0 with
    | true => exact hM.mc hf (hp g2).1 (hp g2).2
    | false => exact hM.mc hf (hz g2).1 (hz g2).2
  · refine (kM_restore1 hM.1 hM.2.2.1 hM.2.1).mono (fun v τ h => ?_)
    obtain ⟨e1, hf, hp, hz, h9⟩ := h
    refine ⟨e1, hC.fr hf.a2, ?_, h9, sO_mc hf⟩
    show ML τ (if aB a 1 = true then abW a 0 (aH a) (aV a 1) else a)
    cases g2 : aB a 1 with
    | true => exact hM.mc hf (hp g2).1 (hp g2).2
    | false => exact hM.mc hf (hz g2).1 (hz g2).2
def kxR (r : Er ⊕ PSt) : Int32 := match r with
  | .inl _ => 1
  | .inr _ => 0
def vlR (r : Er ⊕ PSt) (g : PSt → Nat) : Int32 := match r with
  | .inl _ => 0
  | .inr s => nI (g s)
set_option maxHeartbeats 1000000 in
theorem w1_load {l : Launch} {G : GG} {σ : St} {a : Ab} (hK : AK a) (hC : CL σ a) (hM : ML σ a) : CtX l G TL_load 8 1 6 [.ref (gB G + 0), .ref (gB G + 99)] σ (fun w τ => ∃ k : Int32, w = .inl (some (.int k)) ∧ CL τ (ldA a (loadR (aI a))) ∧ ML τ a ∧ k = kxR (loadR (aI a)) ∧ (k = 0 → sO τ 0 = (vlR (loadR (aI a)) (fun s => un s.2.1)).toInt64)) := by
  have hI := hK.1.1.1
  have ht := hK.1.1.2
  obtain ⟨qq, hR⟩ := hC.1
  refine (kW_load hC hK.1 hK.2.1).mono (fun w τ h => ?_)
  obtain ⟨υ, ⟨hf, hC2⟩, h⟩ := h
  have hM2 := hM.fr hf
  cases hr : loadR (aI a) with
  | inl e =>
    rw [hr] at h hC2
    obtain ⟨e1, rfl⟩ := h
    exact ⟨1, e1, hC2, hM2, rfl, fun z => absurd z (by decide)⟩
  | inr s =>
    rw [hr] at h hC2
    obtain ⟨e1, rfl⟩ := h
    exact ⟨0, e1, hC2.long, hM2.long, rfl, fun _ => sO_at⟩
set_option maxHeartbeats 1000000 in
theorem m2_load {l : Launch} {G : GG} {σ : St} {a : Ab} (hK : AK a) (hC : CL σ (ldA a (loadR (aI a)))) (hM : ML σ a) : CtP l G TX5_load 14 [.ref (gB G + 94)] σ (fun v τ => v = some (.int (vlR (loadR (aI a)) (fun s => un s.2.1))) ∧ CL τ (ldA a (loadR (aI a))) ∧ ML τ (ldA a (loadR (aI a))) ∧ thr τ = kxR (loadR (aI a)) ∧ sO τ = sO σ) := by
  have hI := hK.1.1.1
  have ht := hK.1.1.2
  refine (kM_load hM hK.1 rfl hK.2.1).mono (fun v τ h => ?_)
  obtain ⟨hf, hM2, h, hO⟩ := h
  refine ⟨?_, hC.fr hf, hM2, ?_, hO⟩
  · cases hr : loadR (aI a) with
    | inl e => rw [hr] at h; exact h.1
    | inr s => rw [hr] at h; exact h.1
  · cases hr : loadR (aI a) with
    | inl e => rw [hr] at h; exact h.2
    | inr s => rw [hr] at h; exact h.2
set_option maxHeartbeats 1000000 in
theorem w1_play {l : Launch} {G : GG} {σ : St} {a : Ab} (hK : AK a) (hC : CL σ a) (hM : ML σ a) : CtX l G TL_play 8 1 6 [.ref (gB G + 0), .ref (gB G + 99)] σ (fun w τ => ∃ k : Int32, w = .inl (some (.int k)) ∧ CL τ (plA a (playR (aI a) (aU a))) ∧ ML τ a ∧ k = kxR (playR (aI a) (aU a)) ∧ (k = 0 → sO τ 0 = (vlR (playR (aI a) (aU a)) (fun s => s.2.2)).toInt64)) := by
  have hI := hK.1.1.1
  have ht := hK.1.1.2
  obtain ⟨qq, hR⟩ := hC.1
  refine (kW_play hC hK.1 hK.2.1).mono (fun w τ h => ?_)
  obtain ⟨υ, ⟨hf, hC2⟩, h⟩ := h
  have hM2 := hM.fr hf
  cases hr : playR (aI a) (aU a) with
  | inl e =>
    rw [hr] at h hC2
    obtain ⟨e1, rfl⟩ := h
    exact ⟨1, e1, hC2, hM2, rfl, fun z => absurd z (by decide)⟩
  | inr s =>
    rw [hr] at h hC2
    obtain ⟨e1, rfl⟩ := h
    exact ⟨0, e1, hC2.long, hM2.long, rfl, fun _ => sO_at⟩
set_option maxHeartbeats 1000000 in
theorem m2_play {l : Launch} {G : GG} {σ : St} {a : Ab} (hK : AK a) (hC : CL σ (plA a (playR (aI a) (aU a)))) (hM : ML σ a) : CtP l G TX5_play 14 [.ref (gB G + 94)] σ (fun v τ => v = some (.int (vlR (playR (aI a) (aU a)) (fun s => s.2.2))) ∧ CL τ (plA a (playR (aI a) (aU a))) ∧ ML τ (plA a (playR (aI a) (aU a))) ∧ thr τ = kxR (playR (aI a) (aU a)) ∧ sO τ = sO σ) := by
  have hI := hK.1.1.1
  have ht := hK.1.1.2
  refine (kM_play hM hK.1 rfl hK.2.1).mono (fun v τ h => ?_)
  obtain ⟨hf, hM2, h, hO⟩ := h
  refine ⟨?_, hC.fr hf, hM2, ?_, hO⟩
  · cases hr : playR (aI a) (aU a) with
    | inl e => rw [hr] at h; exact h.1
    | inr s => rw [hr] at h; exact h.1
  · cases hr : playR (aI a) (aU a) with
    | inl e => rw [hr] at h; exact h.2
    | inr s => rw [hr] at h; exact h.2
