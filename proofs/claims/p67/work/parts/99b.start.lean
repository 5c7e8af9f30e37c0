/-! the law's entry -/
theorem room_mono {s : State} {pl : Platform} {R R2 : Room} (h : s.hasRoom pl R = true) (hf : R2.frames ≤ R.frames) (hl : R2.locals ≤ R.locals) (hc : R2.cells ≤ R.cells) (hs : R2.slots ≤ R.slots) : s.hasRoom pl R2 = true := by
  simp only [State.hasRoom, Bool.and_eq_true, decide_eq_true_eq] at h ⊢
  obtain ⟨⟨⟨⟨h1, h2, h3, h4, h5, h6⟩, h7⟩, h8⟩, h9⟩ := h
  exact ⟨⟨⟨⟨by omega, by omega, by omega, by omega, by omega, h6⟩, by omega⟩, by omega⟩, h9⟩
theorem W_room {p : Program} {l : Launch} {e : Env} {R R2 : Room} {s : State} {m : MethodId} {args : Array Value} {below : List Frame} {meth : Method} {c : Code} {H : Heap} {locs : List Loc} {cells slots : Nat} {Q : State → Prop} {g : JFrame} (hf : R2.frames ≤ R.frames) (hl : R2.locals ≤ R.locals) (hc : R2.cells ≤ R.cells) (hs : R2.slots ≤ R.slots) (k : W p l e R2 s m args below meth c H locs cells slots Q g) : W p l e R s m args below meth c H locs cells slots Q g := fun T hT X =>
  k T hT ⟨X.admits, X.cas, X.clock, X.frames, room_mono X.room hf hl hc hs, X.hears, X.method, X.code, X.here, X.tail, X.warmed, X.limits, X.bytes, X.same⟩
theorem zR_ok : ∀ j, j < 1 → defaultValue (tyX5 j) = vp_V [.int 0] j := by
  intro j hj
  obtain rfl : j = 0 := by omega
  rfl
theorem XE_nil {G : GG} {H : Heap} : XE G [] H := ⟨fun i p hi => by simp at hi, fun i k p q hi => by simp at hi, fun i p hi => by simp at hi⟩
set_option maxHeartbeats 1000000 in
theorem law_0 {l : Launch} {G : GG} {Q : PE} {p : Program} {e : Env} {s : State} {m : MethodId} {args : Array Value} {below : List Frame} {meth : Method} {c : Code} {ls : Array Slot} (F : FxX l G TL_law p s m args meth c) (hB : gB G = s.heap.size + 1) (hL : gL G ≤ 260) (hQ : ∀ h n E, Q (some (.int 1)) h n E) (hl : lvo ls 17 (L0 [.ref (gb G)] 17)) : W p l e (rmV 10 600086 7301442) s m args below meth c s.heap [] 0 0 (vx_MQ below (QcX G Q) XcX args s 600086 7301442 (FrX G)) (F0 m 0 ls []) := by
  have hKV : KV G s := F.2.2.2.2.2.2.2.2.1
  have hts := F.2.2.2.2.1
  have hci : vwCl[3]? = some ("LiftSchedulerLaw$Random", TX5, 1) := rfl
  have hKn := hKV.1 3 _ hci
  have hS : va_S (FrX G) s.heap s.heap [] := va_S.rf
  refine W.newcK F.1 F.2.1 F.2.2.2.1 (hts _ bw_522) (hts _ bw_523) (hts _ bw_1) rfl dL_law_0 (by decide) (by decide) hKn.2.1 rfl fun H1 kC hkC e1 z1 o1 => ?_
  refine kL_law (w := 0) hL hQ p e s m args below meth c H1 [] ls F hl ⟨Or.inl ⟨?_, Nat.zero_le _⟩, fun k hk => absurd hk (Nat.not_lt_zero k)⟩ ?_ ⟨Nat.le_trans hS.1 (by omega), fun x h1 h2 => (o1 x (Nat.lt_of_lt_of_le h1 hS.1)).trans (hS.2.1 x h1 h2), hS.2.2⟩
  · rw [z1, hB]
  · exact XE_nil.push ⟨_, hci, (u_born tyX5 hts inX5 hKn hkC e1 tyX5_ok).to zR_ok⟩ (Or.inl hB.symm) (Nat.le_refl _) o1
