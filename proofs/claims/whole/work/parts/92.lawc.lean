/-! the law's cases -/
def TL_law : MT := (⟨"LiftSchedulerLaw", "law", "([I)Z"⟩, cL_law, 9, (some .boolean), [(0, 0, 0, 0)])
def LI (G : GG) (i : Nat) : List (Option Value) := [some (.ref (gb G)), some (.ref (gB G + 0)), some (.ref (gB G + 94)), some (.ref (gB G + 99)), some (.int (nI i)), none, none, none, none]
theorem V.wid {l : Launch} {G : GG} {T : MT} {d mc ms ce sl ce2 sl2 pc : Nat} {Q : PQ} {L : List (Option Value)} {st : List Value} {h : HM} {n : Nat} (h1 : ce ≤ ce2) (h2 : sl ≤ sl2) (k : V l G T d mc ms Q ce2 sl2 pc L st h n) : V l G T d mc ms Q ce sl pc L st h n :=
  fun p e s m args below meth c H locs ls F hl hP hS => W.widen h1 h2 (k p e s m args below meth c H locs ls F hl hP hS)
theorem lg_same (x : Int64) : lg_cmp x x = 0 := by
  unfold lg_cmp
  rw [if_neg (Int64.lt_irrefl), if_pos rfl]
theorem Ct.met {l : Launch} {G : GG} {T' : MT} {d' mc' ms' n : Nat} {av : List Value} {h : HM} {Q' : PQ} (hC : Ct l G T' d' mc' ms' av h n Q') (hst : l.stackTraces = false) (hX : ∀ E h2 n2, ¬ Q' (.inr E) h2 n2) : Met l T'.1 (wsT T') (rmV d' mc' ms') (va_Pc av (Sat G h n)) (QcV G Q') mc' ms' (FrA G) := by
  intro p e h1 h2 h3 s m args below h4 h5 h6 h7
  obtain ⟨k, o, a1, a2, a3, a4⟩ := hC hst p e h1 h2 h3 s m args below h4 h5 h6 h7
  refine ⟨k, o, a1, a2, a3, ?_⟩
  rcases a4 with a4 | ⟨y, -, E, ce, L, ⟨⟨hh, n2, -, e2⟩, -⟩, -⟩
  · exact a4
  · exact absurd e2 (hX _ _ _)
/-- a static method with a table of its own, by its words -/
def MWsW (T : MT) (np : Nat) : Prop := (T.1.cls ≠ "java/lang/invoke/MethodHandle" ∧ T.1.cls ≠ "java/lang/invoke/VarHandle") ∧ (parseMethodDescriptor T.1.desc).map (fun d => d.parameters.length) = some np ∧ T.2.2.1 ≤ 19 ∧ Cond.initialized T.1.cls ∈ BW ∧ Cond.codeWith T.1 T.2.1 T.2.2.1 T.2.2.2.1 T.2.2.2.2 ∈ BW ∧ T.2.2.2.2.isEmpty = false ∧ Cond.static T.1 ∈ BW
theorem V.callSW {l : Launch} {G : GG} {T : MT} {d mc ms ce sl pc n2 : Nat} {Q : PQ} {L : List (Option Value)} {st st0 : List Value} {h : HM} {n : Nat} {T' : MT} {np d' mc' ms' idx : Nat} {Q' : PQ} {As : List Value} (hC : Ct l G T' d' mc' ms' As h n Q') (hX : ∀ E h2 n2, ¬ Q' (.inr E) h2 n2) (M : MWsW T' np) (hw : Cond.methodLink T.1.cls idx T'.1 ∈ BW) (hd : decode T.2.1 pc = .ok (.invokestatic idx, 3)) (hst : st0 = As.reverse ++ st)
    (hnp : As.length = np) (h8 : cat8 st = true) (hdd : d' + 1 ≤ d) (hm1 : ce + mc' ≤ mc) (hm2 : sl + ms' ≤ ms) (hq : pc + 3 = n2)
    (kr : ∀ (v : Option Value) (h2 : HM) (n9 : Nat), Q' (.inl v) h2 n9 → V l G T d mc ms Q (ce + mc') (sl + ms') n2 L (v.toList ++ st) h2 n9) : V l G T d mc ms Q ce sl pc L st0 h n := by
  intro p e s m args below meth c H locs ls F hl hP hS
  subst hst
  obtain ⟨hy, hp, h19, hini, hcode, hh, hst9⟩ := M
  have hws : wsT T' = Cond.codeWith T'.1 T'.2.1 T'.2.2.1 T'.2.2.2.1 T'.2.2.2.2 :: BW := by simp [wsT, hh]
  have hm : ∀ w ∈ wsT T', w ∈ BW := by
    rw [hws]
    exact fun w hw => (List.mem_cons.mp hw).elim (fun e => e ▸ hcode) id
  have FF := F.2.2.2.2.1
  refine Run.done F hl hP hS hq (fun T9 hT X => Or.inl (vx_runSW (As := As) (rest := st) (hh := T'.2.2.2.2) ⟨F.1, F.2.1, F.2.2.1, F.2.2.2.1, F.2.2.2.2.1⟩ (hC.met F.2.2.2.2.2.2.2.2.2.2.2.2 hX) ⟨⟨rfl, rfl, (show (rmV d' mc' ms').frames + 1 ≤ (rmV d mc ms).frames from hdd), ?_, fun w hw => pay_bw FF w (hm w hw), by rw [hws]; exact List.mem_cons_self⟩, FF _ hcode, FF _ hini, hy, fun sig hs => ?_, FF _ hw, FF _ hst9⟩ ⟨Sat.blind, fun U hU hW => ⟨rfl, Sat.start F hP hS hU hW⟩⟩ rfl hnp hl.1 rfl (lv_room (of_decide_eq_true h8)) hd ⟨hm1, hm2⟩ T9 hT X)) kr (fun E h2 n9 hQ => absurd hQ (hX _ _ _))
  · show 8 + (T'.2.2.1 + 11) + 38 * d' ≤ 38 * d
    omega
  · rw [hs] at hp
    exact (Option.some.inj hp).symm
theorem V.cStXW {l : Launch} {G : GG} {T : MT} {d mc ms ce sl pc q : Nat} {Q : PQ} {L : List (Option Value)} {st st0 : List Value} {σ : St} {T' : MT} {np d' mc' ms' idx : Nat} {PX : Ans → St → Prop} (As : List Value) (hd : decode T.2.1 pc = .ok (.invokestatic idx, 3)) (hst : st0 = As.reverse ++ st) (hC : CtX l G T' d' mc' ms' As σ PX) (hX : ∀ E τ, ¬ PX (.inr E) τ) (hM : MWsW T' np) (hw : Cond.methodLink T.1.cls idx T'.1 ∈ BW) (hnp : As.length = np) (h8 : cat8 st = true) (hdd : d' + 1 ≤ d) (hq : pc + 3 = q) (hm1 : ce + mc' ≤ mc) (hm2 : sl + ms' ≤ ms) (kk : ∀ (v : Option Value) (τ : St), PX (.inl v) τ → V l G T d mc ms Q (ce + mc') (sl + ms') q L (v.toList ++ st) (hof G τ) NC) : V l G T d mc ms Q ce sl pc L st0 (hof G σ) NC := by
  refine V.callSW hC (fun E h2 n2 hQ => ?_) hM hw hd hst hnp h8 hdd hm1 hm2 hq (fun v2 h2 n2 hQ => ?_)
  · obtain ⟨τ, -, -, hp⟩ := hQ
    exact hX _ _ hp
  · obtain ⟨τ, rfl, rfl, hp⟩ := hQ
    exact kk _ τ hp
theorem nI_k (i k : Nat) : nI i + nI k = nI (i + k) := nI_add i k
theorem ML_load : MWsW TL_load 2 := ⟨⟨by decide +kernel, by decide +kernel⟩, by decide +kernel, by decide, bw_0, bw_461, rfl, bw_460⟩
theorem ML_play : MWsW TL_play 2 := ⟨⟨by decide +kernel, by decide +kernel⟩, by decide +kernel, by decide, bw_0, bw_736, rfl, bw_735⟩
theorem ML_targetBy : MWsW TL_targetBy 3 := ⟨⟨by decide +kernel, by decide +kernel⟩, by decide +kernel, by decide, bw_0, bw_744, rfl, bw_743⟩
theorem ML_statusOf : MWsW TL_statusOf 3 := ⟨⟨by decide +kernel, by decide +kernel⟩, by decide +kernel, by decide, bw_0, bw_757, rfl, bw_756⟩
theorem ML_originOf : MWsW TL_originOf 3 := ⟨⟨by decide +kernel, by decide +kernel⟩, by decide +kernel, by decide, bw_0, bw_785, rfl, bw_784⟩
theorem ML_destinationOf : MWsW TL_destinationOf 3 := ⟨⟨by decide +kernel, by decide +kernel⟩, by decide +kernel, by decide, bw_0, bw_792, rfl, bw_791⟩
theorem ML_arrivalOf : MWsW TL_arrivalOf 3 := ⟨⟨by decide +kernel, by decide +kernel⟩, by decide +kernel, by decide, bw_0, bw_799, rfl, bw_798⟩
theorem ML_boardedAt : MWsW TL_boardedAt 3 := ⟨⟨by decide +kernel, by decide +kernel⟩, by decide +kernel, by decide, bw_0, bw_806, rfl, bw_805⟩
theorem ML_leftAt : MWsW TL_leftAt 3 := ⟨⟨by decide +kernel, by decide +kernel⟩, by decide +kernel, by decide, bw_0, bw_813, rfl, bw_812⟩
theorem ML_waitOf : MWsW TL_waitOf 3 := ⟨⟨by decide +kernel, by decide +kernel⟩, by decide +kernel, by decide, bw_0, bw_820, rfl, bw_819⟩
theorem ML_rideOf : MWsW TL_rideOf 3 := ⟨⟨by decide +kernel, by decide +kernel⟩, by decide +kernel, by decide, bw_0, bw_828, rfl, bw_827⟩
theorem ML_detourOf : MWsW TL_detourOf 3 := ⟨⟨by decide +kernel, by decide +kernel⟩, by decide +kernel, by decide, bw_0, bw_835, rfl, bw_834⟩
theorem ML_countStatus : MWsW TL_countStatus 3 := ⟨⟨by decide +kernel, by decide +kernel⟩, by decide +kernel, by decide, bw_0, bw_845, rfl, bw_844⟩
theorem ML_waitingAt : MWsW TL_waitingAt 3 := ⟨⟨by decide +kernel, by decide +kernel⟩, by decide +kernel, by decide, bw_0, bw_854, rfl, bw_853⟩
theorem ML_queueAt : MWsW TL_queueAt 4 := ⟨⟨by decide +kernel, by decide +kernel⟩, by decide +kernel, by decide, bw_0, bw_866, rfl, bw_865⟩
theorem ML_ridingTo : MWsW TL_ridingTo 3 := ⟨⟨by decide +kernel, by decide +kernel⟩, by decide +kernel, by decide, bw_0, bw_873, rfl, bw_872⟩
theorem ML_passengersBetween : MWsW TL_passengersBetween 4 := ⟨⟨by decide +kernel, by decide +kernel⟩, by decide +kernel, by decide, bw_0, bw_880, rfl, bw_879⟩
theorem ML_ticksWithPolicy : MWsW TL_ticksWithPolicy 3 := ⟨⟨by decide +kernel, by decide +kernel⟩, by decide +kernel, by decide, bw_0, bw_887, rfl, bw_886⟩
theorem ML_waitWithPolicy : MWsW TL_waitWithPolicy 3 := ⟨⟨by decide +kernel, by decide +kernel⟩, by decide +kernel, by decide, bw_0, bw_894, rfl, bw_893⟩
theorem ML_longestWaitWithPolicy : MWsW TL_longestWaitWithPolicy 3 := ⟨⟨by decide +kernel, by decide +kernel⟩, by decide +kernel, by decide, bw_0, bw_901, rfl, bw_900⟩
theorem ML_ticksWithCapacity : MWsW TL_ticksWithCapacity 3 := ⟨⟨by decide +kernel, by decide +kernel⟩, by decide +kernel, by decide, bw_0, bw_908, rfl, bw_907⟩
theorem ML_expectedAt : MWsW TL_expectedAt 3 := ⟨⟨by decide +kernel, by decide +kernel⟩, by decide +kernel, by decide, bw_0, bw_937, rfl, bw_936⟩
theorem ML_addPassenger : MWsW TL_addPassenger 5 := ⟨⟨by decide +kernel, by decide +kernel⟩, by decide +kernel, by decide, bw_0, bw_944, rfl, bw_943⟩
theorem ML_run : MWsW TL_run 3 := ⟨⟨by decide +kernel, by decide +kernel⟩, by decide +kernel, by decide, bw_0, bw_955, rfl, bw_954⟩
theorem ML_setPolicy : MWsW TL_setPolicy 3 := ⟨⟨by decide +kernel, by decide +kernel⟩, by decide +kernel, by decide, bw_0, bw_965, rfl, bw_964⟩
theorem ML_setCapacity : MWsW TL_setCapacity 3 := ⟨⟨by decide +kernel, by decide +kernel⟩, by decide +kernel, by decide, bw_0, bw_972, rfl, bw_971⟩
theorem ML_undo : MWsW TL_undo 2 := ⟨⟨by decide +kernel, by decide +kernel⟩, by decide +kernel, by decide, bw_0, bw_979, rfl, bw_978⟩
theorem ML_save : MWsW TL_save 3 := ⟨⟨by decide +kernel, by decide +kernel⟩, by decide +kernel, by decide, bw_0, bw_987, rfl, bw_986⟩
theorem ML_restore : MWsW TL_restore 3 := ⟨⟨by decide +kernel, by decide +kernel⟩, by decide +kernel, by decide, bw_0, bw_999, rfl, bw_998⟩
set_option maxHeartbeats 2000000 in
theorem kC_0 {l : Launch} {G : GG} {σ : St} {a : Ab} {Q : PQ} (hK : AK a) (hC : CL σ a) (hM : ML σ a) {i : Nat} (hi : i + 6 ≤ gL G) (hL : gL G ≤ 3072) {mc ms ce sl : Nat} (hce : ce + 3 ≤ mc) (hsl : sl + 18 ≤ ms) (next : ∀ τ a2, AK a2 → CL τ a2 → ML τ a2 → V l G TL_law 17 mc ms Q (ce + 3) (sl + 18) 2552 (LI G i) [] (hof G τ) NC) : V l G TL_law 17 mc ms Q ce sl 312 (LI G i) [] (hof G σ) NC := by
  have hI := hK.1.1.1
  have ht := hK.1.1.2
  have hL31 : gL G < 2 ^ 31 := by omega
  refine V.aload_n (q := 313) dL_law_312 rfl rfl ?_
  refine V.aload_n (q := 314) dL_law_313 rfl rfl ?_
  refine V.iload (q := 316) dL_law_314 rfl rfl ?_
  refine V.iconst (q := 317) dL_law_316 (v := 1) rfl rfl ?_
  refine V.iadd (q := 318) dL_law_317 rfl ?_
  refine V.sld (q := 319) dL_law_318 (i := i + 1) (by omega) hL31 (nI_k i 1) rfl ?_
  refine V.aload_n (q := 320) dL_law_319 rfl rfl ?_
  refine V.iload (q := 322) dL_law_320 rfl rfl ?_
  refine V.iconst (q := 323) dL_law_322 (v := 2) rfl rfl ?_
  refine V.iadd (q := 324) dL_law_323 rfl ?_
  refine V.sld (q := 325) dL_law_324 (i := i + 2) (by omega) hL31 (nI_k i 2) rfl ?_
  refine V.aload_n (q := 326) dL_law_325 rfl rfl ?_
  refine V.iload (q := 328) dL_law_326 rfl rfl ?_
  refine V.iconst (q := 329) dL_law_328 (v := 3) rfl rfl ?_
  refine V.iadd (q := 330) dL_law_329 rfl ?_
  refine V.sld (q := 331) dL_law_330 (i := i + 3) (by omega) hL31 (nI_k i 3) rfl ?_
  refine V.aload_n (q := 332) dL_law_331 rfl rfl ?_
  refine V.iload (q := 334) dL_law_332 rfl rfl ?_
  refine V.iconst (q := 335) dL_law_334 (v := 4) rfl rfl ?_
  refine V.iadd (q := 336) dL_law_335 rfl ?_
  refine V.sld (q := 337) dL_law_336 (i := i + 4) (by omega) hL31 (nI_k i 4) rfl ?_
  refine V.aload_n (q := 338) dL_law_337 rfl rfl ?_
  refine V.iload (q := 340) dL_law_338 rfl rfl ?_
  refine V.iconst (q := 341) dL_law_340 (v := 5) rfl rfl ?_
  refine V.iadd (q := 342) dL_law_341 rfl ?_
  refine V.sld (q := 343) dL_law_342 (i := i + 5) (by omega) hL31 (nI_k i 5) rfl ?_
  refine V.cVLP (q := 346) (As := [_, _, _, _, _]) dL_law_343 rfl (c1_append hK hC hM) MX4_append bw_205 rfl rfl rfl rfl (by decide) rfl (fun v1 τ1 h1 => ?_)
  obtain ⟨rfl, hC, hM⟩ := h1
  refine V.aload_n (q := 347) dL_law_346 rfl rfl ?_
  refine V.aload_n (q := 348) dL_law_347 rfl rfl ?_
  refine V.iload (q := 350) dL_law_348 rfl rfl ?_
  refine V.iconst (q := 351) dL_law_350 (v := 1) rfl rfl ?_
  refine V.iadd (q := 352) dL_law_351 rfl ?_
  refine V.sld (q := 353) dL_law_352 (i := i + 1) (by omega) hL31 (nI_k i 1) rfl ?_
  refine V.aload_n (q := 354) dL_law_353 rfl rfl ?_
  refine V.iload (q := 356) dL_law_354 rfl rfl ?_
  refine V.iconst (q := 357) dL_law_356 (v := 2) rfl rfl ?_
  refine V.iadd (q := 358) dL_law_357 rfl ?_
  refine V.sld (q := 359) dL_law_358 (i := i + 2) (by omega) hL31 (nI_k i 2) rfl ?_
  refine V.aload_n (q := 360) dL_law_359 rfl rfl ?_
  refine V.iload (q := 362) dL_law_360 rfl rfl ?_
  refine V.iconst (q := 363) dL_law_362 (v := 3) rfl rfl ?_
  refine V.iadd (q := 364) dL_law_363 rfl ?_
  refine V.sld (q := 365) dL_law_364 (i := i + 3) (by omega) hL31 (nI_k i 3) rfl ?_
  refine V.aload_n (q := 366) dL_law_365 rfl rfl ?_
  refine V.iload (q := 368) dL_law_366 rfl rfl ?_
  refine V.iconst (q := 369) dL_law_368 (v := 4) rfl rfl ?_
  refine V.iadd (q := 370) dL_law_369 rfl ?_
  refine V.sld (q := 371) dL_law_370 (i := i + 4) (by omega) hL31 (nI_k i 4) rfl ?_
  refine V.aload_n (q := 372) dL_law_371 rfl rfl ?_
  refine V.iload (q := 374) dL_law_372 rfl rfl ?_
  refine V.iconst (q := 375) dL_law_374 (v := 5) rfl rfl ?_
  refine V.iadd (q := 376) dL_law_375 rfl ?_
  refine V.sld (q := 377) dL_law_376 (i := i + 5) (by omega) hL31 (nI_k i 5) rfl ?_
  refine V.cVMP (q := 380) (As := [_, _, _, _, _]) dL_law_377 rfl (c2_append hK hC hM) MX5_append bw_1064 rfl rfl rfl rfl (by decide) rfl (fun v2 τ2 h2 => ?_)
  obtain ⟨rfl, hC, hM⟩ := h2
  refine V.icmp_eq (tgt := 2552) (q := 383) dL_law_380 (by decide) rfl (fun c380 => ?_) (fun c380 => ?_)
  · refine V.wid (ce2 := ce + 3) (sl2 := sl + 18) (by omega) (by omega) (V.less (L2 := LI G i) ⟨Or.inr rfl, Or.inr rfl, Or.inr rfl, Or.inr rfl, Or.inr rfl, Or.inl rfl, Or.inl rfl, Or.inl rfl, Or.inl rfl, trivial⟩ (next _ _ hK.ap hC hM))
  · exact absurd rfl c380
set_option maxHeartbeats 2000000 in
theorem kC_1 {l : Launch} {G : GG} {σ : St} {a : Ab} {Q : PQ} (hK : AK a) (hC : CL σ a) (hM : ML σ a) {i : Nat} (hi : i + 6 ≤ gL G) (hL : gL G ≤ 3072) {mc ms ce sl : Nat} (hce : ce + 3 ≤ mc) (hsl : sl + 18 ≤ ms) (next : ∀ τ a2, AK a2 → CL τ a2 → ML τ a2 → V l G TL_law 17 mc ms Q (ce + 3) (sl + 18) 2552 (LI G i) [] (hof G τ) NC) : V l G TL_law 17 mc ms Q ce sl 385 (LI G i) [] (hof G σ) NC := by
  have hI := hK.1.1.1
  have ht := hK.1.1.2
  have hL31 : gL G < 2 ^ 31 := by omega
  refine V.aload_n (q := 386) dL_law_385 rfl rfl ?_
  refine V.aload_n (q := 387) dL_law_386 rfl rfl ?_
  refine V.iload (q := 389) dL_law_387 rfl rfl ?_
  refine V.iconst (q := 390) dL_law_389 (v := 1) rfl rfl ?_
  refine V.iadd (q := 391) dL_law_390 rfl ?_
  refine V.sld (q := 392) dL_law_391 (i := i + 1) (by omega) hL31 (nI_k i 1) rfl ?_
  refine V.cVLP (q := 395) (As := [_]) dL_law_392 rfl (c1_truncate hK hC hM) MX4_truncate bw_213 rfl rfl rfl rfl (by decide) rfl (fun v1 τ1 h1 => ?_)
  obtain ⟨rfl, hC, hM⟩ := h1
  refine V.aload_n (q := 396) dL_law_395 rfl rfl ?_
  refine V.aload_n (q := 397) dL_law_396 rfl rfl ?_
  refine V.iload (q := 399) dL_law_397 rfl rfl ?_
  refine V.iconst (q := 400) dL_law_399 (v := 1) rfl rfl ?_
  refine V.iadd (q := 401) dL_law_400 rfl ?_
  refine V.sld (q := 402) dL_law_401 (i := i + 1) (by omega) hL31 (nI_k i 1) rfl ?_
  refine V.cVMP (q := 405) (As := [_]) dL_law_402 rfl (c2_truncate hK hC hM) MX5_truncate bw_1068 rfl rfl rfl rfl (by decide) rfl (fun v2 τ2 h2 => ?_)
  obtain ⟨rfl, hC, hM⟩ := h2
  refine V.icmp_eq (tgt := 2552) (q := 408) dL_law_405 (by decide) rfl (fun c405 => ?_) (fun c405 => ?_)
  · refine V.wid (ce2 := ce + 3) (sl2 := sl + 18) (by omega) (by omega) (V.less (L2 := LI G i) ⟨Or.inr rfl, Or.inr rfl, Or.inr rfl, Or.inr rfl, Or.inr rfl, Or.inl rfl, Or.inl rfl, Or.inl rfl, Or.inl rfl, trivial⟩ (next _ _ hK.tr hC hM))
  · exact absurd rfl c405
set_option maxHeartbeats 2000000 in
theorem kC_2 {l : Launch} {G : GG} {σ : St} {a : Ab} {Q : PQ} (hK : AK a) (hC : CL σ a) (hM : ML σ a) {i : Nat} (hi : i + 6 ≤ gL G) (hL : gL G ≤ 3072) {mc ms ce sl : Nat} (hce : ce + 3 ≤ mc) (hsl : sl + 18 ≤ ms) (next : ∀ τ a2, AK a2 → CL τ a2 → ML τ a2 → V l G TL_law 17 mc ms Q (ce + 3) (sl + 18) 2552 (LI G i) [] (hof G τ) NC) : V l G TL_law 17 mc ms Q ce sl 410 (LI G i) [] (hof G σ) NC := by
  have hI := hK.1.1.1
  have ht := hK.1.1.2
  have hL31 : gL G < 2 ^ 31 := by omega
  refine V.aload_n (q := 411) dL_law_410 rfl rfl ?_
  refine V.aload_n (q := 412) dL_law_411 rfl rfl ?_
  refine V.cStXW (q := 415) (As := [_, _]) dL_law_412 rfl (w1_load hK hC hM) (fun E9 τ9 ⟨k9, e9, _⟩ => nomatch e9) ML_load bw_459 rfl rfl (by decide) rfl (by omega) (by omega) (fun v1 τ1 h1 => ?_)
  obtain ⟨k, e1, hC, hM, hk, hv⟩ := h1
  cases e1
  refine V.istore (q := 417) dL_law_415 rfl rfl rfl ?_
  refine V.aload_n (q := 418) dL_law_417 rfl rfl ?_
  refine V.cVMP (q := 421) (As := []) dL_law_418 rfl (m2_load hK hC hM) MX5_load bw_1072 rfl rfl rfl rfl (by decide) rfl (fun v2 τ2 h2 => ?_)
  obtain ⟨rfl, hC, hM, ht2, hO2⟩ := h2
  refine V.istore (q := 423) dL_law_421 rfl rfl rfl ?_
  refine V.aload_n (q := 424) dL_law_423 rfl rfl ?_
  refine V.cVM (q := 427) dL_law_424 (As := []) rfl kM_thrown MX5_thrown bw_1060 rfl rfl rfl rfl (by decide) rfl ?_
  rw [ht2]
  refine V.iload (q := 429) dL_law_427 rfl rfl ?_
  refine V.icmp_eq (tgt := 434) (q := 432) dL_law_429 (by decide) rfl (fun c429 => ?_) (fun c429 => ?_)
  · refine V.iload (q := 436) dL_law_434 rfl rfl ?_
    refine V.if_ne (tgt := 451) (q := 439) dL_law_436 (by decide) rfl (fun c436 => ?_) (fun c436 => ?_)
    · refine V.goto (tgt := 2552) dL_law_451 (by decide) ?_
      refine V.wid (ce2 := ce + 3) (sl2 := sl + 18) (by omega) (by omega) (V.less (L2 := LI G i) ⟨Or.inr rfl, Or.inr rfl, Or.inr rfl, Or.inr rfl, Or.inr rfl, Or.inl rfl, Or.inl rfl, Or.inl rfl, Or.inl rfl, trivial⟩ (next _ _ hK.ld hC hM))
    · refine V.aload_n (q := 440) dL_law_439 rfl rfl ?_
      refine V.iconst (q := 441) dL_law_440 (v := 0) rfl rfl ?_
      refine V.ld16 (q := 442) dL_law_441 (i := 0)  rfl (by decide) rfl ?_
      rw [(congrFun hO2 0).trans (hv c436)]
      refine V.iload (q := 444) dL_law_442 rfl rfl ?_
      refine V.i2l (q := 445) dL_law_444 rfl ?_
      refine V.lcmp (q := 446) dL_law_445 rfl ?_
      rw [lg_same]
      refine V.if_eq (tgt := 451) (q := 449) dL_law_446 (by decide) rfl (fun c446 => ?_) (fun c446 => ?_)
      · refine V.goto (tgt := 2552) dL_law_451 (by decide) ?_
        refine V.wid (ce2 := ce + 3) (sl2 := sl + 18) (by omega) (by omega) (V.less (L2 := LI G i) ⟨Or.inr rfl, Or.inr rfl, Or.inr rfl, Or.inr rfl, Or.inr rfl, Or.inl rfl, Or.inl rfl, Or.inl rfl, Or.inl rfl, trivial⟩ (next _ _ hK.ld hC hM))
      · exact absurd rfl c446
  · exact absurd hk.symm c429
set_option maxHeartbeats 2000000 in
theorem kC_3 {l : Launch} {G : GG} {σ : St} {a : Ab} {Q : PQ} (hK : AK a) (hC : CL σ a) (hM : ML σ a) {i : Nat} (hi : i + 6 ≤ gL G) (hL : gL G ≤ 3072) {mc ms ce sl : Nat} (hce : ce + 3 ≤ mc) (hsl : sl + 18 ≤ ms) (next : ∀ τ a2, AK a2 → CL τ a2 → ML τ a2 → V l G TL_law 17 mc ms Q (ce + 3) (sl + 18) 2552 (LI G i) [] (hof G τ) NC) : V l G TL_law 17 mc ms Q ce sl 454 (LI G i) [] (hof G σ) NC := by
  have hI := hK.1.1.1
  have ht := hK.1.1.2
  have hL31 : gL G < 2 ^ 31 := by omega
  refine V.aload_n (q := 455) dL_law_454 rfl rfl ?_
  refine V.aload_n (q := 456) dL_law_455 rfl rfl ?_
  refine V.cStXW (q := 459) (As := [_, _]) dL_law_456 rfl (w1_play hK hC hM) (fun E9 τ9 ⟨k9, e9, _⟩ => nomatch e9) ML_play bw_734 rfl rfl (by decide) rfl (by omega) (by omega) (fun v1 τ1 h1 => ?_)
  obtain ⟨k, e1, hC, hM, hk, hv⟩ := h1
  cases e1
  refine V.istore (q := 461) dL_law_459 rfl rfl rfl ?_
  refine V.aload_n (q := 462) dL_law_461 rfl rfl ?_
  refine V.cVMP (q := 465) (As := []) dL_law_462 rfl (m2_play hK hC hM) MX5_play bw_1295 rfl rfl rfl rfl (by decide) rfl (fun v2 τ2 h2 => ?_)
  obtain ⟨rfl, hC, hM, ht2, hO2⟩ := h2
  refine V.istore (q := 467) dL_law_465 rfl rfl rfl ?_
  refine V.aload_n (q := 468) dL_law_467 rfl rfl ?_
  refine V.cVM (q := 471) dL_law_468 (As := []) rfl kM_thrown MX5_thrown bw_1060 rfl rfl rfl rfl (by decide) rfl ?_
  rw [ht2]
  refine V.iload (q := 473) dL_law_471 rfl rfl ?_
  refine V.icmp_eq (tgt := 478) (q := 476) dL_law_473 (by decide) rfl (fun c473 => ?_) (fun c473 => ?_)
  · refine V.iload (q := 480) dL_law_478 rfl rfl ?_
    refine V.if_ne (tgt := 495) (q := 483) dL_law_480 (by decide) rfl (fun c480 => ?_) (fun c480 => ?_)
    · refine V.goto (tgt := 2552) dL_law_495 (by decide) ?_
      refine V.wid (ce2 := ce + 3) (sl2 := sl + 18) (by omega) (by omega) (V.less (L2 := LI G i) ⟨Or.inr rfl, Or.inr rfl, Or.inr rfl, Or.inr rfl, Or.inr rfl, Or.inl rfl, Or.inl rfl, Or.inl rfl, Or.inl rfl, trivial⟩ (next _ _ hK.pl hC hM))
    · refine V.aload_n (q := 484) dL_law_483 rfl rfl ?_
      refine V.iconst (q := 485) dL_law_484 (v := 0) rfl rfl ?_
      refine V.ld16 (q := 486) dL_law_485 (i := 0)  rfl (by decide) rfl ?_
      rw [(congrFun hO2 0).trans (hv c480)]
      refine V.iload (q := 488) dL_law_486 rfl rfl ?_
      refine V.i2l (q := 489) dL_law_488 rfl ?_
      refine V.lcmp (q := 490) dL_law_489 rfl ?_
      rw [lg_same]
      refine V.if_eq (tgt := 495) (q := 493) dL_law_490 (by decide) rfl (fun c490 => ?_) (fun c490 => ?_)
      · refine V.goto (tgt := 2552) dL_law_495 (by decide) ?_
        refine V.wid (ce2 := ce + 3) (sl2 := sl + 18) (by omega) (by omega) (V.less (L2 := LI G i) ⟨Or.inr rfl, Or.inr rfl, Or.inr rfl, Or.inr rfl, Or.inr rfl, Or.inl rfl, Or.inl rfl, Or.inl rfl, Or.inl rfl, trivial⟩ (next _ _ hK.pl hC hM))
      · exact absurd rfl c490
  · exact absurd hk.symm c473
set_option maxHeartbeats 2000000 in
theorem kC_4 {l : Launch} {G : GG} {σ : St} {a : Ab} {Q : PQ} (hK : AK a) (hC : CL σ a) (hM : ML σ a) {i : Nat} (hi : i + 6 ≤ gL G) (hL : gL G ≤ 3072) {mc ms ce sl : Nat} (hce : ce + 3 ≤ mc) (hsl : sl + 18 ≤ ms) (next : ∀ τ a2, AK a2 → CL τ a2 → ML τ a2 → V l G TL_law 17 mc ms Q (ce + 3) (sl + 18) 2552 (LI G i) [] (hof G τ) NC) : V l G TL_law 17 mc ms Q ce sl 498 (LI G i) [] (hof G σ) NC := by
  have hI := hK.1.1.1
  have ht := hK.1.1.2
  have hL31 : gL G < 2 ^ 31 := by omega
  refine V.aload_n (q := 499) dL_law_498 rfl rfl ?_
  refine V.cVLP (q := 502) (As := []) dL_law_499 rfl (c1_parseError hK hC hM) MX4_parseError bw_217 rfl rfl rfl rfl (by decide) rfl (fun v1 τ1 h1 => ?_)
  obtain ⟨rfl, hC, hM⟩ := h1
  refine V.aload_n (q := 503) dL_law_502 rfl rfl ?_
  refine V.cVMP (q := 506) (As := []) dL_law_503 rfl (c2_parseError hK hC hM) MX5_parseError bw_1303 rfl rfl rfl rfl (by decide) rfl (fun v2 τ2 h2 => ?_)
  obtain ⟨rfl, hC, hM⟩ := h2
  refine V.icmp_eq (tgt := 2552) (q := 509) dL_law_506 (by decide) rfl (fun c506 => ?_) (fun c506 => ?_)
  · refine V.wid (ce2 := ce + 3) (sl2 := sl + 18) (by omega) (by omega) (V.less (L2 := LI G i) ⟨Or.inr rfl, Or.inr rfl, Or.inr rfl, Or.inr rfl, Or.inr rfl, Or.inl rfl, Or.inl rfl, Or.inl rfl, Or.inl rfl, trivial⟩ (next _ _ hK hC hM))
  · exact absurd rfl c506
set_option maxHeartbeats 2000000 in
theorem kC_5 {l : Launch} {G : GG} {σ : St} {a : Ab} {Q : PQ} (hK : AK a) (hC : CL σ a) (hM : ML σ a) {i : Nat} (hi : i + 6 ≤ gL G) (hL : gL G ≤ 3072) {mc ms ce sl : Nat} (hce : ce + 3 ≤ mc) (hsl : sl + 18 ≤ ms) (next : ∀ τ a2, AK a2 → CL τ a2 → ML τ a2 → V l G TL_law 17 mc ms Q (ce + 3) (sl + 18) 2552 (LI G i) [] (hof G τ) NC) : V l G TL_law 17 mc ms Q ce sl 511 (LI G i) [] (hof G σ) NC := by
  have hI := hK.1.1.1
  have ht := hK.1.1.2
  have hL31 : gL G < 2 ^ 31 := by omega
  refine V.aload_n (q := 512) dL_law_511 rfl rfl ?_
  refine V.cVLP (q := 515) (As := []) dL_law_512 rfl (c1_parseErrorPosition hK hC hM) MX4_parseErrorPosition bw_221 rfl rfl rfl rfl (by decide) rfl (fun v1 τ1 h1 => ?_)
  obtain ⟨rfl, hC, hM⟩ := h1
  refine V.aload_n (q := 516) dL_law_515 rfl rfl ?_
  refine V.cVMP (q := 519) (As := []) dL_law_516 rfl (c2_parseErrorPosition hK hC hM) MX5_parseErrorPosition bw_1307 rfl rfl rfl rfl (by decide) rfl (fun v2 τ2 h2 => ?_)
  obtain ⟨rfl, hC, hM⟩ := h2
  refine V.icmp_eq (tgt := 2552) (q := 522) dL_law_519 (by decide) rfl (fun c519 => ?_) (fun c519 => ?_)
  · refine V.wid (ce2 := ce + 3) (sl2 := sl + 18) (by omega) (by omega) (V.less (L2 := LI G i) ⟨Or.inr rfl, Or.inr rfl, Or.inr rfl, Or.inr rfl, Or.inr rfl, Or.inl rfl, Or.inl rfl, Or.inl rfl, Or.inl rfl, trivial⟩ (next _ _ hK hC hM))
  · exact absurd rfl c519
set_option maxHeartbeats 2000000 in
theorem kC_6 {l : Launch} {G : GG} {σ : St} {a : Ab} {Q : PQ} (hK : AK a) (hC : CL σ a) (hM : ML σ a) {i : Nat} (hi : i + 6 ≤ gL G) (hL : gL G ≤ 3072) {mc ms ce sl : Nat} (hce : ce + 3 ≤ mc) (hsl : sl + 18 ≤ ms) (next : ∀ τ a2, AK a2 → CL τ a2 → ML τ a2 → V l G TL_law 17 mc ms Q (ce + 3) (sl + 18) 2552 (LI G i) [] (hof G τ) NC) : V l G TL_law 17 mc ms Q ce sl 524 (LI G i) [] (hof G σ) NC := by
  have hI := hK.1.1.1
  have ht := hK.1.1.2
  have hL31 : gL G < 2 ^ 31 := by omega
  refine V.aload_n (q := 525) dL_law_524 rfl rfl ?_
  refine V.cVLP (q := 528) (As := []) dL_law_525 rfl (c1_floorCount hK hC hM) MX4_floorCount bw_225 rfl rfl rfl rfl (by decide) rfl (fun v1 τ1 h1 => ?_)
  obtain ⟨rfl, hC, hM⟩ := h1
  refine V.aload_n (q := 529) dL_law_528 rfl rfl ?_
  refine V.cVMP (q := 532) (As := []) dL_law_529 rfl (c2_floorCount hK hC hM) MX5_floorCount bw_1311 rfl rfl rfl rfl (by decide) rfl (fun v2 τ2 h2 => ?_)
  obtain ⟨rfl, hC, hM⟩ := h2
  refine V.icmp_eq (tgt := 2552) (q := 535) dL_law_532 (by decide) rfl (fun c532 => ?_) (fun c532 => ?_)
  · refine V.wid (ce2 := ce + 3) (sl2 := sl + 18) (by omega) (by omega) (V.less (L2 := LI G i) ⟨Or.inr rfl, Or.inr rfl, Or.inr rfl, Or.inr rfl, Or.inr rfl, Or.inl rfl, Or.inl rfl, Or.inl rfl, Or.inl rfl, trivial⟩ (next _ _ hK hC hM))
  · exact absurd rfl c532
set_option maxHeartbeats 2000000 in
theorem kC_7 {l : Launch} {G : GG} {σ : St} {a : Ab} {Q : PQ} (hK : AK a) (hC : CL σ a) (hM : ML σ a) {i : Nat} (hi : i + 6 ≤ gL G) (hL : gL G ≤ 3072) {mc ms ce sl : Nat} (hce : ce + 3 ≤ mc) (hsl : sl + 18 ≤ ms) (next : ∀ τ a2, AK a2 → CL τ a2 → ML τ a2 → V l G TL_law 17 mc ms Q (ce + 3) (sl + 18) 2552 (LI G i) [] (hof G τ) NC) : V l G TL_law 17 mc ms Q ce sl 537 (LI G i) [] (hof G σ) NC := by
  have hI := hK.1.1.1
  have ht := hK.1.1.2
  have hL31 : gL G < 2 ^ 31 := by omega
  refine V.aload_n (q := 538) dL_law_537 rfl rfl ?_
  refine V.cVLP (q := 541) (As := []) dL_law_538 rfl (c1_capacity hK hC hM) MX4_capacity bw_229 rfl rfl rfl rfl (by decide) rfl (fun v1 τ1 h1 => ?_)
  obtain ⟨rfl, hC, hM⟩ := h1
  refine V.aload_n (q := 542) dL_law_541 rfl rfl ?_
  refine V.cVMP (q := 545) (As := []) dL_law_542 rfl (c2_capacity hK hC hM) MX5_capacity bw_1315 rfl rfl rfl rfl (by decide) rfl (fun v2 τ2 h2 => ?_)
  obtain ⟨rfl, hC, hM⟩ := h2
  refine V.icmp_eq (tgt := 2552) (q := 548) dL_law_545 (by decide) rfl (fun c545 => ?_) (fun c545 => ?_)
  · refine V.wid (ce2 := ce + 3) (sl2 := sl + 18) (by omega) (by omega) (V.less (L2 := LI G i) ⟨Or.inr rfl, Or.inr rfl, Or.inr rfl, Or.inr rfl, Or.inr rfl, Or.inl rfl, Or.inl rfl, Or.inl rfl, Or.inl rfl, trivial⟩ (next _ _ hK hC hM))
  · exact absurd rfl c545
set_option maxHeartbeats 2000000 in
theorem kC_8 {l : Launch} {G : GG} {σ : St} {a : Ab} {Q : PQ} (hK : AK a) (hC : CL σ a) (hM : ML σ a) {i : Nat} (hi : i + 6 ≤ gL G) (hL : gL G ≤ 3072) {mc ms ce sl : Nat} (hce : ce + 3 ≤ mc) (hsl : sl + 18 ≤ ms) (next : ∀ τ a2, AK a2 → CL τ a2 → ML τ a2 → V l G TL_law 17 mc ms Q (ce + 3) (sl + 18) 2552 (LI G i) [] (hof G τ) NC) : V l G TL_law 17 mc ms Q ce sl 550 (LI G i) [] (hof G σ) NC := by
  have hI := hK.1.1.1
  have ht := hK.1.1.2
  have hL31 : gL G < 2 ^ 31 := by omega
  refine V.aload_n (q := 551) dL_law_550 rfl rfl ?_
  refine V.cVLP (q := 554) (As := []) dL_law_551 rfl (c1_policy hK hC hM) MX4_policy bw_233 rfl rfl rfl rfl (by decide) rfl (fun v1 τ1 h1 => ?_)
  obtain ⟨rfl, hC, hM⟩ := h1
  refine V.aload_n (q := 555) dL_law_554 rfl rfl ?_
  refine V.cVMP (q := 558) (As := []) dL_law_555 rfl (c2_policy hK hC hM) MX5_policy bw_1319 rfl rfl rfl rfl (by decide) rfl (fun v2 τ2 h2 => ?_)
  obtain ⟨rfl, hC, hM⟩ := h2
  refine V.icmp_eq (tgt := 2552) (q := 561) dL_law_558 (by decide) rfl (fun c558 => ?_) (fun c558 => ?_)
  · refine V.wid (ce2 := ce + 3) (sl2 := sl + 18) (by omega) (by omega) (V.less (L2 := LI G i) ⟨Or.inr rfl, Or.inr rfl, Or.inr rfl, Or.inr rfl, Or.inr rfl, Or.inl rfl, Or.inl rfl, Or.inl rfl, Or.inl rfl, trivial⟩ (next _ _ hK hC hM))
  · exact absurd rfl c558
set_option maxHeartbeats 2000000 in
theorem kC_9 {l : Launch} {G : GG} {σ : St} {a : Ab} {Q : PQ} (hK : AK a) (hC : CL σ a) (hM : ML σ a) {i : Nat} (hi : i + 6 ≤ gL G) (hL : gL G ≤ 3072) {mc ms ce sl : Nat} (hce : ce + 3 ≤ mc) (hsl : sl + 18 ≤ ms) (next : ∀ τ a2, AK a2 → CL τ a2 → ML τ a2 → V l G TL_law 17 mc ms Q (ce + 3) (sl + 18) 2552 (LI G i) [] (hof G τ) NC) : V l G TL_law 17 mc ms Q ce sl 563 (LI G i) [] (hof G σ) NC := by
  have hI := hK.1.1.1
  have ht := hK.1.1.2
  have hL31 : gL G < 2 ^ 31 := by omega
  refine V.aload_n (q := 564) dL_law_563 rfl rfl ?_
  refine V.cVLP (q := 567) (As := []) dL_law_564 rfl (c1_time hK hC hM) MX4_time bw_237 rfl rfl rfl rfl (by decide) rfl (fun v1 τ1 h1 => ?_)
  obtain ⟨rfl, hC, hM⟩ := h1
  refine V.aload_n (q := 568) dL_law_567 rfl rfl ?_
  refine V.cVMP (q := 571) (As := []) dL_law_568 rfl (c2_time hK hC hM) MX5_time bw_1323 rfl rfl rfl rfl (by decide) rfl (fun v2 τ2 h2 => ?_)
  obtain ⟨rfl, hC, hM⟩ := h2
  refine V.icmp_eq (tgt := 2552) (q := 574) dL_law_571 (by decide) rfl (fun c571 => ?_) (fun c571 => ?_)
  · refine V.wid (ce2 := ce + 3) (sl2 := sl + 18) (by omega) (by omega) (V.less (L2 := LI G i) ⟨Or.inr rfl, Or.inr rfl, Or.inr rfl, Or.inr rfl, Or.inr rfl, Or.inl rfl, Or.inl rfl, Or.inl rfl, Or.inl rfl, trivial⟩ (next _ _ hK hC hM))
  · exact absurd rfl c571
set_option maxHeartbeats 2000000 in
theorem kC_10 {l : Launch} {G : GG} {σ : St} {a : Ab} {Q : PQ} (hK : AK a) (hC : CL σ a) (hM : ML σ a) {i : Nat} (hi : i + 6 ≤ gL G) (hL : gL G ≤ 3072) {mc ms ce sl : Nat} (hce : ce + 3 ≤ mc) (hsl : sl + 18 ≤ ms) (next : ∀ τ a2, AK a2 → CL τ a2 → ML τ a2 → V l G TL_law 17 mc ms Q (ce + 3) (sl + 18) 2552 (LI G i) [] (hof G τ) NC) : V l G TL_law 17 mc ms Q ce sl 576 (LI G i) [] (hof G σ) NC := by
  have hI := hK.1.1.1
  have ht := hK.1.1.2
  have hL31 : gL G < 2 ^ 31 := by omega
  refine V.aload_n (q := 577) dL_law_576 rfl rfl ?_
  refine V.cVLP (q := 580) (As := []) dL_law_577 rfl (c1_floor hK hC hM) MX4_floor bw_241 rfl rfl rfl rfl (by decide) rfl (fun v1 τ1 h1 => ?_)
  obtain ⟨rfl, hC, hM⟩ := h1
  refine V.aload_n (q := 581) dL_law_580 rfl rfl ?_
  refine V.cVMP (q := 584) (As := []) dL_law_581 rfl (c2_floor hK hC hM) MX5_floor bw_1327 rfl rfl rfl rfl (by decide) rfl (fun v2 τ2 h2 => ?_)
  obtain ⟨rfl, hC, hM⟩ := h2
  refine V.icmp_eq (tgt := 2552) (q := 587) dL_law_584 (by decide) rfl (fun c584 => ?_) (fun c584 => ?_)
  · refine V.wid (ce2 := ce + 3) (sl2 := sl + 18) (by omega) (by omega) (V.less (L2 := LI G i) ⟨Or.inr rfl, Or.inr rfl, Or.inr rfl, Or.inr rfl, Or.inr rfl, Or.inl rfl, Or.inl rfl, Or.inl rfl, Or.inl rfl, trivial⟩ (next _ _ hK hC hM))
  · exact absurd rfl c584
set_option maxHeartbeats 2000000 in
theorem kC_11 {l : Launch} {G : GG} {σ : St} {a : Ab} {Q : PQ} (hK : AK a) (hC : CL σ a) (hM : ML σ a) {i : Nat} (hi : i + 6 ≤ gL G) (hL : gL G ≤ 3072) {mc ms ce sl : Nat} (hce : ce + 3 ≤ mc) (hsl : sl + 18 ≤ ms) (next : ∀ τ a2, AK a2 → CL τ a2 → ML τ a2 → V l G TL_law 17 mc ms Q (ce + 3) (sl + 18) 2552 (LI G i) [] (hof G τ) NC) : V l G TL_law 17 mc ms Q ce sl 589 (LI G i) [] (hof G σ) NC := by
  have hI := hK.1.1.1
  have ht := hK.1.1.2
  have hL31 : gL G < 2 ^ 31 := by omega
  refine V.aload_n (q := 590) dL_law_589 rfl rfl ?_
  refine V.cVLP (q := 593) (As := []) dL_law_590 rfl (c1_isUpward hK hC hM) MX4_isUpward bw_245 rfl rfl rfl rfl (by decide) rfl (fun v1 τ1 h1 => ?_)
  obtain ⟨rfl, hC, hM⟩ := h1
  refine V.aload_n (q := 594) dL_law_593 rfl rfl ?_
  refine V.cVMP (q := 597) (As := []) dL_law_594 rfl (c2_isUpward hK hC hM) MX5_isUpward bw_1331 rfl rfl rfl rfl (by decide) rfl (fun v2 τ2 h2 => ?_)
  obtain ⟨rfl, hC, hM⟩ := h2
  refine V.icmp_eq (tgt := 2552) (q := 600) dL_law_597 (by decide) rfl (fun c597 => ?_) (fun c597 => ?_)
  · refine V.wid (ce2 := ce + 3) (sl2 := sl + 18) (by omega) (by omega) (V.less (L2 := LI G i) ⟨Or.inr rfl, Or.inr rfl, Or.inr rfl, Or.inr rfl, Or.inr rfl, Or.inl rfl, Or.inl rfl, Or.inl rfl, Or.inl rfl, trivial⟩ (next _ _ hK hC hM))
  · exact absurd rfl c597
set_option maxHeartbeats 2000000 in
theorem kC_12 {l : Launch} {G : GG} {σ : St} {a : Ab} {Q : PQ} (hK : AK a) (hC : CL σ a) (hM : ML σ a) {i : Nat} (hi : i + 6 ≤ gL G) (hL : gL G ≤ 3072) {mc ms ce sl : Nat} (hce : ce + 3 ≤ mc) (hsl : sl + 18 ≤ ms) (next : ∀ τ a2, AK a2 → CL τ a2 → ML τ a2 → V l G TL_law 17 mc ms Q (ce + 3) (sl + 18) 2552 (LI G i) [] (hof G τ) NC) : V l G TL_law 17 mc ms Q ce sl 602 (LI G i) [] (hof G σ) NC := by
  have hI := hK.1.1.1
  have ht := hK.1.1.2
  have hL31 : gL G < 2 ^ 31 := by omega
  refine V.aload_n (q := 603) dL_law_602 rfl rfl ?_
  refine V.cVLP (q := 606) (As := []) dL_law_603 rfl (c1_isFull hK hC hM) MX4_isFull bw_249 rfl rfl rfl rfl (by decide) rfl (fun v1 τ1 h1 => ?_)
  obtain ⟨rfl, hC, hM⟩ := h1
  refine V.aload_n (q := 607) dL_law_606 rfl rfl ?_
  refine V.cVMP (q := 610) (As := []) dL_law_607 rfl (c2_isFull hK hC hM) MX5_isFull bw_1335 rfl rfl rfl rfl (by decide) rfl (fun v2 τ2 h2 => ?_)
  obtain ⟨rfl, hC, hM⟩ := h2
  refine V.icmp_eq (tgt := 2552) (q := 613) dL_law_610 (by decide) rfl (fun c610 => ?_) (fun c610 => ?_)
  · refine V.wid (ce2 := ce + 3) (sl2 := sl + 18) (by omega) (by omega) (V.less (L2 := LI G i) ⟨Or.inr rfl, Or.inr rfl, Or.inr rfl, Or.inr rfl, Or.inr rfl, Or.inl rfl, Or.inl rfl, Or.inl rfl, Or.inl rfl, trivial⟩ (next _ _ hK hC hM))
  · exact absurd rfl c610
set_option maxHeartbeats 2000000 in
theorem kC_13 {l : Launch} {G : GG} {σ : St} {a : Ab} {Q : PQ} (hK : AK a) (hC : CL σ a) (hM : ML σ a) {i : Nat} (hi : i + 6 ≤ gL G) (hL : gL G ≤ 3072) {mc ms ce sl : Nat} (hce : ce + 3 ≤ mc) (hsl : sl + 18 ≤ ms) (next : ∀ τ a2, AK a2 → CL τ a2 → ML τ a2 → V l G TL_law 17 mc ms Q (ce + 3) (sl + 18) 2552 (LI G i) [] (hof G τ) NC) : V l G TL_law 17 mc ms Q ce sl 615 (LI G i) [] (hof G σ) NC := by
  have hI := hK.1.1.1
  have ht := hK.1.1.2
  have hL31 : gL G < 2 ^ 31 := by omega
  refine V.aload_n (q := 616) dL_law_615 rfl rfl ?_
  refine V.cVLP (q := 619) (As := []) dL_law_616 rfl (c1_stopMask hK hC hM) MX4_stopMask bw_253 rfl rfl rfl rfl (by decide) rfl (fun v1 τ1 h1 => ?_)
  obtain ⟨rfl, hC, hM⟩ := h1
  refine V.aload_n (q := 620) dL_law_619 rfl rfl ?_
  refine V.cVMP (q := 623) (As := []) dL_law_620 rfl (c2_stopMask hK hC hM) MX5_stopMask bw_1339 rfl rfl rfl rfl (by decide) rfl (fun v2 τ2 h2 => ?_)
  obtain ⟨rfl, hC, hM⟩ := h2
  refine V.icmp_eq (tgt := 2552) (q := 626) dL_law_623 (by decide) rfl (fun c623 => ?_) (fun c623 => ?_)
  · refine V.wid (ce2 := ce + 3) (sl2 := sl + 18) (by omega) (by omega) (V.less (L2 := LI G i) ⟨Or.inr rfl, Or.inr rfl, Or.inr rfl, Or.inr rfl, Or.inr rfl, Or.inl rfl, Or.inl rfl, Or.inl rfl, Or.inl rfl, trivial⟩ (next _ _ hK hC hM))
  · exact absurd rfl c623
set_option maxHeartbeats 2000000 in
theorem kC_14 {l : Launch} {G : GG} {σ : St} {a : Ab} {Q : PQ} (hK : AK a) (hC : CL σ a) (hM : ML σ a) {i : Nat} (hi : i + 6 ≤ gL G) (hL : gL G ≤ 3072) {mc ms ce sl : Nat} (hce : ce + 3 ≤ mc) (hsl : sl + 18 ≤ ms) (next : ∀ τ a2, AK a2 → CL τ a2 → ML τ a2 → V l G TL_law 17 mc ms Q (ce + 3) (sl + 18) 2552 (LI G i) [] (hof G τ) NC) : V l G TL_law 17 mc ms Q ce sl 628 (LI G i) [] (hof G σ) NC := by
  have hI := hK.1.1.1
  have ht := hK.1.1.2
  have hL31 : gL G < 2 ^ 31 := by omega
  refine V.aload_n (q := 629) dL_law_628 rfl rfl ?_
  refine V.aload_n (q := 630) dL_law_629 rfl rfl ?_
  refine V.iload (q := 632) dL_law_630 rfl rfl ?_
  refine V.iconst (q := 633) dL_law_632 (v := 1) rfl rfl ?_
  refine V.iadd (q := 634) dL_law_633 rfl ?_
  refine V.sld (q := 635) dL_law_634 (i := i + 1) (by omega) hL31 (nI_k i 1) rfl ?_
  refine V.aload_n (q := 636) dL_law_635 rfl rfl ?_
  refine V.cStXW (q := 639) (As := [_, _, _]) dL_law_636 rfl (w1_targetBy hK hC hM) (fun E9 τ9 ⟨k9, e9, _⟩ => nomatch e9) ML_targetBy bw_742 rfl rfl (by decide) rfl (by omega) (by omega) (fun v1 τ1 h1 => ?_)
  obtain ⟨k, e1, hC, hM, hk, hv⟩ := h1
  cases e1
  refine V.istore (q := 641) dL_law_639 rfl rfl rfl ?_
  refine V.aload_n (q := 642) dL_law_641 rfl rfl ?_
  refine V.aload_n (q := 643) dL_law_642 rfl rfl ?_
  refine V.iload (q := 645) dL_law_643 rfl rfl ?_
  refine V.iconst (q := 646) dL_law_645 (v := 1) rfl rfl ?_
  refine V.iadd (q := 647) dL_law_646 rfl ?_
  refine V.sld (q := 648) dL_law_647 (i := i + 1) (by omega) hL31 (nI_k i 1) rfl ?_
  refine V.cVMP (q := 651) (As := [_]) dL_law_648 rfl (m2_targetBy hK hC hM) MX5_targetBy bw_1343 rfl rfl rfl rfl (by decide) rfl (fun v2 τ2 h2 => ?_)
  obtain ⟨rfl, hC, hM, ht2, hO2⟩ := h2
  refine V.istore (q := 653) dL_law_651 rfl rfl rfl ?_
  refine V.aload_n (q := 654) dL_law_653 rfl rfl ?_
  refine V.cVM (q := 657) dL_law_654 (As := []) rfl kM_thrown MX5_thrown bw_1060 rfl rfl rfl rfl (by decide) rfl ?_
  rw [ht2]
  refine V.iload (q := 659) dL_law_657 rfl rfl ?_
  refine V.icmp_eq (tgt := 664) (q := 662) dL_law_659 (by decide) rfl (fun c659 => ?_) (fun c659 => ?_)
  · refine V.iload (q := 666) dL_law_664 rfl rfl ?_
    refine V.if_ne (tgt := 681) (q := 669) dL_law_666 (by decide) rfl (fun c666 => ?_) (fun c666 => ?_)
    · refine V.goto (tgt := 2552) dL_law_681 (by decide) ?_
      refine V.wid (ce2 := ce + 3) (sl2 := sl + 18) (by omega) (by omega) (V.less (L2 := LI G i) ⟨Or.inr rfl, Or.inr rfl, Or.inr rfl, Or.inr rfl, Or.inr rfl, Or.inl rfl, Or.inl rfl, Or.inl rfl, Or.inl rfl, trivial⟩ (next _ _ hK hC hM))
    · refine V.aload_n (q := 670) dL_law_669 rfl rfl ?_
      refine V.iconst (q := 671) dL_law_670 (v := 0) rfl rfl ?_
      refine V.ld16 (q := 672) dL_law_671 (i := 0)  rfl (by decide) rfl ?_
      rw [(congrFun hO2 0).trans (hv c666)]
      refine V.iload (q := 674) dL_law_672 rfl rfl ?_
      refine V.i2l (q := 675) dL_law_674 rfl ?_
      refine V.lcmp (q := 676) dL_law_675 rfl ?_
      rw [lg_same]
      refine V.if_eq (tgt := 681) (q := 679) dL_law_676 (by decide) rfl (fun c676 => ?_) (fun c676 => ?_)
      · refine V.goto (tgt := 2552) dL_law_681 (by decide) ?_
        refine V.wid (ce2 := ce + 3) (sl2 := sl + 18) (by omega) (by omega) (V.less (L2 := LI G i) ⟨Or.inr rfl, Or.inr rfl, Or.inr rfl, Or.inr rfl, Or.inr rfl, Or.inl rfl, Or.inl rfl, Or.inl rfl, Or.inl rfl, trivial⟩ (next _ _ hK hC hM))
      · exact absurd rfl c676
  · exact absurd hk.symm c659
set_option maxHeartbeats 2000000 in
theorem kC_15 {l : Launch} {G : GG} {σ : St} {a : Ab} {Q : PQ} (hK : AK a) (hC : CL σ a) (hM : ML σ a) {i : Nat} (hi : i + 6 ≤ gL G) (hL : gL G ≤ 3072) {mc ms ce sl : Nat} (hce : ce + 3 ≤ mc) (hsl : sl + 18 ≤ ms) (next : ∀ τ a2, AK a2 → CL τ a2 → ML τ a2 → V l G TL_law 17 mc ms Q (ce + 3) (sl + 18) 2552 (LI G i) [] (hof G τ) NC) : V l G TL_law 17 mc ms Q ce sl 684 (LI G i) [] (hof G σ) NC := by
  have hI := hK.1.1.1
  have ht := hK.1.1.2
  have hL31 : gL G < 2 ^ 31 := by omega
  refine V.aload_n (q := 685) dL_law_684 rfl rfl ?_
  refine V.cVLP (q := 688) (As := []) dL_law_685 rfl (c1_distance hK hC hM) MX4_distance bw_261 rfl rfl rfl rfl (by decide) rfl (fun v1 τ1 h1 => ?_)
  obtain ⟨rfl, hC, hM⟩ := h1
  refine V.aload_n (q := 689) dL_law_688 rfl rfl ?_
  refine V.cVMP (q := 692) (As := []) dL_law_689 rfl (c2_distance hK hC hM) MX5_distance bw_1355 rfl rfl rfl rfl (by decide) rfl (fun v2 τ2 h2 => ?_)
  obtain ⟨rfl, hC, hM⟩ := h2
  refine V.icmp_eq (tgt := 2552) (q := 695) dL_law_692 (by decide) rfl (fun c692 => ?_) (fun c692 => ?_)
  · refine V.wid (ce2 := ce + 3) (sl2 := sl + 18) (by omega) (by omega) (V.less (L2 := LI G i) ⟨Or.inr rfl, Or.inr rfl, Or.inr rfl, Or.inr rfl, Or.inr rfl, Or.inl rfl, Or.inl rfl, Or.inl rfl, Or.inl rfl, trivial⟩ (next _ _ hK hC hM))
  · exact absurd rfl c692
set_option maxHeartbeats 2000000 in
theorem kC_16 {l : Launch} {G : GG} {σ : St} {a : Ab} {Q : PQ} (hK : AK a) (hC : CL σ a) (hM : ML σ a) {i : Nat} (hi : i + 6 ≤ gL G) (hL : gL G ≤ 3072) {mc ms ce sl : Nat} (hce : ce + 3 ≤ mc) (hsl : sl + 18 ≤ ms) (next : ∀ τ a2, AK a2 → CL τ a2 → ML τ a2 → V l G TL_law 17 mc ms Q (ce + 3) (sl + 18) 2552 (LI G i) [] (hof G τ) NC) : V l G TL_law 17 mc ms Q ce sl 697 (LI G i) [] (hof G σ) NC := by
  have hI := hK.1.1.1
  have ht := hK.1.1.2
  have hL31 : gL G < 2 ^ 31 := by omega
  refine V.aload_n (q := 698) dL_law_697 rfl rfl ?_
  refine V.cVLP (q := 701) (As := []) dL_law_698 rfl (c1_doorTicks hK hC hM) MX4_doorTicks bw_265 rfl rfl rfl rfl (by decide) rfl (fun v1 τ1 h1 => ?_)
  obtain ⟨rfl, hC, hM⟩ := h1
  refine V.aload_n (q := 702) dL_law_701 rfl rfl ?_
  refine V.cVMP (q := 705) (As := []) dL_law_702 rfl (c2_doorTicks hK hC hM) MX5_doorTicks bw_1359 rfl rfl rfl rfl (by decide) rfl (fun v2 τ2 h2 => ?_)
  obtain ⟨rfl, hC, hM⟩ := h2
  refine V.icmp_eq (tgt := 2552) (q := 708) dL_law_705 (by decide) rfl (fun c705 => ?_) (fun c705 => ?_)
  · refine V.wid (ce2 := ce + 3) (sl2 := sl + 18) (by omega) (by omega) (V.less (L2 := LI G i) ⟨Or.inr rfl, Or.inr rfl, Or.inr rfl, Or.inr rfl, Or.inr rfl, Or.inl rfl, Or.inl rfl, Or.inl rfl, Or.inl rfl, trivial⟩ (next _ _ hK hC hM))
  · exact absurd rfl c705
set_option maxHeartbeats 2000000 in
theorem kC_17 {l : Launch} {G : GG} {σ : St} {a : Ab} {Q : PQ} (hK : AK a) (hC : CL σ a) (hM : ML σ a) {i : Nat} (hi : i + 6 ≤ gL G) (hL : gL G ≤ 3072) {mc ms ce sl : Nat} (hce : ce + 3 ≤ mc) (hsl : sl + 18 ≤ ms) (next : ∀ τ a2, AK a2 → CL τ a2 → ML τ a2 → V l G TL_law 17 mc ms Q (ce + 3) (sl + 18) 2552 (LI G i) [] (hof G τ) NC) : V l G TL_law 17 mc ms Q ce sl 710 (LI G i) [] (hof G σ) NC := by
  have hI := hK.1.1.1
  have ht := hK.1.1.2
  have hL31 : gL G < 2 ^ 31 := by omega
  refine V.aload_n (q := 711) dL_law_710 rfl rfl ?_
  refine V.cVLP (q := 714) (As := []) dL_law_711 rfl (c1_idleTicks hK hC hM) MX4_idleTicks bw_269 rfl rfl rfl rfl (by decide) rfl (fun v1 τ1 h1 => ?_)
  obtain ⟨rfl, hC, hM⟩ := h1
  refine V.aload_n (q := 715) dL_law_714 rfl rfl ?_
  refine V.cVMP (q := 718) (As := []) dL_law_715 rfl (c2_idleTicks hK hC hM) MX5_idleTicks bw_1363 rfl rfl rfl rfl (by decide) rfl (fun v2 τ2 h2 => ?_)
  obtain ⟨rfl, hC, hM⟩ := h2
  refine V.icmp_eq (tgt := 2552) (q := 721) dL_law_718 (by decide) rfl (fun c718 => ?_) (fun c718 => ?_)
  · refine V.wid (ce2 := ce + 3) (sl2 := sl + 18) (by omega) (by omega) (V.less (L2 := LI G i) ⟨Or.inr rfl, Or.inr rfl, Or.inr rfl, Or.inr rfl, Or.inr rfl, Or.inl rfl, Or.inl rfl, Or.inl rfl, Or.inl rfl, trivial⟩ (next _ _ hK hC hM))
  · exact absurd rfl c718
set_option maxHeartbeats 2000000 in
theorem kC_18 {l : Launch} {G : GG} {σ : St} {a : Ab} {Q : PQ} (hK : AK a) (hC : CL σ a) (hM : ML σ a) {i : Nat} (hi : i + 6 ≤ gL G) (hL : gL G ≤ 3072) {mc ms ce sl : Nat} (hce : ce + 3 ≤ mc) (hsl : sl + 18 ≤ ms) (next : ∀ τ a2, AK a2 → CL τ a2 → ML τ a2 → V l G TL_law 17 mc ms Q (ce + 3) (sl + 18) 2552 (LI G i) [] (hof G τ) NC) : V l G TL_law 17 mc ms Q ce sl 723 (LI G i) [] (hof G σ) NC := by
  have hI := hK.1.1.1
  have ht := hK.1.1.2
  have hL31 : gL G < 2 ^ 31 := by omega
  refine V.aload_n (q := 724) dL_law_723 rfl rfl ?_
  refine V.cVLP (q := 727) (As := []) dL_law_724 rfl (c1_reversals hK hC hM) MX4_reversals bw_273 rfl rfl rfl rfl (by decide) rfl (fun v1 τ1 h1 => ?_)
  obtain ⟨rfl, hC, hM⟩ := h1
  refine V.aload_n (q := 728) dL_law_727 rfl rfl ?_
  refine V.cVMP (q := 731) (As := []) dL_law_728 rfl (c2_reversals hK hC hM) MX5_reversals bw_1367 rfl rfl rfl rfl (by decide) rfl (fun v2 τ2 h2 => ?_)
  obtain ⟨rfl, hC, hM⟩ := h2
  refine V.icmp_eq (tgt := 2552) (q := 734) dL_law_731 (by decide) rfl (fun c731 => ?_) (fun c731 => ?_)
  · refine V.wid (ce2 := ce + 3) (sl2 := sl + 18) (by omega) (by omega) (V.less (L2 := LI G i) ⟨Or.inr rfl, Or.inr rfl, Or.inr rfl, Or.inr rfl, Or.inr rfl, Or.inl rfl, Or.inl rfl, Or.inl rfl, Or.inl rfl, trivial⟩ (next _ _ hK hC hM))
  · exact absurd rfl c731
set_option maxHeartbeats 2000000 in
theorem kC_19 {l : Launch} {G : GG} {σ : St} {a : Ab} {Q : PQ} (hK : AK a) (hC : CL σ a) (hM : ML σ a) {i : Nat} (hi : i + 6 ≤ gL G) (hL : gL G ≤ 3072) {mc ms ce sl : Nat} (hce : ce + 3 ≤ mc) (hsl : sl + 18 ≤ ms) (next : ∀ τ a2, AK a2 → CL τ a2 → ML τ a2 → V l G TL_law 17 mc ms Q (ce + 3) (sl + 18) 2552 (LI G i) [] (hof G τ) NC) : V l G TL_law 17 mc ms Q ce sl 736 (LI G i) [] (hof G σ) NC := by
  have hI := hK.1.1.1
  have ht := hK.1.1.2
  have hL31 : gL G < 2 ^ 31 := by omega
  refine V.aload_n (q := 737) dL_law_736 rfl rfl ?_
  refine V.cVLP (q := 740) (As := []) dL_law_737 rfl (c1_passengerCount hK hC hM) MX4_passengerCount bw_277 rfl rfl rfl rfl (by decide) rfl (fun v1 τ1 h1 => ?_)
  obtain ⟨rfl, hC, hM⟩ := h1
  refine V.aload_n (q := 741) dL_law_740 rfl rfl ?_
  refine V.cVMP (q := 744) (As := []) dL_law_741 rfl (c2_passengerCount hK hC hM) MX5_passengerCount bw_1371 rfl rfl rfl rfl (by decide) rfl (fun v2 τ2 h2 => ?_)
  obtain ⟨rfl, hC, hM⟩ := h2
  refine V.icmp_eq (tgt := 2552) (q := 747) dL_law_744 (by decide) rfl (fun c744 => ?_) (fun c744 => ?_)
  · refine V.wid (ce2 := ce + 3) (sl2 := sl + 18) (by omega) (by omega) (V.less (L2 := LI G i) ⟨Or.inr rfl, Or.inr rfl, Or.inr rfl, Or.inr rfl, Or.inr rfl, Or.inl rfl, Or.inl rfl, Or.inl rfl, Or.inl rfl, trivial⟩ (next _ _ hK hC hM))
  · exact absurd rfl c744
set_option maxHeartbeats 2000000 in
theorem kC_20 {l : Launch} {G : GG} {σ : St} {a : Ab} {Q : PQ} (hK : AK a) (hC : CL σ a) (hM : ML σ a) {i : Nat} (hi : i + 6 ≤ gL G) (hL : gL G ≤ 3072) {mc ms ce sl : Nat} (hce : ce + 3 ≤ mc) (hsl : sl + 18 ≤ ms) (next : ∀ τ a2, AK a2 → CL τ a2 → ML τ a2 → V l G TL_law 17 mc ms Q (ce + 3) (sl + 18) 2552 (LI G i) [] (hof G τ) NC) : V l G TL_law 17 mc ms Q ce sl 749 (LI G i) [] (hof G σ) NC := by
  have hI := hK.1.1.1
  have ht := hK.1.1.2
  have hL31 : gL G < 2 ^ 31 := by omega
  refine V.aload_n (q := 750) dL_law_749 rfl rfl ?_
  refine V.aload_n (q := 751) dL_law_750 rfl rfl ?_
  refine V.iload (q := 753) dL_law_751 rfl rfl ?_
  refine V.iconst (q := 754) dL_law_753 (v := 1) rfl rfl ?_
  refine V.iadd (q := 755) dL_law_754 rfl ?_
  refine V.sld (q := 756) dL_law_755 (i := i + 1) (by omega) hL31 (nI_k i 1) rfl ?_
  refine V.aload_n (q := 757) dL_law_756 rfl rfl ?_
  refine V.cStXW (q := 760) (As := [_, _, _]) dL_law_757 rfl (w1_statusOf hK hC hM) (fun E9 τ9 ⟨k9, e9, _⟩ => nomatch e9) ML_statusOf bw_755 rfl rfl (by decide) rfl (by omega) (by omega) (fun v1 τ1 h1 => ?_)
  obtain ⟨k, e1, hC, hM, hk, hv⟩ := h1
  cases e1
  refine V.istore (q := 762) dL_law_760 rfl rfl rfl ?_
  refine V.aload_n (q := 763) dL_law_762 rfl rfl ?_
  refine V.aload_n (q := 764) dL_law_763 rfl rfl ?_
  refine V.iload (q := 766) dL_law_764 rfl rfl ?_
  refine V.iconst (q := 767) dL_law_766 (v := 1) rfl rfl ?_
  refine V.iadd (q := 768) dL_law_767 rfl ?_
  refine V.sld (q := 769) dL_law_768 (i := i + 1) (by omega) hL31 (nI_k i 1) rfl ?_
  refine V.cVMP (q := 772) (As := [_]) dL_law_769 rfl (m2_statusOf hK hC hM) MX5_statusOf bw_1375 rfl rfl rfl rfl (by decide) rfl (fun v2 τ2 h2 => ?_)
  obtain ⟨rfl, hC, hM, ht2, hO2⟩ := h2
  refine V.istore (q := 774) dL_law_772 rfl rfl rfl ?_
  refine V.aload_n (q := 775) dL_law_774 rfl rfl ?_
  refine V.cVM (q := 778) dL_law_775 (As := []) rfl kM_thrown MX5_thrown bw_1060 rfl rfl rfl rfl (by decide) rfl ?_
  rw [ht2]
  refine V.iload (q := 780) dL_law_778 rfl rfl ?_
  refine V.icmp_eq (tgt := 785) (q := 783) dL_law_780 (by decide) rfl (fun c780 => ?_) (fun c780 => ?_)
  · refine V.iload (q := 787) dL_law_785 rfl rfl ?_
    refine V.if_ne (tgt := 802) (q := 790) dL_law_787 (by decide) rfl (fun c787 => ?_) (fun c787 => ?_)
    · refine V.goto (tgt := 2552) dL_law_802 (by decide) ?_
      refine V.wid (ce2 := ce + 3) (sl2 := sl + 18) (by omega) (by omega) (V.less (L2 := LI G i) ⟨Or.inr rfl, Or.inr rfl, Or.inr rfl, Or.inr rfl, Or.inr rfl, Or.inl rfl, Or.inl rfl, Or.inl rfl, Or.inl rfl, trivial⟩ (next _ _ hK hC hM))
    · refine V.aload_n (q := 791) dL_law_790 rfl rfl ?_
      refine V.iconst (q := 792) dL_law_791 (v := 0) rfl rfl ?_
      refine V.ld16 (q := 793) dL_law_792 (i := 0)  rfl (by decide) rfl ?_
      rw [(congrFun hO2 0).trans (hv c787)]
      refine V.iload (q := 795) dL_law_793 rfl rfl ?_
      refine V.i2l (q := 796) dL_law_795 rfl ?_
      refine V.lcmp (q := 797) dL_law_796 rfl ?_
      rw [lg_same]
      refine V.if_eq (tgt := 802) (q := 800) dL_law_797 (by decide) rfl (fun c797 => ?_) (fun c797 => ?_)
      · refine V.goto (tgt := 2552) dL_law_802 (by decide) ?_
        refine V.wid (ce2 := ce + 3) (sl2 := sl + 18) (by omega) (by omega) (V.less (L2 := LI G i) ⟨Or.inr rfl, Or.inr rfl, Or.inr rfl, Or.inr rfl, Or.inr rfl, Or.inl rfl, Or.inl rfl, Or.inl rfl, Or.inl rfl, trivial⟩ (next _ _ hK hC hM))
      · exact absurd rfl c797
  · exact absurd hk.symm c780
set_option maxHeartbeats 2000000 in
theorem kC_21 {l : Launch} {G : GG} {σ : St} {a : Ab} {Q : PQ} (hK : AK a) (hC : CL σ a) (hM : ML σ a) {i : Nat} (hi : i + 6 ≤ gL G) (hL : gL G ≤ 3072) {mc ms ce sl : Nat} (hce : ce + 3 ≤ mc) (hsl : sl + 18 ≤ ms) (next : ∀ τ a2, AK a2 → CL τ a2 → ML τ a2 → V l G TL_law 17 mc ms Q (ce + 3) (sl + 18) 2552 (LI G i) [] (hof G τ) NC) : V l G TL_law 17 mc ms Q ce sl 805 (LI G i) [] (hof G σ) NC := by
  have hI := hK.1.1.1
  have ht := hK.1.1.2
  have hL31 : gL G < 2 ^ 31 := by omega
  refine V.aload_n (q := 806) dL_law_805 rfl rfl ?_
  refine V.aload_n (q := 807) dL_law_806 rfl rfl ?_
  refine V.iload (q := 809) dL_law_807 rfl rfl ?_
  refine V.iconst (q := 810) dL_law_809 (v := 1) rfl rfl ?_
  refine V.iadd (q := 811) dL_law_810 rfl ?_
  refine V.sld (q := 812) dL_law_811 (i := i + 1) (by omega) hL31 (nI_k i 1) rfl ?_
  refine V.aload_n (q := 813) dL_law_812 rfl rfl ?_
  refine V.cStXW (q := 816) (As := [_, _, _]) dL_law_813 rfl (w1_originOf hK hC hM) (fun E9 τ9 ⟨k9, e9, _⟩ => nomatch e9) ML_originOf bw_783 rfl rfl (by decide) rfl (by omega) (by omega) (fun v1 τ1 h1 => ?_)
  obtain ⟨k, e1, hC, hM, hk, hv⟩ := h1
  cases e1
  refine V.istore (q := 818) dL_law_816 rfl rfl rfl ?_
  refine V.aload_n (q := 819) dL_law_818 rfl rfl ?_
  refine V.aload_n (q := 820) dL_law_819 rfl rfl ?_
  refine V.iload (q := 822) dL_law_820 rfl rfl ?_
  refine V.iconst (q := 823) dL_law_822 (v := 1) rfl rfl ?_
  refine V.iadd (q := 824) dL_law_823 rfl ?_
  refine V.sld (q := 825) dL_law_824 (i := i + 1) (by omega) hL31 (nI_k i 1) rfl ?_
  refine V.cVMP (q := 828) (As := [_]) dL_law_825 rfl (m2_originOf hK hC hM) MX5_originOf bw_1383 rfl rfl rfl rfl (by decide) rfl (fun v2 τ2 h2 => ?_)
  obtain ⟨rfl, hC, hM, ht2, hO2⟩ := h2
  refine V.istore (q := 830) dL_law_828 rfl rfl rfl ?_
  refine V.aload_n (q := 831) dL_law_830 rfl rfl ?_
  refine V.cVM (q := 834) dL_law_831 (As := []) rfl kM_thrown MX5_thrown bw_1060 rfl rfl rfl rfl (by decide) rfl ?_
  rw [ht2]
  refine V.iload (q := 836) dL_law_834 rfl rfl ?_
  refine V.icmp_eq (tgt := 841) (q := 839) dL_law_836 (by decide) rfl (fun c836 => ?_) (fun c836 => ?_)
  · refine V.iload (q := 843) dL_law_841 rfl rfl ?_
    refine V.if_ne (tgt := 858) (q := 846) dL_law_843 (by decide) rfl (fun c843 => ?_) (fun c843 => ?_)
    · refine V.goto (tgt := 2552) dL_law_858 (by decide) ?_
      refine V.wid (ce2 := ce + 3) (sl2 := sl + 18) (by omega) (by omega) (V.less (L2 := LI G i) ⟨Or.inr rfl, Or.inr rfl, Or.inr rfl, Or.inr rfl, Or.inr rfl, Or.inl rfl, Or.inl rfl, Or.inl rfl, Or.inl rfl, trivial⟩ (next _ _ hK hC hM))
    · refine V.aload_n (q := 847) dL_law_846 rfl rfl ?_
      refine V.iconst (q := 848) dL_law_847 (v := 0) rfl rfl ?_
      refine V.ld16 (q := 849) dL_law_848 (i := 0)  rfl (by decide) rfl ?_
      rw [(congrFun hO2 0).trans (hv c843)]
      refine V.iload (q := 851) dL_law_849 rfl rfl ?_
      refine V.i2l (q := 852) dL_law_851 rfl ?_
      refine V.lcmp (q := 853) dL_law_852 rfl ?_
      rw [lg_same]
      refine V.if_eq (tgt := 858) (q := 856) dL_law_853 (by decide) rfl (fun c853 => ?_) (fun c853 => ?_)
      · refine V.goto (tgt := 2552) dL_law_858 (by decide) ?_
        refine V.wid (ce2 := ce + 3) (sl2 := sl + 18) (by omega) (by omega) (V.less (L2 := LI G i) ⟨Or.inr rfl, Or.inr rfl, Or.inr rfl, Or.inr rfl, Or.inr rfl, Or.inl rfl, Or.inl rfl, Or.inl rfl, Or.inl rfl, trivial⟩ (next _ _ hK hC hM))
      · exact absurd rfl c853
  · exact absurd hk.symm c836
set_option maxHeartbeats 2000000 in
theorem kC_22 {l : Launch} {G : GG} {σ : St} {a : Ab} {Q : PQ} (hK : AK a) (hC : CL σ a) (hM : ML σ a) {i : Nat} (hi : i + 6 ≤ gL G) (hL : gL G ≤ 3072) {mc ms ce sl : Nat} (hce : ce + 3 ≤ mc) (hsl : sl + 18 ≤ ms) (next : ∀ τ a2, AK a2 → CL τ a2 → ML τ a2 → V l G TL_law 17 mc ms Q (ce + 3) (sl + 18) 2552 (LI G i) [] (hof G τ) NC) : V l G TL_law 17 mc ms Q ce sl 861 (LI G i) [] (hof G σ) NC := by
  have hI := hK.1.1.1
  have ht := hK.1.1.2
  have hL31 : gL G < 2 ^ 31 := by omega
  refine V.aload_n (q := 862) dL_law_861 rfl rfl ?_
  refine V.aload_n (q := 863) dL_law_862 rfl rfl ?_
  refine V.iload (q := 865) dL_law_863 rfl rfl ?_
  refine V.iconst (q := 866) dL_law_865 (v := 1) rfl rfl ?_
  refine V.iadd (q := 867) dL_law_866 rfl ?_
  refine V.sld (q := 868) dL_law_867 (i := i + 1) (by omega) hL31 (nI_k i 1) rfl ?_
  refine V.aload_n (q := 869) dL_law_868 rfl rfl ?_
  refine V.cStXW (q := 872) (As := [_, _, _]) dL_law_869 rfl (w1_destinationOf hK hC hM) (fun E9 τ9 ⟨k9, e9, _⟩ => nomatch e9) ML_destinationOf bw_790 rfl rfl (by decide) rfl (by omega) (by omega) (fun v1 τ1 h1 => ?_)
  obtain ⟨k, e1, hC, hM, hk, hv⟩ := h1
  cases e1
  refine V.istore (q := 874) dL_law_872 rfl rfl rfl ?_
  refine V.aload_n (q := 875) dL_law_874 rfl rfl ?_
  refine V.aload_n (q := 876) dL_law_875 rfl rfl ?_
  refine V.iload (q := 878) dL_law_876 rfl rfl ?_
  refine V.iconst (q := 879) dL_law_878 (v := 1) rfl rfl ?_
  refine V.iadd (q := 880) dL_law_879 rfl ?_
  refine V.sld (q := 881) dL_law_880 (i := i + 1) (by omega) hL31 (nI_k i 1) rfl ?_
  refine V.cVMP (q := 884) (As := [_]) dL_law_881 rfl (m2_destinationOf hK hC hM) MX5_destinationOf bw_1387 rfl rfl rfl rfl (by decide) rfl (fun v2 τ2 h2 => ?_)
  obtain ⟨rfl, hC, hM, ht2, hO2⟩ := h2
  refine V.istore (q := 886) dL_law_884 rfl rfl rfl ?_
  refine V.aload_n (q := 887) dL_law_886 rfl rfl ?_
  refine V.cVM (q := 890) dL_law_887 (As := []) rfl kM_thrown MX5_thrown bw_1060 rfl rfl rfl rfl (by decide) rfl ?_
  rw [ht2]
  refine V.iload (q := 892) dL_law_890 rfl rfl ?_
  refine V.icmp_eq (tgt := 897) (q := 895) dL_law_892 (by decide) rfl (fun c892 => ?_) (fun c892 => ?_)
  · refine V.iload (q := 899) dL_law_897 rfl rfl ?_
    refine V.if_ne (tgt := 914) (q := 902) dL_law_899 (by decide) rfl (fun c899 => ?_) (fun c899 => ?_)
    · refine V.goto (tgt := 2552) dL_law_914 (by decide) ?_
      refine V.wid (ce2 := ce + 3) (sl2 := sl + 18) (by omega) (by omega) (V.less (L2 := LI G i) ⟨Or.inr rfl, Or.inr rfl, Or.inr rfl, Or.inr rfl, Or.inr rfl, Or.inl rfl, Or.inl rfl, Or.inl rfl, Or.inl rfl, trivial⟩ (next _ _ hK hC hM))
    · refine V.aload_n (q := 903) dL_law_902 rfl rfl ?_
      refine V.iconst (q := 904) dL_law_903 (v := 0) rfl rfl ?_
      refine V.ld16 (q := 905) dL_law_904 (i := 0)  rfl (by decide) rfl ?_
      rw [(congrFun hO2 0).trans (hv c899)]
      refine V.iload (q := 907) dL_law_905 rfl rfl ?_
      refine V.i2l (q := 908) dL_law_907 rfl ?_
      refine V.lcmp (q := 909) dL_law_908 rfl ?_
      rw [lg_same]
      refine V.if_eq (tgt := 914) (q := 912) dL_law_909 (by decide) rfl (fun c909 => ?_) (fun c909 => ?_)
      · refine V.goto (tgt := 2552) dL_law_914 (by decide) ?_
        refine V.wid (ce2 := ce + 3) (sl2 := sl + 18) (by omega) (by omega) (V.less (L2 := LI G i) ⟨Or.inr rfl, Or.inr rfl, Or.inr rfl, Or.inr rfl, Or.inr rfl, Or.inl rfl, Or.inl rfl, Or.inl rfl, Or.inl rfl, trivial⟩ (next _ _ hK hC hM))
      · exact absurd rfl c909
  · exact absurd hk.symm c892
set_option maxHeartbeats 2000000 in
theorem kC_23 {l : Launch} {G : GG} {σ : St} {a : Ab} {Q : PQ} (hK : AK a) (hC : CL σ a) (hM : ML σ a) {i : Nat} (hi : i + 6 ≤ gL G) (hL : gL G ≤ 3072) {mc ms ce sl : Nat} (hce : ce + 3 ≤ mc) (hsl : sl + 18 ≤ ms) (next : ∀ τ a2, AK a2 → CL τ a2 → ML τ a2 → V l G TL_law 17 mc ms Q (ce + 3) (sl + 18) 2552 (LI G i) [] (hof G τ) NC) : V l G TL_law 17 mc ms Q ce sl 917 (LI G i) [] (hof G σ) NC := by
  have hI := hK.1.1.1
  have ht := hK.1.1.2
  have hL31 : gL G < 2 ^ 31 := by omega
  refine V.aload_n (q := 918) dL_law_917 rfl rfl ?_
  refine V.aload_n (q := 919) dL_law_918 rfl rfl ?_
  refine V.iload (q := 921) dL_law_919 rfl rfl ?_
  refine V.iconst (q := 922) dL_law_921 (v := 1) rfl rfl ?_
  refine V.iadd (q := 923) dL_law_922 rfl ?_
  refine V.sld (q := 924) dL_law_923 (i := i + 1) (by omega) hL31 (nI_k i 1) rfl ?_
  refine V.aload_n (q := 925) dL_law_924 rfl rfl ?_
  refine V.cStXW (q := 928) (As := [_, _, _]) dL_law_925 rfl (w1_arrivalOf hK hC hM) (fun E9 τ9 ⟨k9, e9, _⟩ => nomatch e9) ML_arrivalOf bw_797 rfl rfl (by decide) rfl (by omega) (by omega) (fun v1 τ1 h1 => ?_)
  obtain ⟨k, e1, hC, hM, hk, hv⟩ := h1
  cases e1
  refine V.istore (q := 930) dL_law_928 rfl rfl rfl ?_
  refine V.aload_n (q := 931) dL_law_930 rfl rfl ?_
  refine V.aload_n (q := 932) dL_law_931 rfl rfl ?_
  refine V.iload (q := 934) dL_law_932 rfl rfl ?_
  refine V.iconst (q := 935) dL_law_934 (v := 1) rfl rfl ?_
  refine V.iadd (q := 936) dL_law_935 rfl ?_
  refine V.sld (q := 937) dL_law_936 (i := i + 1) (by omega) hL31 (nI_k i 1) rfl ?_
  refine V.cVMP (q := 940) (As := [_]) dL_law_937 rfl (m2_arrivalOf hK hC hM) MX5_arrivalOf bw_1391 rfl rfl rfl rfl (by decide) rfl (fun v2 τ2 h2 => ?_)
  obtain ⟨rfl, hC, hM, ht2, hO2⟩ := h2
  refine V.istore (q := 942) dL_law_940 rfl rfl rfl ?_
  refine V.aload_n (q := 943) dL_law_942 rfl rfl ?_
  refine V.cVM (q := 946) dL_law_943 (As := []) rfl kM_thrown MX5_thrown bw_1060 rfl rfl rfl rfl (by decide) rfl ?_
  rw [ht2]
  refine V.iload (q := 948) dL_law_946 rfl rfl ?_
  refine V.icmp_eq (tgt := 953) (q := 951) dL_law_948 (by decide) rfl (fun c948 => ?_) (fun c948 => ?_)
  · refine V.iload (q := 955) dL_law_953 rfl rfl ?_
    refine V.if_ne (tgt := 970) (q := 958) dL_law_955 (by decide) rfl (fun c955 => ?_) (fun c955 => ?_)
    · refine V.goto (tgt := 2552) dL_law_970 (by decide) ?_
      refine V.wid (ce2 := ce + 3) (sl2 := sl + 18) (by omega) (by omega) (V.less (L2 := LI G i) ⟨Or.inr rfl, Or.inr rfl, Or.inr rfl, Or.inr rfl, Or.inr rfl, Or.inl rfl, Or.inl rfl, Or.inl rfl, Or.inl rfl, trivial⟩ (next _ _ hK hC hM))
    · refine V.aload_n (q := 959) dL_law_958 rfl rfl ?_
      refine V.iconst (q := 960) dL_law_959 (v := 0) rfl rfl ?_
      refine V.ld16 (q := 961) dL_law_960 (i := 0)  rfl (by decide) rfl ?_
      rw [(congrFun hO2 0).trans (hv c955)]
      refine V.iload (q := 963) dL_law_961 rfl rfl ?_
      refine V.i2l (q := 964) dL_law_963 rfl ?_
      refine V.lcmp (q := 965) dL_law_964 rfl ?_
      rw [lg_same]
      refine V.if_eq (tgt := 970) (q := 968) dL_law_965 (by decide) rfl (fun c965 => ?_) (fun c965 => ?_)
      · refine V.goto (tgt := 2552) dL_law_970 (by decide) ?_
        refine V.wid (ce2 := ce + 3) (sl2 := sl + 18) (by omega) (by omega) (V.less (L2 := LI G i) ⟨Or.inr rfl, Or.inr rfl, Or.inr rfl, Or.inr rfl, Or.inr rfl, Or.inl rfl, Or.inl rfl, Or.inl rfl, Or.inl rfl, trivial⟩ (next _ _ hK hC hM))
      · exact absurd rfl c965
  · exact absurd hk.symm c948
set_option maxHeartbeats 2000000 in
theorem kC_24 {l : Launch} {G : GG} {σ : St} {a : Ab} {Q : PQ} (hK : AK a) (hC : CL σ a) (hM : ML σ a) {i : Nat} (hi : i + 6 ≤ gL G) (hL : gL G ≤ 3072) {mc ms ce sl : Nat} (hce : ce + 3 ≤ mc) (hsl : sl + 18 ≤ ms) (next : ∀ τ a2, AK a2 → CL τ a2 → ML τ a2 → V l G TL_law 17 mc ms Q (ce + 3) (sl + 18) 2552 (LI G i) [] (hof G τ) NC) : V l G TL_law 17 mc ms Q ce sl 973 (LI G i) [] (hof G σ) NC := by
  have hI := hK.1.1.1
  have ht := hK.1.1.2
  have hL31 : gL G < 2 ^ 31 := by omega
  refine V.aload_n (q := 974) dL_law_973 rfl rfl ?_
  refine V.aload_n (q := 975) dL_law_974 rfl rfl ?_
  refine V.iload (q := 977) dL_law_975 rfl rfl ?_
  refine V.iconst (q := 978) dL_law_977 (v := 1) rfl rfl ?_
  refine V.iadd (q := 979) dL_law_978 rfl ?_
  refine V.sld (q := 980) dL_law_979 (i := i + 1) (by omega) hL31 (nI_k i 1) rfl ?_
  refine V.aload_n (q := 981) dL_law_980 rfl rfl ?_
  refine V.cStXW (q := 984) (As := [_, _, _]) dL_law_981 rfl (w1_boardedAt hK hC hM) (fun E9 τ9 ⟨k9, e9, _⟩ => nomatch e9) ML_boardedAt bw_804 rfl rfl (by decide) rfl (by omega) (by omega) (fun v1 τ1 h1 => ?_)
  obtain ⟨k, e1, hC, hM, hk, hv⟩ := h1
  cases e1
  refine V.istore (q := 986) dL_law_984 rfl rfl rfl ?_
  refine V.aload_n (q := 987) dL_law_986 rfl rfl ?_
  refine V.aload_n (q := 988) dL_law_987 rfl rfl ?_
  refine V.iload (q := 990) dL_law_988 rfl rfl ?_
  refine V.iconst (q := 991) dL_law_990 (v := 1) rfl rfl ?_
  refine V.iadd (q := 992) dL_law_991 rfl ?_
  refine V.sld (q := 993) dL_law_992 (i := i + 1) (by omega) hL31 (nI_k i 1) rfl ?_
  refine V.cVMP (q := 996) (As := [_]) dL_law_993 rfl (m2_boardedAt hK hC hM) MX5_boardedAt bw_1395 rfl rfl rfl rfl (by decide) rfl (fun v2 τ2 h2 => ?_)
  obtain ⟨rfl, hC, hM, ht2, hO2⟩ := h2
  refine V.istore (q := 998) dL_law_996 rfl rfl rfl ?_
  refine V.aload_n (q := 999) dL_law_998 rfl rfl ?_
  refine V.cVM (q := 1002) dL_law_999 (As := []) rfl kM_thrown MX5_thrown bw_1060 rfl rfl rfl rfl (by decide) rfl ?_
  rw [ht2]
  refine V.iload (q := 1004) dL_law_1002 rfl rfl ?_
  refine V.icmp_eq (tgt := 1009) (q := 1007) dL_law_1004 (by decide) rfl (fun c1004 => ?_) (fun c1004 => ?_)
  · refine V.iload (q := 1011) dL_law_1009 rfl rfl ?_
    refine V.if_ne (tgt := 1026) (q := 1014) dL_law_1011 (by decide) rfl (fun c1011 => ?_) (fun c1011 => ?_)
    · refine V.goto (tgt := 2552) dL_law_1026 (by decide) ?_
      refine V.wid (ce2 := ce + 3) (sl2 := sl + 18) (by omega) (by omega) (V.less (L2 := LI G i) ⟨Or.inr rfl, Or.inr rfl, Or.inr rfl, Or.inr rfl, Or.inr rfl, Or.inl rfl, Or.inl rfl, Or.inl rfl, Or.inl rfl, trivial⟩ (next _ _ hK hC hM))
    · refine V.aload_n (q := 1015) dL_law_1014 rfl rfl ?_
      refine V.iconst (q := 1016) dL_law_1015 (v := 0) rfl rfl ?_
      refine V.ld16 (q := 1017) dL_law_1016 (i := 0)  rfl (by decide) rfl ?_
      rw [(congrFun hO2 0).trans (hv c1011)]
      refine V.iload (q := 1019) dL_law_1017 rfl rfl ?_
      refine V.i2l (q := 1020) dL_law_1019 rfl ?_
      refine V.lcmp (q := 1021) dL_law_1020 rfl ?_
      rw [lg_same]
      refine V.if_eq (tgt := 1026) (q := 1024) dL_law_1021 (by decide) rfl (fun c1021 => ?_) (fun c1021 => ?_)
      · refine V.goto (tgt := 2552) dL_law_1026 (by decide) ?_
        refine V.wid (ce2 := ce + 3) (sl2 := sl + 18) (by omega) (by omega) (V.less (L2 := LI G i) ⟨Or.inr rfl, Or.inr rfl, Or.inr rfl, Or.inr rfl, Or.inr rfl, Or.inl rfl, Or.inl rfl, Or.inl rfl, Or.inl rfl, trivial⟩ (next _ _ hK hC hM))
      · exact absurd rfl c1021
  · exact absurd hk.symm c1004
set_option maxHeartbeats 2000000 in
theorem kC_25 {l : Launch} {G : GG} {σ : St} {a : Ab} {Q : PQ} (hK : AK a) (hC : CL σ a) (hM : ML σ a) {i : Nat} (hi : i + 6 ≤ gL G) (hL : gL G ≤ 3072) {mc ms ce sl : Nat} (hce : ce + 3 ≤ mc) (hsl : sl + 18 ≤ ms) (next : ∀ τ a2, AK a2 → CL τ a2 → ML τ a2 → V l G TL_law 17 mc ms Q (ce + 3) (sl + 18) 2552 (LI G i) [] (hof G τ) NC) : V l G TL_law 17 mc ms Q ce sl 1029 (LI G i) [] (hof G σ) NC := by
  have hI := hK.1.1.1
  have ht := hK.1.1.2
  have hL31 : gL G < 2 ^ 31 := by omega
  refine V.aload_n (q := 1030) dL_law_1029 rfl rfl ?_
  refine V.aload_n (q := 1031) dL_law_1030 rfl rfl ?_
  refine V.iload (q := 1033) dL_law_1031 rfl rfl ?_
  refine V.iconst (q := 1034) dL_law_1033 (v := 1) rfl rfl ?_
  refine V.iadd (q := 1035) dL_law_1034 rfl ?_
  refine V.sld (q := 1036) dL_law_1035 (i := i + 1) (by omega) hL31 (nI_k i 1) rfl ?_
  refine V.aload_n (q := 1037) dL_law_1036 rfl rfl ?_
  refine V.cStXW (q := 1040) (As := [_, _, _]) dL_law_1037 rfl (w1_leftAt hK hC hM) (fun E9 τ9 ⟨k9, e9, _⟩ => nomatch e9) ML_leftAt bw_811 rfl rfl (by decide) rfl (by omega) (by omega) (fun v1 τ1 h1 => ?_)
  obtain ⟨k, e1, hC, hM, hk, hv⟩ := h1
  cases e1
  refine V.istore (q := 1042) dL_law_1040 rfl rfl rfl ?_
  refine V.aload_n (q := 1043) dL_law_1042 rfl rfl ?_
  refine V.aload_n (q := 1044) dL_law_1043 rfl rfl ?_
  refine V.iload (q := 1046) dL_law_1044 rfl rfl ?_
  refine V.iconst (q := 1047) dL_law_1046 (v := 1) rfl rfl ?_
  refine V.iadd (q := 1048) dL_law_1047 rfl ?_
  refine V.sld (q := 1049) dL_law_1048 (i := i + 1) (by omega) hL31 (nI_k i 1) rfl ?_
  refine V.cVMP (q := 1052) (As := [_]) dL_law_1049 rfl (m2_leftAt hK hC hM) MX5_leftAt bw_1399 rfl rfl rfl rfl (by decide) rfl (fun v2 τ2 h2 => ?_)
  obtain ⟨rfl, hC, hM, ht2, hO2⟩ := h2
  refine V.istore (q := 1054) dL_law_1052 rfl rfl rfl ?_
  refine V.aload_n (q := 1055) dL_law_1054 rfl rfl ?_
  refine V.cVM (q := 1058) dL_law_1055 (As := []) rfl kM_thrown MX5_thrown bw_1060 rfl rfl rfl rfl (by decide) rfl ?_
  rw [ht2]
  refine V.iload (q := 1060) dL_law_1058 rfl rfl ?_
  refine V.icmp_eq (tgt := 1065) (q := 1063) dL_law_1060 (by decide) rfl (fun c1060 => ?_) (fun c1060 => ?_)
  · refine V.iload (q := 1067) dL_law_1065 rfl rfl ?_
    refine V.if_ne (tgt := 1082) (q := 1070) dL_law_1067 (by decide) rfl (fun c1067 => ?_) (fun c1067 => ?_)
    · refine V.goto (tgt := 2552) dL_law_1082 (by decide) ?_
      refine V.wid (ce2 := ce + 3) (sl2 := sl + 18) (by omega) (by omega) (V.less (L2 := LI G i) ⟨Or.inr rfl, Or.inr rfl, Or.inr rfl, Or.inr rfl, Or.inr rfl, Or.inl rfl, Or.inl rfl, Or.inl rfl, Or.inl rfl, trivial⟩ (next _ _ hK hC hM))
    · refine V.aload_n (q := 1071) dL_law_1070 rfl rfl ?_
      refine V.iconst (q := 1072) dL_law_1071 (v := 0) rfl rfl ?_
      refine V.ld16 (q := 1073) dL_law_1072 (i := 0)  rfl (by decide) rfl ?_
      rw [(congrFun hO2 0).trans (hv c1067)]
      refine V.iload (q := 1075) dL_law_1073 rfl rfl ?_
      refine V.i2l (q := 1076) dL_law_1075 rfl ?_
      refine V.lcmp (q := 1077) dL_law_1076 rfl ?_
      rw [lg_same]
      refine V.if_eq (tgt := 1082) (q := 1080) dL_law_1077 (by decide) rfl (fun c1077 => ?_) (fun c1077 => ?_)
      · refine V.goto (tgt := 2552) dL_law_1082 (by decide) ?_
        refine V.wid (ce2 := ce + 3) (sl2 := sl + 18) (by omega) (by omega) (V.less (L2 := LI G i) ⟨Or.inr rfl, Or.inr rfl, Or.inr rfl, Or.inr rfl, Or.inr rfl, Or.inl rfl, Or.inl rfl, Or.inl rfl, Or.inl rfl, trivial⟩ (next _ _ hK hC hM))
      · exact absurd rfl c1077
  · exact absurd hk.symm c1060
set_option maxHeartbeats 2000000 in
theorem kC_26 {l : Launch} {G : GG} {σ : St} {a : Ab} {Q : PQ} (hK : AK a) (hC : CL σ a) (hM : ML σ a) {i : Nat} (hi : i + 6 ≤ gL G) (hL : gL G ≤ 3072) {mc ms ce sl : Nat} (hce : ce + 3 ≤ mc) (hsl : sl + 18 ≤ ms) (next : ∀ τ a2, AK a2 → CL τ a2 → ML τ a2 → V l G TL_law 17 mc ms Q (ce + 3) (sl + 18) 2552 (LI G i) [] (hof G τ) NC) : V l G TL_law 17 mc ms Q ce sl 1085 (LI G i) [] (hof G σ) NC := by
  have hI := hK.1.1.1
  have ht := hK.1.1.2
  have hL31 : gL G < 2 ^ 31 := by omega
  refine V.aload_n (q := 1086) dL_law_1085 rfl rfl ?_
  refine V.aload_n (q := 1087) dL_law_1086 rfl rfl ?_
  refine V.iload (q := 1089) dL_law_1087 rfl rfl ?_
  refine V.iconst (q := 1090) dL_law_1089 (v := 1) rfl rfl ?_
  refine V.iadd (q := 1091) dL_law_1090 rfl ?_
  refine V.sld (q := 1092) dL_law_1091 (i := i + 1) (by omega) hL31 (nI_k i 1) rfl ?_
  refine V.aload_n (q := 1093) dL_law_1092 rfl rfl ?_
  refine V.cStXW (q := 1096) (As := [_, _, _]) dL_law_1093 rfl (w1_waitOf hK hC hM) (fun E9 τ9 ⟨k9, e9, _⟩ => nomatch e9) ML_waitOf bw_818 rfl rfl (by decide) rfl (by omega) (by omega) (fun v1 τ1 h1 => ?_)
  obtain ⟨k, e1, hC, hM, hk, hv⟩ := h1
  cases e1
  refine V.istore (q := 1098) dL_law_1096 rfl rfl rfl ?_
  refine V.aload_n (q := 1099) dL_law_1098 rfl rfl ?_
  refine V.aload_n (q := 1100) dL_law_1099 rfl rfl ?_
  refine V.iload (q := 1102) dL_law_1100 rfl rfl ?_
  refine V.iconst (q := 1103) dL_law_1102 (v := 1) rfl rfl ?_
  refine V.iadd (q := 1104) dL_law_1103 rfl ?_
  refine V.sld (q := 1105) dL_law_1104 (i := i + 1) (by omega) hL31 (nI_k i 1) rfl ?_
  refine V.cVMP (q := 1108) (As := [_]) dL_law_1105 rfl (m2_waitOf hK hC hM) MX5_waitOf bw_1403 rfl rfl rfl rfl (by decide) rfl (fun v2 τ2 h2 => ?_)
  obtain ⟨rfl, hC, hM, ht2, hO2⟩ := h2
  refine V.istore (q := 1110) dL_law_1108 rfl rfl rfl ?_
  refine V.aload_n (q := 1111) dL_law_1110 rfl rfl ?_
  refine V.cVM (q := 1114) dL_law_1111 (As := []) rfl kM_thrown MX5_thrown bw_1060 rfl rfl rfl rfl (by decide) rfl ?_
  rw [ht2]
  refine V.iload (q := 1116) dL_law_1114 rfl rfl ?_
  refine V.icmp_eq (tgt := 1121) (q := 1119) dL_law_1116 (by decide) rfl (fun c1116 => ?_) (fun c1116 => ?_)
  · refine V.iload (q := 1123) dL_law_1121 rfl rfl ?_
    refine V.if_ne (tgt := 1138) (q := 1126) dL_law_1123 (by decide) rfl (fun c1123 => ?_) (fun c1123 => ?_)
    · refine V.goto (tgt := 2552) dL_law_1138 (by decide) ?_
      refine V.wid (ce2 := ce + 3) (sl2 := sl + 18) (by omega) (by omega) (V.less (L2 := LI G i) ⟨Or.inr rfl, Or.inr rfl, Or.inr rfl, Or.inr rfl, Or.inr rfl, Or.inl rfl, Or.inl rfl, Or.inl rfl, Or.inl rfl, trivial⟩ (next _ _ hK hC hM))
    · refine V.aload_n (q := 1127) dL_law_1126 rfl rfl ?_
      refine V.iconst (q := 1128) dL_law_1127 (v := 0) rfl rfl ?_
      refine V.ld16 (q := 1129) dL_law_1128 (i := 0)  rfl (by decide) rfl ?_
      rw [(congrFun hO2 0).trans (hv c1123)]
      refine V.iload (q := 1131) dL_law_1129 rfl rfl ?_
      refine V.i2l (q := 1132) dL_law_1131 rfl ?_
      refine V.lcmp (q := 1133) dL_law_1132 rfl ?_
      rw [lg_same]
      refine V.if_eq (tgt := 1138) (q := 1136) dL_law_1133 (by decide) rfl (fun c1133 => ?_) (fun c1133 => ?_)
      · refine V.goto (tgt := 2552) dL_law_1138 (by decide) ?_
        refine V.wid (ce2 := ce + 3) (sl2 := sl + 18) (by omega) (by omega) (V.less (L2 := LI G i) ⟨Or.inr rfl, Or.inr rfl, Or.inr rfl, Or.inr rfl, Or.inr rfl, Or.inl rfl, Or.inl rfl, Or.inl rfl, Or.inl rfl, trivial⟩ (next _ _ hK hC hM))
      · exact absurd rfl c1133
  · exact absurd hk.symm c1116
set_option maxHeartbeats 2000000 in
theorem kC_27 {l : Launch} {G : GG} {σ : St} {a : Ab} {Q : PQ} (hK : AK a) (hC : CL σ a) (hM : ML σ a) {i : Nat} (hi : i + 6 ≤ gL G) (hL : gL G ≤ 3072) {mc ms ce sl : Nat} (hce : ce + 3 ≤ mc) (hsl : sl + 18 ≤ ms) (next : ∀ τ a2, AK a2 → CL τ a2 → ML τ a2 → V l G TL_law 17 mc ms Q (ce + 3) (sl + 18) 2552 (LI G i) [] (hof G τ) NC) : V l G TL_law 17 mc ms Q ce sl 1141 (LI G i) [] (hof G σ) NC := by
  have hI := hK.1.1.1
  have ht := hK.1.1.2
  have hL31 : gL G < 2 ^ 31 := by omega
  refine V.aload_n (q := 1142) dL_law_1141 rfl rfl ?_
  refine V.aload_n (q := 1143) dL_law_1142 rfl rfl ?_
  refine V.iload (q := 1145) dL_law_1143 rfl rfl ?_
  refine V.iconst (q := 1146) dL_law_1145 (v := 1) rfl rfl ?_
  refine V.iadd (q := 1147) dL_law_1146 rfl ?_
  refine V.sld (q := 1148) dL_law_1147 (i := i + 1) (by omega) hL31 (nI_k i 1) rfl ?_
  refine V.aload_n (q := 1149) dL_law_1148 rfl rfl ?_
  refine V.cStXW (q := 1152) (As := [_, _, _]) dL_law_1149 rfl (w1_rideOf hK hC hM) (fun E9 τ9 ⟨k9, e9, _⟩ => nomatch e9) ML_rideOf bw_826 rfl rfl (by decide) rfl (by omega) (by omega) (fun v1 τ1 h1 => ?_)
  obtain ⟨k, e1, hC, hM, hk, hv⟩ := h1
  cases e1
  refine V.istore (q := 1154) dL_law_1152 rfl rfl rfl ?_
  refine V.aload_n (q := 1155) dL_law_1154 rfl rfl ?_
  refine V.aload_n (q := 1156) dL_law_1155 rfl rfl ?_
  refine V.iload (q := 1158) dL_law_1156 rfl rfl ?_
  refine V.iconst (q := 1159) dL_law_1158 (v := 1) rfl rfl ?_
  refine V.iadd (q := 1160) dL_law_1159 rfl ?_
  refine V.sld (q := 1161) dL_law_1160 (i := i + 1) (by omega) hL31 (nI_k i 1) rfl ?_
  refine V.cVMP (q := 1164) (As := [_]) dL_law_1161 rfl (m2_rideOf hK hC hM) MX5_rideOf bw_1411 rfl rfl rfl rfl (by decide) rfl (fun v2 τ2 h2 => ?_)
  obtain ⟨rfl, hC, hM, ht2, hO2⟩ := h2
  refine V.istore (q := 1166) dL_law_1164 rfl rfl rfl ?_
  refine V.aload_n (q := 1167) dL_law_1166 rfl rfl ?_
  refine V.cVM (q := 1170) dL_law_1167 (As := []) rfl kM_thrown MX5_thrown bw_1060 rfl rfl rfl rfl (by decide) rfl ?_
  rw [ht2]
  refine V.iload (q := 1172) dL_law_1170 rfl rfl ?_
  refine V.icmp_eq (tgt := 1177) (q := 1175) dL_law_1172 (by decide) rfl (fun c1172 => ?_) (fun c1172 => ?_)
  · refine V.iload (q := 1179) dL_law_1177 rfl rfl ?_
    refine V.if_ne (tgt := 1194) (q := 1182) dL_law_1179 (by decide) rfl (fun c1179 => ?_) (fun c1179 => ?_)
    · refine V.goto (tgt := 2552) dL_law_1194 (by decide) ?_
      refine V.wid (ce2 := ce + 3) (sl2 := sl + 18) (by omega) (by omega) (V.less (L2 := LI G i) ⟨Or.inr rfl, Or.inr rfl, Or.inr rfl, Or.inr rfl, Or.inr rfl, Or.inl rfl, Or.inl rfl, Or.inl rfl, Or.inl rfl, trivial⟩ (next _ _ hK hC hM))
    · refine V.aload_n (q := 1183) dL_law_1182 rfl rfl ?_
      refine V.iconst (q := 1184) dL_law_1183 (v := 0) rfl rfl ?_
      refine V.ld16 (q := 1185) dL_law_1184 (i := 0)  rfl (by decide) rfl ?_
      rw [(congrFun hO2 0).trans (hv c1179)]
      refine V.iload (q := 1187) dL_law_1185 rfl rfl ?_
      refine V.i2l (q := 1188) dL_law_1187 rfl ?_
      refine V.lcmp (q := 1189) dL_law_1188 rfl ?_
      rw [lg_same]
      refine V.if_eq (tgt := 1194) (q := 1192) dL_law_1189 (by decide) rfl (fun c1189 => ?_) (fun c1189 => ?_)
      · refine V.goto (tgt := 2552) dL_law_1194 (by decide) ?_
        refine V.wid (ce2 := ce + 3) (sl2 := sl + 18) (by omega) (by omega) (V.less (L2 := LI G i) ⟨Or.inr rfl, Or.inr rfl, Or.inr rfl, Or.inr rfl, Or.inr rfl, Or.inl rfl, Or.inl rfl, Or.inl rfl, Or.inl rfl, trivial⟩ (next _ _ hK hC hM))
      · exact absurd rfl c1189
  · exact absurd hk.symm c1172
set_option maxHeartbeats 2000000 in
theorem kC_28 {l : Launch} {G : GG} {σ : St} {a : Ab} {Q : PQ} (hK : AK a) (hC : CL σ a) (hM : ML σ a) {i : Nat} (hi : i + 6 ≤ gL G) (hL : gL G ≤ 3072) {mc ms ce sl : Nat} (hce : ce + 3 ≤ mc) (hsl : sl + 18 ≤ ms) (next : ∀ τ a2, AK a2 → CL τ a2 → ML τ a2 → V l G TL_law 17 mc ms Q (ce + 3) (sl + 18) 2552 (LI G i) [] (hof G τ) NC) : V l G TL_law 17 mc ms Q ce sl 1197 (LI G i) [] (hof G σ) NC := by
  have hI := hK.1.1.1
  have ht := hK.1.1.2
  have hL31 : gL G < 2 ^ 31 := by omega
  refine V.aload_n (q := 1198) dL_law_1197 rfl rfl ?_
  refine V.aload_n (q := 1199) dL_law_1198 rfl rfl ?_
  refine V.iload (q := 1201) dL_law_1199 rfl rfl ?_
  refine V.iconst (q := 1202) dL_law_1201 (v := 1) rfl rfl ?_
  refine V.iadd (q := 1203) dL_law_1202 rfl ?_
  refine V.sld (q := 1204) dL_law_1203 (i := i + 1) (by omega) hL31 (nI_k i 1) rfl ?_
  refine V.aload_n (q := 1205) dL_law_1204 rfl rfl ?_
  refine V.cStXW (q := 1208) (As := [_, _, _]) dL_law_1205 rfl (w1_detourOf hK hC hM) (fun E9 τ9 ⟨k9, e9, _⟩ => nomatch e9) ML_detourOf bw_833 rfl rfl (by decide) rfl (by omega) (by omega) (fun v1 τ1 h1 => ?_)
  obtain ⟨k, e1, hC, hM, hk, hv⟩ := h1
  cases e1
  refine V.istore (q := 1210) dL_law_1208 rfl rfl rfl ?_
  refine V.aload_n (q := 1211) dL_law_1210 rfl rfl ?_
  refine V.aload_n (q := 1212) dL_law_1211 rfl rfl ?_
  refine V.iload (q := 1214) dL_law_1212 rfl rfl ?_
  refine V.iconst (q := 1215) dL_law_1214 (v := 1) rfl rfl ?_
  refine V.iadd (q := 1216) dL_law_1215 rfl ?_
  refine V.sld (q := 1217) dL_law_1216 (i := i + 1) (by omega) hL31 (nI_k i 1) rfl ?_
  refine V.cVMP (q := 1220) (As := [_]) dL_law_1217 rfl (m2_detourOf hK hC hM) MX5_detourOf bw_1419 rfl rfl rfl rfl (by decide) rfl (fun v2 τ2 h2 => ?_)
  obtain ⟨rfl, hC, hM, ht2, hO2⟩ := h2
  refine V.istore (q := 1222) dL_law_1220 rfl rfl rfl ?_
  refine V.aload_n (q := 1223) dL_law_1222 rfl rfl ?_
  refine V.cVM (q := 1226) dL_law_1223 (As := []) rfl kM_thrown MX5_thrown bw_1060 rfl rfl rfl rfl (by decide) rfl ?_
  rw [ht2]
  refine V.iload (q := 1228) dL_law_1226 rfl rfl ?_
  refine V.icmp_eq (tgt := 1233) (q := 1231) dL_law_1228 (by decide) rfl (fun c1228 => ?_) (fun c1228 => ?_)
  · refine V.iload (q := 1235) dL_law_1233 rfl rfl ?_
    refine V.if_ne (tgt := 1250) (q := 1238) dL_law_1235 (by decide) rfl (fun c1235 => ?_) (fun c1235 => ?_)
    · refine V.goto (tgt := 2552) dL_law_1250 (by decide) ?_
      refine V.wid (ce2 := ce + 3) (sl2 := sl + 18) (by omega) (by omega) (V.less (L2 := LI G i) ⟨Or.inr rfl, Or.inr rfl, Or.inr rfl, Or.inr rfl, Or.inr rfl, Or.inl rfl, Or.inl rfl, Or.inl rfl, Or.inl rfl, trivial⟩ (next _ _ hK hC hM))
    · refine V.aload_n (q := 1239) dL_law_1238 rfl rfl ?_
      refine V.iconst (q := 1240) dL_law_1239 (v := 0) rfl rfl ?_
      refine V.ld16 (q := 1241) dL_law_1240 (i := 0)  rfl (by decide) rfl ?_
      rw [(congrFun hO2 0).trans (hv c1235)]
      refine V.iload (q := 1243) dL_law_1241 rfl rfl ?_
      refine V.i2l (q := 1244) dL_law_1243 rfl ?_
      refine V.lcmp (q := 1245) dL_law_1244 rfl ?_
      rw [lg_same]
      refine V.if_eq (tgt := 1250) (q := 1248) dL_law_1245 (by decide) rfl (fun c1245 => ?_) (fun c1245 => ?_)
      · refine V.goto (tgt := 2552) dL_law_1250 (by decide) ?_
        refine V.wid (ce2 := ce + 3) (sl2 := sl + 18) (by omega) (by omega) (V.less (L2 := LI G i) ⟨Or.inr rfl, Or.inr rfl, Or.inr rfl, Or.inr rfl, Or.inr rfl, Or.inl rfl, Or.inl rfl, Or.inl rfl, Or.inl rfl, trivial⟩ (next _ _ hK hC hM))
      · exact absurd rfl c1245
  · exact absurd hk.symm c1228
set_option maxHeartbeats 2000000 in
theorem kC_29 {l : Launch} {G : GG} {σ : St} {a : Ab} {Q : PQ} (hK : AK a) (hC : CL σ a) (hM : ML σ a) {i : Nat} (hi : i + 6 ≤ gL G) (hL : gL G ≤ 3072) {mc ms ce sl : Nat} (hce : ce + 3 ≤ mc) (hsl : sl + 18 ≤ ms) (next : ∀ τ a2, AK a2 → CL τ a2 → ML τ a2 → V l G TL_law 17 mc ms Q (ce + 3) (sl + 18) 2552 (LI G i) [] (hof G τ) NC) : V l G TL_law 17 mc ms Q ce sl 1253 (LI G i) [] (hof G σ) NC := by
  have hI := hK.1.1.1
  have ht := hK.1.1.2
  have hL31 : gL G < 2 ^ 31 := by omega
  refine V.aload_n (q := 1254) dL_law_1253 rfl rfl ?_
  refine V.aload_n (q := 1255) dL_law_1254 rfl rfl ?_
  refine V.iload (q := 1257) dL_law_1255 rfl rfl ?_
  refine V.iconst (q := 1258) dL_law_1257 (v := 1) rfl rfl ?_
  refine V.iadd (q := 1259) dL_law_1258 rfl ?_
  refine V.sld (q := 1260) dL_law_1259 (i := i + 1) (by omega) hL31 (nI_k i 1) rfl ?_
  refine V.aload_n (q := 1261) dL_law_1260 rfl rfl ?_
  refine V.cStXW (q := 1264) (As := [_, _, _]) dL_law_1261 rfl (w1_countStatus hK hC hM) (fun E9 τ9 ⟨k9, e9, _⟩ => nomatch e9) ML_countStatus bw_843 rfl rfl (by decide) rfl (by omega) (by omega) (fun v1 τ1 h1 => ?_)
  obtain ⟨k, e1, hC, hM, hk, hv⟩ := h1
  cases e1
  refine V.istore (q := 1266) dL_law_1264 rfl rfl rfl ?_
  refine V.aload_n (q := 1267) dL_law_1266 rfl rfl ?_
  refine V.aload_n (q := 1268) dL_law_1267 rfl rfl ?_
  refine V.iload (q := 1270) dL_law_1268 rfl rfl ?_
  refine V.iconst (q := 1271) dL_law_1270 (v := 1) rfl rfl ?_
  refine V.iadd (q := 1272) dL_law_1271 rfl ?_
  refine V.sld (q := 1273) dL_law_1272 (i := i + 1) (by omega) hL31 (nI_k i 1) rfl ?_
  refine V.cVMP (q := 1276) (As := [_]) dL_law_1273 rfl (m2_countStatus hK hC hM) MX5_countStatus bw_1423 rfl rfl rfl rfl (by decide) rfl (fun v2 τ2 h2 => ?_)
  obtain ⟨rfl, hC, hM, ht2, hO2⟩ := h2
  refine V.istore (q := 1278) dL_law_1276 rfl rfl rfl ?_
  refine V.aload_n (q := 1279) dL_law_1278 rfl rfl ?_
  refine V.cVM (q := 1282) dL_law_1279 (As := []) rfl kM_thrown MX5_thrown bw_1060 rfl rfl rfl rfl (by decide) rfl ?_
  rw [ht2]
  refine V.iload (q := 1284) dL_law_1282 rfl rfl ?_
  refine V.icmp_eq (tgt := 1289) (q := 1287) dL_law_1284 (by decide) rfl (fun c1284 => ?_) (fun c1284 => ?_)
  · refine V.iload (q := 1291) dL_law_1289 rfl rfl ?_
    refine V.if_ne (tgt := 1306) (q := 1294) dL_law_1291 (by decide) rfl (fun c1291 => ?_) (fun c1291 => ?_)
    · refine V.goto (tgt := 2552) dL_law_1306 (by decide) ?_
      refine V.wid (ce2 := ce + 3) (sl2 := sl + 18) (by omega) (by omega) (V.less (L2 := LI G i) ⟨Or.inr rfl, Or.inr rfl, Or.inr rfl, Or.inr rfl, Or.inr rfl, Or.inl rfl, Or.inl rfl, Or.inl rfl, Or.inl rfl, trivial⟩ (next _ _ hK hC hM))
    · refine V.aload_n (q := 1295) dL_law_1294 rfl rfl ?_
      refine V.iconst (q := 1296) dL_law_1295 (v := 0) rfl rfl ?_
      refine V.ld16 (q := 1297) dL_law_1296 (i := 0)  rfl (by decide) rfl ?_
      rw [(congrFun hO2 0).trans (hv c1291)]
      refine V.iload (q := 1299) dL_law_1297 rfl rfl ?_
      refine V.i2l (q := 1300) dL_law_1299 rfl ?_
      refine V.lcmp (q := 1301) dL_law_1300 rfl ?_
      rw [lg_same]
      refine V.if_eq (tgt := 1306) (q := 1304) dL_law_1301 (by decide) rfl (fun c1301 => ?_) (fun c1301 => ?_)
      · refine V.goto (tgt := 2552) dL_law_1306 (by decide) ?_
        refine V.wid (ce2 := ce + 3) (sl2 := sl + 18) (by omega) (by omega) (V.less (L2 := LI G i) ⟨Or.inr rfl, Or.inr rfl, Or.inr rfl, Or.inr rfl, Or.inr rfl, Or.inl rfl, Or.inl rfl, Or.inl rfl, Or.inl rfl, trivial⟩ (next _ _ hK hC hM))
      · exact absurd rfl c1301
  · exact absurd hk.symm c1284
set_option maxHeartbeats 2000000 in
theorem kC_30 {l : Launch} {G : GG} {σ : St} {a : Ab} {Q : PQ} (hK : AK a) (hC : CL σ a) (hM : ML σ a) {i : Nat} (hi : i + 6 ≤ gL G) (hL : gL G ≤ 3072) {mc ms ce sl : Nat} (hce : ce + 3 ≤ mc) (hsl : sl + 18 ≤ ms) (next : ∀ τ a2, AK a2 → CL τ a2 → ML τ a2 → V l G TL_law 17 mc ms Q (ce + 3) (sl + 18) 2552 (LI G i) [] (hof G τ) NC) : V l G TL_law 17 mc ms Q ce sl 1309 (LI G i) [] (hof G σ) NC := by
  have hI := hK.1.1.1
  have ht := hK.1.1.2
  have hL31 : gL G < 2 ^ 31 := by omega
  refine V.aload_n (q := 1310) dL_law_1309 rfl rfl ?_
  refine V.aload_n (q := 1311) dL_law_1310 rfl rfl ?_
  refine V.iload (q := 1313) dL_law_1311 rfl rfl ?_
  refine V.iconst (q := 1314) dL_law_1313 (v := 1) rfl rfl ?_
  refine V.iadd (q := 1315) dL_law_1314 rfl ?_
  refine V.sld (q := 1316) dL_law_1315 (i := i + 1) (by omega) hL31 (nI_k i 1) rfl ?_
  refine V.aload_n (q := 1317) dL_law_1316 rfl rfl ?_
  refine V.cStXW (q := 1320) (As := [_, _, _]) dL_law_1317 rfl (w1_waitingAt hK hC hM) (fun E9 τ9 ⟨k9, e9, _⟩ => nomatch e9) ML_waitingAt bw_852 rfl rfl (by decide) rfl (by omega) (by omega) (fun v1 τ1 h1 => ?_)
  obtain ⟨k, e1, hC, hM, hk, hv⟩ := h1
  cases e1
  refine V.istore (q := 1322) dL_law_1320 rfl rfl rfl ?_
  refine V.aload_n (q := 1323) dL_law_1322 rfl rfl ?_
  refine V.aload_n (q := 1324) dL_law_1323 rfl rfl ?_
  refine V.iload (q := 1326) dL_law_1324 rfl rfl ?_
  refine V.iconst (q := 1327) dL_law_1326 (v := 1) rfl rfl ?_
  refine V.iadd (q := 1328) dL_law_1327 rfl ?_
  refine V.sld (q := 1329) dL_law_1328 (i := i + 1) (by omega) hL31 (nI_k i 1) rfl ?_
  refine V.cVMP (q := 1332) (As := [_]) dL_law_1329 rfl (m2_waitingAt hK hC hM) MX5_waitingAt bw_1427 rfl rfl rfl rfl (by decide) rfl (fun v2 τ2 h2 => ?_)
  obtain ⟨rfl, hC, hM, ht2, hO2⟩ := h2
  refine V.istore (q := 1334) dL_law_1332 rfl rfl rfl ?_
  refine V.aload_n (q := 1335) dL_law_1334 rfl rfl ?_
  refine V.cVM (q := 1338) dL_law_1335 (As := []) rfl kM_thrown MX5_thrown bw_1060 rfl rfl rfl rfl (by decide) rfl ?_
  rw [ht2]
  refine V.iload (q := 1340) dL_law_1338 rfl rfl ?_
  refine V.icmp_eq (tgt := 1345) (q := 1343) dL_law_1340 (by decide) rfl (fun c1340 => ?_) (fun c1340 => ?_)
  · refine V.iload (q := 1347) dL_law_1345 rfl rfl ?_
    refine V.if_ne (tgt := 1362) (q := 1350) dL_law_1347 (by decide) rfl (fun c1347 => ?_) (fun c1347 => ?_)
    · refine V.goto (tgt := 2552) dL_law_1362 (by decide) ?_
      refine V.wid (ce2 := ce + 3) (sl2 := sl + 18) (by omega) (by omega) (V.less (L2 := LI G i) ⟨Or.inr rfl, Or.inr rfl, Or.inr rfl, Or.inr rfl, Or.inr rfl, Or.inl rfl, Or.inl rfl, Or.inl rfl, Or.inl rfl, trivial⟩ (next _ _ hK hC hM))
    · refine V.aload_n (q := 1351) dL_law_1350 rfl rfl ?_
      refine V.iconst (q := 1352) dL_law_1351 (v := 0) rfl rfl ?_
      refine V.ld16 (q := 1353) dL_law_1352 (i := 0)  rfl (by decide) rfl ?_
      rw [(congrFun hO2 0).trans (hv c1347)]
      refine V.iload (q := 1355) dL_law_1353 rfl rfl ?_
      refine V.i2l (q := 1356) dL_law_1355 rfl ?_
      refine V.lcmp (q := 1357) dL_law_1356 rfl ?_
      rw [lg_same]
      refine V.if_eq (tgt := 1362) (q := 1360) dL_law_1357 (by decide) rfl (fun c1357 => ?_) (fun c1357 => ?_)
      · refine V.goto (tgt := 2552) dL_law_1362 (by decide) ?_
        refine V.wid (ce2 := ce + 3) (sl2 := sl + 18) (by omega) (by omega) (V.less (L2 := LI G i) ⟨Or.inr rfl, Or.inr rfl, Or.inr rfl, Or.inr rfl, Or.inr rfl, Or.inl rfl, Or.inl rfl, Or.inl rfl, Or.inl rfl, trivial⟩ (next _ _ hK hC hM))
      · exact absurd rfl c1357
  · exact absurd hk.symm c1340
set_option maxHeartbeats 2000000 in
theorem kC_31 {l : Launch} {G : GG} {σ : St} {a : Ab} {Q : PQ} (hK : AK a) (hC : CL σ a) (hM : ML σ a) {i : Nat} (hi : i + 6 ≤ gL G) (hL : gL G ≤ 3072) {mc ms ce sl : Nat} (hce : ce + 3 ≤ mc) (hsl : sl + 18 ≤ ms) (next : ∀ τ a2, AK a2 → CL τ a2 → ML τ a2 → V l G TL_law 17 mc ms Q (ce + 3) (sl + 18) 2552 (LI G i) [] (hof G τ) NC) : V l G TL_law 17 mc ms Q ce sl 1365 (LI G i) [] (hof G σ) NC := by
  have hI := hK.1.1.1
  have ht := hK.1.1.2
  have hL31 : gL G < 2 ^ 31 := by omega
  refine V.aload_n (q := 1366) dL_law_1365 rfl rfl ?_
  refine V.aload_n (q := 1367) dL_law_1366 rfl rfl ?_
  refine V.iload (q := 1369) dL_law_1367 rfl rfl ?_
  refine V.iconst (q := 1370) dL_law_1369 (v := 1) rfl rfl ?_
  refine V.iadd (q := 1371) dL_law_1370 rfl ?_
  refine V.sld (q := 1372) dL_law_1371 (i := i + 1) (by omega) hL31 (nI_k i 1) rfl ?_
  refine V.aload_n (q := 1373) dL_law_1372 rfl rfl ?_
  refine V.iload (q := 1375) dL_law_1373 rfl rfl ?_
  refine V.iconst (q := 1376) dL_law_1375 (v := 2) rfl rfl ?_
  refine V.iadd (q := 1377) dL_law_1376 rfl ?_
  refine V.sld (q := 1378) dL_law_1377 (i := i + 2) (by omega) hL31 (nI_k i 2) rfl ?_
  refine V.aload_n (q := 1379) dL_law_1378 rfl rfl ?_
  refine V.cStXW (q := 1382) (As := [_, _, _, _]) dL_law_1379 rfl (w1_queueAt hK hC hM) (fun E9 τ9 ⟨k9, e9, _⟩ => nomatch e9) ML_queueAt bw_864 rfl rfl (by decide) rfl (by omega) (by omega) (fun v1 τ1 h1 => ?_)
  obtain ⟨k, e1, hC, hM, hk, hv⟩ := h1
  cases e1
  refine V.istore (q := 1384) dL_law_1382 rfl rfl rfl ?_
  refine V.aload_n (q := 1385) dL_law_1384 rfl rfl ?_
  refine V.aload_n (q := 1386) dL_law_1385 rfl rfl ?_
  refine V.iload (q := 1388) dL_law_1386 rfl rfl ?_
  refine V.iconst (q := 1389) dL_law_1388 (v := 1) rfl rfl ?_
  refine V.iadd (q := 1390) dL_law_1389 rfl ?_
  refine V.sld (q := 1391) dL_law_1390 (i := i + 1) (by omega) hL31 (nI_k i 1) rfl ?_
  refine V.aload_n (q := 1392) dL_law_1391 rfl rfl ?_
  refine V.iload (q := 1394) dL_law_1392 rfl rfl ?_
  refine V.iconst (q := 1395) dL_law_1394 (v := 2) rfl rfl ?_
  refine V.iadd (q := 1396) dL_law_1395 rfl ?_
  refine V.sld (q := 1397) dL_law_1396 (i := i + 2) (by omega) hL31 (nI_k i 2) rfl ?_
  refine V.cVMP (q := 1400) (As := [_, _]) dL_law_1397 rfl (m2_queueAt hK hC hM) MX5_queueAt bw_1439 rfl rfl rfl rfl (by decide) rfl (fun v2 τ2 h2 => ?_)
  obtain ⟨rfl, hC, hM, ht2, hO2⟩ := h2
  refine V.istore (q := 1402) dL_law_1400 rfl rfl rfl ?_
  refine V.aload_n (q := 1403) dL_law_1402 rfl rfl ?_
  refine V.cVM (q := 1406) dL_law_1403 (As := []) rfl kM_thrown MX5_thrown bw_1060 rfl rfl rfl rfl (by decide) rfl ?_
  rw [ht2]
  refine V.iload (q := 1408) dL_law_1406 rfl rfl ?_
  refine V.icmp_eq (tgt := 1413) (q := 1411) dL_law_1408 (by decide) rfl (fun c1408 => ?_) (fun c1408 => ?_)
  · refine V.iload (q := 1415) dL_law_1413 rfl rfl ?_
    refine V.if_ne (tgt := 1430) (q := 1418) dL_law_1415 (by decide) rfl (fun c1415 => ?_) (fun c1415 => ?_)
    · refine V.goto (tgt := 2552) dL_law_1430 (by decide) ?_
      refine V.wid (ce2 := ce + 3) (sl2 := sl + 18) (by omega) (by omega) (V.less (L2 := LI G i) ⟨Or.inr rfl, Or.inr rfl, Or.inr rfl, Or.inr rfl, Or.inr rfl, Or.inl rfl, Or.inl rfl, Or.inl rfl, Or.inl rfl, trivial⟩ (next _ _ hK hC hM))
    · refine V.aload_n (q := 1419) dL_law_1418 rfl rfl ?_
      refine V.iconst (q := 1420) dL_law_1419 (v := 0) rfl rfl ?_
      refine V.ld16 (q := 1421) dL_law_1420 (i := 0)  rfl (by decide) rfl ?_
      rw [(congrFun hO2 0).trans (hv c1415)]
      refine V.iload (q := 1423) dL_law_1421 rfl rfl ?_
      refine V.i2l (q := 1424) dL_law_1423 rfl ?_
      refine V.lcmp (q := 1425) dL_law_1424 rfl ?_
      rw [lg_same]
      refine V.if_eq (tgt := 1430) (q := 1428) dL_law_1425 (by decide) rfl (fun c1425 => ?_) (fun c1425 => ?_)
      · refine V.goto (tgt := 2552) dL_law_1430 (by decide) ?_
        refine V.wid (ce2 := ce + 3) (sl2 := sl + 18) (by omega) (by omega) (V.less (L2 := LI G i) ⟨Or.inr rfl, Or.inr rfl, Or.inr rfl, Or.inr rfl, Or.inr rfl, Or.inl rfl, Or.inl rfl, Or.inl rfl, Or.inl rfl, trivial⟩ (next _ _ hK hC hM))
      · exact absurd rfl c1425
  · exact absurd hk.symm c1408
set_option maxHeartbeats 2000000 in
theorem kC_32 {l : Launch} {G : GG} {σ : St} {a : Ab} {Q : PQ} (hK : AK a) (hC : CL σ a) (hM : ML σ a) {i : Nat} (hi : i + 6 ≤ gL G) (hL : gL G ≤ 3072) {mc ms ce sl : Nat} (hce : ce + 3 ≤ mc) (hsl : sl + 18 ≤ ms) (next : ∀ τ a2, AK a2 → CL τ a2 → ML τ a2 → V l G TL_law 17 mc ms Q (ce + 3) (sl + 18) 2552 (LI G i) [] (hof G τ) NC) : V l G TL_law 17 mc ms Q ce sl 1433 (LI G i) [] (hof G σ) NC := by
  have hI := hK.1.1.1
  have ht := hK.1.1.2
  have hL31 : gL G < 2 ^ 31 := by omega
  refine V.aload_n (q := 1434) dL_law_1433 rfl rfl ?_
  refine V.cVLP (q := 1437) (As := []) dL_law_1434 rfl (c1_firstWaiting hK hC hM) MX4_firstWaiting bw_281 rfl rfl rfl rfl (by decide) rfl (fun v1 τ1 h1 => ?_)
  obtain ⟨rfl, hC, hM⟩ := h1
  refine V.aload_n (q := 1438) dL_law_1437 rfl rfl ?_
  refine V.cVMP (q := 1441) (As := []) dL_law_1438 rfl (c2_firstWaiting hK hC hM) MX5_firstWaiting bw_1447 rfl rfl rfl rfl (by decide) rfl (fun v2 τ2 h2 => ?_)
  obtain ⟨rfl, hC, hM⟩ := h2
  refine V.icmp_eq (tgt := 2552) (q := 1444) dL_law_1441 (by decide) rfl (fun c1441 => ?_) (fun c1441 => ?_)
  · refine V.wid (ce2 := ce + 3) (sl2 := sl + 18) (by omega) (by omega) (V.less (L2 := LI G i) ⟨Or.inr rfl, Or.inr rfl, Or.inr rfl, Or.inr rfl, Or.inr rfl, Or.inl rfl, Or.inl rfl, Or.inl rfl, Or.inl rfl, trivial⟩ (next _ _ hK hC hM))
  · exact absurd rfl c1441
set_option maxHeartbeats 2000000 in
theorem kC_33 {l : Launch} {G : GG} {σ : St} {a : Ab} {Q : PQ} (hK : AK a) (hC : CL σ a) (hM : ML σ a) {i : Nat} (hi : i + 6 ≤ gL G) (hL : gL G ≤ 3072) {mc ms ce sl : Nat} (hce : ce + 3 ≤ mc) (hsl : sl + 18 ≤ ms) (next : ∀ τ a2, AK a2 → CL τ a2 → ML τ a2 → V l G TL_law 17 mc ms Q (ce + 3) (sl + 18) 2552 (LI G i) [] (hof G τ) NC) : V l G TL_law 17 mc ms Q ce sl 1446 (LI G i) [] (hof G σ) NC := by
  have hI := hK.1.1.1
  have ht := hK.1.1.2
  have hL31 : gL G < 2 ^ 31 := by omega
  refine V.aload_n (q := 1447) dL_law_1446 rfl rfl ?_
  refine V.aload_n (q := 1448) dL_law_1447 rfl rfl ?_
  refine V.iload (q := 1450) dL_law_1448 rfl rfl ?_
  refine V.iconst (q := 1451) dL_law_1450 (v := 1) rfl rfl ?_
  refine V.iadd (q := 1452) dL_law_1451 rfl ?_
  refine V.sld (q := 1453) dL_law_1452 (i := i + 1) (by omega) hL31 (nI_k i 1) rfl ?_
  refine V.aload_n (q := 1454) dL_law_1453 rfl rfl ?_
  refine V.cStXW (q := 1457) (As := [_, _, _]) dL_law_1454 rfl (w1_ridingTo hK hC hM) (fun E9 τ9 ⟨k9, e9, _⟩ => nomatch e9) ML_ridingTo bw_871 rfl rfl (by decide) rfl (by omega) (by omega) (fun v1 τ1 h1 => ?_)
  obtain ⟨k, e1, hC, hM, hk, hv⟩ := h1
  cases e1
  refine V.istore (q := 1459) dL_law_1457 rfl rfl rfl ?_
  refine V.aload_n (q := 1460) dL_law_1459 rfl rfl ?_
  refine V.aload_n (q := 1461) dL_law_1460 rfl rfl ?_
  refine V.iload (q := 1463) dL_law_1461 rfl rfl ?_
  refine V.iconst (q := 1464) dL_law_1463 (v := 1) rfl rfl ?_
  refine V.iadd (q := 1465) dL_law_1464 rfl ?_
  refine V.sld (q := 1466) dL_law_1465 (i := i + 1) (by omega) hL31 (nI_k i 1) rfl ?_
  refine V.cVMP (q := 1469) (As := [_]) dL_law_1466 rfl (m2_ridingTo hK hC hM) MX5_ridingTo bw_1451 rfl rfl rfl rfl (by decide) rfl (fun v2 τ2 h2 => ?_)
  obtain ⟨rfl, hC, hM, ht2, hO2⟩ := h2
  refine V.istore (q := 1471) dL_law_1469 rfl rfl rfl ?_
  refine V.aload_n (q := 1472) dL_law_1471 rfl rfl ?_
  refine V.cVM (q := 1475) dL_law_1472 (As := []) rfl kM_thrown MX5_thrown bw_1060 rfl rfl rfl rfl (by decide) rfl ?_
  rw [ht2]
  refine V.iload (q := 1477) dL_law_1475 rfl rfl ?_
  refine V.icmp_eq (tgt := 1482) (q := 1480) dL_law_1477 (by decide) rfl (fun c1477 => ?_) (fun c1477 => ?_)
  · refine V.iload (q := 1484) dL_law_1482 rfl rfl ?_
    refine V.if_ne (tgt := 1499) (q := 1487) dL_law_1484 (by decide) rfl (fun c1484 => ?_) (fun c1484 => ?_)
    · refine V.goto (tgt := 2552) dL_law_1499 (by decide) ?_
      refine V.wid (ce2 := ce + 3) (sl2 := sl + 18) (by omega) (by omega) (V.less (L2 := LI G i) ⟨Or.inr rfl, Or.inr rfl, Or.inr rfl, Or.inr rfl, Or.inr rfl, Or.inl rfl, Or.inl rfl, Or.inl rfl, Or.inl rfl, trivial⟩ (next _ _ hK hC hM))
    · refine V.aload_n (q := 1488) dL_law_1487 rfl rfl ?_
      refine V.iconst (q := 1489) dL_law_1488 (v := 0) rfl rfl ?_
      refine V.ld16 (q := 1490) dL_law_1489 (i := 0)  rfl (by decide) rfl ?_
      rw [(congrFun hO2 0).trans (hv c1484)]
      refine V.iload (q := 1492) dL_law_1490 rfl rfl ?_
      refine V.i2l (q := 1493) dL_law_1492 rfl ?_
      refine V.lcmp (q := 1494) dL_law_1493 rfl ?_
      rw [lg_same]
      refine V.if_eq (tgt := 1499) (q := 1497) dL_law_1494 (by decide) rfl (fun c1494 => ?_) (fun c1494 => ?_)
      · refine V.goto (tgt := 2552) dL_law_1499 (by decide) ?_
        refine V.wid (ce2 := ce + 3) (sl2 := sl + 18) (by omega) (by omega) (V.less (L2 := LI G i) ⟨Or.inr rfl, Or.inr rfl, Or.inr rfl, Or.inr rfl, Or.inr rfl, Or.inl rfl, Or.inl rfl, Or.inl rfl, Or.inl rfl, trivial⟩ (next _ _ hK hC hM))
      · exact absurd rfl c1494
  · exact absurd hk.symm c1477
set_option maxHeartbeats 2000000 in
theorem kC_34 {l : Launch} {G : GG} {σ : St} {a : Ab} {Q : PQ} (hK : AK a) (hC : CL σ a) (hM : ML σ a) {i : Nat} (hi : i + 6 ≤ gL G) (hL : gL G ≤ 3072) {mc ms ce sl : Nat} (hce : ce + 3 ≤ mc) (hsl : sl + 18 ≤ ms) (next : ∀ τ a2, AK a2 → CL τ a2 → ML τ a2 → V l G TL_law 17 mc ms Q (ce + 3) (sl + 18) 2552 (LI G i) [] (hof G τ) NC) : V l G TL_law 17 mc ms Q ce sl 1502 (LI G i) [] (hof G σ) NC := by
  have hI := hK.1.1.1
  have ht := hK.1.1.2
  have hL31 : gL G < 2 ^ 31 := by omega
  refine V.aload_n (q := 1503) dL_law_1502 rfl rfl ?_
  refine V.cVLP (q := 1506) (As := []) dL_law_1503 rfl (c1_busiestOrigin hK hC hM) MX4_busiestOrigin bw_289 rfl rfl rfl rfl (by decide) rfl (fun v1 τ1 h1 => ?_)
  obtain ⟨rfl, hC, hM⟩ := h1
  refine V.aload_n (q := 1507) dL_law_1506 rfl rfl ?_
  refine V.cVMP (q := 1510) (As := []) dL_law_1507 rfl (c2_busiestOrigin hK hC hM) MX5_busiestOrigin bw_1455 rfl rfl rfl rfl (by decide) rfl (fun v2 τ2 h2 => ?_)
  obtain ⟨rfl, hC, hM⟩ := h2
  refine V.icmp_eq (tgt := 2552) (q := 1513) dL_law_1510 (by decide) rfl (fun c1510 => ?_) (fun c1510 => ?_)
  · refine V.wid (ce2 := ce + 3) (sl2 := sl + 18) (by omega) (by omega) (V.less (L2 := LI G i) ⟨Or.inr rfl, Or.inr rfl, Or.inr rfl, Or.inr rfl, Or.inr rfl, Or.inl rfl, Or.inl rfl, Or.inl rfl, Or.inl rfl, trivial⟩ (next _ _ hK hC hM))
  · exact absurd rfl c1510
set_option maxHeartbeats 2000000 in
theorem kC_35 {l : Launch} {G : GG} {σ : St} {a : Ab} {Q : PQ} (hK : AK a) (hC : CL σ a) (hM : ML σ a) {i : Nat} (hi : i + 6 ≤ gL G) (hL : gL G ≤ 3072) {mc ms ce sl : Nat} (hce : ce + 3 ≤ mc) (hsl : sl + 18 ≤ ms) (next : ∀ τ a2, AK a2 → CL τ a2 → ML τ a2 → V l G TL_law 17 mc ms Q (ce + 3) (sl + 18) 2552 (LI G i) [] (hof G τ) NC) : V l G TL_law 17 mc ms Q ce sl 1515 (LI G i) [] (hof G σ) NC := by
  have hI := hK.1.1.1
  have ht := hK.1.1.2
  have hL31 : gL G < 2 ^ 31 := by omega
  refine V.aload_n (q := 1516) dL_law_1515 rfl rfl ?_
  refine V.aload_n (q := 1517) dL_law_1516 rfl rfl ?_
  refine V.iload (q := 1519) dL_law_1517 rfl rfl ?_
  refine V.iconst (q := 1520) dL_law_1519 (v := 1) rfl rfl ?_
  refine V.iadd (q := 1521) dL_law_1520 rfl ?_
  refine V.sld (q := 1522) dL_law_1521 (i := i + 1) (by omega) hL31 (nI_k i 1) rfl ?_
  refine V.aload_n (q := 1523) dL_law_1522 rfl rfl ?_
  refine V.iload (q := 1525) dL_law_1523 rfl rfl ?_
  refine V.iconst (q := 1526) dL_law_1525 (v := 2) rfl rfl ?_
  refine V.iadd (q := 1527) dL_law_1526 rfl ?_
  refine V.sld (q := 1528) dL_law_1527 (i := i + 2) (by omega) hL31 (nI_k i 2) rfl ?_
  refine V.aload_n (q := 1529) dL_law_1528 rfl rfl ?_
  refine V.cStXW (q := 1532) (As := [_, _, _, _]) dL_law_1529 rfl (w1_passengersBetween hK hC hM) (fun E9 τ9 ⟨k9, e9, _⟩ => nomatch e9) ML_passengersBetween bw_878 rfl rfl (by decide) rfl (by omega) (by omega) (fun v1 τ1 h1 => ?_)
  obtain ⟨k, e1, hC, hM, hk, hv⟩ := h1
  cases e1
  refine V.istore (q := 1534) dL_law_1532 rfl rfl rfl ?_
  refine V.aload_n (q := 1535) dL_law_1534 rfl rfl ?_
  refine V.aload_n (q := 1536) dL_law_1535 rfl rfl ?_
  refine V.iload (q := 1538) dL_law_1536 rfl rfl ?_
  refine V.iconst (q := 1539) dL_law_1538 (v := 1) rfl rfl ?_
  refine V.iadd (q := 1540) dL_law_1539 rfl ?_
  refine V.sld (q := 1541) dL_law_1540 (i := i + 1) (by omega) hL31 (nI_k i 1) rfl ?_
  refine V.aload_n (q := 1542) dL_law_1541 rfl rfl ?_
  refine V.iload (q := 1544) dL_law_1542 rfl rfl ?_
  refine V.iconst (q := 1545) dL_law_1544 (v := 2) rfl rfl ?_
  refine V.iadd (q := 1546) dL_law_1545 rfl ?_
  refine V.sld (q := 1547) dL_law_1546 (i := i + 2) (by omega) hL31 (nI_k i 2) rfl ?_
  refine V.cVMP (q := 1550) (As := [_, _]) dL_law_1547 rfl (m2_passengersBetween hK hC hM) MX5_passengersBetween bw_1463 rfl rfl rfl rfl (by decide) rfl (fun v2 τ2 h2 => ?_)
  obtain ⟨rfl, hC, hM, ht2, hO2⟩ := h2
  refine V.istore (q := 1552) dL_law_1550 rfl rfl rfl ?_
  refine V.aload_n (q := 1553) dL_law_1552 rfl rfl ?_
  refine V.cVM (q := 1556) dL_law_1553 (As := []) rfl kM_thrown MX5_thrown bw_1060 rfl rfl rfl rfl (by decide) rfl ?_
  rw [ht2]
  refine V.iload (q := 1558) dL_law_1556 rfl rfl ?_
  refine V.icmp_eq (tgt := 1563) (q := 1561) dL_law_1558 (by decide) rfl (fun c1558 => ?_) (fun c1558 => ?_)
  · refine V.iload (q := 1565) dL_law_1563 rfl rfl ?_
    refine V.if_ne (tgt := 1580) (q := 1568) dL_law_1565 (by decide) rfl (fun c1565 => ?_) (fun c1565 => ?_)
    · refine V.goto (tgt := 2552) dL_law_1580 (by decide) ?_
      refine V.wid (ce2 := ce + 3) (sl2 := sl + 18) (by omega) (by omega) (V.less (L2 := LI G i) ⟨Or.inr rfl, Or.inr rfl, Or.inr rfl, Or.inr rfl, Or.inr rfl, Or.inl rfl, Or.inl rfl, Or.inl rfl, Or.inl rfl, trivial⟩ (next _ _ hK hC hM))
    · refine V.aload_n (q := 1569) dL_law_1568 rfl rfl ?_
      refine V.iconst (q := 1570) dL_law_1569 (v := 0) rfl rfl ?_
      refine V.ld16 (q := 1571) dL_law_1570 (i := 0)  rfl (by decide) rfl ?_
      rw [(congrFun hO2 0).trans (hv c1565)]
      refine V.iload (q := 1573) dL_law_1571 rfl rfl ?_
      refine V.i2l (q := 1574) dL_law_1573 rfl ?_
      refine V.lcmp (q := 1575) dL_law_1574 rfl ?_
      rw [lg_same]
      refine V.if_eq (tgt := 1580) (q := 1578) dL_law_1575 (by decide) rfl (fun c1575 => ?_) (fun c1575 => ?_)
      · refine V.goto (tgt := 2552) dL_law_1580 (by decide) ?_
        refine V.wid (ce2 := ce + 3) (sl2 := sl + 18) (by omega) (by omega) (V.less (L2 := LI G i) ⟨Or.inr rfl, Or.inr rfl, Or.inr rfl, Or.inr rfl, Or.inr rfl, Or.inl rfl, Or.inl rfl, Or.inl rfl, Or.inl rfl, trivial⟩ (next _ _ hK hC hM))
      · exact absurd rfl c1575
  · exact absurd hk.symm c1558
set_option maxHeartbeats 2000000 in
theorem kC_36 {l : Launch} {G : GG} {σ : St} {a : Ab} {Q : PQ} (hK : AK a) (hC : CL σ a) (hM : ML σ a) {i : Nat} (hi : i + 6 ≤ gL G) (hL : gL G ≤ 3072) {mc ms ce sl : Nat} (hce : ce + 3 ≤ mc) (hsl : sl + 18 ≤ ms) (next : ∀ τ a2, AK a2 → CL τ a2 → ML τ a2 → V l G TL_law 17 mc ms Q (ce + 3) (sl + 18) 2552 (LI G i) [] (hof G τ) NC) : V l G TL_law 17 mc ms Q ce sl 1583 (LI G i) [] (hof G σ) NC := by
  have hI := hK.1.1.1
  have ht := hK.1.1.2
  have hL31 : gL G < 2 ^ 31 := by omega
  refine V.aload_n (q := 1584) dL_law_1583 rfl rfl ?_
  refine V.cVLP (q := 1587) (As := []) dL_law_1584 rfl (c1_nextArrival hK hC hM) MX4_nextArrival bw_293 rfl rfl rfl rfl (by decide) rfl (fun v1 τ1 h1 => ?_)
  obtain ⟨rfl, hC, hM⟩ := h1
  refine V.aload_n (q := 1588) dL_law_1587 rfl rfl ?_
  refine V.cVMP (q := 1591) (As := []) dL_law_1588 rfl (c2_nextArrival hK hC hM) MX5_nextArrival bw_1467 rfl rfl rfl rfl (by decide) rfl (fun v2 τ2 h2 => ?_)
  obtain ⟨rfl, hC, hM⟩ := h2
  refine V.icmp_eq (tgt := 2552) (q := 1594) dL_law_1591 (by decide) rfl (fun c1591 => ?_) (fun c1591 => ?_)
  · refine V.wid (ce2 := ce + 3) (sl2 := sl + 18) (by omega) (by omega) (V.less (L2 := LI G i) ⟨Or.inr rfl, Or.inr rfl, Or.inr rfl, Or.inr rfl, Or.inr rfl, Or.inl rfl, Or.inl rfl, Or.inl rfl, Or.inl rfl, trivial⟩ (next _ _ hK hC hM))
  · exact absurd rfl c1591
set_option maxHeartbeats 2000000 in
theorem kC_37 {l : Launch} {G : GG} {σ : St} {a : Ab} {Q : PQ} (hK : AK a) (hC : CL σ a) (hM : ML σ a) {i : Nat} (hi : i + 6 ≤ gL G) (hL : gL G ≤ 3072) {mc ms ce sl : Nat} (hce : ce + 3 ≤ mc) (hsl : sl + 18 ≤ ms) (next : ∀ τ a2, AK a2 → CL τ a2 → ML τ a2 → V l G TL_law 17 mc ms Q (ce + 3) (sl + 18) 2552 (LI G i) [] (hof G τ) NC) : V l G TL_law 17 mc ms Q ce sl 1596 (LI G i) [] (hof G σ) NC := by
  have hI := hK.1.1.1
  have ht := hK.1.1.2
  have hL31 : gL G < 2 ^ 31 := by omega
  refine V.aload_n (q := 1597) dL_law_1596 rfl rfl ?_
  refine V.cVLP (q := 1600) (As := []) dL_law_1597 rfl (c1_totalRide hK hC hM) MX4_totalRide bw_297 rfl rfl rfl rfl (by decide) rfl (fun v1 τ1 h1 => ?_)
  obtain ⟨rfl, hC, hM⟩ := h1
  refine V.aload_n (q := 1601) dL_law_1600 rfl rfl ?_
  refine V.cVMP (q := 1604) (As := []) dL_law_1601 rfl (c2_totalRide hK hC hM) MX5_totalRide bw_1471 rfl rfl rfl rfl (by decide) rfl (fun v2 τ2 h2 => ?_)
  obtain ⟨rfl, hC, hM⟩ := h2
  refine V.icmp_eq (tgt := 2552) (q := 1607) dL_law_1604 (by decide) rfl (fun c1604 => ?_) (fun c1604 => ?_)
  · refine V.wid (ce2 := ce + 3) (sl2 := sl + 18) (by omega) (by omega) (V.less (L2 := LI G i) ⟨Or.inr rfl, Or.inr rfl, Or.inr rfl, Or.inr rfl, Or.inr rfl, Or.inl rfl, Or.inl rfl, Or.inl rfl, Or.inl rfl, trivial⟩ (next _ _ hK hC hM))
  · exact absurd rfl c1604
set_option maxHeartbeats 2000000 in
theorem kC_38 {l : Launch} {G : GG} {σ : St} {a : Ab} {Q : PQ} (hK : AK a) (hC : CL σ a) (hM : ML σ a) {i : Nat} (hi : i + 6 ≤ gL G) (hL : gL G ≤ 3072) {mc ms ce sl : Nat} (hce : ce + 3 ≤ mc) (hsl : sl + 18 ≤ ms) (next : ∀ τ a2, AK a2 → CL τ a2 → ML τ a2 → V l G TL_law 17 mc ms Q (ce + 3) (sl + 18) 2552 (LI G i) [] (hof G τ) NC) : V l G TL_law 17 mc ms Q ce sl 1609 (LI G i) [] (hof G σ) NC := by
  have hI := hK.1.1.1
  have ht := hK.1.1.2
  have hL31 : gL G < 2 ^ 31 := by omega
  refine V.aload_n (q := 1610) dL_law_1609 rfl rfl ?_
  refine V.cVLP (q := 1613) (As := []) dL_law_1610 rfl (c1_longestRide hK hC hM) MX4_longestRide bw_308 rfl rfl rfl rfl (by decide) rfl (fun v1 τ1 h1 => ?_)
  obtain ⟨rfl, hC, hM⟩ := h1
  refine V.aload_n (q := 1614) dL_law_1613 rfl rfl ?_
  refine V.cVMP (q := 1617) (As := []) dL_law_1614 rfl (c2_longestRide hK hC hM) MX5_longestRide bw_1479 rfl rfl rfl rfl (by decide) rfl (fun v2 τ2 h2 => ?_)
  obtain ⟨rfl, hC, hM⟩ := h2
  refine V.icmp_eq (tgt := 2552) (q := 1620) dL_law_1617 (by decide) rfl (fun c1617 => ?_) (fun c1617 => ?_)
  · refine V.wid (ce2 := ce + 3) (sl2 := sl + 18) (by omega) (by omega) (V.less (L2 := LI G i) ⟨Or.inr rfl, Or.inr rfl, Or.inr rfl, Or.inr rfl, Or.inr rfl, Or.inl rfl, Or.inl rfl, Or.inl rfl, Or.inl rfl, trivial⟩ (next _ _ hK hC hM))
  · exact absurd rfl c1617
set_option maxHeartbeats 2000000 in
theorem kC_39 {l : Launch} {G : GG} {σ : St} {a : Ab} {Q : PQ} (hK : AK a) (hC : CL σ a) (hM : ML σ a) {i : Nat} (hi : i + 6 ≤ gL G) (hL : gL G ≤ 3072) {mc ms ce sl : Nat} (hce : ce + 3 ≤ mc) (hsl : sl + 18 ≤ ms) (next : ∀ τ a2, AK a2 → CL τ a2 → ML τ a2 → V l G TL_law 17 mc ms Q (ce + 3) (sl + 18) 2552 (LI G i) [] (hof G τ) NC) : V l G TL_law 17 mc ms Q ce sl 1622 (LI G i) [] (hof G σ) NC := by
  have hI := hK.1.1.1
  have ht := hK.1.1.2
  have hL31 : gL G < 2 ^ 31 := by omega
  refine V.aload_n (q := 1623) dL_law_1622 rfl rfl ?_
  refine V.cVLP (q := 1626) (As := []) dL_law_1623 rfl (c1_lastDone hK hC hM) MX4_lastDone bw_312 rfl rfl rfl rfl (by decide) rfl (fun v1 τ1 h1 => ?_)
  obtain ⟨rfl, hC, hM⟩ := h1
  refine V.aload_n (q := 1627) dL_law_1626 rfl rfl ?_
  refine V.cVMP (q := 1630) (As := []) dL_law_1627 rfl (c2_lastDone hK hC hM) MX5_lastDone bw_1483 rfl rfl rfl rfl (by decide) rfl (fun v2 τ2 h2 => ?_)
  obtain ⟨rfl, hC, hM⟩ := h2
  refine V.icmp_eq (tgt := 2552) (q := 1633) dL_law_1630 (by decide) rfl (fun c1630 => ?_) (fun c1630 => ?_)
  · refine V.wid (ce2 := ce + 3) (sl2 := sl + 18) (by omega) (by omega) (V.less (L2 := LI G i) ⟨Or.inr rfl, Or.inr rfl, Or.inr rfl, Or.inr rfl, Or.inr rfl, Or.inl rfl, Or.inl rfl, Or.inl rfl, Or.inl rfl, trivial⟩ (next _ _ hK hC hM))
  · exact absurd rfl c1630
set_option maxHeartbeats 2000000 in
theorem kC_40 {l : Launch} {G : GG} {σ : St} {a : Ab} {Q : PQ} (hK : AK a) (hC : CL σ a) (hM : ML σ a) {i : Nat} (hi : i + 6 ≤ gL G) (hL : gL G ≤ 3072) {mc ms ce sl : Nat} (hce : ce + 3 ≤ mc) (hsl : sl + 18 ≤ ms) (next : ∀ τ a2, AK a2 → CL τ a2 → ML τ a2 → V l G TL_law 17 mc ms Q (ce + 3) (sl + 18) 2552 (LI G i) [] (hof G τ) NC) : V l G TL_law 17 mc ms Q ce sl 1635 (LI G i) [] (hof G σ) NC := by
  have hI := hK.1.1.1
  have ht := hK.1.1.2
  have hL31 : gL G < 2 ^ 31 := by omega
  refine V.aload_n (q := 1636) dL_law_1635 rfl rfl ?_
  refine V.cVLP (q := 1639) (As := []) dL_law_1636 rfl (c1_movingShare hK hC hM) MX4_movingShare bw_316 rfl rfl rfl rfl (by decide) rfl (fun v1 τ1 h1 => ?_)
  obtain ⟨rfl, hC, hM⟩ := h1
  refine V.f2d (q := 1640) dL_law_1639 (ms_d hI ht) rfl ?_
  refine V.dstore (q := 1642) dL_law_1640 rfl rfl rfl ?_
  refine V.aload_n (q := 1643) dL_law_1642 rfl rfl ?_
  refine V.cVMP (q := 1646) (As := []) dL_law_1643 rfl (c2_movingShare hK hC hM) MX5_movingShare bw_1487 rfl rfl rfl rfl (by decide) rfl (fun v2 τ2 h2 => ?_)
  obtain ⟨rfl, hC, hM⟩ := h2
  refine V.f2d (q := 1647) dL_law_1646 (ms_d hI ht) rfl ?_
  refine V.dstore (q := 1649) dL_law_1647 rfl rfl rfl ?_
  refine V.dload (q := 1651) dL_law_1649 rfl rfl ?_
  refine V.dload (q := 1653) dL_law_1651 rfl rfl ?_
  refine V.dcmp (q := 1654) dL_law_1653 rfl ?_
  refine V.if_eq (tgt := 1675) (q := 1657) dL_law_1654 (by decide) rfl (fun c1654 => ?_) (fun c1654 => ?_)
  · refine V.goto (tgt := 2552) dL_law_1675 (by decide) ?_
    refine V.wid (ce2 := ce + 3) (sl2 := sl + 18) (by omega) (by omega) (V.less (L2 := LI G i) ⟨Or.inr rfl, Or.inr rfl, Or.inr rfl, Or.inr rfl, Or.inr rfl, Or.inl rfl, Or.inl rfl, Or.inl rfl, Or.inl rfl, trivial⟩ (next _ _ hK hC hM))
  · refine V.dload (q := 1659) dL_law_1657 rfl rfl ?_
    refine V.dload (q := 1661) dL_law_1659 rfl rfl ?_
    refine V.dcmp (q := 1662) dL_law_1661 rfl ?_
    refine V.if_eq (tgt := 1673) (q := 1665) dL_law_1662 (by decide) rfl (fun c1662 => ?_) (fun c1662 => ?_)
    · exact absurd c1662 c1654
    · refine V.dload (q := 1667) dL_law_1665 rfl rfl ?_
      refine V.dload (q := 1669) dL_law_1667 rfl rfl ?_
      refine V.dcmp (q := 1670) dL_law_1669 rfl ?_
      refine V.if_ne (tgt := 1675) (q := 1673) dL_law_1670 (by decide) rfl (fun c1670 => ?_) (fun c1670 => ?_)
      · refine V.goto (tgt := 2552) dL_law_1675 (by decide) ?_
        refine V.wid (ce2 := ce + 3) (sl2 := sl + 18) (by omega) (by omega) (V.less (L2 := LI G i) ⟨Or.inr rfl, Or.inr rfl, Or.inr rfl, Or.inr rfl, Or.inr rfl, Or.inl rfl, Or.inl rfl, Or.inl rfl, Or.inl rfl, trivial⟩ (next _ _ hK hC hM))
      · exact absurd c1670 c1654
set_option maxHeartbeats 2000000 in
theorem kC_41 {l : Launch} {G : GG} {σ : St} {a : Ab} {Q : PQ} (hK : AK a) (hC : CL σ a) (hM : ML σ a) {i : Nat} (hi : i + 6 ≤ gL G) (hL : gL G ≤ 3072) {mc ms ce sl : Nat} (hce : ce + 3 ≤ mc) (hsl : sl + 18 ≤ ms) (next : ∀ τ a2, AK a2 → CL τ a2 → ML τ a2 → V l G TL_law 17 mc ms Q (ce + 3) (sl + 18) 2552 (LI G i) [] (hof G τ) NC) : V l G TL_law 17 mc ms Q ce sl 1678 (LI G i) [] (hof G σ) NC := by
  have hI := hK.1.1.1
  have ht := hK.1.1.2
  have hL31 : gL G < 2 ^ 31 := by omega
  refine V.aload_n (q := 1679) dL_law_1678 rfl rfl ?_
  refine V.cVLP (q := 1682) (As := []) dL_law_1679 rfl (c1_totalWait hK hC hM) MX4_totalWait bw_320 rfl rfl rfl rfl (by decide) rfl (fun v1 τ1 h1 => ?_)
  obtain ⟨rfl, hC, hM⟩ := h1
  refine V.aload_n (q := 1683) dL_law_1682 rfl rfl ?_
  refine V.cVMP (q := 1686) (As := []) dL_law_1683 rfl (c2_totalWait hK hC hM) MX5_totalWait bw_1491 rfl rfl rfl rfl (by decide) rfl (fun v2 τ2 h2 => ?_)
  obtain ⟨rfl, hC, hM⟩ := h2
  refine V.icmp_eq (tgt := 2552) (q := 1689) dL_law_1686 (by decide) rfl (fun c1686 => ?_) (fun c1686 => ?_)
  · refine V.wid (ce2 := ce + 3) (sl2 := sl + 18) (by omega) (by omega) (V.less (L2 := LI G i) ⟨Or.inr rfl, Or.inr rfl, Or.inr rfl, Or.inr rfl, Or.inr rfl, Or.inl rfl, Or.inl rfl, Or.inl rfl, Or.inl rfl, trivial⟩ (next _ _ hK hC hM))
  · exact absurd rfl c1686
set_option maxHeartbeats 2000000 in
theorem kC_42 {l : Launch} {G : GG} {σ : St} {a : Ab} {Q : PQ} (hK : AK a) (hC : CL σ a) (hM : ML σ a) {i : Nat} (hi : i + 6 ≤ gL G) (hL : gL G ≤ 3072) {mc ms ce sl : Nat} (hce : ce + 3 ≤ mc) (hsl : sl + 18 ≤ ms) (next : ∀ τ a2, AK a2 → CL τ a2 → ML τ a2 → V l G TL_law 17 mc ms Q (ce + 3) (sl + 18) 2552 (LI G i) [] (hof G τ) NC) : V l G TL_law 17 mc ms Q ce sl 1691 (LI G i) [] (hof G σ) NC := by
  have hI := hK.1.1.1
  have ht := hK.1.1.2
  have hL31 : gL G < 2 ^ 31 := by omega
  refine V.aload_n (q := 1692) dL_law_1691 rfl rfl ?_
  refine V.cVLP (q := 1695) (As := []) dL_law_1692 rfl (c1_longestWait hK hC hM) MX4_longestWait bw_333 rfl rfl rfl rfl (by decide) rfl (fun v1 τ1 h1 => ?_)
  obtain ⟨rfl, hC, hM⟩ := h1
  refine V.aload_n (q := 1696) dL_law_1695 rfl rfl ?_
  refine V.cVMP (q := 1699) (As := []) dL_law_1696 rfl (c2_longestWait hK hC hM) MX5_longestWait bw_1499 rfl rfl rfl rfl (by decide) rfl (fun v2 τ2 h2 => ?_)
  obtain ⟨rfl, hC, hM⟩ := h2
  refine V.icmp_eq (tgt := 2552) (q := 1702) dL_law_1699 (by decide) rfl (fun c1699 => ?_) (fun c1699 => ?_)
  · refine V.wid (ce2 := ce + 3) (sl2 := sl + 18) (by omega) (by omega) (V.less (L2 := LI G i) ⟨Or.inr rfl, Or.inr rfl, Or.inr rfl, Or.inr rfl, Or.inr rfl, Or.inl rfl, Or.inl rfl, Or.inl rfl, Or.inl rfl, trivial⟩ (next _ _ hK hC hM))
  · exact absurd rfl c1699
set_option maxHeartbeats 2000000 in
theorem kC_43 {l : Launch} {G : GG} {σ : St} {a : Ab} {Q : PQ} (hK : AK a) (hC : CL σ a) (hM : ML σ a) {i : Nat} (hi : i + 6 ≤ gL G) (hL : gL G ≤ 3072) {mc ms ce sl : Nat} (hce : ce + 3 ≤ mc) (hsl : sl + 18 ≤ ms) (next : ∀ τ a2, AK a2 → CL τ a2 → ML τ a2 → V l G TL_law 17 mc ms Q (ce + 3) (sl + 18) 2552 (LI G i) [] (hof G τ) NC) : V l G TL_law 17 mc ms Q ce sl 1704 (LI G i) [] (hof G σ) NC := by
  have hI := hK.1.1.1
  have ht := hK.1.1.2
  have hL31 : gL G < 2 ^ 31 := by omega
  refine V.aload_n (q := 1705) dL_law_1704 rfl rfl ?_
  refine V.cVLP (q := 1708) (As := []) dL_law_1705 rfl (c1_meanWait hK hC hM) MX4_meanWait bw_341 rfl rfl rfl rfl (by decide) rfl (fun v1 τ1 h1 => ?_)
  obtain ⟨rfl, hC, hM⟩ := h1
  refine V.dstore (q := 1710) dL_law_1708 rfl rfl rfl ?_
  refine V.aload_n (q := 1711) dL_law_1710 rfl rfl ?_
  refine V.cVMP (q := 1714) (As := []) dL_law_1711 rfl (c2_meanWait hK hC hM) MX5_meanWait bw_1507 rfl rfl rfl rfl (by decide) rfl (fun v2 τ2 h2 => ?_)
  obtain ⟨rfl, hC, hM⟩ := h2
  refine V.dstore (q := 1716) dL_law_1714 rfl rfl rfl ?_
  refine V.dload (q := 1718) dL_law_1716 rfl rfl ?_
  refine V.dload (q := 1720) dL_law_1718 rfl rfl ?_
  refine V.dcmp (q := 1721) dL_law_1720 rfl ?_
  refine V.if_eq (tgt := 1742) (q := 1724) dL_law_1721 (by decide) rfl (fun c1721 => ?_) (fun c1721 => ?_)
  · refine V.goto (tgt := 2552) dL_law_1742 (by decide) ?_
    refine V.wid (ce2 := ce + 3) (sl2 := sl + 18) (by omega) (by omega) (V.less (L2 := LI G i) ⟨Or.inr rfl, Or.inr rfl, Or.inr rfl, Or.inr rfl, Or.inr rfl, Or.inl rfl, Or.inl rfl, Or.inl rfl, Or.inl rfl, trivial⟩ (next _ _ hK hC hM))
  · refine V.dload (q := 1726) dL_law_1724 rfl rfl ?_
    refine V.dload (q := 1728) dL_law_1726 rfl rfl ?_
    refine V.dcmp (q := 1729) dL_law_1728 rfl ?_
    refine V.if_eq (tgt := 1740) (q := 1732) dL_law_1729 (by decide) rfl (fun c1729 => ?_) (fun c1729 => ?_)
    · exact absurd c1729 c1721
    · refine V.dload (q := 1734) dL_law_1732 rfl rfl ?_
      refine V.dload (q := 1736) dL_law_1734 rfl rfl ?_
      refine V.dcmp (q := 1737) dL_law_1736 rfl ?_
      refine V.if_ne (tgt := 1742) (q := 1740) dL_law_1737 (by decide) rfl (fun c1737 => ?_) (fun c1737 => ?_)
      · refine V.goto (tgt := 2552) dL_law_1742 (by decide) ?_
        refine V.wid (ce2 := ce + 3) (sl2 := sl + 18) (by omega) (by omega) (V.less (L2 := LI G i) ⟨Or.inr rfl, Or.inr rfl, Or.inr rfl, Or.inr rfl, Or.inr rfl, Or.inl rfl, Or.inl rfl, Or.inl rfl, Or.inl rfl, trivial⟩ (next _ _ hK hC hM))
      · exact absurd c1737 c1721
set_option maxHeartbeats 2000000 in
theorem kC_44 {l : Launch} {G : GG} {σ : St} {a : Ab} {Q : PQ} (hK : AK a) (hC : CL σ a) (hM : ML σ a) {i : Nat} (hi : i + 6 ≤ gL G) (hL : gL G ≤ 3072) {mc ms ce sl : Nat} (hce : ce + 3 ≤ mc) (hsl : sl + 18 ≤ ms) (next : ∀ τ a2, AK a2 → CL τ a2 → ML τ a2 → V l G TL_law 17 mc ms Q (ce + 3) (sl + 18) 2552 (LI G i) [] (hof G τ) NC) : V l G TL_law 17 mc ms Q ce sl 1745 (LI G i) [] (hof G σ) NC := by
  have hI := hK.1.1.1
  have ht := hK.1.1.2
  have hL31 : gL G < 2 ^ 31 := by omega
  refine V.aload_n (q := 1746) dL_law_1745 rfl rfl ?_
  refine V.cVLP (q := 1749) (As := []) dL_law_1746 rfl (c1_isFinished hK hC hM) MX4_isFinished bw_345 rfl rfl rfl rfl (by decide) rfl (fun v1 τ1 h1 => ?_)
  obtain ⟨rfl, hC, hM⟩ := h1
  refine V.aload_n (q := 1750) dL_law_1749 rfl rfl ?_
  refine V.cVMP (q := 1753) (As := []) dL_law_1750 rfl (c2_isFinished hK hC hM) MX5_isFinished bw_1511 rfl rfl rfl rfl (by decide) rfl (fun v2 τ2 h2 => ?_)
  obtain ⟨rfl, hC, hM⟩ := h2
  refine V.icmp_eq (tgt := 2552) (q := 1756) dL_law_1753 (by decide) rfl (fun c1753 => ?_) (fun c1753 => ?_)
  · refine V.wid (ce2 := ce + 3) (sl2 := sl + 18) (by omega) (by omega) (V.less (L2 := LI G i) ⟨Or.inr rfl, Or.inr rfl, Or.inr rfl, Or.inr rfl, Or.inr rfl, Or.inl rfl, Or.inl rfl, Or.inl rfl, Or.inl rfl, trivial⟩ (next _ _ hK hC hM))
  · exact absurd rfl c1753
set_option maxHeartbeats 2000000 in
theorem kC_45 {l : Launch} {G : GG} {σ : St} {a : Ab} {Q : PQ} (hK : AK a) (hC : CL σ a) (hM : ML σ a) {i : Nat} (hi : i + 6 ≤ gL G) (hL : gL G ≤ 3072) {mc ms ce sl : Nat} (hce : ce + 3 ≤ mc) (hsl : sl + 18 ≤ ms) (next : ∀ τ a2, AK a2 → CL τ a2 → ML τ a2 → V l G TL_law 17 mc ms Q (ce + 3) (sl + 18) 2552 (LI G i) [] (hof G τ) NC) : V l G TL_law 17 mc ms Q ce sl 1758 (LI G i) [] (hof G σ) NC := by
  have hI := hK.1.1.1
  have ht := hK.1.1.2
  have hL31 : gL G < 2 ^ 31 := by omega
  refine V.aload_n (q := 1759) dL_law_1758 rfl rfl ?_
  refine V.cVLP (q := 1762) (As := []) dL_law_1759 rfl (c1_ticksToFinish hK hC hM) MX4_ticksToFinish bw_353 rfl rfl rfl rfl (by decide) rfl (fun v1 τ1 h1 => ?_)
  obtain ⟨rfl, hC, hM⟩ := h1
  refine V.aload_n (q := 1763) dL_law_1762 rfl rfl ?_
  refine V.cVMP (q := 1766) (As := []) dL_law_1763 rfl (c2_ticksToFinish hK hC hM) MX5_ticksToFinish bw_1515 rfl rfl rfl rfl (by decide) rfl (fun v2 τ2 h2 => ?_)
  obtain ⟨rfl, hC, hM⟩ := h2
  refine V.icmp_eq (tgt := 2552) (q := 1769) dL_law_1766 (by decide) rfl (fun c1766 => ?_) (fun c1766 => ?_)
  · refine V.wid (ce2 := ce + 3) (sl2 := sl + 18) (by omega) (by omega) (V.less (L2 := LI G i) ⟨Or.inr rfl, Or.inr rfl, Or.inr rfl, Or.inr rfl, Or.inr rfl, Or.inl rfl, Or.inl rfl, Or.inl rfl, Or.inl rfl, trivial⟩ (next _ _ hK hC hM))
  · exact absurd rfl c1766
set_option maxHeartbeats 2000000 in
theorem kC_46 {l : Launch} {G : GG} {σ : St} {a : Ab} {Q : PQ} (hK : AK a) (hC : CL σ a) (hM : ML σ a) {i : Nat} (hi : i + 6 ≤ gL G) (hL : gL G ≤ 3072) {mc ms ce sl : Nat} (hce : ce + 3 ≤ mc) (hsl : sl + 18 ≤ ms) (next : ∀ τ a2, AK a2 → CL τ a2 → ML τ a2 → V l G TL_law 17 mc ms Q (ce + 3) (sl + 18) 2552 (LI G i) [] (hof G τ) NC) : V l G TL_law 17 mc ms Q ce sl 1771 (LI G i) [] (hof G σ) NC := by
  have hI := hK.1.1.1
  have ht := hK.1.1.2
  have hL31 : gL G < 2 ^ 31 := by omega
  refine V.aload_n (q := 1772) dL_law_1771 rfl rfl ?_
  refine V.aload_n (q := 1773) dL_law_1772 rfl rfl ?_
  refine V.iload (q := 1775) dL_law_1773 rfl rfl ?_
  refine V.iconst (q := 1776) dL_law_1775 (v := 1) rfl rfl ?_
  refine V.iadd (q := 1777) dL_law_1776 rfl ?_
  refine V.sld (q := 1778) dL_law_1777 (i := i + 1) (by omega) hL31 (nI_k i 1) rfl ?_
  refine V.aload_n (q := 1779) dL_law_1778 rfl rfl ?_
  refine V.cStXW (q := 1782) (As := [_, _, _]) dL_law_1779 rfl (w1_ticksWithPolicy hK hC hM) (fun E9 τ9 ⟨k9, e9, _⟩ => nomatch e9) ML_ticksWithPolicy bw_885 rfl rfl (by decide) rfl (by omega) (by omega) (fun v1 τ1 h1 => ?_)
  obtain ⟨k, e1, hC, hM, hk, hv⟩ := h1
  cases e1
  refine V.istore (q := 1784) dL_law_1782 rfl rfl rfl ?_
  refine V.aload_n (q := 1785) dL_law_1784 rfl rfl ?_
  refine V.aload_n (q := 1786) dL_law_1785 rfl rfl ?_
  refine V.iload (q := 1788) dL_law_1786 rfl rfl ?_
  refine V.iconst (q := 1789) dL_law_1788 (v := 1) rfl rfl ?_
  refine V.iadd (q := 1790) dL_law_1789 rfl ?_
  refine V.sld (q := 1791) dL_law_1790 (i := i + 1) (by omega) hL31 (nI_k i 1) rfl ?_
  refine V.cVMP (q := 1794) (As := [_]) dL_law_1791 rfl (m2_ticksWithPolicy hK hC hM) MX5_ticksWithPolicy bw_1524 rfl rfl rfl rfl (by decide) rfl (fun v2 τ2 h2 => ?_)
  obtain ⟨rfl, hC, hM, ht2, hO2⟩ := h2
  refine V.istore (q := 1796) dL_law_1794 rfl rfl rfl ?_
  refine V.aload_n (q := 1797) dL_law_1796 rfl rfl ?_
  refine V.cVM (q := 1800) dL_law_1797 (As := []) rfl kM_thrown MX5_thrown bw_1060 rfl rfl rfl rfl (by decide) rfl ?_
  rw [ht2]
  refine V.iload (q := 1802) dL_law_1800 rfl rfl ?_
  refine V.icmp_eq (tgt := 1807) (q := 1805) dL_law_1802 (by decide) rfl (fun c1802 => ?_) (fun c1802 => ?_)
  · refine V.iload (q := 1809) dL_law_1807 rfl rfl ?_
    refine V.if_ne (tgt := 1824) (q := 1812) dL_law_1809 (by decide) rfl (fun c1809 => ?_) (fun c1809 => ?_)
    · refine V.goto (tgt := 2552) dL_law_1824 (by decide) ?_
      refine V.wid (ce2 := ce + 3) (sl2 := sl + 18) (by omega) (by omega) (V.less (L2 := LI G i) ⟨Or.inr rfl, Or.inr rfl, Or.inr rfl, Or.inr rfl, Or.inr rfl, Or.inl rfl, Or.inl rfl, Or.inl rfl, Or.inl rfl, trivial⟩ (next _ _ hK hC hM))
    · refine V.aload_n (q := 1813) dL_law_1812 rfl rfl ?_
      refine V.iconst (q := 1814) dL_law_1813 (v := 0) rfl rfl ?_
      refine V.ld16 (q := 1815) dL_law_1814 (i := 0)  rfl (by decide) rfl ?_
      rw [(congrFun hO2 0).trans (hv c1809)]
      refine V.iload (q := 1817) dL_law_1815 rfl rfl ?_
      refine V.i2l (q := 1818) dL_law_1817 rfl ?_
      refine V.lcmp (q := 1819) dL_law_1818 rfl ?_
      rw [lg_same]
      refine V.if_eq (tgt := 1824) (q := 1822) dL_law_1819 (by decide) rfl (fun c1819 => ?_) (fun c1819 => ?_)
      · refine V.goto (tgt := 2552) dL_law_1824 (by decide) ?_
        refine V.wid (ce2 := ce + 3) (sl2 := sl + 18) (by omega) (by omega) (V.less (L2 := LI G i) ⟨Or.inr rfl, Or.inr rfl, Or.inr rfl, Or.inr rfl, Or.inr rfl, Or.inl rfl, Or.inl rfl, Or.inl rfl, Or.inl rfl, trivial⟩ (next _ _ hK hC hM))
      · exact absurd rfl c1819
  · exact absurd hk.symm c1802
set_option maxHeartbeats 2000000 in
theorem kC_47 {l : Launch} {G : GG} {σ : St} {a : Ab} {Q : PQ} (hK : AK a) (hC : CL σ a) (hM : ML σ a) {i : Nat} (hi : i + 6 ≤ gL G) (hL : gL G ≤ 3072) {mc ms ce sl : Nat} (hce : ce + 3 ≤ mc) (hsl : sl + 18 ≤ ms) (next : ∀ τ a2, AK a2 → CL τ a2 → ML τ a2 → V l G TL_law 17 mc ms Q (ce + 3) (sl + 18) 2552 (LI G i) [] (hof G τ) NC) : V l G TL_law 17 mc ms Q ce sl 1827 (LI G i) [] (hof G σ) NC := by
  have hI := hK.1.1.1
  have ht := hK.1.1.2
  have hL31 : gL G < 2 ^ 31 := by omega
  refine V.aload_n (q := 1828) dL_law_1827 rfl rfl ?_
  refine V.aload_n (q := 1829) dL_law_1828 rfl rfl ?_
  refine V.iload (q := 1831) dL_law_1829 rfl rfl ?_
  refine V.iconst (q := 1832) dL_law_1831 (v := 1) rfl rfl ?_
  refine V.iadd (q := 1833) dL_law_1832 rfl ?_
  refine V.sld (q := 1834) dL_law_1833 (i := i + 1) (by omega) hL31 (nI_k i 1) rfl ?_
  refine V.aload_n (q := 1835) dL_law_1834 rfl rfl ?_
  refine V.cStXW (q := 1838) (As := [_, _, _]) dL_law_1835 rfl (w1_waitWithPolicy hK hC hM) (fun E9 τ9 ⟨k9, e9, _⟩ => nomatch e9) ML_waitWithPolicy bw_892 rfl rfl (by decide) rfl (by omega) (by omega) (fun v1 τ1 h1 => ?_)
  obtain ⟨k, e1, hC, hM, hk, hv⟩ := h1
  cases e1
  refine V.istore (q := 1840) dL_law_1838 rfl rfl rfl ?_
  refine V.aload_n (q := 1841) dL_law_1840 rfl rfl ?_
  refine V.aload_n (q := 1842) dL_law_1841 rfl rfl ?_
  refine V.iload (q := 1844) dL_law_1842 rfl rfl ?_
  refine V.iconst (q := 1845) dL_law_1844 (v := 1) rfl rfl ?_
  refine V.iadd (q := 1846) dL_law_1845 rfl ?_
  refine V.sld (q := 1847) dL_law_1846 (i := i + 1) (by omega) hL31 (nI_k i 1) rfl ?_
  refine V.cVMP (q := 1850) (As := [_]) dL_law_1847 rfl (m2_waitWithPolicy hK hC hM) MX5_waitWithPolicy bw_1528 rfl rfl rfl rfl (by decide) rfl (fun v2 τ2 h2 => ?_)
  obtain ⟨rfl, hC, hM, ht2, hO2⟩ := h2
  refine V.istore (q := 1852) dL_law_1850 rfl rfl rfl ?_
  refine V.aload_n (q := 1853) dL_law_1852 rfl rfl ?_
  refine V.cVM (q := 1856) dL_law_1853 (As := []) rfl kM_thrown MX5_thrown bw_1060 rfl rfl rfl rfl (by decide) rfl ?_
  rw [ht2]
  refine V.iload (q := 1858) dL_law_1856 rfl rfl ?_
  refine V.icmp_eq (tgt := 1863) (q := 1861) dL_law_1858 (by decide) rfl (fun c1858 => ?_) (fun c1858 => ?_)
  · refine V.iload (q := 1865) dL_law_1863 rfl rfl ?_
    refine V.if_ne (tgt := 1880) (q := 1868) dL_law_1865 (by decide) rfl (fun c1865 => ?_) (fun c1865 => ?_)
    · refine V.goto (tgt := 2552) dL_law_1880 (by decide) ?_
      refine V.wid (ce2 := ce + 3) (sl2 := sl + 18) (by omega) (by omega) (V.less (L2 := LI G i) ⟨Or.inr rfl, Or.inr rfl, Or.inr rfl, Or.inr rfl, Or.inr rfl, Or.inl rfl, Or.inl rfl, Or.inl rfl, Or.inl rfl, trivial⟩ (next _ _ hK hC hM))
    · refine V.aload_n (q := 1869) dL_law_1868 rfl rfl ?_
      refine V.iconst (q := 1870) dL_law_1869 (v := 0) rfl rfl ?_
      refine V.ld16 (q := 1871) dL_law_1870 (i := 0)  rfl (by decide) rfl ?_
      rw [(congrFun hO2 0).trans (hv c1865)]
      refine V.iload (q := 1873) dL_law_1871 rfl rfl ?_
      refine V.i2l (q := 1874) dL_law_1873 rfl ?_
      refine V.lcmp (q := 1875) dL_law_1874 rfl ?_
      rw [lg_same]
      refine V.if_eq (tgt := 1880) (q := 1878) dL_law_1875 (by decide) rfl (fun c1875 => ?_) (fun c1875 => ?_)
      · refine V.goto (tgt := 2552) dL_law_1880 (by decide) ?_
        refine V.wid (ce2 := ce + 3) (sl2 := sl + 18) (by omega) (by omega) (V.less (L2 := LI G i) ⟨Or.inr rfl, Or.inr rfl, Or.inr rfl, Or.inr rfl, Or.inr rfl, Or.inl rfl, Or.inl rfl, Or.inl rfl, Or.inl rfl, trivial⟩ (next _ _ hK hC hM))
      · exact absurd rfl c1875
  · exact absurd hk.symm c1858
set_option maxHeartbeats 2000000 in
theorem kC_48 {l : Launch} {G : GG} {σ : St} {a : Ab} {Q : PQ} (hK : AK a) (hC : CL σ a) (hM : ML σ a) {i : Nat} (hi : i + 6 ≤ gL G) (hL : gL G ≤ 3072) {mc ms ce sl : Nat} (hce : ce + 3 ≤ mc) (hsl : sl + 18 ≤ ms) (next : ∀ τ a2, AK a2 → CL τ a2 → ML τ a2 → V l G TL_law 17 mc ms Q (ce + 3) (sl + 18) 2552 (LI G i) [] (hof G τ) NC) : V l G TL_law 17 mc ms Q ce sl 1883 (LI G i) [] (hof G σ) NC := by
  have hI := hK.1.1.1
  have ht := hK.1.1.2
  have hL31 : gL G < 2 ^ 31 := by omega
  refine V.aload_n (q := 1884) dL_law_1883 rfl rfl ?_
  refine V.aload_n (q := 1885) dL_law_1884 rfl rfl ?_
  refine V.iload (q := 1887) dL_law_1885 rfl rfl ?_
  refine V.iconst (q := 1888) dL_law_1887 (v := 1) rfl rfl ?_
  refine V.iadd (q := 1889) dL_law_1888 rfl ?_
  refine V.sld (q := 1890) dL_law_1889 (i := i + 1) (by omega) hL31 (nI_k i 1) rfl ?_
  refine V.aload_n (q := 1891) dL_law_1890 rfl rfl ?_
  refine V.cStXW (q := 1894) (As := [_, _, _]) dL_law_1891 rfl (w1_longestWaitWithPolicy hK hC hM) (fun E9 τ9 ⟨k9, e9, _⟩ => nomatch e9) ML_longestWaitWithPolicy bw_899 rfl rfl (by decide) rfl (by omega) (by omega) (fun v1 τ1 h1 => ?_)
  obtain ⟨k, e1, hC, hM, hk, hv⟩ := h1
  cases e1
  refine V.istore (q := 1896) dL_law_1894 rfl rfl rfl ?_
  refine V.aload_n (q := 1897) dL_law_1896 rfl rfl ?_
  refine V.aload_n (q := 1898) dL_law_1897 rfl rfl ?_
  refine V.iload (q := 1900) dL_law_1898 rfl rfl ?_
  refine V.iconst (q := 1901) dL_law_1900 (v := 1) rfl rfl ?_
  refine V.iadd (q := 1902) dL_law_1901 rfl ?_
  refine V.sld (q := 1903) dL_law_1902 (i := i + 1) (by omega) hL31 (nI_k i 1) rfl ?_
  refine V.cVMP (q := 1906) (As := [_]) dL_law_1903 rfl (m2_longestWaitWithPolicy hK hC hM) MX5_longestWaitWithPolicy bw_1536 rfl rfl rfl rfl (by decide) rfl (fun v2 τ2 h2 => ?_)
  obtain ⟨rfl, hC, hM, ht2, hO2⟩ := h2
  refine V.istore (q := 1908) dL_law_1906 rfl rfl rfl ?_
  refine V.aload_n (q := 1909) dL_law_1908 rfl rfl ?_
  refine V.cVM (q := 1912) dL_law_1909 (As := []) rfl kM_thrown MX5_thrown bw_1060 rfl rfl rfl rfl (by decide) rfl ?_
  rw [ht2]
  refine V.iload (q := 1914) dL_law_1912 rfl rfl ?_
  refine V.icmp_eq (tgt := 1919) (q := 1917) dL_law_1914 (by decide) rfl (fun c1914 => ?_) (fun c1914 => ?_)
  · refine V.iload (q := 1921) dL_law_1919 rfl rfl ?_
    refine V.if_ne (tgt := 1936) (q := 1924) dL_law_1921 (by decide) rfl (fun c1921 => ?_) (fun c1921 => ?_)
    · refine V.goto (tgt := 2552) dL_law_1936 (by decide) ?_
      refine V.wid (ce2 := ce + 3) (sl2 := sl + 18) (by omega) (by omega) (V.less (L2 := LI G i) ⟨Or.inr rfl, Or.inr rfl, Or.inr rfl, Or.inr rfl, Or.inr rfl, Or.inl rfl, Or.inl rfl, Or.inl rfl, Or.inl rfl, trivial⟩ (next _ _ hK hC hM))
    · refine V.aload_n (q := 1925) dL_law_1924 rfl rfl ?_
      refine V.iconst (q := 1926) dL_law_1925 (v := 0) rfl rfl ?_
      refine V.ld16 (q := 1927) dL_law_1926 (i := 0)  rfl (by decide) rfl ?_
      rw [(congrFun hO2 0).trans (hv c1921)]
      refine V.iload (q := 1929) dL_law_1927 rfl rfl ?_
      refine V.i2l (q := 1930) dL_law_1929 rfl ?_
      refine V.lcmp (q := 1931) dL_law_1930 rfl ?_
      rw [lg_same]
      refine V.if_eq (tgt := 1936) (q := 1934) dL_law_1931 (by decide) rfl (fun c1931 => ?_) (fun c1931 => ?_)
      · refine V.goto (tgt := 2552) dL_law_1936 (by decide) ?_
        refine V.wid (ce2 := ce + 3) (sl2 := sl + 18) (by omega) (by omega) (V.less (L2 := LI G i) ⟨Or.inr rfl, Or.inr rfl, Or.inr rfl, Or.inr rfl, Or.inr rfl, Or.inl rfl, Or.inl rfl, Or.inl rfl, Or.inl rfl, trivial⟩ (next _ _ hK hC hM))
      · exact absurd rfl c1931
  · exact absurd hk.symm c1914
set_option maxHeartbeats 2000000 in
theorem kC_49 {l : Launch} {G : GG} {σ : St} {a : Ab} {Q : PQ} (hK : AK a) (hC : CL σ a) (hM : ML σ a) {i : Nat} (hi : i + 6 ≤ gL G) (hL : gL G ≤ 3072) {mc ms ce sl : Nat} (hce : ce + 3 ≤ mc) (hsl : sl + 18 ≤ ms) (next : ∀ τ a2, AK a2 → CL τ a2 → ML τ a2 → V l G TL_law 17 mc ms Q (ce + 3) (sl + 18) 2552 (LI G i) [] (hof G τ) NC) : V l G TL_law 17 mc ms Q ce sl 1939 (LI G i) [] (hof G σ) NC := by
  have hI := hK.1.1.1
  have ht := hK.1.1.2
  have hL31 : gL G < 2 ^ 31 := by omega
  refine V.aload_n (q := 1940) dL_law_1939 rfl rfl ?_
  refine V.cVLP (q := 1943) (As := []) dL_law_1940 rfl (c1_bestPolicy hK hC hM) MX4_bestPolicy bw_404 rfl rfl rfl rfl (by decide) rfl (fun v1 τ1 h1 => ?_)
  obtain ⟨rfl, hC, hM⟩ := h1
  refine V.aload_n (q := 1944) dL_law_1943 rfl rfl ?_
  refine V.cVMP (q := 1947) (As := []) dL_law_1944 rfl (c2_bestPolicy hK hC hM) MX5_bestPolicy bw_1540 rfl rfl rfl rfl (by decide) rfl (fun v2 τ2 h2 => ?_)
  obtain ⟨rfl, hC, hM⟩ := h2
  refine V.icmp_eq (tgt := 2552) (q := 1950) dL_law_1947 (by decide) rfl (fun c1947 => ?_) (fun c1947 => ?_)
  · refine V.wid (ce2 := ce + 3) (sl2 := sl + 18) (by omega) (by omega) (V.less (L2 := LI G i) ⟨Or.inr rfl, Or.inr rfl, Or.inr rfl, Or.inr rfl, Or.inr rfl, Or.inl rfl, Or.inl rfl, Or.inl rfl, Or.inl rfl, trivial⟩ (next _ _ hK hC hM))
  · exact absurd rfl c1947
set_option maxHeartbeats 2000000 in
theorem kC_50 {l : Launch} {G : GG} {σ : St} {a : Ab} {Q : PQ} (hK : AK a) (hC : CL σ a) (hM : ML σ a) {i : Nat} (hi : i + 6 ≤ gL G) (hL : gL G ≤ 3072) {mc ms ce sl : Nat} (hce : ce + 3 ≤ mc) (hsl : sl + 18 ≤ ms) (next : ∀ τ a2, AK a2 → CL τ a2 → ML τ a2 → V l G TL_law 17 mc ms Q (ce + 3) (sl + 18) 2552 (LI G i) [] (hof G τ) NC) : V l G TL_law 17 mc ms Q ce sl 1952 (LI G i) [] (hof G σ) NC := by
  have hI := hK.1.1.1
  have ht := hK.1.1.2
  have hL31 : gL G < 2 ^ 31 := by omega
  refine V.aload_n (q := 1953) dL_law_1952 rfl rfl ?_
  refine V.aload_n (q := 1954) dL_law_1953 rfl rfl ?_
  refine V.iload (q := 1956) dL_law_1954 rfl rfl ?_
  refine V.iconst (q := 1957) dL_law_1956 (v := 1) rfl rfl ?_
  refine V.iadd (q := 1958) dL_law_1957 rfl ?_
  refine V.sld (q := 1959) dL_law_1958 (i := i + 1) (by omega) hL31 (nI_k i 1) rfl ?_
  refine V.aload_n (q := 1960) dL_law_1959 rfl rfl ?_
  refine V.cStXW (q := 1963) (As := [_, _, _]) dL_law_1960 rfl (w1_ticksWithCapacity hK hC hM) (fun E9 τ9 ⟨k9, e9, _⟩ => nomatch e9) ML_ticksWithCapacity bw_906 rfl rfl (by decide) rfl (by omega) (by omega) (fun v1 τ1 h1 => ?_)
  obtain ⟨k, e1, hC, hM, hk, hv⟩ := h1
  cases e1
  refine V.istore (q := 1965) dL_law_1963 rfl rfl rfl ?_
  refine V.aload_n (q := 1966) dL_law_1965 rfl rfl ?_
  refine V.aload_n (q := 1967) dL_law_1966 rfl rfl ?_
  refine V.iload (q := 1969) dL_law_1967 rfl rfl ?_
  refine V.iconst (q := 1970) dL_law_1969 (v := 1) rfl rfl ?_
  refine V.iadd (q := 1971) dL_law_1970 rfl ?_
  refine V.sld (q := 1972) dL_law_1971 (i := i + 1) (by omega) hL31 (nI_k i 1) rfl ?_
  refine V.cVMP (q := 1975) (As := [_]) dL_law_1972 rfl (m2_ticksWithCapacity hK hC hM) MX5_ticksWithCapacity bw_1544 rfl rfl rfl rfl (by decide) rfl (fun v2 τ2 h2 => ?_)
  obtain ⟨rfl, hC, hM, ht2, hO2⟩ := h2
  refine V.istore (q := 1977) dL_law_1975 rfl rfl rfl ?_
  refine V.aload_n (q := 1978) dL_law_1977 rfl rfl ?_
  refine V.cVM (q := 1981) dL_law_1978 (As := []) rfl kM_thrown MX5_thrown bw_1060 rfl rfl rfl rfl (by decide) rfl ?_
  rw [ht2]
  refine V.iload (q := 1983) dL_law_1981 rfl rfl ?_
  refine V.icmp_eq (tgt := 1988) (q := 1986) dL_law_1983 (by decide) rfl (fun c1983 => ?_) (fun c1983 => ?_)
  · refine V.iload (q := 1990) dL_law_1988 rfl rfl ?_
    refine V.if_ne (tgt := 2005) (q := 1993) dL_law_1990 (by decide) rfl (fun c1990 => ?_) (fun c1990 => ?_)
    · refine V.goto (tgt := 2552) dL_law_2005 (by decide) ?_
      refine V.wid (ce2 := ce + 3) (sl2 := sl + 18) (by omega) (by omega) (V.less (L2 := LI G i) ⟨Or.inr rfl, Or.inr rfl, Or.inr rfl, Or.inr rfl, Or.inr rfl, Or.inl rfl, Or.inl rfl, Or.inl rfl, Or.inl rfl, trivial⟩ (next _ _ hK hC hM))
    · refine V.aload_n (q := 1994) dL_law_1993 rfl rfl ?_
      refine V.iconst (q := 1995) dL_law_1994 (v := 0) rfl rfl ?_
      refine V.ld16 (q := 1996) dL_law_1995 (i := 0)  rfl (by decide) rfl ?_
      rw [(congrFun hO2 0).trans (hv c1990)]
      refine V.iload (q := 1998) dL_law_1996 rfl rfl ?_
      refine V.i2l (q := 1999) dL_law_1998 rfl ?_
      refine V.lcmp (q := 2000) dL_law_1999 rfl ?_
      rw [lg_same]
      refine V.if_eq (tgt := 2005) (q := 2003) dL_law_2000 (by decide) rfl (fun c2000 => ?_) (fun c2000 => ?_)
      · refine V.goto (tgt := 2552) dL_law_2005 (by decide) ?_
        refine V.wid (ce2 := ce + 3) (sl2 := sl + 18) (by omega) (by omega) (V.less (L2 := LI G i) ⟨Or.inr rfl, Or.inr rfl, Or.inr rfl, Or.inr rfl, Or.inr rfl, Or.inl rfl, Or.inl rfl, Or.inl rfl, Or.inl rfl, trivial⟩ (next _ _ hK hC hM))
      · exact absurd rfl c2000
  · exact absurd hk.symm c1983
set_option maxHeartbeats 2000000 in
theorem kC_51 {l : Launch} {G : GG} {σ : St} {a : Ab} {Q : PQ} (hK : AK a) (hC : CL σ a) (hM : ML σ a) {i : Nat} (hi : i + 6 ≤ gL G) (hL : gL G ≤ 3072) {mc ms ce sl : Nat} (hce : ce + 3 ≤ mc) (hsl : sl + 18 ≤ ms) (next : ∀ τ a2, AK a2 → CL τ a2 → ML τ a2 → V l G TL_law 17 mc ms Q (ce + 3) (sl + 18) 2552 (LI G i) [] (hof G τ) NC) : V l G TL_law 17 mc ms Q ce sl 2008 (LI G i) [] (hof G σ) NC := by
  have hI := hK.1.1.1
  have ht := hK.1.1.2
  have hL31 : gL G < 2 ^ 31 := by omega
  refine V.aload_n (q := 2009) dL_law_2008 rfl rfl ?_
  refine V.aload_n (q := 2010) dL_law_2009 rfl rfl ?_
  refine V.iload (q := 2012) dL_law_2010 rfl rfl ?_
  refine V.iconst (q := 2013) dL_law_2012 (v := 1) rfl rfl ?_
  refine V.iadd (q := 2014) dL_law_2013 rfl ?_
  refine V.sld (q := 2015) dL_law_2014 (i := i + 1) (by omega) hL31 (nI_k i 1) rfl ?_
  refine V.aload_n (q := 2016) dL_law_2015 rfl rfl ?_
  refine V.cStXW (q := 2019) (As := [_, _, _]) dL_law_2016 rfl (w1_expectedAt hK hC hM) (fun E9 τ9 ⟨k9, e9, _⟩ => nomatch e9) ML_expectedAt bw_935 rfl rfl (by decide) rfl (by omega) (by omega) (fun v1 τ1 h1 => ?_)
  obtain ⟨k, e1, hC, hM, hk, hv⟩ := h1
  cases e1
  refine V.istore (q := 2021) dL_law_2019 rfl rfl rfl ?_
  refine V.aload_n (q := 2022) dL_law_2021 rfl rfl ?_
  refine V.aload_n (q := 2023) dL_law_2022 rfl rfl ?_
  refine V.iload (q := 2025) dL_law_2023 rfl rfl ?_
  refine V.iconst (q := 2026) dL_law_2025 (v := 1) rfl rfl ?_
  refine V.iadd (q := 2027) dL_law_2026 rfl ?_
  refine V.sld (q := 2028) dL_law_2027 (i := i + 1) (by omega) hL31 (nI_k i 1) rfl ?_
  refine V.cVMP (q := 2031) (As := [_]) dL_law_2028 rfl (m2_expectedAt hK hC hM) MX5_expectedAt bw_1552 rfl rfl rfl rfl (by decide) rfl (fun v2 τ2 h2 => ?_)
  obtain ⟨rfl, hC, hM, ht2, hO2⟩ := h2
  refine V.istore (q := 2033) dL_law_2031 rfl rfl rfl ?_
  refine V.aload_n (q := 2034) dL_law_2033 rfl rfl ?_
  refine V.cVM (q := 2037) dL_law_2034 (As := []) rfl kM_thrown MX5_thrown bw_1060 rfl rfl rfl rfl (by decide) rfl ?_
  rw [ht2]
  refine V.iload (q := 2039) dL_law_2037 rfl rfl ?_
  refine V.icmp_eq (tgt := 2044) (q := 2042) dL_law_2039 (by decide) rfl (fun c2039 => ?_) (fun c2039 => ?_)
  · refine V.iload (q := 2046) dL_law_2044 rfl rfl ?_
    refine V.if_ne (tgt := 2061) (q := 2049) dL_law_2046 (by decide) rfl (fun c2046 => ?_) (fun c2046 => ?_)
    · refine V.goto (tgt := 2552) dL_law_2061 (by decide) ?_
      refine V.wid (ce2 := ce + 3) (sl2 := sl + 18) (by omega) (by omega) (V.less (L2 := LI G i) ⟨Or.inr rfl, Or.inr rfl, Or.inr rfl, Or.inr rfl, Or.inr rfl, Or.inl rfl, Or.inl rfl, Or.inl rfl, Or.inl rfl, trivial⟩ (next _ _ hK hC hM))
    · refine V.aload_n (q := 2050) dL_law_2049 rfl rfl ?_
      refine V.iconst (q := 2051) dL_law_2050 (v := 0) rfl rfl ?_
      refine V.ld16 (q := 2052) dL_law_2051 (i := 0)  rfl (by decide) rfl ?_
      rw [(congrFun hO2 0).trans (hv c2046)]
      refine V.iload (q := 2054) dL_law_2052 rfl rfl ?_
      refine V.i2l (q := 2055) dL_law_2054 rfl ?_
      refine V.lcmp (q := 2056) dL_law_2055 rfl ?_
      rw [lg_same]
      refine V.if_eq (tgt := 2061) (q := 2059) dL_law_2056 (by decide) rfl (fun c2056 => ?_) (fun c2056 => ?_)
      · refine V.goto (tgt := 2552) dL_law_2061 (by decide) ?_
        refine V.wid (ce2 := ce + 3) (sl2 := sl + 18) (by omega) (by omega) (V.less (L2 := LI G i) ⟨Or.inr rfl, Or.inr rfl, Or.inr rfl, Or.inr rfl, Or.inr rfl, Or.inl rfl, Or.inl rfl, Or.inl rfl, Or.inl rfl, trivial⟩ (next _ _ hK hC hM))
      · exact absurd rfl c2056
  · exact absurd hk.symm c2039
set_option maxHeartbeats 2000000 in
theorem kC_52 {l : Launch} {G : GG} {σ : St} {a : Ab} {Q : PQ} (hK : AK a) (hC : CL σ a) (hM : ML σ a) {i : Nat} (hi : i + 6 ≤ gL G) (hL : gL G ≤ 3072) {mc ms ce sl : Nat} (hce : ce + 3 ≤ mc) (hsl : sl + 18 ≤ ms) (next : ∀ τ a2, AK a2 → CL τ a2 → ML τ a2 → V l G TL_law 17 mc ms Q (ce + 3) (sl + 18) 2552 (LI G i) [] (hof G τ) NC) : V l G TL_law 17 mc ms Q ce sl 2064 (LI G i) [] (hof G σ) NC := by
  have hI := hK.1.1.1
  have ht := hK.1.1.2
  have hL31 : gL G < 2 ^ 31 := by omega
  refine V.aload_n (q := 2065) dL_law_2064 rfl rfl ?_
  refine V.aload_n (q := 2066) dL_law_2065 rfl rfl ?_
  refine V.iload (q := 2068) dL_law_2066 rfl rfl ?_
  refine V.iconst (q := 2069) dL_law_2068 (v := 1) rfl rfl ?_
  refine V.iadd (q := 2070) dL_law_2069 rfl ?_
  refine V.sld (q := 2071) dL_law_2070 (i := i + 1) (by omega) hL31 (nI_k i 1) rfl ?_
  refine V.aload_n (q := 2072) dL_law_2071 rfl rfl ?_
  refine V.iload (q := 2074) dL_law_2072 rfl rfl ?_
  refine V.iconst (q := 2075) dL_law_2074 (v := 2) rfl rfl ?_
  refine V.iadd (q := 2076) dL_law_2075 rfl ?_
  refine V.sld (q := 2077) dL_law_2076 (i := i + 2) (by omega) hL31 (nI_k i 2) rfl ?_
  refine V.aload_n (q := 2078) dL_law_2077 rfl rfl ?_
  refine V.iload (q := 2080) dL_law_2078 rfl rfl ?_
  refine V.iconst (q := 2081) dL_law_2080 (v := 3) rfl rfl ?_
  refine V.iadd (q := 2082) dL_law_2081 rfl ?_
  refine V.sld (q := 2083) dL_law_2082 (i := i + 3) (by omega) hL31 (nI_k i 3) rfl ?_
  refine V.aload_n (q := 2084) dL_law_2083 rfl rfl ?_
  refine V.cStXW (q := 2087) (As := [_, _, _, _, _]) dL_law_2084 rfl (w1_addPassenger hK hC hM) (fun E9 τ9 ⟨k9, e9, _⟩ => nomatch e9) ML_addPassenger bw_942 rfl rfl (by decide) rfl (by omega) (by omega) (fun v1 τ1 h1 => ?_)
  obtain ⟨k, e1, hC, hM, hk, hv⟩ := h1
  cases e1
  refine V.istore (q := 2089) dL_law_2087 rfl rfl rfl ?_
  refine V.aload_n (q := 2090) dL_law_2089 rfl rfl ?_
  refine V.aload_n (q := 2091) dL_law_2090 rfl rfl ?_
  refine V.iload (q := 2093) dL_law_2091 rfl rfl ?_
  refine V.iconst (q := 2094) dL_law_2093 (v := 1) rfl rfl ?_
  refine V.iadd (q := 2095) dL_law_2094 rfl ?_
  refine V.sld (q := 2096) dL_law_2095 (i := i + 1) (by omega) hL31 (nI_k i 1) rfl ?_
  refine V.aload_n (q := 2097) dL_law_2096 rfl rfl ?_
  refine V.iload (q := 2099) dL_law_2097 rfl rfl ?_
  refine V.iconst (q := 2100) dL_law_2099 (v := 2) rfl rfl ?_
  refine V.iadd (q := 2101) dL_law_2100 rfl ?_
  refine V.sld (q := 2102) dL_law_2101 (i := i + 2) (by omega) hL31 (nI_k i 2) rfl ?_
  refine V.aload_n (q := 2103) dL_law_2102 rfl rfl ?_
  refine V.iload (q := 2105) dL_law_2103 rfl rfl ?_
  refine V.iconst (q := 2106) dL_law_2105 (v := 3) rfl rfl ?_
  refine V.iadd (q := 2107) dL_law_2106 rfl ?_
  refine V.sld (q := 2108) dL_law_2107 (i := i + 3) (by omega) hL31 (nI_k i 3) rfl ?_
  refine V.cVMP (q := 2111) (As := [_, _, _]) dL_law_2108 rfl (m2_addPassenger hK hC hM) MX5_addPassenger bw_1556 rfl rfl rfl rfl (by decide) rfl (fun v2 τ2 h2 => ?_)
  obtain ⟨rfl, hC, hM, ht2, hO2⟩ := h2
  refine V.istore (q := 2113) dL_law_2111 rfl rfl rfl ?_
  refine V.aload_n (q := 2114) dL_law_2113 rfl rfl ?_
  refine V.cVM (q := 2117) dL_law_2114 (As := []) rfl kM_thrown MX5_thrown bw_1060 rfl rfl rfl rfl (by decide) rfl ?_
  rw [ht2]
  refine V.iload (q := 2119) dL_law_2117 rfl rfl ?_
  refine V.icmp_eq (tgt := 2124) (q := 2122) dL_law_2119 (by decide) rfl (fun c2119 => ?_) (fun c2119 => ?_)
  · refine V.iload (q := 2126) dL_law_2124 rfl rfl ?_
    refine V.if_ne (tgt := 2141) (q := 2129) dL_law_2126 (by decide) rfl (fun c2126 => ?_) (fun c2126 => ?_)
    · refine V.goto (tgt := 2552) dL_law_2141 (by decide) ?_
      refine V.wid (ce2 := ce + 3) (sl2 := sl + 18) (by omega) (by omega) (V.less (L2 := LI G i) ⟨Or.inr rfl, Or.inr rfl, Or.inr rfl, Or.inr rfl, Or.inr rfl, Or.inl rfl, Or.inl rfl, Or.inl rfl, Or.inl rfl, trivial⟩ (next _ _ hK.add hC hM))
    · refine V.aload_n (q := 2130) dL_law_2129 rfl rfl ?_
      refine V.iconst (q := 2131) dL_law_2130 (v := 0) rfl rfl ?_
      refine V.ld16 (q := 2132) dL_law_2131 (i := 0)  rfl (by decide) rfl ?_
      rw [(congrFun hO2 0).trans (hv c2126)]
      refine V.iload (q := 2134) dL_law_2132 rfl rfl ?_
      refine V.i2l (q := 2135) dL_law_2134 rfl ?_
      refine V.lcmp (q := 2136) dL_law_2135 rfl ?_
      rw [lg_same]
      refine V.if_eq (tgt := 2141) (q := 2139) dL_law_2136 (by decide) rfl (fun c2136 => ?_) (fun c2136 => ?_)
      · refine V.goto (tgt := 2552) dL_law_2141 (by decide) ?_
        refine V.wid (ce2 := ce + 3) (sl2 := sl + 18) (by omega) (by omega) (V.less (L2 := LI G i) ⟨Or.inr rfl, Or.inr rfl, Or.inr rfl, Or.inr rfl, Or.inr rfl, Or.inl rfl, Or.inl rfl, Or.inl rfl, Or.inl rfl, trivial⟩ (next _ _ hK.add hC hM))
      · exact absurd rfl c2136
  · exact absurd hk.symm c2119
set_option maxHeartbeats 2000000 in
theorem kC_53 {l : Launch} {G : GG} {σ : St} {a : Ab} {Q : PQ} (hK : AK a) (hC : CL σ a) (hM : ML σ a) {i : Nat} (hi : i + 6 ≤ gL G) (hL : gL G ≤ 3072) {mc ms ce sl : Nat} (hce : ce + 3 ≤ mc) (hsl : sl + 18 ≤ ms) (next : ∀ τ a2, AK a2 → CL τ a2 → ML τ a2 → V l G TL_law 17 mc ms Q (ce + 3) (sl + 18) 2552 (LI G i) [] (hof G τ) NC) : V l G TL_law 17 mc ms Q ce sl 2144 (LI G i) [] (hof G σ) NC := by
  have hI := hK.1.1.1
  have ht := hK.1.1.2
  have hL31 : gL G < 2 ^ 31 := by omega
  refine V.aload_n (q := 2145) dL_law_2144 rfl rfl ?_
  refine V.aload_n (q := 2146) dL_law_2145 rfl rfl ?_
  refine V.iload (q := 2148) dL_law_2146 rfl rfl ?_
  refine V.iconst (q := 2149) dL_law_2148 (v := 1) rfl rfl ?_
  refine V.iadd (q := 2150) dL_law_2149 rfl ?_
  refine V.sld (q := 2151) dL_law_2150 (i := i + 1) (by omega) hL31 (nI_k i 1) rfl ?_
  refine V.aload_n (q := 2152) dL_law_2151 rfl rfl ?_
  refine V.cStXW (q := 2155) (As := [_, _, _]) dL_law_2152 rfl (w1_run hK hC hM) (fun E9 τ9 ⟨k9, e9, _⟩ => nomatch e9) ML_run bw_953 rfl rfl (by decide) rfl (by omega) (by omega) (fun v1 τ1 h1 => ?_)
  obtain ⟨k, e1, hC, hM, hk, hv⟩ := h1
  cases e1
  refine V.istore (q := 2157) dL_law_2155 rfl rfl rfl ?_
  refine V.aload_n (q := 2158) dL_law_2157 rfl rfl ?_
  refine V.aload_n (q := 2159) dL_law_2158 rfl rfl ?_
  refine V.iload (q := 2161) dL_law_2159 rfl rfl ?_
  refine V.iconst (q := 2162) dL_law_2161 (v := 1) rfl rfl ?_
  refine V.iadd (q := 2163) dL_law_2162 rfl ?_
  refine V.sld (q := 2164) dL_law_2163 (i := i + 1) (by omega) hL31 (nI_k i 1) rfl ?_
  refine V.cVMP (q := 2167) (As := [_]) dL_law_2164 rfl (m2_run hK hC hM) MX5_run bw_1560 rfl rfl rfl rfl (by decide) rfl (fun v2 τ2 h2 => ?_)
  obtain ⟨rfl, hC, hM, ht2, hO2⟩ := h2
  refine V.istore (q := 2169) dL_law_2167 rfl rfl rfl ?_
  refine V.aload_n (q := 2170) dL_law_2169 rfl rfl ?_
  refine V.cVM (q := 2173) dL_law_2170 (As := []) rfl kM_thrown MX5_thrown bw_1060 rfl rfl rfl rfl (by decide) rfl ?_
  rw [ht2]
  refine V.iload (q := 2175) dL_law_2173 rfl rfl ?_
  refine V.icmp_eq (tgt := 2180) (q := 2178) dL_law_2175 (by decide) rfl (fun c2175 => ?_) (fun c2175 => ?_)
  · refine V.iload (q := 2182) dL_law_2180 rfl rfl ?_
    refine V.if_ne (tgt := 2197) (q := 2185) dL_law_2182 (by decide) rfl (fun c2182 => ?_) (fun c2182 => ?_)
    · refine V.goto (tgt := 2552) dL_law_2197 (by decide) ?_
      refine V.wid (ce2 := ce + 3) (sl2 := sl + 18) (by omega) (by omega) (V.less (L2 := LI G i) ⟨Or.inr rfl, Or.inr rfl, Or.inr rfl, Or.inr rfl, Or.inr rfl, Or.inl rfl, Or.inl rfl, Or.inl rfl, Or.inl rfl, trivial⟩ (next _ _ hK.run hC hM))
    · refine V.aload_n (q := 2186) dL_law_2185 rfl rfl ?_
      refine V.iconst (q := 2187) dL_law_2186 (v := 0) rfl rfl ?_
      refine V.ld16 (q := 2188) dL_law_2187 (i := 0)  rfl (by decide) rfl ?_
      rw [(congrFun hO2 0).trans (hv c2182)]
      refine V.iload (q := 2190) dL_law_2188 rfl rfl ?_
      refine V.i2l (q := 2191) dL_law_2190 rfl ?_
      refine V.lcmp (q := 2192) dL_law_2191 rfl ?_
      rw [lg_same]
      refine V.if_eq (tgt := 2197) (q := 2195) dL_law_2192 (by decide) rfl (fun c2192 => ?_) (fun c2192 => ?_)
      · refine V.goto (tgt := 2552) dL_law_2197 (by decide) ?_
        refine V.wid (ce2 := ce + 3) (sl2 := sl + 18) (by omega) (by omega) (V.less (L2 := LI G i) ⟨Or.inr rfl, Or.inr rfl, Or.inr rfl, Or.inr rfl, Or.inr rfl, Or.inl rfl, Or.inl rfl, Or.inl rfl, Or.inl rfl, trivial⟩ (next _ _ hK.run hC hM))
      · exact absurd rfl c2192
  · exact absurd hk.symm c2175
set_option maxHeartbeats 2000000 in
theorem kC_54 {l : Launch} {G : GG} {σ : St} {a : Ab} {Q : PQ} (hK : AK a) (hC : CL σ a) (hM : ML σ a) {i : Nat} (hi : i + 6 ≤ gL G) (hL : gL G ≤ 3072) {mc ms ce sl : Nat} (hce : ce + 3 ≤ mc) (hsl : sl + 18 ≤ ms) (next : ∀ τ a2, AK a2 → CL τ a2 → ML τ a2 → V l G TL_law 17 mc ms Q (ce + 3) (sl + 18) 2552 (LI G i) [] (hof G τ) NC) : V l G TL_law 17 mc ms Q ce sl 2200 (LI G i) [] (hof G σ) NC := by
  have hI := hK.1.1.1
  have ht := hK.1.1.2
  have hL31 : gL G < 2 ^ 31 := by omega
  refine V.aload_n (q := 2201) dL_law_2200 rfl rfl ?_
  refine V.cVLP (q := 2204) (As := []) dL_law_2201 rfl (c1_runToEnd hK hC hM) MX4_runToEnd bw_412 rfl rfl rfl rfl (by decide) rfl (fun v1 τ1 h1 => ?_)
  obtain ⟨rfl, hC, hM⟩ := h1
  refine V.aload_n (q := 2205) dL_law_2204 rfl rfl ?_
  refine V.cVMP (q := 2208) (As := []) dL_law_2205 rfl (c2_runToEnd hK hC hM) MX5_runToEnd bw_1564 rfl rfl rfl rfl (by decide) rfl (fun v2 τ2 h2 => ?_)
  obtain ⟨rfl, hC, hM⟩ := h2
  refine V.icmp_eq (tgt := 2552) (q := 2211) dL_law_2208 (by decide) rfl (fun c2208 => ?_) (fun c2208 => ?_)
  · refine V.wid (ce2 := ce + 3) (sl2 := sl + 18) (by omega) (by omega) (V.less (L2 := LI G i) ⟨Or.inr rfl, Or.inr rfl, Or.inr rfl, Or.inr rfl, Or.inr rfl, Or.inl rfl, Or.inl rfl, Or.inl rfl, Or.inl rfl, trivial⟩ (next _ _ hK.fz hC hM))
  · exact absurd rfl c2208
set_option maxHeartbeats 2000000 in
theorem kC_55 {l : Launch} {G : GG} {σ : St} {a : Ab} {Q : PQ} (hK : AK a) (hC : CL σ a) (hM : ML σ a) {i : Nat} (hi : i + 6 ≤ gL G) (hL : gL G ≤ 3072) {mc ms ce sl : Nat} (hce : ce + 3 ≤ mc) (hsl : sl + 18 ≤ ms) (next : ∀ τ a2, AK a2 → CL τ a2 → ML τ a2 → V l G TL_law 17 mc ms Q (ce + 3) (sl + 18) 2552 (LI G i) [] (hof G τ) NC) : V l G TL_law 17 mc ms Q ce sl 2213 (LI G i) [] (hof G σ) NC := by
  have hI := hK.1.1.1
  have ht := hK.1.1.2
  have hL31 : gL G < 2 ^ 31 := by omega
  refine V.aload_n (q := 2214) dL_law_2213 rfl rfl ?_
  refine V.aload_n (q := 2215) dL_law_2214 rfl rfl ?_
  refine V.iload (q := 2217) dL_law_2215 rfl rfl ?_
  refine V.iconst (q := 2218) dL_law_2217 (v := 1) rfl rfl ?_
  refine V.iadd (q := 2219) dL_law_2218 rfl ?_
  refine V.sld (q := 2220) dL_law_2219 (i := i + 1) (by omega) hL31 (nI_k i 1) rfl ?_
  refine V.aload_n (q := 2221) dL_law_2220 rfl rfl ?_
  refine V.cStXW (q := 2224) (As := [_, _, _]) dL_law_2221 rfl (w1_setPolicy hK hC hM) (fun E9 τ9 ⟨k9, e9, _⟩ => nomatch e9) ML_setPolicy bw_963 rfl rfl (by decide) rfl (by omega) (by omega) (fun v1 τ1 h1 => ?_)
  obtain ⟨k, e1, hC, hM, hk, hv⟩ := h1
  cases e1
  refine V.istore (q := 2226) dL_law_2224 rfl rfl rfl ?_
  refine V.aload_n (q := 2227) dL_law_2226 rfl rfl ?_
  refine V.aload_n (q := 2228) dL_law_2227 rfl rfl ?_
  refine V.iload (q := 2230) dL_law_2228 rfl rfl ?_
  refine V.iconst (q := 2231) dL_law_2230 (v := 1) rfl rfl ?_
  refine V.iadd (q := 2232) dL_law_2231 rfl ?_
  refine V.sld (q := 2233) dL_law_2232 (i := i + 1) (by omega) hL31 (nI_k i 1) rfl ?_
  refine V.cVMP (q := 2236) (As := [_]) dL_law_2233 rfl (m2_setPolicy hK hC hM) MX5_setPolicy bw_1568 rfl rfl rfl rfl (by decide) rfl (fun v2 τ2 h2 => ?_)
  obtain ⟨rfl, hC, hM, ht2, hO2⟩ := h2
  refine V.istore (q := 2238) dL_law_2236 rfl rfl rfl ?_
  refine V.aload_n (q := 2239) dL_law_2238 rfl rfl ?_
  refine V.cVM (q := 2242) dL_law_2239 (As := []) rfl kM_thrown MX5_thrown bw_1060 rfl rfl rfl rfl (by decide) rfl ?_
  rw [ht2]
  refine V.iload (q := 2244) dL_law_2242 rfl rfl ?_
  refine V.icmp_eq (tgt := 2249) (q := 2247) dL_law_2244 (by decide) rfl (fun c2244 => ?_) (fun c2244 => ?_)
  · refine V.iload (q := 2251) dL_law_2249 rfl rfl ?_
    refine V.if_ne (tgt := 2266) (q := 2254) dL_law_2251 (by decide) rfl (fun c2251 => ?_) (fun c2251 => ?_)
    · refine V.goto (tgt := 2552) dL_law_2266 (by decide) ?_
      refine V.wid (ce2 := ce + 3) (sl2 := sl + 18) (by omega) (by omega) (V.less (L2 := LI G i) ⟨Or.inr rfl, Or.inr rfl, Or.inr rfl, Or.inr rfl, Or.inr rfl, Or.inl rfl, Or.inl rfl, Or.inl rfl, Or.inl rfl, trivial⟩ (next _ _ hK.pol hC hM))
    · refine V.aload_n (q := 2255) dL_law_2254 rfl rfl ?_
      refine V.iconst (q := 2256) dL_law_2255 (v := 0) rfl rfl ?_
      refine V.ld16 (q := 2257) dL_law_2256 (i := 0)  rfl (by decide) rfl ?_
      rw [(congrFun hO2 0).trans (hv c2251)]
      refine V.iload (q := 2259) dL_law_2257 rfl rfl ?_
      refine V.i2l (q := 2260) dL_law_2259 rfl ?_
      refine V.lcmp (q := 2261) dL_law_2260 rfl ?_
      rw [lg_same]
      refine V.if_eq (tgt := 2266) (q := 2264) dL_law_2261 (by decide) rfl (fun c2261 => ?_) (fun c2261 => ?_)
      · refine V.goto (tgt := 2552) dL_law_2266 (by decide) ?_
        refine V.wid (ce2 := ce + 3) (sl2 := sl + 18) (by omega) (by omega) (V.less (L2 := LI G i) ⟨Or.inr rfl, Or.inr rfl, Or.inr rfl, Or.inr rfl, Or.inr rfl, Or.inl rfl, Or.inl rfl, Or.inl rfl, Or.inl rfl, trivial⟩ (next _ _ hK.pol hC hM))
      · exact absurd rfl c2261
  · exact absurd hk.symm c2244
set_option maxHeartbeats 2000000 in
theorem kC_56 {l : Launch} {G : GG} {σ : St} {a : Ab} {Q : PQ} (hK : AK a) (hC : CL σ a) (hM : ML σ a) {i : Nat} (hi : i + 6 ≤ gL G) (hL : gL G ≤ 3072) {mc ms ce sl : Nat} (hce : ce + 3 ≤ mc) (hsl : sl + 18 ≤ ms) (next : ∀ τ a2, AK a2 → CL τ a2 → ML τ a2 → V l G TL_law 17 mc ms Q (ce + 3) (sl + 18) 2552 (LI G i) [] (hof G τ) NC) : V l G TL_law 17 mc ms Q ce sl 2269 (LI G i) [] (hof G σ) NC := by
  have hI := hK.1.1.1
  have ht := hK.1.1.2
  have hL31 : gL G < 2 ^ 31 := by omega
  refine V.aload_n (q := 2270) dL_law_2269 rfl rfl ?_
  refine V.aload_n (q := 2271) dL_law_2270 rfl rfl ?_
  refine V.iload (q := 2273) dL_law_2271 rfl rfl ?_
  refine V.iconst (q := 2274) dL_law_2273 (v := 1) rfl rfl ?_
  refine V.iadd (q := 2275) dL_law_2274 rfl ?_
  refine V.sld (q := 2276) dL_law_2275 (i := i + 1) (by omega) hL31 (nI_k i 1) rfl ?_
  refine V.aload_n (q := 2277) dL_law_2276 rfl rfl ?_
  refine V.cStXW (q := 2280) (As := [_, _, _]) dL_law_2277 rfl (w1_setCapacity hK hC hM) (fun E9 τ9 ⟨k9, e9, _⟩ => nomatch e9) ML_setCapacity bw_970 rfl rfl (by decide) rfl (by omega) (by omega) (fun v1 τ1 h1 => ?_)
  obtain ⟨k, e1, hC, hM, hk, hv⟩ := h1
  cases e1
  refine V.istore (q := 2282) dL_law_2280 rfl rfl rfl ?_
  refine V.aload_n (q := 2283) dL_law_2282 rfl rfl ?_
  refine V.aload_n (q := 2284) dL_law_2283 rfl rfl ?_
  refine V.iload (q := 2286) dL_law_2284 rfl rfl ?_
  refine V.iconst (q := 2287) dL_law_2286 (v := 1) rfl rfl ?_
  refine V.iadd (q := 2288) dL_law_2287 rfl ?_
  refine V.sld (q := 2289) dL_law_2288 (i := i + 1) (by omega) hL31 (nI_k i 1) rfl ?_
  refine V.cVMP (q := 2292) (As := [_]) dL_law_2289 rfl (m2_setCapacity hK hC hM) MX5_setCapacity bw_1572 rfl rfl rfl rfl (by decide) rfl (fun v2 τ2 h2 => ?_)
  obtain ⟨rfl, hC, hM, ht2, hO2⟩ := h2
  refine V.istore (q := 2294) dL_law_2292 rfl rfl rfl ?_
  refine V.aload_n (q := 2295) dL_law_2294 rfl rfl ?_
  refine V.cVM (q := 2298) dL_law_2295 (As := []) rfl kM_thrown MX5_thrown bw_1060 rfl rfl rfl rfl (by decide) rfl ?_
  rw [ht2]
  refine V.iload (q := 2300) dL_law_2298 rfl rfl ?_
  refine V.icmp_eq (tgt := 2305) (q := 2303) dL_law_2300 (by decide) rfl (fun c2300 => ?_) (fun c2300 => ?_)
  · refine V.iload (q := 2307) dL_law_2305 rfl rfl ?_
    refine V.if_ne (tgt := 2322) (q := 2310) dL_law_2307 (by decide) rfl (fun c2307 => ?_) (fun c2307 => ?_)
    · refine V.goto (tgt := 2552) dL_law_2322 (by decide) ?_
      refine V.wid (ce2 := ce + 3) (sl2 := sl + 18) (by omega) (by omega) (V.less (L2 := LI G i) ⟨Or.inr rfl, Or.inr rfl, Or.inr rfl, Or.inr rfl, Or.inr rfl, Or.inl rfl, Or.inl rfl, Or.inl rfl, Or.inl rfl, trivial⟩ (next _ _ hK.cap hC hM))
    · refine V.aload_n (q := 2311) dL_law_2310 rfl rfl ?_
      refine V.iconst (q := 2312) dL_law_2311 (v := 0) rfl rfl ?_
      refine V.ld16 (q := 2313) dL_law_2312 (i := 0)  rfl (by decide) rfl ?_
      rw [(congrFun hO2 0).trans (hv c2307)]
      refine V.iload (q := 2315) dL_law_2313 rfl rfl ?_
      refine V.i2l (q := 2316) dL_law_2315 rfl ?_
      refine V.lcmp (q := 2317) dL_law_2316 rfl ?_
      rw [lg_same]
      refine V.if_eq (tgt := 2322) (q := 2320) dL_law_2317 (by decide) rfl (fun c2317 => ?_) (fun c2317 => ?_)
      · refine V.goto (tgt := 2552) dL_law_2322 (by decide) ?_
        refine V.wid (ce2 := ce + 3) (sl2 := sl + 18) (by omega) (by omega) (V.less (L2 := LI G i) ⟨Or.inr rfl, Or.inr rfl, Or.inr rfl, Or.inr rfl, Or.inr rfl, Or.inl rfl, Or.inl rfl, Or.inl rfl, Or.inl rfl, trivial⟩ (next _ _ hK.cap hC hM))
      · exact absurd rfl c2317
  · exact absurd hk.symm c2300
set_option maxHeartbeats 2000000 in
theorem kC_57 {l : Launch} {G : GG} {σ : St} {a : Ab} {Q : PQ} (hK : AK a) (hC : CL σ a) (hM : ML σ a) {i : Nat} (hi : i + 6 ≤ gL G) (hL : gL G ≤ 3072) {mc ms ce sl : Nat} (hce : ce + 3 ≤ mc) (hsl : sl + 18 ≤ ms) (next : ∀ τ a2, AK a2 → CL τ a2 → ML τ a2 → V l G TL_law 17 mc ms Q (ce + 3) (sl + 18) 2552 (LI G i) [] (hof G τ) NC) : V l G TL_law 17 mc ms Q ce sl 2325 (LI G i) [] (hof G σ) NC := by
  have hI := hK.1.1.1
  have ht := hK.1.1.2
  have hL31 : gL G < 2 ^ 31 := by omega
  refine V.aload_n (q := 2326) dL_law_2325 rfl rfl ?_
  refine V.aload_n (q := 2327) dL_law_2326 rfl rfl ?_
  refine V.cStXW (q := 2330) (As := [_, _]) dL_law_2327 rfl (w1_undo hK hC hM) (fun E9 τ9 ⟨k9, e9, _⟩ => nomatch e9) ML_undo bw_977 rfl rfl (by decide) rfl (by omega) (by omega) (fun v1 τ1 h1 => ?_)
  obtain ⟨k, e1, hC, hM, hk, hv⟩ := h1
  cases e1
  refine V.istore (q := 2332) dL_law_2330 rfl rfl rfl ?_
  refine V.aload_n (q := 2333) dL_law_2332 rfl rfl ?_
  refine V.cVMP (q := 2336) (As := []) dL_law_2333 rfl (m2_undo hK hC hM) MX5_undo bw_1576 rfl rfl rfl rfl (by decide) rfl (fun v2 τ2 h2 => ?_)
  obtain ⟨rfl, hC, hM, ht2, hO2⟩ := h2
  refine V.istore (q := 2338) dL_law_2336 rfl rfl rfl ?_
  refine V.aload_n (q := 2339) dL_law_2338 rfl rfl ?_
  refine V.cVM (q := 2342) dL_law_2339 (As := []) rfl kM_thrown MX5_thrown bw_1060 rfl rfl rfl rfl (by decide) rfl ?_
  rw [ht2]
  refine V.iload (q := 2344) dL_law_2342 rfl rfl ?_
  refine V.icmp_eq (tgt := 2349) (q := 2347) dL_law_2344 (by decide) rfl (fun c2344 => ?_) (fun c2344 => ?_)
  · refine V.iload (q := 2351) dL_law_2349 rfl rfl ?_
    refine V.if_ne (tgt := 2366) (q := 2354) dL_law_2351 (by decide) rfl (fun c2351 => ?_) (fun c2351 => ?_)
    · refine V.goto (tgt := 2552) dL_law_2366 (by decide) ?_
      refine V.wid (ce2 := ce + 3) (sl2 := sl + 18) (by omega) (by omega) (V.less (L2 := LI G i) ⟨Or.inr rfl, Or.inr rfl, Or.inr rfl, Or.inr rfl, Or.inr rfl, Or.inl rfl, Or.inl rfl, Or.inl rfl, Or.inl rfl, trivial⟩ (next _ _ hK.und hC hM))
    · refine V.aload_n (q := 2355) dL_law_2354 rfl rfl ?_
      refine V.iconst (q := 2356) dL_law_2355 (v := 0) rfl rfl ?_
      refine V.ld16 (q := 2357) dL_law_2356 (i := 0)  rfl (by decide) rfl ?_
      rw [(congrFun hO2 0).trans (hv c2351)]
      refine V.iload (q := 2359) dL_law_2357 rfl rfl ?_
      refine V.i2l (q := 2360) dL_law_2359 rfl ?_
      refine V.lcmp (q := 2361) dL_law_2360 rfl ?_
      rw [lg_same]
      refine V.if_eq (tgt := 2366) (q := 2364) dL_law_2361 (by decide) rfl (fun c2361 => ?_) (fun c2361 => ?_)
      · refine V.goto (tgt := 2552) dL_law_2366 (by decide) ?_
        refine V.wid (ce2 := ce + 3) (sl2 := sl + 18) (by omega) (by omega) (V.less (L2 := LI G i) ⟨Or.inr rfl, Or.inr rfl, Or.inr rfl, Or.inr rfl, Or.inr rfl, Or.inl rfl, Or.inl rfl, Or.inl rfl, Or.inl rfl, trivial⟩ (next _ _ hK.und hC hM))
      · exact absurd rfl c2361
  · exact absurd hk.symm c2344
set_option maxHeartbeats 2000000 in
theorem kC_58 {l : Launch} {G : GG} {σ : St} {a : Ab} {Q : PQ} (hK : AK a) (hC : CL σ a) (hM : ML σ a) {i : Nat} (hi : i + 6 ≤ gL G) (hL : gL G ≤ 3072) {mc ms ce sl : Nat} (hce : ce + 3 ≤ mc) (hsl : sl + 18 ≤ ms) (next : ∀ τ a2, AK a2 → CL τ a2 → ML τ a2 → V l G TL_law 17 mc ms Q (ce + 3) (sl + 18) 2552 (LI G i) [] (hof G τ) NC) : V l G TL_law 17 mc ms Q ce sl 2369 (LI G i) [] (hof G σ) NC := by
  have hI := hK.1.1.1
  have ht := hK.1.1.2
  have hL31 : gL G < 2 ^ 31 := by omega
  refine V.aload_n (q := 2370) dL_law_2369 rfl rfl ?_
  refine V.cVLP (q := 2373) (As := []) dL_law_2370 rfl (c1_undoDepth hK hC hM) MX4_undoDepth bw_423 rfl rfl rfl rfl (by decide) rfl (fun v1 τ1 h1 => ?_)
  obtain ⟨rfl, hC, hM⟩ := h1
  refine V.aload_n (q := 2374) dL_law_2373 rfl rfl ?_
  refine V.cVMP (q := 2377) (As := []) dL_law_2374 rfl (c2_undoDepth hK hC hM) MX5_undoDepth bw_1580 rfl rfl rfl rfl (by decide) rfl (fun v2 τ2 h2 => ?_)
  obtain ⟨rfl, hC, hM⟩ := h2
  refine V.icmp_eq (tgt := 2552) (q := 2380) dL_law_2377 (by decide) rfl (fun c2377 => ?_) (fun c2377 => ?_)
  · refine V.wid (ce2 := ce + 3) (sl2 := sl + 18) (by omega) (by omega) (V.less (L2 := LI G i) ⟨Or.inr rfl, Or.inr rfl, Or.inr rfl, Or.inr rfl, Or.inr rfl, Or.inl rfl, Or.inl rfl, Or.inl rfl, Or.inl rfl, trivial⟩ (next _ _ hK hC hM))
  · exact absurd rfl c2377
set_option maxHeartbeats 2000000 in
theorem kC_59 {l : Launch} {G : GG} {σ : St} {a : Ab} {Q : PQ} (hK : AK a) (hC : CL σ a) (hM : ML σ a) {i : Nat} (hi : i + 6 ≤ gL G) (hL : gL G ≤ 3072) {mc ms ce sl : Nat} (hce : ce + 3 ≤ mc) (hsl : sl + 18 ≤ ms) (next : ∀ τ a2, AK a2 → CL τ a2 → ML τ a2 → V l G TL_law 17 mc ms Q (ce + 3) (sl + 18) 2552 (LI G i) [] (hof G τ) NC) : V l G TL_law 17 mc ms Q ce sl 2382 (LI G i) [] (hof G σ) NC := by
  have hI := hK.1.1.1
  have ht := hK.1.1.2
  have hL31 : gL G < 2 ^ 31 := by omega
  refine V.aload_n (q := 2383) dL_law_2382 rfl rfl ?_
  refine V.aload_n (q := 2384) dL_law_2383 rfl rfl ?_
  refine V.iload (q := 2386) dL_law_2384 rfl rfl ?_
  refine V.iconst (q := 2387) dL_law_2386 (v := 1) rfl rfl ?_
  refine V.iadd (q := 2388) dL_law_2387 rfl ?_
  refine V.sld (q := 2389) dL_law_2388 (i := i + 1) (by omega) hL31 (nI_k i 1) rfl ?_
  refine V.aload_n (q := 2390) dL_law_2389 rfl rfl ?_
  refine V.cStXW (q := 2393) (As := [_, _, _]) dL_law_2390 rfl (w1_save hK hC hM) (fun E9 τ9 ⟨k9, e9, _⟩ => nomatch e9) ML_save bw_985 rfl rfl (by decide) rfl (by omega) (by omega) (fun v1 τ1 h1 => ?_)
  obtain ⟨k, e1, hC, hM, hk, hv⟩ := h1
  cases e1
  refine V.istore (q := 2395) dL_law_2393 rfl rfl rfl ?_
  refine V.aload_n (q := 2396) dL_law_2395 rfl rfl ?_
  refine V.aload_n (q := 2397) dL_law_2396 rfl rfl ?_
  refine V.iload (q := 2399) dL_law_2397 rfl rfl ?_
  refine V.iconst (q := 2400) dL_law_2399 (v := 1) rfl rfl ?_
  refine V.iadd (q := 2401) dL_law_2400 rfl ?_
  refine V.sld (q := 2402) dL_law_2401 (i := i + 1) (by omega) hL31 (nI_k i 1) rfl ?_
  refine V.cVMP (q := 2405) (As := [_]) dL_law_2402 rfl (m2_save hK hC hM) MX5_save bw_1584 rfl rfl rfl rfl (by decide) rfl (fun v2 τ2 h2 => ?_)
  obtain ⟨rfl, hC, hM, ht2, hO2⟩ := h2
  refine V.istore (q := 2407) dL_law_2405 rfl rfl rfl ?_
  refine V.aload_n (q := 2408) dL_law_2407 rfl rfl ?_
  refine V.cVM (q := 2411) dL_law_2408 (As := []) rfl kM_thrown MX5_thrown bw_1060 rfl rfl rfl rfl (by decide) rfl ?_
  rw [ht2]
  refine V.iload (q := 2413) dL_law_2411 rfl rfl ?_
  refine V.icmp_eq (tgt := 2418) (q := 2416) dL_law_2413 (by decide) rfl (fun c2413 => ?_) (fun c2413 => ?_)
  · refine V.iload (q := 2420) dL_law_2418 rfl rfl ?_
    refine V.if_ne (tgt := 2442) (q := 2423) dL_law_2420 (by decide) rfl (fun c2420 => ?_) (fun c2420 => ?_)
    · refine V.goto (tgt := 2552) dL_law_2442 (by decide) ?_
      refine V.wid (ce2 := ce + 3) (sl2 := sl + 18) (by omega) (by omega) (V.less (L2 := LI G i) ⟨Or.inr rfl, Or.inr rfl, Or.inr rfl, Or.inr rfl, Or.inr rfl, Or.inl rfl, Or.inl rfl, Or.inl rfl, Or.inl rfl, trivial⟩ (next _ _ hK.svS hC hM))
    · have hg : okS (gX G (i + 1)) = true := by
        rw [c2420] at hk
        cases g : okS (gX G (i + 1)) with
        | true => rfl
        | false => (rw [g] at hk; exact absurd hk (by decide))
      refine V.aload_n (q := 2424) dL_law_2423 rfl rfl ?_
      refine V.iconst (q := 2425) dL_law_2424 (v := 0) rfl rfl ?_
      refine V.ld16 (q := 2426) dL_law_2425 (i := 0)  rfl (by decide) rfl ?_
      rw [(congrFun hO2 0).trans (hv c2420)]
      refine V.iload (q := 2428) dL_law_2426 rfl rfl ?_
      refine V.if_eq (tgt := 2435) (q := 2431) dL_law_2428 (by decide) rfl (fun c2428 => ?_) (fun c2428 => ?_)
      · rw [if_pos hg] at c2428
        have hb := bI0.mp c2428
        rw [hb, if_neg (show ¬ (false = true) by decide)]
        refine V.lconst (q := 2436) dL_law_2435 (v := 0) rfl rfl ?_
        refine V.lcmp (q := 2437) dL_law_2436 rfl ?_
        rw [show lg_cmp _ _ = 0 from lg_same _]
        refine V.if_eq (tgt := 2442) (q := 2440) dL_law_2437 (by decide) rfl (fun c2437 => ?_) (fun c2437 => ?_)
        · refine V.goto (tgt := 2552) dL_law_2442 (by decide) ?_
          refine V.wid (ce2 := ce + 3) (sl2 := sl + 18) (by omega) (by omega) (V.less (L2 := LI G i) ⟨Or.inr rfl, Or.inr rfl, Or.inr rfl, Or.inr rfl, Or.inr rfl, Or.inl rfl, Or.inl rfl, Or.inl rfl, Or.inl rfl, trivial⟩ (next _ _ hK.svS hC hM))
        · exact absurd rfl c2437
      · rw [if_pos hg] at c2428
        have hb := bI1.mp c2428
        rw [hb, if_pos (show true = true from rfl)]
        refine V.lconst (q := 2432) dL_law_2431 (v := 1) rfl rfl ?_
        refine V.goto (tgt := 2436) dL_law_2432 (by decide) ?_
        refine V.lcmp (q := 2437) dL_law_2436 rfl ?_
        rw [show lg_cmp _ _ = 0 from lg_same _]
        refine V.if_eq (tgt := 2442) (q := 2440) dL_law_2437 (by decide) rfl (fun c2437 => ?_) (fun c2437 => ?_)
        · refine V.goto (tgt := 2552) dL_law_2442 (by decide) ?_
          refine V.wid (ce2 := ce + 3) (sl2 := sl + 18) (by omega) (by omega) (V.less (L2 := LI G i) ⟨Or.inr rfl, Or.inr rfl, Or.inr rfl, Or.inr rfl, Or.inr rfl, Or.inl rfl, Or.inl rfl, Or.inl rfl, Or.inl rfl, trivial⟩ (next _ _ hK.svS hC hM))
        · exact absurd rfl c2437
  · exact absurd hk.symm c2413
set_option maxHeartbeats 2000000 in
theorem kC_60 {l : Launch} {G : GG} {σ : St} {a : Ab} {Q : PQ} (hK : AK a) (hC : CL σ a) (hM : ML σ a) {i : Nat} (hi : i + 6 ≤ gL G) (hL : gL G ≤ 3072) {mc ms ce sl : Nat} (hce : ce + 3 ≤ mc) (hsl : sl + 18 ≤ ms) (next : ∀ τ a2, AK a2 → CL τ a2 → ML τ a2 → V l G TL_law 17 mc ms Q (ce + 3) (sl + 18) 2552 (LI G i) [] (hof G τ) NC) : V l G TL_law 17 mc ms Q ce sl 2445 (LI G i) [] (hof G σ) NC := by
  have hI := hK.1.1.1
  have ht := hK.1.1.2
  have hL31 : gL G < 2 ^ 31 := by omega
  refine V.aload_n (q := 2446) dL_law_2445 rfl rfl ?_
  refine V.aload_n (q := 2447) dL_law_2446 rfl rfl ?_
  refine V.iload (q := 2449) dL_law_2447 rfl rfl ?_
  refine V.iconst (q := 2450) dL_law_2449 (v := 1) rfl rfl ?_
  refine V.iadd (q := 2451) dL_law_2450 rfl ?_
  refine V.sld (q := 2452) dL_law_2451 (i := i + 1) (by omega) hL31 (nI_k i 1) rfl ?_
  refine V.aload_n (q := 2453) dL_law_2452 rfl rfl ?_
  refine V.cStXW (q := 2456) (As := [_, _, _]) dL_law_2453 rfl (w1_restore hK hC hM) (fun E9 τ9 ⟨k9, e9, _⟩ => nomatch e9) ML_restore bw_997 rfl rfl (by decide) rfl (by omega) (by omega) (fun v1 τ1 h1 => ?_)
  obtain ⟨k, e1, hC, hM, hk, hv⟩ := h1
  cases e1
  refine V.istore (q := 2458) dL_law_2456 rfl rfl rfl ?_
  refine V.aload_n (q := 2459) dL_law_2458 rfl rfl ?_
  refine V.aload_n (q := 2460) dL_law_2459 rfl rfl ?_
  refine V.iload (q := 2462) dL_law_2460 rfl rfl ?_
  refine V.iconst (q := 2463) dL_law_2462 (v := 1) rfl rfl ?_
  refine V.iadd (q := 2464) dL_law_2463 rfl ?_
  refine V.sld (q := 2465) dL_law_2464 (i := i + 1) (by omega) hL31 (nI_k i 1) rfl ?_
  refine V.cVMP (q := 2468) (As := [_]) dL_law_2465 rfl (m2_restore hK hC hM) MX5_restore bw_1588 rfl rfl rfl rfl (by decide) rfl (fun v2 τ2 h2 => ?_)
  obtain ⟨rfl, hC, hM, ht2, hO2⟩ := h2
  refine V.istore (q := 2470) dL_law_2468 rfl rfl rfl ?_
  refine V.aload_n (q := 2471) dL_law_2470 rfl rfl ?_
  refine V.cVM (q := 2474) dL_law_2471 (As := []) rfl kM_thrown MX5_thrown bw_1060 rfl rfl rfl rfl (by decide) rfl ?_
  rw [ht2]
  refine V.iload (q := 2476) dL_law_2474 rfl rfl ?_
  refine V.icmp_eq (tgt := 2481) (q := 2479) dL_law_2476 (by decide) rfl (fun c2476 => ?_) (fun c2476 => ?_)
  · refine V.iload (q := 2483) dL_law_2481 rfl rfl ?_
    refine V.if_ne (tgt := 2498) (q := 2486) dL_law_2483 (by decide) rfl (fun c2483 => ?_) (fun c2483 => ?_)
    · refine V.goto (tgt := 2552) dL_law_2498 (by decide) ?_
      refine V.wid (ce2 := ce + 3) (sl2 := sl + 18) (by omega) (by omega) (V.less (L2 := LI G i) ⟨Or.inr rfl, Or.inr rfl, Or.inr rfl, Or.inr rfl, Or.inr rfl, Or.inl rfl, Or.inl rfl, Or.inl rfl, Or.inl rfl, trivial⟩ (next _ _ hK.rs hC hM))
    · refine V.aload_n (q := 2487) dL_law_2486 rfl rfl ?_
      refine V.iconst (q := 2488) dL_law_2487 (v := 0) rfl rfl ?_
      refine V.ld16 (q := 2489) dL_law_2488 (i := 0)  rfl (by decide) rfl ?_
      rw [(congrFun hO2 0).trans (hv c2483)]
      refine V.iload (q := 2491) dL_law_2489 rfl rfl ?_
      refine V.i2l (q := 2492) dL_law_2491 rfl ?_
      refine V.lcmp (q := 2493) dL_law_2492 rfl ?_
      rw [lg_same]
      refine V.if_eq (tgt := 2498) (q := 2496) dL_law_2493 (by decide) rfl (fun c2493 => ?_) (fun c2493 => ?_)
      · refine V.goto (tgt := 2552) dL_law_2498 (by decide) ?_
        refine V.wid (ce2 := ce + 3) (sl2 := sl + 18) (by omega) (by omega) (V.less (L2 := LI G i) ⟨Or.inr rfl, Or.inr rfl, Or.inr rfl, Or.inr rfl, Or.inr rfl, Or.inl rfl, Or.inl rfl, Or.inl rfl, Or.inl rfl, trivial⟩ (next _ _ hK.rs hC hM))
      · exact absurd rfl c2493
  · exact absurd hk.symm c2476
set_option maxHeartbeats 2000000 in
theorem kC_61 {l : Launch} {G : GG} {σ : St} {a : Ab} {Q : PQ} (hK : AK a) (hC : CL σ a) (hM : ML σ a) {i : Nat} (hi : i + 6 ≤ gL G) (hL : gL G ≤ 3072) {mc ms ce sl : Nat} (hce : ce + 3 ≤ mc) (hsl : sl + 18 ≤ ms) (next : ∀ τ a2, AK a2 → CL τ a2 → ML τ a2 → V l G TL_law 17 mc ms Q (ce + 3) (sl + 18) 2552 (LI G i) [] (hof G τ) NC) : V l G TL_law 17 mc ms Q ce sl 2501 (LI G i) [] (hof G σ) NC := by
  have hI := hK.1.1.1
  have ht := hK.1.1.2
  have hL31 : gL G < 2 ^ 31 := by omega
  refine V.aload_n (q := 2502) dL_law_2501 rfl rfl ?_
  refine V.cVLP (q := 2505) (As := []) dL_law_2502 rfl (c1_writeStatus hK hC hM) MX4_writeStatus bw_427 rfl rfl rfl rfl (by decide) rfl (fun v1 τ1 h1 => ?_)
  obtain ⟨rfl, hC, hM⟩ := h1
  refine V.aload_n (q := 2506) dL_law_2505 rfl rfl ?_
  refine V.cVMP (q := 2509) (As := []) dL_law_2506 rfl (c2_writeStatus hK hC hM) MX5_writeStatus bw_1592 rfl rfl rfl rfl (by decide) rfl (fun v2 τ2 h2 => ?_)
  obtain ⟨rfl, hC, hM⟩ := h2
  refine V.icmp_eq (tgt := 2552) (q := 2512) dL_law_2509 (by decide) rfl (fun c2509 => ?_) (fun c2509 => ?_)
  · refine V.wid (ce2 := ce + 3) (sl2 := sl + 18) (by omega) (by omega) (V.less (L2 := LI G i) ⟨Or.inr rfl, Or.inr rfl, Or.inr rfl, Or.inr rfl, Or.inr rfl, Or.inl rfl, Or.inl rfl, Or.inl rfl, Or.inl rfl, trivial⟩ (next _ _ (hK.out (by rw [wrST_len]; have := hK.1.1.1.1; omega) (wrST_asc _ _)) hC hM))
  · exact absurd rfl c2509
set_option maxHeartbeats 2000000 in
theorem kC_62 {l : Launch} {G : GG} {σ : St} {a : Ab} {Q : PQ} (hK : AK a) (hC : CL σ a) (hM : ML σ a) {i : Nat} (hi : i + 6 ≤ gL G) (hL : gL G ≤ 3072) {mc ms ce sl : Nat} (hce : ce + 3 ≤ mc) (hsl : sl + 18 ≤ ms) (next : ∀ τ a2, AK a2 → CL τ a2 → ML τ a2 → V l G TL_law 17 mc ms Q (ce + 3) (sl + 18) 2552 (LI G i) [] (hof G τ) NC) : V l G TL_law 17 mc ms Q ce sl 2514 (LI G i) [] (hof G σ) NC := by
  have hI := hK.1.1.1
  have ht := hK.1.1.2
  have hL31 : gL G < 2 ^ 31 := by omega
  refine V.aload_n (q := 2515) dL_law_2514 rfl rfl ?_
  refine V.cVLP (q := 2518) (As := []) dL_law_2515 rfl (c1_writeBuilding hK hC hM) MX4_writeBuilding bw_442 rfl rfl rfl rfl (by decide) rfl (fun v1 τ1 h1 => ?_)
  obtain ⟨rfl, hC, hM⟩ := h1
  refine V.aload_n (q := 2519) dL_law_2518 rfl rfl ?_
  refine V.cVMP (q := 2522) (As := []) dL_law_2519 rfl (c2_writeBuilding hK hC hM) MX5_writeBuilding bw_1600 rfl rfl rfl rfl (by decide) rfl (fun v2 τ2 h2 => ?_)
  obtain ⟨rfl, hC, hM⟩ := h2
  refine V.icmp_eq (tgt := 2552) (q := 2525) dL_law_2522 (by decide) rfl (fun c2522 => ?_) (fun c2522 => ?_)
  · refine V.wid (ce2 := ce + 3) (sl2 := sl + 18) (by omega) (by omega) (V.less (L2 := LI G i) ⟨Or.inr rfl, Or.inr rfl, Or.inr rfl, Or.inr rfl, Or.inr rfl, Or.inl rfl, Or.inl rfl, Or.inl rfl, Or.inl rfl, trivial⟩ (next _ _ hK.wb hC hM))
  · exact absurd rfl c2522
set_option maxHeartbeats 2000000 in
theorem kC_63 {l : Launch} {G : GG} {σ : St} {a : Ab} {Q : PQ} (hK : AK a) (hC : CL σ a) (hM : ML σ a) {i : Nat} (hi : i + 6 ≤ gL G) (hL : gL G ≤ 3072) {mc ms ce sl : Nat} (hce : ce + 3 ≤ mc) (hsl : sl + 18 ≤ ms) (next : ∀ τ a2, AK a2 → CL τ a2 → ML τ a2 → V l G TL_law 17 mc ms Q (ce + 3) (sl + 18) 2552 (LI G i) [] (hof G τ) NC) : V l G TL_law 17 mc ms Q ce sl 2527 (LI G i) [] (hof G σ) NC := by
  have hI := hK.1.1.1
  have ht := hK.1.1.2
  have hL31 : gL G < 2 ^ 31 := by omega
  refine V.aload_n (q := 2528) dL_law_2527 rfl rfl ?_
  refine V.aload_n (q := 2529) dL_law_2528 rfl rfl ?_
  refine V.iload (q := 2531) dL_law_2529 rfl rfl ?_
  refine V.iconst (q := 2532) dL_law_2531 (v := 1) rfl rfl ?_
  refine V.iadd (q := 2533) dL_law_2532 rfl ?_
  refine V.sld (q := 2534) dL_law_2533 (i := i + 1) (by omega) hL31 (nI_k i 1) rfl ?_
  refine V.cVLP (q := 2537) (As := [_]) dL_law_2534 rfl (c1_outputByte hK hC hM) MX4_outputByte bw_455 rfl rfl rfl rfl (by decide) rfl (fun v1 τ1 h1 => ?_)
  obtain ⟨rfl, hC, hM⟩ := h1
  refine V.aload_n (q := 2538) dL_law_2537 rfl rfl ?_
  refine V.aload_n (q := 2539) dL_law_2538 rfl rfl ?_
  refine V.iload (q := 2541) dL_law_2539 rfl rfl ?_
  refine V.iconst (q := 2542) dL_law_2541 (v := 1) rfl rfl ?_
  refine V.iadd (q := 2543) dL_law_2542 rfl ?_
  refine V.sld (q := 2544) dL_law_2543 (i := i + 1) (by omega) hL31 (nI_k i 1) rfl ?_
  refine V.cVMP (q := 2547) (As := [_]) dL_law_2544 rfl (c2_outputByte hK hC hM) MX5_outputByte bw_1608 rfl rfl rfl rfl (by decide) rfl (fun v2 τ2 h2 => ?_)
  obtain ⟨rfl, hC, hM⟩ := h2
  refine V.icmp_eq (tgt := 2552) (q := 2550) dL_law_2547 (by decide) rfl (fun c2547 => ?_) (fun c2547 => ?_)
  · refine V.wid (ce2 := ce + 3) (sl2 := sl + 18) (by omega) (by omega) (V.less (L2 := LI G i) ⟨Or.inr rfl, Or.inr rfl, Or.inr rfl, Or.inr rfl, Or.inr rfl, Or.inl rfl, Or.inl rfl, Or.inl rfl, Or.inl rfl, trivial⟩ (next _ _ hK hC hM))
  · exact absurd rfl c2547
