/-! the law's loop -/
theorem tkU_un (u : Vw) : un (tk u) = un u := by
  show un (tk0 u) = un u
  unfold tk0
  split
  · rfl
  · split
    · show un (brd (un u) (lvS u (un u))) = _
      rw [brd_un]; rfl
    · exact mv_un
theorem tk_us0 (u : Vw) : us (tk u) 0 = us u 0 := by
  show us (uS (tk0 u) 3 (us u 3 + 1)) 0 = us u 0
  rw [uS_in (by decide)]
  unfold tk0
  split
  · rw [uS_in (by decide)]
  · split
    · show us (uS (brd (un u) (lvS u (un u))) 7 (us u 7 + 1)) 0 = _
      rw [uS_in (by decide), brd_us]; rfl
    · exact mv_us (by decide) (by decide) (by decide) (by decide)
theorem fl_lt {u : Vw} {N : Nat} (hI : Iu u) (hN : uN u = N) : us u 4 < nI N := by
  obtain ⟨hF, -, h1, h2, -⟩ := hI.F
  rw [hF]
  exact nI_lt (by omega) (by omega)
theorem fl_ge {u : Vw} (hI : Iu u) : ¬ us u 4 < 0 := by
  obtain ⟨hF, -, h1, h2, -⟩ := hI.F
  rw [hF]
  exact nlt0 (by omega)
section LAW
variable {l : Launch} {G : GG} {Q : PE} {mc ms ce sl Nf P i p q f : Nat} {σ : St} {u : Vw} {qq : Nat → Nat} {E : va_W} {w1 w6 w7 w8 w9 w10 w11 w12 w13 w14 w15 w16 : Option Value} {x6 x8 x13 : Int32}
set_option maxHeartbeats 1000000 in
theorem s1a (hR : RC σ 1 u qq) (hW : WJ u) (hL : gL G ≤ 260) (hi : i ≤ 300) (hQ : ∀ h n E, Q (some (.int 1)) h n E) (hce : ce + 800 ≤ mc) (hsl : sl + 4800 ≤ ms) (k : i < gL G → i < 26 → X l G TL_law 10 mc ms Q (ce + 1) (sl + 6) 112 [some (.ref (gb G)), w1, some (.ref (gB G + 0)), some (.int (nI Nf)), some (.int (nI P)), some (.int (nI i)), some (.int (nI (many u 2))), w7, w8, w9, w10, w11, w12, w13, w14, w15, w16] [] (hof G σ) NC E) : X l G TL_law 10 mc ms Q (ce) (sl) 61 [some (.ref (gb G)), w1, some (.ref (gB G + 0)), some (.int (nI Nf)), some (.int (nI P)), some (.int (nI i)), w6, w7, w8, w9, w10, w11, w12, w13, w14, w15, w16] [] (hof G σ) NC E := by
  refine X.iload (q := 63) dL_law_61 rfl rfl ?_
  refine X.aload_n (q := 64) dL_law_63 rfl rfl ?_
  refine X.slen (q := 65) dL_law_64 rfl ?_
  refine X.icmp_ge (tgt := 928) (q := 68) dL_law_65 (by decide) rfl (fun c65 => ?_) (fun c65 => ?_)
  · refine X.iconst (q := 929) dL_law_928 (v := 1) rfl rfl ?_
    exact X.zret (ty := .boolean) rfl dL_law_929 rfl (hQ _ _ _)
  · have hiL : i < gL G := nnle c65 (by omega) (by omega)
    refine X.iload (q := 70) dL_law_68 rfl rfl ?_
    refine X.bipush (q := 72) dL_law_70 (v := 26) rfl rfl ?_
    refine X.icmp_ge (tgt := 928) (q := 75) dL_law_72 (by decide) rfl (fun c72 => ?_) (fun c72 => ?_)
    · refine X.iconst (q := 929) dL_law_928 (v := 1) rfl rfl ?_
      exact X.zret (ty := .boolean) rfl dL_law_929 rfl (hQ _ _ _)
    · have hi26 : i < 26 := by
        rcases Nat.lt_or_ge i 26 with z | z
        · exact z
        · exact absurd (show nI 26 ≤ nI i from (nI_leI (by omega) (by omega)).mpr z) c72
      refine X.aload_n (q := 76) dL_law_75 rfl rfl ?_
      refine X.iconst (q := 77) dL_law_76 (v := 2) rfl rfl ?_
      refine X.c1 (w := .int (nI (many u 2))) (q := 80) dL_law_77 (kL_countStatus hR) MX4_countStatus bw_412 rfl rfl (by decide) (by decide) rfl rfl ?_
      refine X.istore (q := 82) dL_law_80 rfl rfl rfl ?_
      refine X.iload (q := 84) dL_law_82 rfl rfl ?_
      refine X.aload_n (q := 85) dL_law_84 rfl rfl ?_
      refine X.c0 (w := .int (us u 1)) (q := 88) dL_law_85 (kL_capacity hR) MX4_capacity bw_205 rfl rfl (by decide) rfl rfl ?_
      refine X.icmp_gt (tgt := 133) (q := 91) dL_law_88 (by decide) rfl (fun c88 => ?_) (fun c88 => ?_)
      · exact absurd c88 (law_cap hW.1)
      · refine X.aload_n (q := 92) dL_law_91 rfl rfl ?_
        refine X.c0 (w := .int (if nI (many u 2) = us u 1 then 1 else 0)) (q := 95) dL_law_92 (kL_isFull hR) MX4_isFull bw_221 rfl rfl (by decide) rfl rfl ?_
        refine X.iload (q := 97) dL_law_95 rfl rfl ?_
        refine X.aload_n (q := 98) dL_law_97 rfl rfl ?_
        refine X.c0 (w := .int (us u 1)) (q := 101) dL_law_98 (kL_capacity hR) MX4_capacity bw_205 rfl rfl (by decide) rfl rfl ?_
        refine X.icmp_ne (tgt := 108) (q := 104) dL_law_101 (by decide) rfl (fun c101 => ?_) (fun c101 => ?_)
        · rw [if_neg c101]
          refine X.iconst (q := 109) dL_law_108 (v := 0) rfl rfl ?_
          refine X.icmp_ne (tgt := 133) (q := 112) dL_law_109 (by decide) rfl (fun c109 => ?_) (fun c109 => ?_)
          · exact absurd rfl c109
          · exact k hiL hi26
        · rw [if_pos c101]
          refine X.iconst (q := 105) dL_law_104 (v := 1) rfl rfl ?_
          refine X.goto (tgt := 109) dL_law_105 (by decide) ?_
          refine X.icmp_ne (tgt := 133) (q := 112) dL_law_109 (by decide) rfl (fun c109 => ?_) (fun c109 => ?_)
          · exact absurd rfl c109
          · exact k hiL hi26
set_option maxHeartbeats 1000000 in
theorem s1b (hR : RC σ 1 u qq) (hW : WJ u) (hn : un u = P) (hce : ce + 800 ≤ mc) (hsl : sl + 4800 ≤ ms) (k : X l G TL_law 10 mc ms Q (ce + 4) (sl + 24) 182 [some (.ref (gb G)), w1, some (.ref (gB G + 0)), some (.int (nI Nf)), some (.int (nI P)), some (.int (nI i)), some (.int (nI (many u 2))), w7, w8, w9, w10, w11, w12, w13, w14, w15, w16] [] (hof G σ) NC E) : X l G TL_law 10 mc ms Q (ce) (sl) 112 [some (.ref (gb G)), w1, some (.ref (gB G + 0)), some (.int (nI Nf)), some (.int (nI P)), some (.int (nI i)), some (.int (nI (many u 2))), w7, w8, w9, w10, w11, w12, w13, w14, w15, w16] [] (hof G σ) NC E := by
  refine X.aload_n (q := 113) dL_law_112 rfl rfl ?_
  refine X.c0 (w := .int (us u 3)) (q := 116) dL_law_113 (kL_time hR) MX4_time bw_213 rfl rfl (by decide) rfl rfl ?_
  refine X.aload_n (q := 117) dL_law_116 rfl rfl ?_
  refine X.c0 (w := .int (us u 6)) (q := 120) dL_law_117 (kL_distance hR) MX4_distance bw_329 rfl rfl (by decide) rfl rfl ?_
  refine X.aload_n (q := 121) dL_law_120 rfl rfl ?_
  refine X.c0 (w := .int (us u 7)) (q := 124) dL_law_121 (kL_doorTicks hR) MX4_doorTicks bw_333 rfl rfl (by decide) rfl rfl ?_
  refine X.iadd (q := 125) dL_law_124 rfl ?_
  refine X.aload_n (q := 126) dL_law_125 rfl rfl ?_
  refine X.c0 (w := .int (us u 8)) (q := 129) dL_law_126 (kL_idleTicks hR) MX4_idleTicks bw_337 rfl rfl (by decide) rfl rfl ?_
  refine X.iadd (q := 130) dL_law_129 rfl ?_
  refine X.icmp_eq (tgt := 135) (q := 133) dL_law_130 (by decide) rfl (fun c130 => ?_) (fun c130 => ?_)
  · refine X.aload_n (q := 136) dL_law_135 rfl rfl ?_
    refine X.iconst (q := 137) dL_law_136 (v := 0) rfl rfl ?_
    refine X.c1 (w := .int (nI (many u 0))) (q := 140) dL_law_137 (kL_countStatus hR) MX4_countStatus bw_412 rfl rfl (by decide) (by decide) rfl rfl ?_
    refine X.aload_n (q := 141) dL_law_140 rfl rfl ?_
    refine X.iconst (q := 142) dL_law_141 (v := 1) rfl rfl ?_
    refine X.c1 (w := .int (nI (many u 1))) (q := 145) dL_law_142 (kL_countStatus hR) MX4_countStatus bw_412 rfl rfl (by decide) (by decide) rfl rfl ?_
    refine X.iadd (q := 146) dL_law_145 rfl ?_
    refine X.iload (q := 148) dL_law_146 rfl rfl ?_
    refine X.iadd (q := 149) dL_law_148 rfl ?_
    refine X.aload_n (q := 150) dL_law_149 rfl rfl ?_
    refine X.iconst (q := 151) dL_law_150 (v := 3) rfl rfl ?_
    refine X.c1 (w := .int (nI (many u 3))) (q := 154) dL_law_151 (kL_countStatus hR) MX4_countStatus bw_412 rfl rfl (by decide) (by decide) rfl rfl ?_
    refine X.iadd (q := 155) dL_law_154 rfl ?_
    refine X.iload (q := 157) dL_law_155 rfl rfl ?_
    refine X.icmp_ne (tgt := 197) (q := 160) dL_law_157 (by decide) rfl (fun c157 => ?_) (fun c157 => ?_)
    · exact absurd (by rw [← hn]; exact law_sum u) c157
    · refine X.aload_n (q := 161) dL_law_160 rfl rfl ?_
      refine X.c0 (w := .int (if many u 3 = un u then 1 else 0)) (q := 164) dL_law_161 (kL_isFinished hR) MX4_isFinished bw_456 rfl rfl (by decide) rfl rfl ?_
      refine X.aload_n (q := 165) dL_law_164 rfl rfl ?_
      refine X.iconst (q := 166) dL_law_165 (v := 3) rfl rfl ?_
      refine X.c1 (w := .int (nI (many u 3))) (q := 169) dL_law_166 (kL_countStatus hR) MX4_countStatus bw_412 rfl rfl (by decide) (by decide) rfl rfl ?_
      refine X.iload (q := 171) dL_law_169 rfl rfl ?_
      refine X.icmp_ne (tgt := 178) (q := 174) dL_law_171 (by decide) rfl (fun c171 => ?_) (fun c171 => ?_)
      · rw [if_neg (fun z => c171 ((law_fin hW.1 hn).mp z))]
        refine X.iconst (q := 179) dL_law_178 (v := 0) rfl rfl ?_
        refine X.icmp_ne (tgt := 197) (q := 182) dL_law_179 (by decide) rfl (fun c179 => ?_) (fun c179 => ?_)
        · exact absurd rfl c179
        · exact X.wide (by omega) (by omega) k
      · rw [if_pos ((law_fin hW.1 hn).mpr c171)]
        refine X.iconst (q := 175) dL_law_174 (v := 1) rfl rfl ?_
        refine X.goto (tgt := 179) dL_law_175 (by decide) ?_
        refine X.icmp_ne (tgt := 197) (q := 182) dL_law_179 (by decide) rfl (fun c179 => ?_) (fun c179 => ?_)
        · exact absurd rfl c179
        · exact X.wide (by omega) (by omega) k
  · exact (c130 hW.2.1).elim
set_option maxHeartbeats 1000000 in
theorem s1c (hR : RC σ 1 u qq) (hW : WJ u) (hN : uN u = Nf) (hce : ce + 800 ≤ mc) (hsl : sl + 4800 ≤ ms) (k : X l G TL_law 10 mc ms Q (ce) (sl) 199 [some (.ref (gb G)), w1, some (.ref (gB G + 0)), some (.int (nI Nf)), some (.int (nI P)), some (.int (nI i)), w6, w7, w8, w9, w10, w11, w12, w13, w14, w15, w16] [] (hof G σ) NC E) : X l G TL_law 10 mc ms Q (ce) (sl) 182 [some (.ref (gb G)), w1, some (.ref (gB G + 0)), some (.int (nI Nf)), some (.int (nI P)), some (.int (nI i)), w6, w7, w8, w9, w10, w11, w12, w13, w14, w15, w16] [] (hof G σ) NC E := by
  refine X.aload_n (q := 183) dL_law_182 rfl rfl ?_
  refine X.c0 (w := .int (us u 4)) (q := 186) dL_law_183 (kL_floor hR) MX4_floor bw_217 rfl rfl (by decide) rfl rfl ?_
  refine X.if_lt (tgt := 197) (q := 189) dL_law_186 (by decide) rfl (fun c186 => ?_) (fun c186 => ?_)
  · exact absurd c186 (fl_ge hW.1)
  · refine X.aload_n (q := 190) dL_law_189 rfl rfl ?_
    refine X.c0 (w := .int (us u 4)) (q := 193) dL_law_190 (kL_floor hR) MX4_floor bw_217 rfl rfl (by decide) rfl rfl ?_
    refine X.iload_n (q := 194) dL_law_193 rfl rfl ?_
    refine X.icmp_lt (tgt := 199) (q := 197) dL_law_194 (by decide) rfl (fun c194 => ?_) (fun c194 => ?_)
    · exact k
    · exact absurd (fl_lt hW.1 hN) c194
set_option maxHeartbeats 1000000 in
theorem s3_0 (hR : RC σ 1 u qq) (hW : WJ u) (hp : p < un u) (h1 : stat u p = 0) (hb : ur u 3 p = -1) (hl : ur u 4 p = -1) (ht : us u 3 < ur u 2 p) (hce : ce + 800 ≤ mc) (hsl : sl + 4800 ≤ ms) (k : ∀ (w10 : Option Value) (x13 : Int32), X l G TL_law 10 mc ms Q (ce + 7) (sl + 42) 454 [some (.ref (gb G)), w1, some (.ref (gB G + 0)), some (.int (nI Nf)), some (.int (nI P)), some (.int (nI i)), some (.int (x6)), some (.int (spF u (rmB u) (p + 1))), some (.int (sumI (fun j => nz (wtI u j)) (p + 1))), some (.int (nI p)), w10, some (.int (ur u 2 p)), some (.int (ur u 3 p)), some (.int (x13)), w14, w15, w16] [] (hof G σ) NC E) : X l G TL_law 10 mc ms Q (ce) (sl) 215 [some (.ref (gb G)), w1, some (.ref (gB G + 0)), some (.int (nI Nf)), some (.int (nI P)), some (.int (nI i)), some (.int (x6)), some (.int (spF u (rmB u) p)), some (.int (sumI (fun j => nz (wtI u j)) p)), some (.int (nI p)), w10, w11, w12, w13, w14, w15, w16] [] (hof G σ) NC E := by
  have hcl : (nI p).toNatClampNeg = p := nI_clamp (by have := hW.1.1; omega)
  refine X.aload_n (q := 216) dL_law_215 rfl rfl ?_
  refine X.iload (q := 218) dL_law_216 rfl rfl ?_
  refine X.c1 (w := .int (0)) (q := 221) dL_law_218 (kL_statusOf hR) MX4_statusOf bw_341 rfl rfl (by decide) (okP_nI hW.1 hp) (by rw [hcl, h1]) rfl ?_
  refine X.istore (q := 223) dL_law_221 rfl rfl rfl ?_
  refine X.aload_n (q := 224) dL_law_223 rfl rfl ?_
  refine X.iload (q := 226) dL_law_224 rfl rfl ?_
  refine X.c1 (w := .int (ur u 2 p)) (q := 229) dL_law_226 (kL_arrivalOf hR) MX4_arrivalOf bw_377 rfl rfl (by decide) (okP_nI hW.1 hp) (by rw [hcl]) rfl ?_
  refine X.istore (q := 231) dL_law_229 rfl rfl rfl ?_
  refine X.aload_n (q := 232) dL_law_231 rfl rfl ?_
  refine X.iload (q := 234) dL_law_232 rfl rfl ?_
  refine X.c1 (w := .int (-1)) (q := 237) dL_law_234 (kL_boardedAt hR) MX4_boardedAt bw_381 rfl rfl (by decide) (okP_nI hW.1 hp) (by rw [hcl, hb]) rfl ?_
  refine X.istore (q := 239) dL_law_237 rfl rfl rfl ?_
  refine X.aload_n (q := 240) dL_law_239 rfl rfl ?_
  refine X.iload (q := 242) dL_law_240 rfl rfl ?_
  refine X.c1 (w := .int (-1)) (q := 245) dL_law_242 (kL_leftAt hR) MX4_leftAt bw_385 rfl rfl (by decide) (okP_nI hW.1 hp) (by rw [hcl, hl]) rfl ?_
  refine X.istore (q := 247) dL_law_245 rfl rfl rfl ?_
  refine X.iload (q := 249) dL_law_247 rfl rfl ?_
  refine X.if_ne (tgt := 256) (q := 252) dL_law_249 (by decide) rfl (fun c249 => ?_) (fun c249 => ?_)
  · exact absurd rfl c249
  · refine X.iconst (q := 253) dL_law_252 (v := 1) rfl rfl ?_
    refine X.goto (tgt := 257) dL_law_253 (by decide) ?_
    refine X.aload_n (q := 258) dL_law_257 rfl rfl ?_
    refine X.c0 (w := .int (us u 3)) (q := 261) dL_law_258 (kL_time hR) MX4_time bw_213 rfl rfl (by decide) rfl rfl ?_
    refine X.iload (q := 263) dL_law_261 rfl rfl ?_
    refine X.icmp_ge (tgt := 270) (q := 266) dL_law_263 (by decide) rfl (fun c263 => ?_) (fun c263 => ?_)
    · exact absurd c263 (Int32.not_le.mpr ht)
    · refine X.iconst (q := 267) dL_law_266 (v := 1) rfl rfl ?_
      refine X.goto (tgt := 271) dL_law_267 (by decide) ?_
      refine X.icmp_ne (tgt := 324) (q := 274) dL_law_271 (by decide) rfl (fun c271 => ?_) (fun c271 => ?_)
      · exact absurd rfl c271
      · refine X.iload (q := 276) dL_law_274 rfl rfl ?_
        refine X.iconst (q := 277) dL_law_276 (v := 2) rfl rfl ?_
        refine X.icmp_ge (tgt := 284) (q := 280) dL_law_277 (by decide) rfl (fun c277 => ?_) (fun c277 => ?_)
        · exact absurd c277 (by decide)
        · refine X.iconst (q := 281) dL_law_280 (v := 1) rfl rfl ?_
          refine X.goto (tgt := 285) dL_law_281 (by decide) ?_
          refine X.iload (q := 287) dL_law_285 rfl rfl ?_
          refine X.iconst (q := 288) dL_law_287 (v := -1) rfl rfl ?_
          refine X.icmp_ne (tgt := 295) (q := 291) dL_law_288 (by decide) rfl (fun c288 => ?_) (fun c288 => ?_)
          · exact absurd rfl c288
          · refine X.iconst (q := 292) dL_law_291 (v := 1) rfl rfl ?_
            refine X.goto (tgt := 296) dL_law_292 (by decide) ?_
            refine X.icmp_ne (tgt := 324) (q := 299) dL_law_296 (by decide) rfl (fun c296 => ?_) (fun c296 => ?_)
            · exact absurd rfl c296
            · refine X.iload (q := 301) dL_law_299 rfl rfl ?_
              refine X.iconst (q := 302) dL_law_301 (v := 3) rfl rfl ?_
              refine X.icmp_ne (tgt := 309) (q := 305) dL_law_302 (by decide) rfl (fun c302 => ?_) (fun c302 => ?_)
              · refine X.iconst (q := 310) dL_law_309 (v := 0) rfl rfl ?_
                refine X.iload (q := 312) dL_law_310 rfl rfl ?_
                refine X.iconst (q := 313) dL_law_312 (v := -1) rfl rfl ?_
                refine X.icmp_eq (tgt := 320) (q := 316) dL_law_313 (by decide) rfl (fun c313 => ?_) (fun c313 => ?_)
                · refine X.iconst (q := 321) dL_law_320 (v := 0) rfl rfl ?_
                  refine X.icmp_eq (tgt := 326) (q := 324) dL_law_321 (by decide) rfl (fun c321 => ?_) (fun c321 => ?_)
                  · refine X.iload (q := 328) dL_law_326 rfl rfl ?_
                    refine X.iconst (q := 329) dL_law_328 (v := -1) rfl rfl ?_
                    refine X.icmp_eq (tgt := 355) (q := 332) dL_law_329 (by decide) rfl (fun c329 => ?_) (fun c329 => ?_)
                    · refine X.iload (q := 357) dL_law_355 rfl rfl ?_
                      refine X.iconst (q := 358) dL_law_357 (v := -1) rfl rfl ?_
                      refine X.icmp_eq (tgt := 393) (q := 361) dL_law_358 (by decide) rfl (fun c358 => ?_) (fun c358 => ?_)
                      · refine X.iload (q := 395) dL_law_393 rfl rfl ?_
                        refine X.iconst (q := 396) dL_law_395 (v := -1) rfl rfl ?_
                        refine X.icmp_eq (tgt := 409) (q := 399) dL_law_396 (by decide) rfl (fun c396 => ?_) (fun c396 => ?_)
                        · refine X.iload (q := 411) dL_law_409 rfl rfl ?_
                          refine X.iconst (q := 412) dL_law_411 (v := 2) rfl rfl ?_
                          refine X.icmp_ne (tgt := 428) (q := 415) dL_law_412 (by decide) rfl (fun c412 => ?_) (fun c412 => ?_)
                          · refine X.iload (q := 430) dL_law_428 rfl rfl ?_
                            refine X.iconst (q := 431) dL_law_430 (v := 1) rfl rfl ?_
                            refine X.icmp_ne (tgt := 454) (q := 434) dL_law_431 (by decide) rfl (fun c431 => ?_) (fun c431 => ?_)
                            · have k2 := k (some (.int 0)) (-1)
                              rw [sp_0 (Or.inl h1), wt_step, nz_m1 hb, i32_add0, hb] at k2
                              exact X.wide (by omega) (by omega) k2
                            · exact absurd c431 (by decide)
                          · exact absurd c412 (by decide)
                        · exact absurd rfl c396
                      · exact absurd rfl c358
                    · exact absurd rfl c329
                  · exact absurd rfl c321
                · exact absurd rfl c313
              · exact absurd c302 (by decide)
set_option maxHeartbeats 1000000 in
theorem s3_1f (hR : RC σ 1 u qq) (hW : WJ u) (hp : p < un u) (h1 : stat u p = 1) (hb : ur u 3 p = -1) (hl : ur u 4 p = -1) (ht : ¬ us u 3 < ur u 2 p) (hf : nI (many u 2) = us u 1) (hce : ce + 800 ≤ mc) (hsl : sl + 4800 ≤ ms) (k : ∀ (w10 : Option Value) (x13 : Int32), X l G TL_law 10 mc ms Q (ce + 7) (sl + 42) 454 [some (.ref (gb G)), w1, some (.ref (gB G + 0)), some (.int (nI Nf)), some (.int (nI P)), some (.int (nI i)), some (.int (x6)), some (.int (spF u (rmB u) (p + 1))), some (.int (sumI (fun j => nz (wtI u j)) (p + 1))), some (.int (nI p)), w10, some (.int (ur u 2 p)), some (.int (ur u 3 p)), some (.int (x13)), w14, w15, w16] [] (hof G σ) NC E) : X l G TL_law 10 mc ms Q (ce) (sl) 215 [some (.ref (gb G)), w1, some (.ref (gB G + 0)), some (.int (nI Nf)), some (.int (nI P)), some (.int (nI i)), some (.int (x6)), some (.int (spF u (rmB u) p)), some (.int (sumI (fun j => nz (wtI u j)) p)), some (.int (nI p)), w10, w11, w12, w13, w14, w15, w16] [] (hof G σ) NC E := by
  have hcl : (nI p).toNatClampNeg = p := nI_clamp (by have := hW.1.1; omega)
  refine X.aload_n (q := 216) dL_law_215 rfl rfl ?_
  refine X.iload (q := 218) dL_law_216 rfl rfl ?_
  refine X.c1 (w := .int (1)) (q := 221) dL_law_218 (kL_statusOf hR) MX4_statusOf bw_341 rfl rfl (by decide) (okP_nI hW.1 hp) (by rw [hcl, h1]) rfl ?_
  refine X.istore (q := 223) dL_law_221 rfl rfl rfl ?_
  refine X.aload_n (q := 224) dL_law_223 rfl rfl ?_
  refine X.iload (q := 226) dL_law_224 rfl rfl ?_
  refine X.c1 (w := .int (ur u 2 p)) (q := 229) dL_law_226 (kL_arrivalOf hR) MX4_arrivalOf bw_377 rfl rfl (by decide) (okP_nI hW.1 hp) (by rw [hcl]) rfl ?_
  refine X.istore (q := 231) dL_law_229 rfl rfl rfl ?_
  refine X.aload_n (q := 232) dL_law_231 rfl rfl ?_
  refine X.iload (q := 234) dL_law_232 rfl rfl ?_
  refine X.c1 (w := .int (-1)) (q := 237) dL_law_234 (kL_boardedAt hR) MX4_boardedAt bw_381 rfl rfl (by decide) (okP_nI hW.1 hp) (by rw [hcl, hb]) rfl ?_
  refine X.istore (q := 239) dL_law_237 rfl rfl rfl ?_
  refine X.aload_n (q := 240) dL_law_239 rfl rfl ?_
  refine X.iload (q := 242) dL_law_240 rfl rfl ?_
  refine X.c1 (w := .int (-1)) (q := 245) dL_law_242 (kL_leftAt hR) MX4_leftAt bw_385 rfl rfl (by decide) (okP_nI hW.1 hp) (by rw [hcl, hl]) rfl ?_
  refine X.istore (q := 247) dL_law_245 rfl rfl rfl ?_
  refine X.iload (q := 249) dL_law_247 rfl rfl ?_
  refine X.if_ne (tgt := 256) (q := 252) dL_law_249 (by decide) rfl (fun c249 => ?_) (fun c249 => ?_)
  · refine X.iconst (q := 257) dL_law_256 (v := 0) rfl rfl ?_
    refine X.aload_n (q := 258) dL_law_257 rfl rfl ?_
    refine X.c0 (w := .int (us u 3)) (q := 261) dL_law_258 (kL_time hR) MX4_time bw_213 rfl rfl (by decide) rfl rfl ?_
    refine X.iload (q := 263) dL_law_261 rfl rfl ?_
    refine X.icmp_ge (tgt := 270) (q := 266) dL_law_263 (by decide) rfl (fun c263 => ?_) (fun c263 => ?_)
    · refine X.iconst (q := 271) dL_law_270 (v := 0) rfl rfl ?_
      refine X.icmp_ne (tgt := 324) (q := 274) dL_law_271 (by decide) rfl (fun c271 => ?_) (fun c271 => ?_)
      · exact absurd rfl c271
      · refine X.iload (q := 276) dL_law_274 rfl rfl ?_
        refine X.iconst (q := 277) dL_law_276 (v := 2) rfl rfl ?_
        refine X.icmp_ge (tgt := 284) (q := 280) dL_law_277 (by decide) rfl (fun c277 => ?_) (fun c277 => ?_)
        · exact absurd c277 (by decide)
        · refine X.iconst (q := 281) dL_law_280 (v := 1) rfl rfl ?_
          refine X.goto (tgt := 285) dL_law_281 (by decide) ?_
          refine X.iload (q := 287) dL_law_285 rfl rfl ?_
          refine X.iconst (q := 288) dL_law_287 (v := -1) rfl rfl ?_
          refine X.icmp_ne (tgt := 295) (q := 291) dL_law_288 (by decide) rfl (fun c288 => ?_) (fun c288 => ?_)
          · exact absurd rfl c288
          · refine X.iconst (q := 292) dL_law_291 (v := 1) rfl rfl ?_
            refine X.goto (tgt := 296) dL_law_292 (by decide) ?_
            refine X.icmp_ne (tgt := 324) (q := 299) dL_law_296 (by decide) rfl (fun c296 => ?_) (fun c296 => ?_)
            · exact absurd rfl c296
            · refine X.iload (q := 301) dL_law_299 rfl rfl ?_
              refine X.iconst (q := 302) dL_law_301 (v := 3) rfl rfl ?_
              refine X.icmp_ne (tgt := 309) (q := 305) dL_law_302 (by decide) rfl (fun c302 => ?_) (fun c302 => ?_)
              · refine X.iconst (q := 310) dL_law_309 (v := 0) rfl rfl ?_
                refine X.iload (q := 312) dL_law_310 rfl rfl ?_
                refine X.iconst (q := 313) dL_law_312 (v := -1) rfl rfl ?_
                refine X.icmp_eq (tgt := 320) (q := 316) dL_law_313 (by decide) rfl (fun c313 => ?_) (fun c313 => ?_)
                · refine X.iconst (q := 321) dL_law_320 (v := 0) rfl rfl ?_
                  refine X.icmp_eq (tgt := 326) (q := 324) dL_law_321 (by decide) rfl (fun c321 => ?_) (fun c321 => ?_)
                  · refine X.iload (q := 328) dL_law_326 rfl rfl ?_
                    refine X.iconst (q := 329) dL_law_328 (v := -1) rfl rfl ?_
                    refine X.icmp_eq (tgt := 355) (q := 332) dL_law_329 (by decide) rfl (fun c329 => ?_) (fun c329 => ?_)
                    · refine X.iload (q := 357) dL_law_355 rfl rfl ?_
                      refine X.iconst (q := 358) dL_law_357 (v := -1) rfl rfl ?_
                      refine X.icmp_eq (tgt := 393) (q := 361) dL_law_358 (by decide) rfl (fun c358 => ?_) (fun c358 => ?_)
                      · refine X.iload (q := 395) dL_law_393 rfl rfl ?_
                        refine X.iconst (q := 396) dL_law_395 (v := -1) rfl rfl ?_
                        refine X.icmp_eq (tgt := 409) (q := 399) dL_law_396 (by decide) rfl (fun c396 => ?_) (fun c396 => ?_)
                        · refine X.iload (q := 411) dL_law_409 rfl rfl ?_
                          refine X.iconst (q := 412) dL_law_411 (v := 2) rfl rfl ?_
                          refine X.icmp_ne (tgt := 428) (q := 415) dL_law_412 (by decide) rfl (fun c412 => ?_) (fun c412 => ?_)
                          · refine X.iload (q := 430) dL_law_428 rfl rfl ?_
                            refine X.iconst (q := 431) dL_law_430 (v := 1) rfl rfl ?_
                            refine X.icmp_ne (tgt := 454) (q := 434) dL_law_431 (by decide) rfl (fun c431 => ?_) (fun c431 => ?_)
                            · exact absurd rfl c431
                            · refine X.aload_n (q := 435) dL_law_434 rfl rfl ?_
                              refine X.c0 (w := .int (1)) (q := 438) dL_law_435 (kL_isFull hR) MX4_isFull bw_221 rfl rfl (by decide) (by rw [if_pos hf]) rfl ?_
                              refine X.if_ne (tgt := 454) (q := 441) dL_law_438 (by decide) rfl (fun c438 => ?_) (fun c438 => ?_)
                              · have k2 := k (some (.int 1)) (-1)
                                rw [sp_1f hW.1 h1 hf, wt_step, nz_m1 hb, i32_add0, hb] at k2
                                exact X.wide (by omega) (by omega) k2
                              · exact absurd c438 (by decide)
                          · exact absurd c412 (by decide)
                        · exact absurd rfl c396
                      · exact absurd rfl c358
                    · exact absurd rfl c329
                  · exact absurd rfl c321
                · exact absurd rfl c313
              · exact absurd c302 (by decide)
    · exact absurd (Int32.not_lt.mp ht) c263
  · exact absurd c249 (by decide)
set_option maxHeartbeats 1000000 in
theorem s3_1r (hR : RC σ 1 u qq) (hW : WJ u) (hp : p < un u) (h1 : stat u p = 1) (hb : ur u 3 p = -1) (hl : ur u 4 p = -1) (ht : ¬ us u 3 < ur u 2 p) (hf : ¬ nI (many u 2) = us u 1) (hce : ce + 800 ≤ mc) (hsl : sl + 4800 ≤ ms) (k : ∀ (w10 : Option Value) (x13 : Int32), X l G TL_law 10 mc ms Q (ce + 7) (sl + 42) 454 [some (.ref (gb G)), w1, some (.ref (gB G + 0)), some (.int (nI Nf)), some (.int (nI P)), some (.int (nI i)), some (.int (x6)), some (.int (spF u (rmB u) (p + 1))), some (.int (sumI (fun j => nz (wtI u j)) (p + 1))), some (.int (nI p)), w10, some (.int (ur u 2 p)), some (.int (ur u 3 p)), some (.int (x13)), w14, w15, w16] [] (hof G σ) NC E) : X l G TL_law 10 mc ms Q (ce) (sl) 215 [some (.ref (gb G)), w1, some (.ref (gB G + 0)), some (.int (nI Nf)), some (.int (nI P)), some (.int (nI i)), some (.int (x6)), some (.int (spF u (rmB u) p)), some (.int (sumI (fun j => nz (wtI u j)) p)), some (.int (nI p)), w10, w11, w12, w13, w14, w15, w16] [] (hof G σ) NC E := by
  have hcl : (nI p).toNatClampNeg = p := nI_clamp (by have := hW.1.1; omega)
  refine X.aload_n (q := 216) dL_law_215 rfl rfl ?_
  refine X.iload (q := 218) dL_law_216 rfl rfl ?_
  refine X.c1 (w := .int (1)) (q := 221) dL_law_218 (kL_statusOf hR) MX4_statusOf bw_341 rfl rfl (by decide) (okP_nI hW.1 hp) (by rw [hcl, h1]) rfl ?_
  refine X.istore (q := 223) dL_law_221 rfl rfl rfl ?_
  refine X.aload_n (q := 224) dL_law_223 rfl rfl ?_
  refine X.iload (q := 226) dL_law_224 rfl rfl ?_
  refine X.c1 (w := .int (ur u 2 p)) (q := 229) dL_law_226 (kL_arrivalOf hR) MX4_arrivalOf bw_377 rfl rfl (by decide) (okP_nI hW.1 hp) (by rw [hcl]) rfl ?_
  refine X.istore (q := 231) dL_law_229 rfl rfl rfl ?_
  refine X.aload_n (q := 232) dL_law_231 rfl rfl ?_
  refine X.iload (q := 234) dL_law_232 rfl rfl ?_
  refine X.c1 (w := .int (-1)) (q := 237) dL_law_234 (kL_boardedAt hR) MX4_boardedAt bw_381 rfl rfl (by decide) (okP_nI hW.1 hp) (by rw [hcl, hb]) rfl ?_
  refine X.istore (q := 239) dL_law_237 rfl rfl rfl ?_
  refine X.aload_n (q := 240) dL_law_239 rfl rfl ?_
  refine X.iload (q := 242) dL_law_240 rfl rfl ?_
  refine X.c1 (w := .int (-1)) (q := 245) dL_law_242 (kL_leftAt hR) MX4_leftAt bw_385 rfl rfl (by decide) (okP_nI hW.1 hp) (by rw [hcl, hl]) rfl ?_
  refine X.istore (q := 247) dL_law_245 rfl rfl rfl ?_
  refine X.iload (q := 249) dL_law_247 rfl rfl ?_
  refine X.if_ne (tgt := 256) (q := 252) dL_law_249 (by decide) rfl (fun c249 => ?_) (fun c249 => ?_)
  · refine X.iconst (q := 257) dL_law_256 (v := 0) rfl rfl ?_
    refine X.aload_n (q := 258) dL_law_257 rfl rfl ?_
    refine X.c0 (w := .int (us u 3)) (q := 261) dL_law_258 (kL_time hR) MX4_time bw_213 rfl rfl (by decide) rfl rfl ?_
    refine X.iload (q := 263) dL_law_261 rfl rfl ?_
    refine X.icmp_ge (tgt := 270) (q := 266) dL_law_263 (by decide) rfl (fun c263 => ?_) (fun c263 => ?_)
    · refine X.iconst (q := 271) dL_law_270 (v := 0) rfl rfl ?_
      refine X.icmp_ne (tgt := 324) (q := 274) dL_law_271 (by decide) rfl (fun c271 => ?_) (fun c271 => ?_)
      · exact absurd rfl c271
      · refine X.iload (q := 276) dL_law_274 rfl rfl ?_
        refine X.iconst (q := 277) dL_law_276 (v := 2) rfl rfl ?_
        refine X.icmp_ge (tgt := 284) (q := 280) dL_law_277 (by decide) rfl (fun c277 => ?_) (fun c277 => ?_)
        · exact absurd c277 (by decide)
        · refine X.iconst (q := 281) dL_law_280 (v := 1) rfl rfl ?_
          refine X.goto (tgt := 285) dL_law_281 (by decide) ?_
          refine X.iload (q := 287) dL_law_285 rfl rfl ?_
          refine X.iconst (q := 288) dL_law_287 (v := -1) rfl rfl ?_
          refine X.icmp_ne (tgt := 295) (q := 291) dL_law_288 (by decide) rfl (fun c288 => ?_) (fun c288 => ?_)
          · exact absurd rfl c288
          · refine X.iconst (q := 292) dL_law_291 (v := 1) rfl rfl ?_
            refine X.goto (tgt := 296) dL_law_292 (by decide) ?_
            refine X.icmp_ne (tgt := 324) (q := 299) dL_law_296 (by decide) rfl (fun c296 => ?_) (fun c296 => ?_)
            · exact absurd rfl c296
            · refine X.iload (q := 301) dL_law_299 rfl rfl ?_
              refine X.iconst (q := 302) dL_law_301 (v := 3) rfl rfl ?_
              refine X.icmp_ne (tgt := 309) (q := 305) dL_law_302 (by decide) rfl (fun c302 => ?_) (fun c302 => ?_)
              · refine X.iconst (q := 310) dL_law_309 (v := 0) rfl rfl ?_
                refine X.iload (q := 312) dL_law_310 rfl rfl ?_
                refine X.iconst (q := 313) dL_law_312 (v := -1) rfl rfl ?_
                refine X.icmp_eq (tgt := 320) (q := 316) dL_law_313 (by decide) rfl (fun c313 => ?_) (fun c313 => ?_)
                · refine X.iconst (q := 321) dL_law_320 (v := 0) rfl rfl ?_
                  refine X.icmp_eq (tgt := 326) (q := 324) dL_law_321 (by decide) rfl (fun c321 => ?_) (fun c321 => ?_)
                  · refine X.iload (q := 328) dL_law_326 rfl rfl ?_
                    refine X.iconst (q := 329) dL_law_328 (v := -1) rfl rfl ?_
                    refine X.icmp_eq (tgt := 355) (q := 332) dL_law_329 (by decide) rfl (fun c329 => ?_) (fun c329 => ?_)
                    · refine X.iload (q := 357) dL_law_355 rfl rfl ?_
                      refine X.iconst (q := 358) dL_law_357 (v := -1) rfl rfl ?_
                      refine X.icmp_eq (tgt := 393) (q := 361) dL_law_358 (by decide) rfl (fun c358 => ?_) (fun c358 => ?_)
                      · refine X.iload (q := 395) dL_law_393 rfl rfl ?_
                        refine X.iconst (q := 396) dL_law_395 (v := -1) rfl rfl ?_
                        refine X.icmp_eq (tgt := 409) (q := 399) dL_law_396 (by decide) rfl (fun c396 => ?_) (fun c396 => ?_)
                        · refine X.iload (q := 411) dL_law_409 rfl rfl ?_
                          refine X.iconst (q := 412) dL_law_411 (v := 2) rfl rfl ?_
                          refine X.icmp_ne (tgt := 428) (q := 415) dL_law_412 (by decide) rfl (fun c412 => ?_) (fun c412 => ?_)
                          · refine X.iload (q := 430) dL_law_428 rfl rfl ?_
                            refine X.iconst (q := 431) dL_law_430 (v := 1) rfl rfl ?_
                            refine X.icmp_ne (tgt := 454) (q := 434) dL_law_431 (by decide) rfl (fun c431 => ?_) (fun c431 => ?_)
                            · exact absurd rfl c431
                            · refine X.aload_n (q := 435) dL_law_434 rfl rfl ?_
                              refine X.c0 (w := .int (0)) (q := 438) dL_law_435 (kL_isFull hR) MX4_isFull bw_221 rfl rfl (by decide) (by rw [if_neg hf]) rfl ?_
                              refine X.if_ne (tgt := 454) (q := 441) dL_law_438 (by decide) rfl (fun c438 => ?_) (fun c438 => ?_)
                              · exact absurd rfl c438
                              · refine X.iload (q := 443) dL_law_441 rfl rfl ?_
                                refine X.iconst (q := 444) dL_law_443 (v := 1) rfl rfl ?_
                                refine X.aload_n (q := 445) dL_law_444 rfl rfl ?_
                                refine X.iload (q := 447) dL_law_445 rfl rfl ?_
                                refine X.c1 (w := .int (ur u 0 p)) (q := 450) dL_law_447 (kL_originOf hR) MX4_originOf bw_369 rfl rfl (by decide) (okP_nI hW.1 hp) (by rw [hcl]) rfl ?_
                                refine X.ishl (q := 451) dL_law_450 rfl ?_
                                refine X.ior (q := 452) dL_law_451 rfl ?_
                                refine X.istore (q := 454) dL_law_452 rfl rfl rfl ?_
                                have k2 := k (some (.int 1)) (-1)
                                rw [sp_1r hW.1 h1 hf, wt_step, nz_m1 hb, i32_add0, hb] at k2
                                exact X.wide (by omega) (by omega) k2
                          · exact absurd c412 (by decide)
                        · exact absurd rfl c396
                      · exact absurd rfl c358
                    · exact absurd rfl c329
                  · exact absurd rfl c321
                · exact absurd rfl c313
              · exact absurd c302 (by decide)
    · exact absurd (Int32.not_lt.mp ht) c263
  · exact absurd c249 (by decide)
set_option maxHeartbeats 1000000 in
theorem s3_2 (hR : RC σ 1 u qq) (hW : WJ u) (hp : p < un u) (h1 : stat u p = 2) (hb : ¬ ur u 3 p = -1) (hl : ur u 4 p = -1) (ht : ¬ us u 3 < ur u 2 p) (hba : ¬ ur u 3 p < ur u 2 p) (hw : wtI u p = ur u 3 p - ur u 2 p) (hce : ce + 800 ≤ mc) (hsl : sl + 4800 ≤ ms) (k : ∀ (w10 : Option Value) (x13 : Int32), X l G TL_law 10 mc ms Q (ce + 7) (sl + 42) 454 [some (.ref (gb G)), w1, some (.ref (gB G + 0)), some (.int (nI Nf)), some (.int (nI P)), some (.int (nI i)), some (.int (x6)), some (.int (spF u (rmB u) (p + 1))), some (.int (sumI (fun j => nz (wtI u j)) (p + 1))), some (.int (nI p)), w10, some (.int (ur u 2 p)), some (.int (ur u 3 p)), some (.int (x13)), w14, w15, w16] [] (hof G σ) NC E) : X l G TL_law 10 mc ms Q (ce) (sl) 215 [some (.ref (gb G)), w1, some (.ref (gB G + 0)), some (.int (nI Nf)), some (.int (nI P)), some (.int (nI i)), some (.int (x6)), some (.int (spF u (rmB u) p)), some (.int (sumI (fun j => nz (wtI u j)) p)), some (.int (nI p)), w10, w11, w12, w13, w14, w15, w16] [] (hof G σ) NC E := by
  have hcl : (nI p).toNatClampNeg = p := nI_clamp (by have := hW.1.1; omega)
  refine X.aload_n (q := 216) dL_law_215 rfl rfl ?_
  refine X.iload (q := 218) dL_law_216 rfl rfl ?_
  refine X.c1 (w := .int (2)) (q := 221) dL_law_218 (kL_statusOf hR) MX4_statusOf bw_341 rfl rfl (by decide) (okP_nI hW.1 hp) (by rw [hcl, h1]) rfl ?_
  refine X.istore (q := 223) dL_law_221 rfl rfl rfl ?_
  refine X.aload_n (q := 224) dL_law_223 rfl rfl ?_
  refine X.iload (q := 226) dL_law_224 rfl rfl ?_
  refine X.c1 (w := .int (ur u 2 p)) (q := 229) dL_law_226 (kL_arrivalOf hR) MX4_arrivalOf bw_377 rfl rfl (by decide) (okP_nI hW.1 hp) (by rw [hcl]) rfl ?_
  refine X.istore (q := 231) dL_law_229 rfl rfl rfl ?_
  refine X.aload_n (q := 232) dL_law_231 rfl rfl ?_
  refine X.iload (q := 234) dL_law_232 rfl rfl ?_
  refine X.c1 (w := .int (ur u 3 p)) (q := 237) dL_law_234 (kL_boardedAt hR) MX4_boardedAt bw_381 rfl rfl (by decide) (okP_nI hW.1 hp) (by rw [hcl]) rfl ?_
  refine X.istore (q := 239) dL_law_237 rfl rfl rfl ?_
  refine X.aload_n (q := 240) dL_law_239 rfl rfl ?_
  refine X.iload (q := 242) dL_law_240 rfl rfl ?_
  refine X.c1 (w := .int (-1)) (q := 245) dL_law_242 (kL_leftAt hR) MX4_leftAt bw_385 rfl rfl (by decide) (okP_nI hW.1 hp) (by rw [hcl, hl]) rfl ?_
  refine X.istore (q := 247) dL_law_245 rfl rfl rfl ?_
  refine X.iload (q := 249) dL_law_247 rfl rfl ?_
  refine X.if_ne (tgt := 256) (q := 252) dL_law_249 (by decide) rfl (fun c249 => ?_) (fun c249 => ?_)
  · refine X.iconst (q := 257) dL_law_256 (v := 0) rfl rfl ?_
    refine X.aload_n (q := 258) dL_law_257 rfl rfl ?_
    refine X.c0 (w := .int (us u 3)) (q := 261) dL_law_258 (kL_time hR) MX4_time bw_213 rfl rfl (by decide) rfl rfl ?_
    refine X.iload (q := 263) dL_law_261 rfl rfl ?_
    refine X.icmp_ge (tgt := 270) (q := 266) dL_law_263 (by decide) rfl (fun c263 => ?_) (fun c263 => ?_)
    · refine X.iconst (q := 271) dL_law_270 (v := 0) rfl rfl ?_
      refine X.icmp_ne (tgt := 324) (q := 274) dL_law_271 (by decide) rfl (fun c271 => ?_) (fun c271 => ?_)
      · exact absurd rfl c271
      · refine X.iload (q := 276) dL_law_274 rfl rfl ?_
        refine X.iconst (q := 277) dL_law_276 (v := 2) rfl rfl ?_
        refine X.icmp_ge (tgt := 284) (q := 280) dL_law_277 (by decide) rfl (fun c277 => ?_) (fun c277 => ?_)
        · refine X.iconst (q := 285) dL_law_284 (v := 0) rfl rfl ?_
          refine X.iload (q := 287) dL_law_285 rfl rfl ?_
          refine X.iconst (q := 288) dL_law_287 (v := -1) rfl rfl ?_
          refine X.icmp_ne (tgt := 295) (q := 291) dL_law_288 (by decide) rfl (fun c288 => ?_) (fun c288 => ?_)
          · refine X.iconst (q := 296) dL_law_295 (v := 0) rfl rfl ?_
            refine X.icmp_ne (tgt := 324) (q := 299) dL_law_296 (by decide) rfl (fun c296 => ?_) (fun c296 => ?_)
            · exact absurd rfl c296
            · refine X.iload (q := 301) dL_law_299 rfl rfl ?_
              refine X.iconst (q := 302) dL_law_301 (v := 3) rfl rfl ?_
              refine X.icmp_ne (tgt := 309) (q := 305) dL_law_302 (by decide) rfl (fun c302 => ?_) (fun c302 => ?_)
              · refine X.iconst (q := 310) dL_law_309 (v := 0) rfl rfl ?_
                refine X.iload (q := 312) dL_law_310 rfl rfl ?_
                refine X.iconst (q := 313) dL_law_312 (v := -1) rfl rfl ?_
                refine X.icmp_eq (tgt := 320) (q := 316) dL_law_313 (by decide) rfl (fun c313 => ?_) (fun c313 => ?_)
                · refine X.iconst (q := 321) dL_law_320 (v := 0) rfl rfl ?_
                  refine X.icmp_eq (tgt := 326) (q := 324) dL_law_321 (by decide) rfl (fun c321 => ?_) (fun c321 => ?_)
                  · refine X.iload (q := 328) dL_law_326 rfl rfl ?_
                    refine X.iconst (q := 329) dL_law_328 (v := -1) rfl rfl ?_
                    refine X.icmp_eq (tgt := 355) (q := 332) dL_law_329 (by decide) rfl (fun c329 => ?_) (fun c329 => ?_)
                    · exact absurd c329 hb
                    · refine X.iload (q := 334) dL_law_332 rfl rfl ?_
                      refine X.iload (q := 336) dL_law_334 rfl rfl ?_
                      refine X.icmp_lt (tgt := 353) (q := 339) dL_law_336 (by decide) rfl (fun c336 => ?_) (fun c336 => ?_)
                      · exact absurd c336 hba
                      · refine X.aload_n (q := 340) dL_law_339 rfl rfl ?_
                        refine X.iload (q := 342) dL_law_340 rfl rfl ?_
                        refine X.c1 (w := .int (ur u 3 p - ur u 2 p)) (q := 345) dL_law_342 (kL_waitOf hR) MX4_waitOf bw_389 rfl rfl (by decide) (okP_nI hW.1 hp) (by rw [hcl, hw]) rfl ?_
                        refine X.iload (q := 347) dL_law_345 rfl rfl ?_
                        refine X.iload (q := 349) dL_law_347 rfl rfl ?_
                        refine X.isub (q := 350) dL_law_349 rfl ?_
                        refine X.icmp_eq (tgt := 355) (q := 353) dL_law_350 (by decide) rfl (fun c350 => ?_) (fun c350 => ?_)
                        · refine X.iload (q := 357) dL_law_355 rfl rfl ?_
                          refine X.iconst (q := 358) dL_law_357 (v := -1) rfl rfl ?_
                          refine X.icmp_eq (tgt := 393) (q := 361) dL_law_358 (by decide) rfl (fun c358 => ?_) (fun c358 => ?_)
                          · refine X.iload (q := 395) dL_law_393 rfl rfl ?_
                            refine X.iconst (q := 396) dL_law_395 (v := -1) rfl rfl ?_
                            refine X.icmp_eq (tgt := 409) (q := 399) dL_law_396 (by decide) rfl (fun c396 => ?_) (fun c396 => ?_)
                            · exact absurd c396 hb
                            · refine X.iload (q := 401) dL_law_399 rfl rfl ?_
                              refine X.iload (q := 403) dL_law_401 rfl rfl ?_
                              refine X.iload (q := 405) dL_law_403 rfl rfl ?_
                              refine X.isub (q := 406) dL_law_405 rfl ?_
                              refine X.iadd (q := 407) dL_law_406 rfl ?_
                              refine X.istore (q := 409) dL_law_407 rfl rfl rfl ?_
                              refine X.iload (q := 411) dL_law_409 rfl rfl ?_
                              refine X.iconst (q := 412) dL_law_411 (v := 2) rfl rfl ?_
                              refine X.icmp_ne (tgt := 428) (q := 415) dL_law_412 (by decide) rfl (fun c412 => ?_) (fun c412 => ?_)
                              · exact absurd rfl c412
                              · refine X.iload (q := 417) dL_law_415 rfl rfl ?_
                                refine X.iconst (q := 418) dL_law_417 (v := 1) rfl rfl ?_
                                refine X.aload_n (q := 419) dL_law_418 rfl rfl ?_
                                refine X.iload (q := 421) dL_law_419 rfl rfl ?_
                                refine X.c1 (w := .int (ur u 1 p)) (q := 424) dL_law_421 (kL_destinationOf hR) MX4_destinationOf bw_373 rfl rfl (by decide) (okP_nI hW.1 hp) (by rw [hcl]) rfl ?_
                                refine X.ishl (q := 425) dL_law_424 rfl ?_
                                refine X.ior (q := 426) dL_law_425 rfl ?_
                                refine X.istore (q := 428) dL_law_426 rfl rfl rfl ?_
                                refine X.iload (q := 430) dL_law_428 rfl rfl ?_
                                refine X.iconst (q := 431) dL_law_430 (v := 1) rfl rfl ?_
                                refine X.icmp_ne (tgt := 454) (q := 434) dL_law_431 (by decide) rfl (fun c431 => ?_) (fun c431 => ?_)
                                · have k2 := k (some (.int 2)) (-1)
                                  rw [sp_2 h1, wt_step, nz_b hW hp hb] at k2
                                  exact X.wide (by omega) (by omega) k2
                                · exact absurd c431 (by decide)
                          · exact absurd rfl c358
                        · exact absurd rfl c350
                  · exact absurd rfl c321
                · exact absurd rfl c313
              · exact absurd c302 (by decide)
          · exact absurd c288 hb
        · exact absurd (by decide) c277
    · exact absurd (Int32.not_lt.mp ht) c263
  · exact absurd c249 (by decide)
set_option maxHeartbeats 1000000 in
theorem s3_3 (hR : RC σ 1 u qq) (hW : WJ u) (hp : p < un u) (h1 : stat u p = 3) (hb : ¬ ur u 3 p = -1) (hl : ¬ ur u 4 p = -1) (ht : ¬ us u 3 < ur u 2 p) (hba : ¬ ur u 3 p < ur u 2 p) (hw : wtI u p = ur u 3 p - ur u 2 p) (hlb : ¬ ur u 4 p ≤ ur u 3 p) (hr : rdI u p = ur u 4 p - ur u 3 p) (hd : 0 ≤ dtI u p) (hce : ce + 800 ≤ mc) (hsl : sl + 4800 ≤ ms) (k : ∀ (w10 : Option Value) (x13 : Int32), X l G TL_law 10 mc ms Q (ce + 7) (sl + 42) 454 [some (.ref (gb G)), w1, some (.ref (gB G + 0)), some (.int (nI Nf)), some (.int (nI P)), some (.int (nI i)), some (.int (x6)), some (.int (spF u (rmB u) (p + 1))), some (.int (sumI (fun j => nz (wtI u j)) (p + 1))), some (.int (nI p)), w10, some (.int (ur u 2 p)), some (.int (ur u 3 p)), some (.int (x13)), w14, w15, w16] [] (hof G σ) NC E) : X l G TL_law 10 mc ms Q (ce) (sl) 215 [some (.ref (gb G)), w1, some (.ref (gB G + 0)), some (.int (nI Nf)), some (.int (nI P)), some (.int (nI i)), some (.int (x6)), some (.int (spF u (rmB u) p)), some (.int (sumI (fun j => nz (wtI u j)) p)), some (.int (nI p)), w10, w11, w12, w13, w14, w15, w16] [] (hof G σ) NC E := by
  have hcl : (nI p).toNatClampNeg = p := nI_clamp (by have := hW.1.1; omega)
  refine X.aload_n (q := 216) dL_law_215 rfl rfl ?_
  refine X.iload (q := 218) dL_law_216 rfl rfl ?_
  refine X.c1 (w := .int (3)) (q := 221) dL_law_218 (kL_statusOf hR) MX4_statusOf bw_341 rfl rfl (by decide) (okP_nI hW.1 hp) (by rw [hcl, h1]) rfl ?_
  refine X.istore (q := 223) dL_law_221 rfl rfl rfl ?_
  refine X.aload_n (q := 224) dL_law_223 rfl rfl ?_
  refine X.iload (q := 226) dL_law_224 rfl rfl ?_
  refine X.c1 (w := .int (ur u 2 p)) (q := 229) dL_law_226 (kL_arrivalOf hR) MX4_arrivalOf bw_377 rfl rfl (by decide) (okP_nI hW.1 hp) (by rw [hcl]) rfl ?_
  refine X.istore (q := 231) dL_law_229 rfl rfl rfl ?_
  refine X.aload_n (q := 232) dL_law_231 rfl rfl ?_
  refine X.iload (q := 234) dL_law_232 rfl rfl ?_
  refine X.c1 (w := .int (ur u 3 p)) (q := 237) dL_law_234 (kL_boardedAt hR) MX4_boardedAt bw_381 rfl rfl (by decide) (okP_nI hW.1 hp) (by rw [hcl]) rfl ?_
  refine X.istore (q := 239) dL_law_237 rfl rfl rfl ?_
  refine X.aload_n (q := 240) dL_law_239 rfl rfl ?_
  refine X.iload (q := 242) dL_law_240 rfl rfl ?_
  refine X.c1 (w := .int (ur u 4 p)) (q := 245) dL_law_242 (kL_leftAt hR) MX4_leftAt bw_385 rfl rfl (by decide) (okP_nI hW.1 hp) (by rw [hcl]) rfl ?_
  refine X.istore (q := 247) dL_law_245 rfl rfl rfl ?_
  refine X.iload (q := 249) dL_law_247 rfl rfl ?_
  refine X.if_ne (tgt := 256) (q := 252) dL_law_249 (by decide) rfl (fun c249 => ?_) (fun c249 => ?_)
  · refine X.iconst (q := 257) dL_law_256 (v := 0) rfl rfl ?_
    refine X.aload_n (q := 258) dL_law_257 rfl rfl ?_
    refine X.c0 (w := .int (us u 3)) (q := 261) dL_law_258 (kL_time hR) MX4_time bw_213 rfl rfl (by decide) rfl rfl ?_
    refine X.iload (q := 263) dL_law_261 rfl rfl ?_
    refine X.icmp_ge (tgt := 270) (q := 266) dL_law_263 (by decide) rfl (fun c263 => ?_) (fun c263 => ?_)
    · refine X.iconst (q := 271) dL_law_270 (v := 0) rfl rfl ?_
      refine X.icmp_ne (tgt := 324) (q := 274) dL_law_271 (by decide) rfl (fun c271 => ?_) (fun c271 => ?_)
      · exact absurd rfl c271
      · refine X.iload (q := 276) dL_law_274 rfl rfl ?_
        refine X.iconst (q := 277) dL_law_276 (v := 2) rfl rfl ?_
        refine X.icmp_ge (tgt := 284) (q := 280) dL_law_277 (by decide) rfl (fun c277 => ?_) (fun c277 => ?_)
        · refine X.iconst (q := 285) dL_law_284 (v := 0) rfl rfl ?_
          refine X.iload (q := 287) dL_law_285 rfl rfl ?_
          refine X.iconst (q := 288) dL_law_287 (v := -1) rfl rfl ?_
          refine X.icmp_ne (tgt := 295) (q := 291) dL_law_288 (by decide) rfl (fun c288 => ?_) (fun c288 => ?_)
          · refine X.iconst (q := 296) dL_law_295 (v := 0) rfl rfl ?_
            refine X.icmp_ne (tgt := 324) (q := 299) dL_law_296 (by decide) rfl (fun c296 => ?_) (fun c296 => ?_)
            · exact absurd rfl c296
            · refine X.iload (q := 301) dL_law_299 rfl rfl ?_
              refine X.iconst (q := 302) dL_law_301 (v := 3) rfl rfl ?_
              refine X.icmp_ne (tgt := 309) (q := 305) dL_law_302 (by decide) rfl (fun c302 => ?_) (fun c302 => ?_)
              · exact absurd rfl c302
              · refine X.iconst (q := 306) dL_law_305 (v := 1) rfl rfl ?_
                refine X.goto (tgt := 310) dL_law_306 (by decide) ?_
                refine X.iload (q := 312) dL_law_310 rfl rfl ?_
                refine X.iconst (q := 313) dL_law_312 (v := -1) rfl rfl ?_
                refine X.icmp_eq (tgt := 320) (q := 316) dL_law_313 (by decide) rfl (fun c313 => ?_) (fun c313 => ?_)
                · exact absurd c313 hl
                · refine X.iconst (q := 317) dL_law_316 (v := 1) rfl rfl ?_
                  refine X.goto (tgt := 321) dL_law_317 (by decide) ?_
                  refine X.icmp_eq (tgt := 326) (q := 324) dL_law_321 (by decide) rfl (fun c321 => ?_) (fun c321 => ?_)
                  · refine X.iload (q := 328) dL_law_326 rfl rfl ?_
                    refine X.iconst (q := 329) dL_law_328 (v := -1) rfl rfl ?_
                    refine X.icmp_eq (tgt := 355) (q := 332) dL_law_329 (by decide) rfl (fun c329 => ?_) (fun c329 => ?_)
                    · exact absurd c329 hb
                    · refine X.iload (q := 334) dL_law_332 rfl rfl ?_
                      refine X.iload (q := 336) dL_law_334 rfl rfl ?_
                      refine X.icmp_lt (tgt := 353) (q := 339) dL_law_336 (by decide) rfl (fun c336 => ?_) (fun c336 => ?_)
                      · exact absurd c336 hba
                      · refine X.aload_n (q := 340) dL_law_339 rfl rfl ?_
                        refine X.iload (q := 342) dL_law_340 rfl rfl ?_
                        refine X.c1 (w := .int (ur u 3 p - ur u 2 p)) (q := 345) dL_law_342 (kL_waitOf hR) MX4_waitOf bw_389 rfl rfl (by decide) (okP_nI hW.1 hp) (by rw [hcl, hw]) rfl ?_
                        refine X.iload (q := 347) dL_law_345 rfl rfl ?_
                        refine X.iload (q := 349) dL_law_347 rfl rfl ?_
                        refine X.isub (q := 350) dL_law_349 rfl ?_
                        refine X.icmp_eq (tgt := 355) (q := 353) dL_law_350 (by decide) rfl (fun c350 => ?_) (fun c350 => ?_)
                        · refine X.iload (q := 357) dL_law_355 rfl rfl ?_
                          refine X.iconst (q := 358) dL_law_357 (v := -1) rfl rfl ?_
                          refine X.icmp_eq (tgt := 393) (q := 361) dL_law_358 (by decide) rfl (fun c358 => ?_) (fun c358 => ?_)
                          · exact absurd c358 hl
                          · refine X.iload (q := 363) dL_law_361 rfl rfl ?_
                            refine X.iload (q := 365) dL_law_363 rfl rfl ?_
                            refine X.icmp_le (tgt := 391) (q := 368) dL_law_365 (by decide) rfl (fun c365 => ?_) (fun c365 => ?_)
                            · exact absurd c365 hlb
                            · refine X.aload_n (q := 369) dL_law_368 rfl rfl ?_
                              refine X.iload (q := 371) dL_law_369 rfl rfl ?_
                              refine X.c1 (w := .int (ur u 4 p - ur u 3 p)) (q := 374) dL_law_371 (kL_rideOf hR) MX4_rideOf bw_397 rfl rfl (by decide) (okP_nI hW.1 hp) (by rw [hcl, hr]) rfl ?_
                              refine X.iload (q := 376) dL_law_374 rfl rfl ?_
                              refine X.iload (q := 378) dL_law_376 rfl rfl ?_
                              refine X.isub (q := 379) dL_law_378 rfl ?_
                              refine X.icmp_ne (tgt := 391) (q := 382) dL_law_379 (by decide) rfl (fun c379 => ?_) (fun c379 => ?_)
                              · exact absurd rfl c379
                              · refine X.aload_n (q := 383) dL_law_382 rfl rfl ?_
                                refine X.iload (q := 385) dL_law_383 rfl rfl ?_
                                refine X.c1 (w := .int (dtI u p)) (q := 388) dL_law_385 (kL_detourOf hR) MX4_detourOf bw_405 rfl rfl (by decide) (okP_nI hW.1 hp) (by rw [hcl]) rfl ?_
                                refine X.if_ge (tgt := 393) (q := 391) dL_law_388 (by decide) rfl (fun c388 => ?_) (fun c388 => ?_)
                                · refine X.iload (q := 395) dL_law_393 rfl rfl ?_
                                  refine X.iconst (q := 396) dL_law_395 (v := -1) rfl rfl ?_
                                  refine X.icmp_eq (tgt := 409) (q := 399) dL_law_396 (by decide) rfl (fun c396 => ?_) (fun c396 => ?_)
                                  · exact absurd c396 hb
                                  · refine X.iload (q := 401) dL_law_399 rfl rfl ?_
                                    refine X.iload (q := 403) dL_law_401 rfl rfl ?_
                                    refine X.iload (q := 405) dL_law_403 rfl rfl ?_
                                    refine X.isub (q := 406) dL_law_405 rfl ?_
                                    refine X.iadd (q := 407) dL_law_406 rfl ?_
                                    refine X.istore (q := 409) dL_law_407 rfl rfl rfl ?_
                                    refine X.iload (q := 411) dL_law_409 rfl rfl ?_
                                    refine X.iconst (q := 412) dL_law_411 (v := 2) rfl rfl ?_
                                    refine X.icmp_ne (tgt := 428) (q := 415) dL_law_412 (by decide) rfl (fun c412 => ?_) (fun c412 => ?_)
                                    · refine X.iload (q := 430) dL_law_428 rfl rfl ?_
                                      refine X.iconst (q := 431) dL_law_430 (v := 1) rfl rfl ?_
                                      refine X.icmp_ne (tgt := 454) (q := 434) dL_law_431 (by decide) rfl (fun c431 => ?_) (fun c431 => ?_)
                                      · have k2 := k (some (.int 3)) (ur u 4 p)
                                        rw [sp_0 (Or.inr h1), wt_step, nz_b hW hp hb] at k2
                                        exact X.wide (by omega) (by omega) k2
                                      · exact absurd c431 (by decide)
                                    · exact absurd c412 (by decide)
                                · exact absurd hd c388
                        · exact absurd rfl c350
                  · exact absurd rfl c321
          · exact absurd c288 hb
        · exact absurd (by decide) c277
    · exact absurd (Int32.not_lt.mp ht) c263
  · exact absurd c249 (by decide)
set_option maxHeartbeats 1000000 in
theorem s3 (hR : RC σ 1 u qq) (hW : WJ u) (hp : p < un u) (hce : ce + 800 ≤ mc) (hsl : sl + 4800 ≤ ms) (k : ∀ (w10 : Option Value) (x13 : Int32), X l G TL_law 10 mc ms Q (ce + 7) (sl + 42) 454 [some (.ref (gb G)), w1, some (.ref (gB G + 0)), some (.int (nI Nf)), some (.int (nI P)), some (.int (nI i)), some (.int (x6)), some (.int (spF u (rmB u) (p + 1))), some (.int (sumI (fun j => nz (wtI u j)) (p + 1))), some (.int (nI p)), w10, some (.int (ur u 2 p)), some (.int (ur u 3 p)), some (.int (x13)), w14, w15, w16] [] (hof G σ) NC E) : X l G TL_law 10 mc ms Q (ce) (sl) 215 [some (.ref (gb G)), w1, some (.ref (gB G + 0)), some (.int (nI Nf)), some (.int (nI P)), some (.int (nI i)), some (.int (x6)), some (.int (spF u (rmB u) p)), some (.int (sumI (fun j => nz (wtI u j)) p)), some (.int (nI p)), w10, w11, w12, w13, w14, w15, w16] [] (hof G σ) NC E := by
  rcases pcase hW hp with h | h | h | h
  · exact s3_0 hR hW hp h.1 h.2.1 h.2.2.1 h.2.2.2 hce hsl k
  · by_cases hf : nI (many u 2) = us u 1
    · exact s3_1f hR hW hp h.1 h.2.1 h.2.2.1 h.2.2.2 hf hce hsl k
    · exact s3_1r hR hW hp h.1 h.2.1 h.2.2.1 h.2.2.2 hf hce hsl k
  · exact s3_2 hR hW hp h.1 h.2.1 h.2.2.1 h.2.2.2.1 h.2.2.2.2.1 h.2.2.2.2.2 hce hsl k
  · exact s3_3 hR hW hp h.1 h.2.1 h.2.2.1 h.2.2.2.1 h.2.2.2.2.1 h.2.2.2.2.2.1 h.2.2.2.2.2.2.1 h.2.2.2.2.2.2.2.1 h.2.2.2.2.2.2.2.2 hce hsl k
set_option maxHeartbeats 1000000 in
theorem sq1 (hR : RC σ 1 u qq) (hW : WJ u) (hp : p < un u) (hq : q < un u) (hce : ce + 800 ≤ mc) (hsl : sl + 4800 ≤ ms) (k : X l G TL_law 10 mc ms Q (ce + 2) (sl + 12) 500 [some (.ref (gb G)), w1, some (.ref (gB G + 0)), some (.int (nI Nf)), some (.int (nI P)), some (.int (nI i)), w6, w7, w8, some (.int (nI p)), w10, some (.int (ur u 2 p)), some (.int (ur u 3 p)), some (.int (x13)), some (.int (nI q)), some (.int (bI (ahB u p q))), w16] [] (hof G σ) NC E) : X l G TL_law 10 mc ms Q (ce) (sl) 464 [some (.ref (gb G)), w1, some (.ref (gB G + 0)), some (.int (nI Nf)), some (.int (nI P)), some (.int (nI i)), w6, w7, w8, some (.int (nI p)), w10, some (.int (ur u 2 p)), some (.int (ur u 3 p)), some (.int (x13)), some (.int (nI q)), w15, w16] [] (hof G σ) NC E := by
  have hcl : (nI p).toNatClampNeg = p := nI_clamp (by have := hW.1.1; omega)
  have hcq : (nI q).toNatClampNeg = q := nI_clamp (by have := hW.1.1; omega)
  have hn40 := hW.1.1
  refine X.iload (q := 466) dL_law_464 rfl rfl ?_
  refine X.aload_n (q := 467) dL_law_466 rfl rfl ?_
  refine X.iload (q := 469) dL_law_467 rfl rfl ?_
  refine X.c1 (w := .int (ur u 2 q)) (q := 472) dL_law_469 (kL_arrivalOf hR) MX4_arrivalOf bw_377 rfl rfl (by decide) (okP_nI hW.1 hq) (by rw [hcq]) rfl ?_
  refine X.icmp_lt (tgt := 493) (q := 475) dL_law_472 (by decide) rfl (fun c472 => ?_) (fun c472 => ?_)
  · refine X.iconst (q := 494) dL_law_493 (v := 1) rfl rfl ?_
    refine X.goto (tgt := 498) dL_law_494 (by decide) ?_
    refine X.istore (q := 500) dL_law_498 rfl rfl rfl ?_
    rw [ah_lt c472] at k
    exact X.wide (by omega) (by omega) k
  · refine X.iload (q := 477) dL_law_475 rfl rfl ?_
    refine X.aload_n (q := 478) dL_law_477 rfl rfl ?_
    refine X.iload (q := 480) dL_law_478 rfl rfl ?_
    refine X.c1 (w := .int (ur u 2 q)) (q := 483) dL_law_480 (kL_arrivalOf hR) MX4_arrivalOf bw_377 rfl rfl (by decide) (okP_nI hW.1 hq) (by rw [hcq]) rfl ?_
    refine X.icmp_ne (tgt := 497) (q := 486) dL_law_483 (by decide) rfl (fun c483 => ?_) (fun c483 => ?_)
    · refine X.iconst (q := 498) dL_law_497 (v := 0) rfl rfl ?_
      refine X.istore (q := 500) dL_law_498 rfl rfl rfl ?_
      rw [ah_no1 c472 c483] at k
      exact X.wide (by omega) (by omega) k
    · refine X.iload (q := 488) dL_law_486 rfl rfl ?_
      refine X.iload (q := 490) dL_law_488 rfl rfl ?_
      refine X.icmp_ge (tgt := 497) (q := 493) dL_law_490 (by decide) rfl (fun c490 => ?_) (fun c490 => ?_)
      · refine X.iconst (q := 498) dL_law_497 (v := 0) rfl rfl ?_
        refine X.istore (q := 500) dL_law_498 rfl rfl rfl ?_
        rw [ah_no2 c472 (nle c490 (by omega) (by omega))] at k
        exact X.wide (by omega) (by omega) k
      · refine X.iconst (q := 494) dL_law_493 (v := 1) rfl rfl ?_
        refine X.goto (tgt := 498) dL_law_494 (by decide) ?_
        refine X.istore (q := 500) dL_law_498 rfl rfl rfl ?_
        rw [ah_eq c483 (nnle c490 (by omega) (by omega))] at k
        exact X.wide (by omega) (by omega) k
set_option maxHeartbeats 1000000 in
theorem sq2 (hR : RC σ 1 u qq) (hW : WJ u) (hp : p < un u) (hq : q < un u) (hce : ce + 800 ≤ mc) (hsl : sl + 4800 ≤ ms) (k : X l G TL_law 10 mc ms Q (ce + 4) (sl + 24) 556 [some (.ref (gb G)), w1, some (.ref (gB G + 0)), some (.int (nI Nf)), some (.int (nI P)), some (.int (nI i)), w6, w7, w8, some (.int (nI p)), w10, some (.int (ur u 2 p)), some (.int (ur u 3 p)), some (.int (x13)), some (.int (nI q)), some (.int (bI (ahB u p q))), w16] [] (hof G σ) NC E) : X l G TL_law 10 mc ms Q (ce) (sl) 500 [some (.ref (gb G)), w1, some (.ref (gB G + 0)), some (.int (nI Nf)), some (.int (nI P)), some (.int (nI i)), w6, w7, w8, some (.int (nI p)), w10, some (.int (ur u 2 p)), some (.int (ur u 3 p)), some (.int (x13)), some (.int (nI q)), some (.int (bI (ahB u p q))), w16] [] (hof G σ) NC E := by
  have hcl : (nI p).toNatClampNeg = p := nI_clamp (by have := hW.1.1; omega)
  have hcq : (nI q).toNatClampNeg = q := nI_clamp (by have := hW.1.1; omega)
  have hn40 := hW.1.1
  refine X.iload (q := 502) dL_law_500 rfl rfl ?_
  refine X.iload (q := 504) dL_law_502 rfl rfl ?_
  refine X.icmp_eq (tgt := 556) (q := 507) dL_law_504 (by decide) rfl (fun c504 => ?_) (fun c504 => ?_)
  · exact X.wide (by omega) (by omega) k
  · refine X.iload (q := 509) dL_law_507 rfl rfl ?_
    refine X.if_eq (tgt := 556) (q := 512) dL_law_509 (by decide) rfl (fun c509 => ?_) (fun c509 => ?_)
    · exact X.wide (by omega) (by omega) k
    · refine X.aload_n (q := 513) dL_law_512 rfl rfl ?_
      refine X.iload (q := 515) dL_law_513 rfl rfl ?_
      refine X.c1 (w := .int (ur u 0 p)) (q := 518) dL_law_515 (kL_originOf hR) MX4_originOf bw_369 rfl rfl (by decide) (okP_nI hW.1 hp) (by rw [hcl]) rfl ?_
      refine X.aload_n (q := 519) dL_law_518 rfl rfl ?_
      refine X.iload (q := 521) dL_law_519 rfl rfl ?_
      refine X.c1 (w := .int (ur u 0 q)) (q := 524) dL_law_521 (kL_originOf hR) MX4_originOf bw_369 rfl rfl (by decide) (okP_nI hW.1 hq) (by rw [hcq]) rfl ?_
      refine X.icmp_ne (tgt := 556) (q := 527) dL_law_524 (by decide) rfl (fun c524 => ?_) (fun c524 => ?_)
      · exact X.wide (by omega) (by omega) k
      · refine X.aload_n (q := 528) dL_law_527 rfl rfl ?_
        refine X.iload (q := 530) dL_law_528 rfl rfl ?_
        refine X.c1 (w := .int (ur u 3 q)) (q := 533) dL_law_530 (kL_boardedAt hR) MX4_boardedAt bw_381 rfl rfl (by decide) (okP_nI hW.1 hq) (by rw [hcq]) rfl ?_
        refine X.iconst (q := 534) dL_law_533 (v := -1) rfl rfl ?_
        refine X.icmp_eq (tgt := 556) (q := 537) dL_law_534 (by decide) rfl (fun c534 => ?_) (fun c534 => ?_)
        · exact X.wide (by omega) (by omega) k
        · refine X.iload (q := 539) dL_law_537 rfl rfl ?_
          refine X.iconst (q := 540) dL_law_539 (v := -1) rfl rfl ?_
          refine X.icmp_eq (tgt := 554) (q := 543) dL_law_540 (by decide) rfl (fun c540 => ?_) (fun c540 => ?_)
          · exact absurd c540 (law_q hW hp hq (bI1.mp c509) c524 c534).1
          · refine X.iload (q := 545) dL_law_543 rfl rfl ?_
            refine X.aload_n (q := 546) dL_law_545 rfl rfl ?_
            refine X.iload (q := 548) dL_law_546 rfl rfl ?_
            refine X.c1 (w := .int (ur u 3 q)) (q := 551) dL_law_548 (kL_boardedAt hR) MX4_boardedAt bw_381 rfl rfl (by decide) (okP_nI hW.1 hq) (by rw [hcq]) rfl ?_
            refine X.icmp_le (tgt := 556) (q := 554) dL_law_551 (by decide) rfl (fun c551 => ?_) (fun c551 => ?_)
            · exact X.wide (by omega) (by omega) k
            · exact absurd (law_q hW hp hq (bI1.mp c509) c524 c534).2 c551
set_option maxHeartbeats 1000000 in
theorem sq (hR : RC σ 1 u qq) (hW : WJ u) (hn : un u = P) (hP : P ≤ 10) (hp : p < un u) {ce0 sl0 : Nat} (hce0 : ce0 + 900 ≤ mc) (hsl0 : sl0 + 5400 ≤ ms) (next : ∀ (ce sl : Nat) (w14 w15 : Option Value), ce ≤ ce0 + 60 → sl ≤ sl0 + 360 → X l G TL_law 10 mc ms Q (ce) (sl) 562 [some (.ref (gb G)), w1, some (.ref (gB G + 0)), some (.int (nI Nf)), some (.int (nI P)), some (.int (nI i)), w6, w7, w8, some (.int (nI p)), w10, some (.int (ur u 2 p)), some (.int (ur u 3 p)), some (.int (x13)), w14, w15, w16] [] (hof G σ) NC E) : ∀ (m q ce sl : Nat) (w15 : Option Value), m = P - q → q ≤ P → ce ≤ ce0 + 6 * q → sl ≤ sl0 + 36 * q → X l G TL_law 10 mc ms Q (ce) (sl) 457 [some (.ref (gb G)), w1, some (.ref (gB G + 0)), some (.int (nI Nf)), some (.int (nI P)), some (.int (nI i)), w6, w7, w8, some (.int (nI p)), w10, some (.int (ur u 2 p)), some (.int (ur u 3 p)), some (.int (x13)), some (.int (nI q)), w15, w16] [] (hof G σ) NC E := by
  intro m
  induction m using Nat.strongRecOn with
  | _ m ih =>
      intro q ce sl w15 hm hq9 hc9 hs9
      subst hm
      refine X.iload (q := 459) dL_law_457 rfl rfl ?_
      refine X.iload (q := 461) dL_law_459 rfl rfl ?_
      refine X.icmp_ge (tgt := 562) (q := 464) dL_law_461 (by decide) rfl (fun c461 => ?_) (fun c461 => ?_)
      · exact next _ _ _ _ (by omega) (by omega)
      · have hqP : q < P := nnle c461 (by omega) (by omega)
        refine sq1 hR hW hp (by omega) (by omega) (by omega) ?_
        refine sq2 hR hW hp (by omega) (by omega) (by omega) ?_
        refine X.iinc (q := 559) dL_law_556 rfl (by first | exact nI_inc _ | rfl) rfl rfl rfl ?_
        refine X.goto (tgt := 457) dL_law_559 (by decide) ?_
        exact ih (P - (q + 1)) (by omega) (q + 1) _ _ _ rfl (by omega) (by omega) (by omega)
set_option maxRecDepth 10000 in
set_option maxHeartbeats 2000000 in
theorem spl (hR : RC σ 1 u qq) (hW : WJ u) (hn : un u = P) (hP : P ≤ 10) {ce0 sl0 : Nat} (hce0 : ce0 + 1700 ≤ mc) (hsl0 : sl0 + 10200 ≤ ms) (next : ∀ (ce sl : Nat) (w9 w10 w11 w12 w13 w14 w15 : Option Value), ce ≤ ce0 + 670 → sl ≤ sl0 + 4020 → X l G TL_law 10 mc ms Q (ce) (sl) 568 [some (.ref (gb G)), w1, some (.ref (gB G + 0)), some (.int (nI Nf)), some (.int (nI P)), some (.int (nI i)), some (.int (x6)), some (.int (spF u (rmB u) P)), some (.int (sumI (fun j => nz (wtI u j)) P)), w9, w10, w11, w12, w13, w14, w15, w16] [] (hof G σ) NC E) : ∀ (m p ce sl : Nat) (w10 w11 w12 w13 w14 w15 : Option Value), m = P - p → p ≤ P → ce ≤ ce0 + 67 * p → sl ≤ sl0 + 402 * p → X l G TL_law 10 mc ms Q (ce) (sl) 208 [some (.ref (gb G)), w1, some (.ref (gB G + 0)), some (.int (nI Nf)), some (.int (nI P)), some (.int (nI i)), some (.int (x6)), some (.int (spF u (rmB u) p)), some (.int (sumI (fun j => nz (wtI u j)) p)), some (.int (nI p)), w10, w11, w12, w13, w14, w15, w16] [] (hof G σ) NC E := by
  intro m
  induction m using Nat.strongRecOn with
  | _ m ih =>
      intro p ce sl w10 w11 w12 w13 w14 w15 hm hp9 hc9 hs9
      subst hm
      refine X.iload (q := 210) dL_law_208 rfl rfl ?_
      refine X.iload (q := 212) dL_law_210 rfl rfl ?_
      refine X.icmp_ge (tgt := 568) (q := 215) dL_law_212 (by decide) rfl (fun c212 => ?_) (fun c212 => ?_)
      · have hpP : p = P := by
          have := nle c212 (by omega) (by omega)
          omega
        subst hpP
        exact next _ _ _ _ _ _ _ _ _ (by omega) (by omega)
      · have hpP : p < P := nnle c212 (by omega) (by omega)
        refine s3 hR hW (by omega) (by omega) (by omega) (fun w10 x13 => ?_)
        refine X.iconst (q := 455) dL_law_454 (v := 0) rfl rfl ?_
        refine X.istore (q := 457) dL_law_455 rfl rfl rfl ?_
        refine sq hR hW hn hP (p := p) (by omega) (ce0 := ce + 7) (sl0 := sl + 42) (by omega) (by omega) (fun ce2 sl2 w14 w15 hc2 hs2 => ?_) (P - 0) 0 _ _ _ rfl (Nat.zero_le _) (by omega) (by omega)
        refine X.iinc (q := 565) dL_law_562 rfl (by first | exact nI_inc _ | rfl) rfl rfl rfl ?_
        refine X.goto (tgt := 208) dL_law_565 (by decide) ?_
        exact ih (P - (p + 1)) (by omega) (p + 1) _ _ _ _ _ _ _ _ rfl (by omega) (by omega) (by omega)
set_option maxHeartbeats 1000000 in
theorem s4 (hR : RC σ 1 u qq) (hW : WJ u) (hn : un u = P) (hce : ce + 800 ≤ mc) (hsl : sl + 4800 ≤ ms) (k : X l G TL_law 10 mc ms Q (ce) (sl) 588 [some (.ref (gb G)), w1, some (.ref (gB G + 0)), some (.int (nI Nf)), some (.int (nI P)), some (.int (nI i)), w6, some (.int (stp u)), some (.int (sumI (fun j => nz (wtI u j)) P)), w9, w10, w11, w12, w13, w14, w15, w16] [] (hof G σ) NC E) : X l G TL_law 10 mc ms Q (ce) (sl) 568 [some (.ref (gb G)), w1, some (.ref (gB G + 0)), some (.int (nI Nf)), some (.int (nI P)), some (.int (nI i)), w6, some (.int (spF u (rmB u) P)), some (.int (sumI (fun j => nz (wtI u j)) P)), w9, w10, w11, w12, w13, w14, w15, w16] [] (hof G σ) NC E := by
  refine X.iload (q := 570) dL_law_568 rfl rfl ?_
  refine X.aload_n (q := 571) dL_law_570 rfl rfl ?_
  refine X.c0 (w := .int (sumI (fun j => nz (wtI u j)) P)) (q := 574) dL_law_571 (kL_totalWait hR hW.1.hw) MX4_totalWait bw_444 rfl rfl (by decide) (by rw [← hn]; rfl) rfl ?_
  refine X.icmp_ne (tgt := 586) (q := 577) dL_law_574 (by decide) rfl (fun c574 => ?_) (fun c574 => ?_)
  · exact absurd rfl c574
  · refine X.iload (q := 579) dL_law_577 rfl rfl ?_
    refine X.aload_n (q := 580) dL_law_579 rfl rfl ?_
    refine X.c0 (w := .int (spF u (rmB u) P)) (q := 583) dL_law_580 (kL_stopMask hR) MX4_stopMask bw_225 rfl rfl (by decide) (by rw [← hn]; rfl) rfl ?_
    refine X.icmp_eq (tgt := 588) (q := 586) dL_law_583 (by decide) rfl (fun c583 => ?_) (fun c583 => ?_)
    · have e9 : spF u (rmB u) P = stp u := by rw [← hn]; rfl
      rw [e9]
      exact k
    · exact absurd rfl c583
set_option maxHeartbeats 1000000 in
theorem s5 (hR : RC σ 1 u qq) (hW : WJ u) (hN : uN u = Nf) {ce0 sl0 : Nat} (hce0 : ce0 + 900 ≤ mc) (hsl0 : sl0 + 5400 ≤ ms) (next : ∀ (ce sl : Nat) (w10 w11 : Option Value), ce ≤ ce0 + 100 → sl ≤ sl0 + 600 → X l G TL_law 10 mc ms Q (ce) (sl) 667 [some (.ref (gb G)), w1, some (.ref (gB G + 0)), some (.int (nI Nf)), some (.int (nI P)), some (.int (nI i)), w6, some (.int (stp u)), some (.int (x8)), some (.int (nI (wN u Nf))), w10, w11, w12, w13, w14, w15, w16] [] (hof G σ) NC E) : ∀ (m f ce sl : Nat) (w11 : Option Value), m = Nf - f → f ≤ Nf → ce ≤ ce0 + 5 * f → sl ≤ sl0 + 30 * f → X l G TL_law 10 mc ms Q (ce) (sl) 594 [some (.ref (gb G)), w1, some (.ref (gB G + 0)), some (.int (nI Nf)), some (.int (nI P)), some (.int (nI i)), w6, some (.int (stp u)), some (.int (x8)), some (.int (nI (wN u f))), some (.int (nI f)), w11, w12, w13, w14, w15, w16] [] (hof G σ) NC E := by
  intro m
  have h20 := hW.1.F.2.2.2.1
  have hn40 := hW.1.1
  induction m using Nat.strongRecOn with
  | _ m ih =>
      intro f ce sl w11 hm hf9 hc9 hs9
      subst hm
      refine X.iload (q := 596) dL_law_594 rfl rfl ?_
      refine X.iload_n (q := 597) dL_law_596 rfl rfl ?_
      refine X.icmp_ge (tgt := 667) (q := 600) dL_law_597 (by decide) rfl (fun c597 => ?_) (fun c597 => ?_)
      · have hfN : f = Nf := by
          have := nle c597 (by omega) (by omega)
          omega
        subst hfN
        exact next _ _ _ _ (by omega) (by omega)
      · have hfN : f < Nf := nnle c597 (by omega) (by omega)
        refine X.aload_n (q := 601) dL_law_600 rfl rfl ?_
        refine X.iload (q := 603) dL_law_601 rfl rfl ?_
        refine X.c1 (w := .int (nI (wc u f))) (q := 606) dL_law_603 (kL_waitingAt hR) MX4_waitingAt bw_422 rfl rfl (by decide) (okF_nI hW.1 (by omega)) rfl rfl ?_
        refine X.istore (q := 608) dL_law_606 rfl rfl rfl ?_
        refine X.iload (q := 610) dL_law_608 rfl rfl ?_
        refine X.iload (q := 612) dL_law_610 rfl rfl ?_
        refine X.iadd (q := 613) dL_law_612 rfl ?_
        rw [show nI (wN u f) + nI (wc u f) = nI (wN u (f + 1)) from nI_plus]
        refine X.istore (q := 615) dL_law_613 rfl rfl rfl ?_
        refine X.aload_n (q := 616) dL_law_615 rfl rfl ?_
        refine X.iload (q := 618) dL_law_616 rfl rfl ?_
        refine X.iload (q := 620) dL_law_618 rfl rfl ?_
        refine X.c2 (w := .int (-1)) (q := 623) dL_law_620 (kL_queueAt hR) MX4_queueAt bw_435 rfl rfl (by decide) (okF_nI hW.1 (by omega)) (congrArg Value.int (qa_end hW.1 f)) rfl ?_
        refine X.iconst (q := 624) dL_law_623 (v := -1) rfl rfl ?_
        refine X.icmp_ne (tgt := 659) (q := 627) dL_law_624 (by decide) rfl (fun c624 => ?_) (fun c624 => ?_)
        · exact absurd rfl c624
        · refine X.aload_n (q := 628) dL_law_627 rfl rfl ?_
          refine X.iload (q := 630) dL_law_628 rfl rfl ?_
          refine X.iconst (q := 631) dL_law_630 (v := -1) rfl rfl ?_
          refine X.c2 (w := .int (-1)) (q := 634) dL_law_631 (kL_queueAt hR) MX4_queueAt bw_435 rfl rfl (by decide) (okF_nI hW.1 (by omega)) (congrArg Value.int (qa_m1 hW.1 f)) rfl ?_
          refine X.iconst (q := 635) dL_law_634 (v := -1) rfl rfl ?_
          refine X.icmp_ne (tgt := 659) (q := 638) dL_law_635 (by decide) rfl (fun c635 => ?_) (fun c635 => ?_)
          · exact absurd rfl c635
          · refine X.iload (q := 640) dL_law_638 rfl rfl ?_
            refine X.if_le (tgt := 661) (q := 643) dL_law_640 (by decide) rfl (fun c640 => ?_) (fun c640 => ?_)
            · refine X.iinc (q := 664) dL_law_661 rfl (by first | exact nI_inc _ | rfl) rfl rfl rfl ?_
              refine X.goto (tgt := 594) dL_law_664 (by decide) ?_
              exact ih (Nf - (f + 1)) (by omega) (f + 1) _ _ _ rfl (by omega) (by omega) (by omega)
            · have hw9 : 0 < wc u f := by
                rcases Nat.eq_zero_or_pos (wc u f) with z | z
                · rw [z] at c640
                  exact absurd (by decide) c640
                · exact z
              obtain ⟨g, hg1, hg2, hg3⟩ := qa_first hW.1 hw9
              refine X.aload_n (q := 644) dL_law_643 rfl rfl ?_
              refine X.aload_n (q := 645) dL_law_644 rfl rfl ?_
              refine X.iload (q := 647) dL_law_645 rfl rfl ?_
              refine X.iconst (q := 648) dL_law_647 (v := 0) rfl rfl ?_
              refine X.c2 (w := .int (nI g)) (q := 651) dL_law_648 (kL_queueAt hR) MX4_queueAt bw_435 rfl rfl (by decide) (okF_nI hW.1 (by omega)) (congrArg Value.int hg2) rfl ?_
              refine X.c1 (w := .int (nI f)) (q := 654) dL_law_651 (kL_originOf hR) MX4_originOf bw_369 rfl rfl (by decide) (okP_nI hW.1 hg1) (by rw [nI_clamp (by omega), hg3]) rfl ?_
              refine X.iload (q := 656) dL_law_654 rfl rfl ?_
              refine X.icmp_eq (tgt := 661) (q := 659) dL_law_656 (by decide) rfl (fun c656 => ?_) (fun c656 => ?_)
              · refine X.iinc (q := 664) dL_law_661 rfl (by first | exact nI_inc _ | rfl) rfl rfl rfl ?_
                refine X.goto (tgt := 594) dL_law_664 (by decide) ?_
                exact ih (Nf - (f + 1)) (by omega) (f + 1) _ _ _ rfl (by omega) (by omega) (by omega)
              · exact absurd rfl c656
set_option maxHeartbeats 1000000 in
theorem s6 (hR : RC σ 1 u qq) (hW : WJ u) (hN : uN u = Nf) (hce : ce + 800 ≤ mc) (hsl : sl + 4800 ≤ ms) (k : X l G TL_law 10 mc ms Q (ce + 1) (sl + 6) 705 [some (.ref (gb G)), w1, some (.ref (gB G + 0)), some (.int (nI Nf)), some (.int (nI P)), some (.int (nI i)), w6, some (.int (stp u)), some (.int (x8)), some (.int (nI (wN u Nf))), w10, w11, w12, w13, w14, w15, w16] [] (hof G σ) NC E) : X l G TL_law 10 mc ms Q (ce) (sl) 667 [some (.ref (gb G)), w1, some (.ref (gB G + 0)), some (.int (nI Nf)), some (.int (nI P)), some (.int (nI i)), w6, some (.int (stp u)), some (.int (x8)), some (.int (nI (wN u Nf))), w10, w11, w12, w13, w14, w15, w16] [] (hof G σ) NC E := by
  have h20 := hW.1.F.2.2.2.1
  have hn40 := hW.1.1
  have hwN : wN u Nf = many u 1 := by rw [← hN]; exact wN_all hW.1
  refine X.iload (q := 669) dL_law_667 rfl rfl ?_
  refine X.aload_n (q := 670) dL_law_669 rfl rfl ?_
  refine X.iconst (q := 671) dL_law_670 (v := 1) rfl rfl ?_
  refine X.c1 (w := .int (nI (many u 1))) (q := 674) dL_law_671 (kL_countStatus hR) MX4_countStatus bw_412 rfl rfl (by decide) (by decide) rfl rfl ?_
  refine X.icmp_ne (tgt := 703) (q := 677) dL_law_674 (by decide) rfl (fun c674 => ?_) (fun c674 => ?_)
  · exact absurd (by rw [hwN]) c674
  · refine X.aload_n (q := 678) dL_law_677 rfl rfl ?_
    refine X.c0 (w := .int (oI (fw u (isW u) (un u)))) (q := 681) dL_law_678 (kL_firstWaiting hR hW.1.lb) MX4_firstWaiting bw_439 rfl rfl (by decide) rfl rfl ?_
    refine X.iconst (q := 682) dL_law_681 (v := -1) rfl rfl ?_
    refine X.icmp_ne (tgt := 689) (q := 685) dL_law_682 (by decide) rfl (fun c682 => ?_) (fun c682 => ?_)
    · refine X.iconst (q := 690) dL_law_689 (v := 0) rfl rfl ?_
      refine X.iload (q := 692) dL_law_690 rfl rfl ?_
      refine X.if_ne (tgt := 699) (q := 695) dL_law_692 (by decide) rfl (fun c692 => ?_) (fun c692 => ?_)
      · refine X.iconst (q := 700) dL_law_699 (v := 0) rfl rfl ?_
        refine X.icmp_eq (tgt := 705) (q := 703) dL_law_700 (by decide) rfl (fun c700 => ?_) (fun c700 => ?_)
        · exact X.wide (by omega) (by omega) k
        · exact absurd rfl c700
      · exact absurd ((first_w hW.1).mpr (by rw [← hwN]; exact neq (b := 0) c692 (by have := wN_le hW.1 (F := Nf) (by omega); omega) (by decide))) c682
    · refine X.iconst (q := 686) dL_law_685 (v := 1) rfl rfl ?_
      refine X.goto (tgt := 690) dL_law_686 (by decide) ?_
      refine X.iload (q := 692) dL_law_690 rfl rfl ?_
      refine X.if_ne (tgt := 699) (q := 695) dL_law_692 (by decide) rfl (fun c692 => ?_) (fun c692 => ?_)
      · exact absurd (by rw [hwN, (first_w hW.1).mp c682]; rfl) c692
      · refine X.iconst (q := 696) dL_law_695 (v := 1) rfl rfl ?_
        refine X.goto (tgt := 700) dL_law_696 (by decide) ?_
        refine X.icmp_eq (tgt := 705) (q := 703) dL_law_700 (by decide) rfl (fun c700 => ?_) (fun c700 => ?_)
        · exact X.wide (by omega) (by omega) k
        · exact absurd rfl c700
set_option maxHeartbeats 1000000 in
theorem s7a (hR : RC σ 1 u qq) (hW : WJ u) (hL : gL G ≤ 260) (hi : i ≤ 300) (hce : ce + 800 ≤ mc) (hsl : sl + 4800 ≤ ms) (k : X l G TL_law 10 mc ms Q (ce) (sl) 740 [some (.ref (gb G)), w1, some (.ref (gB G + 0)), some (.int (nI Nf)), some (.int (nI P)), some (.int (nI i)), some (.int (nI (many u 2))), some (.int (stp u)), w8, some (.int (nI (wN u Nf))), some (.int (nI (drw G i % 8))), some (.int (us u 4)), some (.int (bI (hasB (stp u) (us u 4)))), w13, w14, w15, w16] [] (hof G σ) NC E) : X l G TL_law 10 mc ms Q (ce) (sl) 705 [some (.ref (gb G)), w1, some (.ref (gB G + 0)), some (.int (nI Nf)), some (.int (nI P)), some (.int (nI i)), some (.int (nI (many u 2))), some (.int (stp u)), w8, some (.int (nI (wN u Nf))), w10, w11, w12, w13, w14, w15, w16] [] (hof G σ) NC E := by
  refine X.aload_n (q := 706) dL_law_705 rfl rfl ?_
  refine X.iload (q := 708) dL_law_706 rfl rfl ?_
  refine X.cSt (q := 711) (As := [_, _]) dL_law_708 rfl (kX_draw (k := i) (by omega) (by omega)) ML_draw bw_532 rfl rfl (by decide) rfl ?_
  refine X.bipush (q := 713) dL_law_711 (v := 8) rfl rfl ?_
  refine X.irem (q := 714) dL_law_713 (by decide) rfl ?_
  rw [show nI (drw G i) - nI (drw G i) / 8 * 8 = nI (drw G i % 8) from nI_rem (k := 8) (by have := drw_lt G i; omega) (by decide) (by decide)]
  refine X.istore (q := 716) dL_law_714 rfl rfl rfl ?_
  refine X.aload_n (q := 717) dL_law_716 rfl rfl ?_
  refine X.c0 (w := .int (us u 4)) (q := 720) dL_law_717 (kL_floor hR) MX4_floor bw_217 rfl rfl (by decide) rfl rfl ?_
  refine X.istore (q := 722) dL_law_720 rfl rfl rfl ?_
  refine X.iload (q := 724) dL_law_722 rfl rfl ?_
  refine X.iload (q := 726) dL_law_724 rfl rfl ?_
  refine X.ishr (q := 727) dL_law_726 rfl ?_
  refine X.iconst (q := 728) dL_law_727 (v := 1) rfl rfl ?_
  refine X.iand (q := 729) dL_law_728 rfl ?_
  rw [law_has]
  refine X.iconst (q := 730) dL_law_729 (v := 1) rfl rfl ?_
  refine X.icmp_ne (tgt := 737) (q := 733) dL_law_730 (by decide) rfl (fun c730 => ?_) (fun c730 => ?_)
  · have e9 : bI (hasB (stp u) (us u 4)) = 0 := by
      cases hh : hasB (stp u) (us u 4) with
      | false => rfl
      | true => rw [hh] at c730; exact absurd rfl c730
    refine X.iconst (q := 738) dL_law_737 (v := 0) rfl rfl ?_
    refine X.istore (q := 740) dL_law_738 rfl rfl rfl ?_
    rw [e9] at k
    exact k
  · refine X.iconst (q := 734) dL_law_733 (v := 1) rfl rfl ?_
    refine X.goto (tgt := 738) dL_law_734 (by decide) ?_
    refine X.istore (q := 740) dL_law_738 rfl rfl rfl ?_
    rw [c730] at k
    exact k
set_option maxHeartbeats 1000000 in
theorem s7b (hR : RC σ 1 u qq) (hW : WJ u) (hce : ce + 800 ≤ mc) (hsl : sl + 4800 ≤ ms) (k : X l G TL_law 10 mc ms Q (ce + 1) (sl + 6) 762 [some (.ref (gb G)), w1, some (.ref (gB G + 0)), some (.int (nI Nf)), some (.int (nI P)), some (.int (nI i)), some (.int (nI (many u 2))), some (.int (stp u)), w8, w9, some (.int (nI (drw G i % 8))), some (.int (us u 4)), some (.int (bI (hasB (stp u) (us u 4)))), some (.int (us u 7)), some (.int (us u 8)), some (.int (tgt u (us u 2))), w16] [] (hof G σ) NC E) : X l G TL_law 10 mc ms Q (ce) (sl) 740 [some (.ref (gb G)), w1, some (.ref (gB G + 0)), some (.int (nI Nf)), some (.int (nI P)), some (.int (nI i)), some (.int (nI (many u 2))), some (.int (stp u)), w8, w9, some (.int (nI (drw G i % 8))), some (.int (us u 4)), some (.int (bI (hasB (stp u) (us u 4)))), w13, w14, w15, w16] [] (hof G σ) NC E := by
  refine X.aload_n (q := 741) dL_law_740 rfl rfl ?_
  refine X.c0 (w := .int (us u 7)) (q := 744) dL_law_741 (kL_doorTicks hR) MX4_doorTicks bw_333 rfl rfl (by decide) rfl rfl ?_
  refine X.istore (q := 746) dL_law_744 rfl rfl rfl ?_
  refine X.aload_n (q := 747) dL_law_746 rfl rfl ?_
  refine X.c0 (w := .int (us u 8)) (q := 750) dL_law_747 (kL_idleTicks hR) MX4_idleTicks bw_337 rfl rfl (by decide) rfl rfl ?_
  refine X.istore (q := 752) dL_law_750 rfl rfl rfl ?_
  refine X.aload_n (q := 753) dL_law_752 rfl rfl ?_
  refine X.aload_n (q := 754) dL_law_753 rfl rfl ?_
  refine X.c0 (w := .int (us u 2)) (q := 757) dL_law_754 (kL_policy hR) MX4_policy bw_209 rfl rfl (by decide) rfl rfl ?_
  refine X.c1 (w := .int (tgt u (us u 2))) (q := 760) dL_law_757 (kL_targetBy hR hW.1) MX4_targetBy bw_233 rfl rfl (by decide) (okY_pol hW.1) rfl rfl ?_
  refine X.istore (q := 762) dL_law_760 rfl rfl rfl ?_
  exact k
set_option maxHeartbeats 1000000 in
theorem s7c (hR : RC σ 1 u qq) (hW : WJ u) {r : Nat} {hv : Nat → Vw} (hH : CH σ r hv) (hT : uT u ≤ 100) (hL : gL G ≤ 260) (hi : i ≤ 300) (hce : ce + 800 ≤ mc) (hsl : sl + 4800 ≤ ms) (kr : X l G TL_law 10 mc ms Q (ce + 1) (sl + 6) 809 [some (.ref (gb G)), w1, some (.ref (gB G + 0)), some (.int (nI Nf)), some (.int (nI P)), some (.int (nI i)), some (.int (nI (many u 2))), some (.int (stp u)), w8, w9, some (.int (nI (drw G i % 8))), some (.int (us u 4)), some (.int (bI (hasB (stp u) (us u 4)))), some (.int (us u 7)), some (.int (us u 8)), some (.int (tgt u (us u 2))), w16] [] (hof G σ) NC E) (kc : ∀ (τ : St) (x : Int32) (q2 : Nat → Nat) (r2 : Nat) (hv2 : Nat → Vw) (w16 : Option Value), WJ (uS u 1 x) → RC τ 1 (uS u 1 x) q2 → CH τ r2 hv2 → many u 2 ≤ 2 → X l G TL_law 10 mc ms Q (ce + 1) (sl + 6) 922 [some (.ref (gb G)), w1, some (.ref (gB G + 0)), some (.int (nI Nf)), some (.int (nI P)), some (.int (nI i)), some (.int (nI (many u 2))), some (.int (stp u)), w8, w9, some (.int (nI (drw G i % 8))), some (.int (us u 4)), some (.int (bI (hasB (stp u) (us u 4)))), some (.int (us u 7)), some (.int (us u 8)), some (.int (tgt u (us u 2))), w16] [] (hof G τ) NC E) : X l G TL_law 10 mc ms Q (ce) (sl) 762 [some (.ref (gb G)), w1, some (.ref (gB G + 0)), some (.int (nI Nf)), some (.int (nI P)), some (.int (nI i)), some (.int (nI (many u 2))), some (.int (stp u)), w8, w9, some (.int (nI (drw G i % 8))), some (.int (us u 4)), some (.int (bI (hasB (stp u) (us u 4)))), some (.int (us u 7)), some (.int (us u 8)), some (.int (tgt u (us u 2))), w16] [] (hof G σ) NC E := by
  refine X.iload (q := 764) dL_law_762 rfl rfl ?_
  refine X.bipush (q := 766) dL_law_764 (v := 7) rfl rfl ?_
  refine X.icmp_ne (tgt := 809) (q := 769) dL_law_766 (by decide) rfl (fun c766 => ?_) (fun c766 => ?_)
  · exact X.wide (by omega) (by omega) kr
  · refine X.iload (q := 771) dL_law_769 rfl rfl ?_
    refine X.iconst (q := 772) dL_law_771 (v := 2) rfl rfl ?_
    refine X.icmp_gt (tgt := 809) (q := 775) dL_law_772 (by decide) rfl (fun c772 => ?_) (fun c772 => ?_)
    · exact X.wide (by omega) (by omega) kr
    · have h2 : many u 2 ≤ 2 := by
        have hm9 : many u 2 ≤ un u := cnt_le _ _
        have hn40 := hW.1.1
        rcases Nat.lt_or_ge 2 (many u 2) with z | z
        · exact absurd (show nI 2 < nI (many u 2) from nI_lt z (by omega)) c772
        · exact z
      have hx7 : drw G i / 8 % 7 < 7 := Nat.mod_lt _ (by decide)
      have hx1 : okI 1 8 (nI (2 + drw G i / 8 % 7)) = true := okI_8 (by omega) (by omega)
      have hx2 : decide (nI (many u 2) ≤ nI (2 + drw G i / 8 % 7)) = true := decide_eq_true ((nI_leI (by omega) (by omega)).mpr (by omega))
      refine X.aload_n (q := 776) dL_law_775 rfl rfl ?_
      refine X.c0 (w := .int (us u 1)) (q := 779) dL_law_776 (kL_capacity hR) MX4_capacity bw_205 rfl rfl (by decide) rfl rfl ?_
      refine X.istore (q := 781) dL_law_779 rfl rfl rfl ?_
      refine X.aload_n (q := 782) dL_law_781 rfl rfl ?_
      refine X.iconst (q := 783) dL_law_782 (v := 2) rfl rfl ?_
      refine X.aload_n (q := 784) dL_law_783 rfl rfl ?_
      refine X.iload (q := 786) dL_law_784 rfl rfl ?_
      refine X.cSt (q := 789) (As := [_, _]) dL_law_786 rfl (kX_draw (k := i) (by omega) (by omega)) ML_draw bw_532 rfl rfl (by decide) rfl ?_
      refine X.bipush (q := 791) dL_law_789 (v := 8) rfl rfl ?_
      refine X.idiv (q := 792) dL_law_791 (by decide) rfl ?_
      rw [show nI (drw G i) / 8 = nI (drw G i / 8) from nI_div (k := 8) (by have := drw_lt G i; omega) (by decide)]
      refine X.bipush (q := 794) dL_law_792 (v := 7) rfl rfl ?_
      refine X.irem (q := 795) dL_law_794 (by decide) rfl ?_
      rw [show nI (drw G i / 8) - nI (drw G i / 8) / 7 * 7 = nI (drw G i / 8 % 7) from nI_rem (k := 7) (by have := drw_lt G i; omega) (by decide) (by decide)]
      refine X.iadd (q := 796) dL_law_795 rfl ?_
      rw [show (2 : Int32) + nI (drw G i / 8 % 7) = nI (2 + drw G i / 8 % 7) from nI_plus (a := 2)]
      refine X.cH (w := .int (us u 1)) (q := 799) dL_law_796 (kL_setCapacity hR hW.1 (by omega) hH (x := nI (2 + drw G i / 8 % 7))) MX4_setCapacity bw_512 rfl rfl (by decide) (fun a9 τ9 h9 => by rw [h9.2, hx1, hx2]; rfl) rfl (fun τ2 hp2 => ?_)
      obtain ⟨hH2, qq2, hR2⟩ := hp2.1.2.1 (by rw [hx1, hx2]; rfl)
      refine X.iload (q := 801) dL_law_799 rfl rfl ?_
      refine X.icmp_eq (tgt := 806) (q := 804) dL_law_801 (by decide) rfl (fun c801 => ?_) (fun c801 => ?_)
      · refine X.goto (tgt := 922) dL_law_806 (by decide) ?_
        exact kc _ _ _ _ _ _ (WJ_cap hW (by omega) (by omega) (by omega) (by omega)) hR2 hH2 h2
      · exact absurd rfl c801
set_option maxHeartbeats 1000000 in
theorem s7_0 {q2 : Nat → Nat} (hR : RC σ 1 (tk u) q2) (hb : hasB (stp u) (us u 4) = true) (h4 : us (tk u) 4 = us u 4) (h7 : us (tk u) 7 = us u 7 + 1) (ht : tgt u (us u 2) = us u 4) (hce : ce + 800 ≤ mc) (hsl : sl + 4800 ≤ ms) (k : ∀ w11 w12 w15 w16 : Option Value, X l G TL_law 10 mc ms Q (ce) (sl) 922 [some (.ref (gb G)), w1, some (.ref (gB G + 0)), some (.int (nI Nf)), some (.int (nI P)), some (.int (nI i)), some (.int (nI (many u 2))), some (.int (stp u)), w8, w9, some (.int (nI (drw G i % 8))), w11, w12, some (.int (us u 7)), some (.int (us u 8)), w15, w16] [] (hof G σ) NC E) : X l G TL_law 10 mc ms Q (ce) (sl) 816 [some (.ref (gb G)), w1, some (.ref (gB G + 0)), some (.int (nI Nf)), some (.int (nI P)), some (.int (nI i)), some (.int (nI (many u 2))), some (.int (stp u)), w8, w9, some (.int (nI (drw G i % 8))), some (.int (us u 4)), some (.int (bI (hasB (stp u) (us u 4)))), some (.int (us u 7)), some (.int (us u 8)), some (.int (tgt u (us u 2))), some (.int (us (tk u) 4))] [] (hof G σ) NC E := by
  rw [hb, h4, ht]
  refine X.iload (q := 818) dL_law_816 rfl rfl ?_
  refine X.if_eq (tgt := 849) (q := 821) dL_law_818 (by decide) rfl (fun c818 => ?_) (fun c818 => ?_)
  · exact absurd c818 (by decide)
  · refine X.iload (q := 823) dL_law_821 rfl rfl ?_
    refine X.iload (q := 825) dL_law_823 rfl rfl ?_
    refine X.icmp_ne (tgt := 920) (q := 828) dL_law_825 (by decide) rfl (fun c825 => ?_) (fun c825 => ?_)
    · exact absurd rfl c825
    · refine X.aload_n (q := 829) dL_law_828 rfl rfl ?_
      refine X.c0 (w := .int (us u 7 + 1)) (q := 832) dL_law_829 (kL_doorTicks hR) MX4_doorTicks bw_333 rfl rfl (by decide) (congrArg Value.int h7) rfl ?_
      refine X.iload (q := 834) dL_law_832 rfl rfl ?_
      refine X.iconst (q := 835) dL_law_834 (v := 1) rfl rfl ?_
      refine X.iadd (q := 836) dL_law_835 rfl ?_
      refine X.icmp_ne (tgt := 920) (q := 839) dL_law_836 (by decide) rfl (fun c836 => ?_) (fun c836 => ?_)
      · exact absurd rfl c836
      · refine X.iload (q := 841) dL_law_839 rfl rfl ?_
        refine X.iload (q := 843) dL_law_841 rfl rfl ?_
        refine X.icmp_eq (tgt := 922) (q := 846) dL_law_843 (by decide) rfl (fun c843 => ?_) (fun c843 => ?_)
        · exact X.wide (by omega) (by omega) (k _ _ _ _)
        · exact absurd rfl c843
set_option maxHeartbeats 1000000 in
theorem s7_1 {q2 : Nat → Nat} (hR : RC σ 1 (tk u) q2) (hb : hasB (stp u) (us u 4) = false) (h0 : stp u = 0) (h4 : us (tk u) 4 = us u 4) (h8 : us (tk u) 8 = us u 8 + 1) (ht : tgt u (us u 2) = -1) (hce : ce + 800 ≤ mc) (hsl : sl + 4800 ≤ ms) (k : ∀ w11 w12 w15 w16 : Option Value, X l G TL_law 10 mc ms Q (ce) (sl) 922 [some (.ref (gb G)), w1, some (.ref (gB G + 0)), some (.int (nI Nf)), some (.int (nI P)), some (.int (nI i)), some (.int (nI (many u 2))), some (.int (stp u)), w8, w9, some (.int (nI (drw G i % 8))), w11, w12, some (.int (us u 7)), some (.int (us u 8)), w15, w16] [] (hof G σ) NC E) : X l G TL_law 10 mc ms Q (ce) (sl) 816 [some (.ref (gb G)), w1, some (.ref (gB G + 0)), some (.int (nI Nf)), some (.int (nI P)), some (.int (nI i)), some (.int (nI (many u 2))), some (.int (stp u)), w8, w9, some (.int (nI (drw G i % 8))), some (.int (us u 4)), some (.int (bI (hasB (stp u) (us u 4)))), some (.int (us u 7)), some (.int (us u 8)), some (.int (tgt u (us u 2))), some (.int (us (tk u) 4))] [] (hof G σ) NC E := by
  rw [hb, h4, ht]
  refine X.iload (q := 818) dL_law_816 rfl rfl ?_
  refine X.if_eq (tgt := 849) (q := 821) dL_law_818 (by decide) rfl (fun c818 => ?_) (fun c818 => ?_)
  · refine X.iload (q := 851) dL_law_849 rfl rfl ?_
    refine X.if_ne (tgt := 881) (q := 854) dL_law_851 (by decide) rfl (fun c851 => ?_) (fun c851 => ?_)
    · exact absurd h0 c851
    · refine X.iload (q := 856) dL_law_854 rfl rfl ?_
      refine X.iload (q := 858) dL_law_856 rfl rfl ?_
      refine X.icmp_ne (tgt := 920) (q := 861) dL_law_858 (by decide) rfl (fun c858 => ?_) (fun c858 => ?_)
      · exact absurd rfl c858
      · refine X.aload_n (q := 862) dL_law_861 rfl rfl ?_
        refine X.c0 (w := .int (us u 8 + 1)) (q := 865) dL_law_862 (kL_idleTicks hR) MX4_idleTicks bw_337 rfl rfl (by decide) (congrArg Value.int h8) rfl ?_
        refine X.iload (q := 867) dL_law_865 rfl rfl ?_
        refine X.iconst (q := 868) dL_law_867 (v := 1) rfl rfl ?_
        refine X.iadd (q := 869) dL_law_868 rfl ?_
        refine X.icmp_ne (tgt := 920) (q := 872) dL_law_869 (by decide) rfl (fun c869 => ?_) (fun c869 => ?_)
        · exact absurd rfl c869
        · refine X.iload (q := 874) dL_law_872 rfl rfl ?_
          refine X.iconst (q := 875) dL_law_874 (v := -1) rfl rfl ?_
          refine X.icmp_eq (tgt := 922) (q := 878) dL_law_875 (by decide) rfl (fun c875 => ?_) (fun c875 => ?_)
          · exact X.wide (by omega) (by omega) (k _ _ _ _)
          · exact absurd rfl c875
  · exact absurd rfl c818
set_option maxHeartbeats 1000000 in
theorem s7_2 {q2 : Nat → Nat} (hR : RC σ 1 (tk u) q2) (hb : hasB (stp u) (us u 4) = false) (h0 : ¬ stp u = 0) (ha : (if 0 ≤ us (tk u) 4 - us u 4 then us (tk u) 4 - us u 4 else 0 - (us (tk u) 4 - us u 4)) = 1) (hi9 : us u 4 < tgt u (us u 2) ↔ us u 4 < us (tk u) 4) (hce : ce + 800 ≤ mc) (hsl : sl + 4800 ≤ ms) (k : ∀ w11 w12 w15 w16 : Option Value, X l G TL_law 10 mc ms Q (ce) (sl) 922 [some (.ref (gb G)), w1, some (.ref (gB G + 0)), some (.int (nI Nf)), some (.int (nI P)), some (.int (nI i)), some (.int (nI (many u 2))), some (.int (stp u)), w8, w9, some (.int (nI (drw G i % 8))), w11, w12, some (.int (us u 7)), some (.int (us u 8)), w15, w16] [] (hof G σ) NC E) : X l G TL_law 10 mc ms Q (ce) (sl) 816 [some (.ref (gb G)), w1, some (.ref (gB G + 0)), some (.int (nI Nf)), some (.int (nI P)), some (.int (nI i)), some (.int (nI (many u 2))), some (.int (stp u)), w8, w9, some (.int (nI (drw G i % 8))), some (.int (us u 4)), some (.int (bI (hasB (stp u) (us u 4)))), some (.int (us u 7)), some (.int (us u 8)), some (.int (tgt u (us u 2))), some (.int (us (tk u) 4))] [] (hof G σ) NC E := by
  rw [hb]
  refine X.iload (q := 818) dL_law_816 rfl rfl ?_
  refine X.if_eq (tgt := 849) (q := 821) dL_law_818 (by decide) rfl (fun c818 => ?_) (fun c818 => ?_)
  · refine X.iload (q := 851) dL_law_849 rfl rfl ?_
    refine X.if_ne (tgt := 881) (q := 854) dL_law_851 (by decide) rfl (fun c851 => ?_) (fun c851 => ?_)
    · refine X.iload (q := 883) dL_law_881 rfl rfl ?_
      refine X.iload (q := 885) dL_law_883 rfl rfl ?_
      refine X.isub (q := 886) dL_law_885 rfl ?_
      refine X.mabs (q := 889) dL_law_886 bw_977 bw_410 bw_10 bw_411 rfl (by decide) (by omega) (by omega) rfl ?_
      rw [ha]
      refine X.iconst (q := 890) dL_law_889 (v := 1) rfl rfl ?_
      refine X.icmp_ne (tgt := 920) (q := 893) dL_law_890 (by decide) rfl (fun c890 => ?_) (fun c890 => ?_)
      · exact absurd rfl c890
      · refine X.iload (q := 895) dL_law_893 rfl rfl ?_
        refine X.iload (q := 897) dL_law_895 rfl rfl ?_
        refine X.icmp_le (tgt := 904) (q := 900) dL_law_897 (by decide) rfl (fun c897 => ?_) (fun c897 => ?_)
        · refine X.iconst (q := 905) dL_law_904 (v := 0) rfl rfl ?_
          refine X.iload (q := 907) dL_law_905 rfl rfl ?_
          refine X.iload (q := 909) dL_law_907 rfl rfl ?_
          refine X.icmp_le (tgt := 916) (q := 912) dL_law_909 (by decide) rfl (fun c909 => ?_) (fun c909 => ?_)
          · refine X.iconst (q := 917) dL_law_916 (v := 0) rfl rfl ?_
            refine X.icmp_eq (tgt := 922) (q := 920) dL_law_917 (by decide) rfl (fun c917 => ?_) (fun c917 => ?_)
            · exact X.wide (by omega) (by omega) (k _ _ _ _)
            · exact absurd rfl c917
          · exact absurd c897 (Int32.not_le.mpr (hi9.mpr (Int32.not_le.mp c909)))
        · refine X.iconst (q := 901) dL_law_900 (v := 1) rfl rfl ?_
          refine X.goto (tgt := 905) dL_law_901 (by decide) ?_
          refine X.iload (q := 907) dL_law_905 rfl rfl ?_
          refine X.iload (q := 909) dL_law_907 rfl rfl ?_
          refine X.icmp_le (tgt := 916) (q := 912) dL_law_909 (by decide) rfl (fun c909 => ?_) (fun c909 => ?_)
          · exact absurd c909 (Int32.not_le.mpr (hi9.mp (Int32.not_le.mp c897)))
          · refine X.iconst (q := 913) dL_law_912 (v := 1) rfl rfl ?_
            refine X.goto (tgt := 917) dL_law_913 (by decide) ?_
            refine X.icmp_eq (tgt := 922) (q := 920) dL_law_917 (by decide) rfl (fun c917 => ?_) (fun c917 => ?_)
            · exact X.wide (by omega) (by omega) (k _ _ _ _)
            · exact absurd rfl c917
    · exact absurd c851 h0
  · exact absurd rfl c818
set_option maxHeartbeats 1000000 in
theorem s7e {q2 : Nat → Nat} (hI : Iu u) (hR : RC σ 1 (tk u) q2) (hce : ce + 800 ≤ mc) (hsl : sl + 4800 ≤ ms) (k : ∀ w11 w12 w15 w16 : Option Value, X l G TL_law 10 mc ms Q (ce) (sl) 922 [some (.ref (gb G)), w1, some (.ref (gB G + 0)), some (.int (nI Nf)), some (.int (nI P)), some (.int (nI i)), some (.int (nI (many u 2))), some (.int (stp u)), w8, w9, some (.int (nI (drw G i % 8))), w11, w12, some (.int (us u 7)), some (.int (us u 8)), w15, w16] [] (hof G σ) NC E) : X l G TL_law 10 mc ms Q (ce) (sl) 816 [some (.ref (gb G)), w1, some (.ref (gB G + 0)), some (.int (nI Nf)), some (.int (nI P)), some (.int (nI i)), some (.int (nI (many u 2))), some (.int (stp u)), w8, w9, some (.int (nI (drw G i % 8))), some (.int (us u 4)), some (.int (bI (hasB (stp u) (us u 4)))), some (.int (us u 7)), some (.int (us u 8)), some (.int (tgt u (us u 2))), some (.int (us (tk u) 4))] [] (hof G σ) NC E := by
  rcases tcase hI with h | h | h
  · exact s7_0 hR h.1 h.2.1 h.2.2.1 h.2.2.2 hce hsl k
  · exact s7_1 hR h.1 h.2.1 h.2.2.1 h.2.2.2.1 h.2.2.2.2 hce hsl k
  · exact s7_2 hR h.1 h.2.1 h.2.2.1 h.2.2.2 hce hsl k
set_option maxHeartbeats 1000000 in
theorem s7d (hR : RC σ 1 u qq) (hW : WJ u) {r : Nat} {hv : Nat → Vw} (hH : CH σ r hv) (hT : uT u ≤ 100) (hce : ce + 900 ≤ mc) (hsl : sl + 5400 ≤ ms) (k : ∀ (τ : St) (q2 : Nat → Nat) (r2 : Nat) (hv2 : Nat → Vw) (w11 w12 w15 w16 : Option Value), RC τ 1 (tk u) q2 → CH τ r2 hv2 → X l G TL_law 10 mc ms Q (ce + 1) (sl + 6) 922 [some (.ref (gb G)), w1, some (.ref (gB G + 0)), some (.int (nI Nf)), some (.int (nI P)), some (.int (nI i)), some (.int (nI (many u 2))), some (.int (stp u)), w8, w9, some (.int (nI (drw G i % 8))), w11, w12, some (.int (us u 7)), some (.int (us u 8)), w15, w16] [] (hof G τ) NC E) : X l G TL_law 10 mc ms Q (ce) (sl) 809 [some (.ref (gb G)), w1, some (.ref (gB G + 0)), some (.int (nI Nf)), some (.int (nI P)), some (.int (nI i)), some (.int (nI (many u 2))), some (.int (stp u)), w8, w9, some (.int (nI (drw G i % 8))), some (.int (us u 4)), some (.int (bI (hasB (stp u) (us u 4)))), some (.int (us u 7)), some (.int (us u 8)), some (.int (tgt u (us u 2))), w16] [] (hof G σ) NC E := by
  have hx1 : okI 1 999 (1 : Int32) = true := by decide
  have hx2 : decide (us u 3 + 1 ≤ 999) = true := by
    rw [hW.1.T.1, nI_1]
    exact decide_eq_true (show nI (uT u + 1) ≤ nI 999 from (nI_leI (by omega) (by omega)).mpr (by omega))
  refine X.aload_n (q := 810) dL_law_809 rfl rfl ?_
  refine X.iconst (q := 811) dL_law_810 (v := 1) rfl rfl ?_
  refine X.cH (w := .int (us (tk u) 4)) (q := 814) dL_law_811 (kL_run hR hW.1 (by omega) hH (x := 1)) MX4_run bw_464 rfl rfl (by decide) (fun a9 τ9 h9 => by rw [h9.2, hx1, hx2]; rfl) rfl (fun τ2 hp2 => ?_)
  obtain ⟨hH2, qq2, hR2⟩ := hp2.1.2.1 (by rw [hx1, hx2]; rfl)
  refine X.istore (q := 816) dL_law_814 rfl rfl rfl ?_
  refine s7e hW.1 hR2 (by omega) (by omega) (fun w11 w12 w15 w16 => ?_)
  exact k _ _ _ _ _ _ _ _ hR2 hH2
end LAW
