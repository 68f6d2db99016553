section XT
variable {z b L c : Nat} {xs : Nat → Int} {S : St} {h : aH} {Q : aR → Prop} {i : Int}
theorem lc_open {tl : List aV} (J : LI z b L xs S c h) (h0 : 0 ≤ i) (h6 : i + 6 ≤ (L : Int)) (k : ∀ h' S' tl', LI z b L xs S' (c + 1) h' → amT mL_law 1797 (vR b :: vR z :: vR (z + 1899) :: vR (z + 1913) :: vI i :: tl') [] h' Q) : amT mL_law 148 (vR b :: vR z :: vR (z + 1899) :: vR (z + 1913) :: vI i :: tl) [] h Q := by
  obtain ⟨HS, D, M, R, so, sb, hb, hx, hr, hL, n1, n2⟩ := id J
  refine kr_aload_n (pc := 148) dL_law_148 rfl ?_
  refine kr_aload_n (pc := 149) dL_law_149 rfl ?_
  refine kr_iload (pc := 150) dL_law_150 rfl ?_
  refine kr_iconst (pc := 152) dL_law_152 (by decide) ?_
  refine kr_iadd (pc := 153) dL_law_153 ⟨by omega, by omega⟩ ?_
  refine kr_sald (pc := 154) dL_law_154 sb (by omega) (by omega) (hx _) ?_
  refine kr_aload_n (pc := 155) dL_law_155 rfl ?_
  refine kr_s3 (pc := 156) dL_law_156 rfl rfl (Nat.le_of_ble_eq_true rfl) rfl rfl rfl (l_open D HS so (fun h1 kk O V => ?_))
  show amT _ _ _ _ _ _
  obtain ⟨M1, R1, so1, sb1, hx1⟩ := J.mid O
  refine kr_istore (pc := 159) dL_law_159 (show 5 ≤ _ from by simp) (by decide) ?_
  simp only [stl, List.tail_cons, List.tail_nil]
  refine kr_aload_n (pc := 161) dL_law_161 rfl ?_
  refine kr_aload_n (pc := 162) dL_law_162 rfl ?_
  refine kr_iload (pc := 163) dL_law_163 rfl ?_
  refine kr_iconst (pc := 165) dL_law_165 (by decide) ?_
  refine kr_iadd (pc := 166) dL_law_166 ⟨by omega, by omega⟩ ?_
  refine kr_sald (pc := 167) dL_law_167 sb1 (by omega) (by omega) (hx1 _) ?_
  refine kr_v1 (pc := 168) dL_law_168 rfl rfl M1.1 (Nat.le_of_ble_eq_true rfl) rfl (mc_open M1 R1 HS (fun I' b' O2 => ?_))
  show amT _ _ _ _ _ _
  have M2 : MS (hI h1 I') (z + 1899) := M1
  have so2 : hsh (hI h1 I') (z + 1913) = (21, 1) := so1
  have J2 := J.next O O2 (okS_open HS _)
  refine kr_istore (pc := 171) dL_law_171 (show 6 ≤ _ from by simp) (by decide) ?_
  simp only [stl, List.tail_cons, List.tail_nil]
  refine kr_aload_n (pc := 173) dL_law_173 rfl ?_
  refine kr_v0 (pc := 174) dL_law_174 rfl rfl M2.1 (Nat.le_of_ble_eq_true rfl) (m_thrown M2 ?_)
  show amT _ _ _ _ _ _
  refine kr_iload (pc := 177) dL_law_177 rfl ?_
  refine kr_icmp_eq (pc := 179) dL_law_179 rfl (fun _ => ?_) (fun h => absurd (O2.2.1.trans O.2.1.symm) h)
  refine kr_iload (pc := 184) dL_law_184 rfl ?_
  refine kr_if_ne (pc := 186) dL_law_186 rfl (fun _ => ?_) (fun hk => ?_)
  · refine kr_goto (pc := 201) dL_law_201 rfl ?_
    exact k _ _ _ J2
  · have hr0 := O.2.1.symm.trans hk
    have hv2 : hiv (hI h1 I') (z + 1913) (0 : Int).toNat = _ := (congrFun (O2.2.2.2 (z + 1913) (Or.inr (Nat.le_refl _))) 0).trans (V hk)
    have eb := O2.2.2.1 hr0
    refine kr_aload_n (pc := 189) dL_law_189 rfl ?_
    refine kr_iconst (pc := 190) dL_law_190 (by decide) ?_
    refine kr_lald (pc := 191) dL_law_191 so2 (by decide) (by decide) hv2 ?_
    refine kr_iload (pc := 192) dL_law_192 rfl ?_
    refine kr_i2l (pc := 194) dL_law_194 ?_
    refine kr_lcmp (pc := 195) dL_law_195 ?_
    refine kr_if_eq (pc := 196) dL_law_196 rfl (fun _ => ?_) (fun h => absurd (by rw [eb]; exact lc_0) h)
    refine kr_goto (pc := 201) dL_law_201 rfl ?_
    exact k _ _ _ J2
theorem lc_add {tl : List aV} (J : LI z b L xs S c h) (h0 : 0 ≤ i) (h6 : i + 6 ≤ (L : Int)) (k : ∀ h' S' tl', LI z b L xs S' (c + 1) h' → amT mL_law 1797 (vR b :: vR z :: vR (z + 1899) :: vR (z + 1913) :: vI i :: tl') [] h' Q) : amT mL_law 204 (vR b :: vR z :: vR (z + 1899) :: vR (z + 1913) :: vI i :: tl) [] h Q := by
  obtain ⟨HS, D, M, R, so, sb, hb, hx, hr, hL, n1, n2⟩ := id J
  refine kr_aload_n (pc := 204) dL_law_204 rfl ?_
  refine kr_aload_n (pc := 205) dL_law_205 rfl ?_
  refine kr_iload (pc := 206) dL_law_206 rfl ?_
  refine kr_iconst (pc := 208) dL_law_208 (by decide) ?_
  refine kr_iadd (pc := 209) dL_law_209 ⟨by omega, by omega⟩ ?_
  refine kr_sald (pc := 210) dL_law_210 sb (by omega) (by omega) (hx _) ?_
  refine kr_aload_n (pc := 211) dL_law_211 rfl ?_
  refine kr_iload (pc := 212) dL_law_212 rfl ?_
  refine kr_iconst (pc := 214) dL_law_214 (by decide) ?_
  refine kr_iadd (pc := 215) dL_law_215 ⟨by omega, by omega⟩ ?_
  refine kr_sald (pc := 216) dL_law_216 sb (by omega) (by omega) (hx _) ?_
  refine kr_aload_n (pc := 217) dL_law_217 rfl ?_
  refine kr_iload (pc := 218) dL_law_218 rfl ?_
  refine kr_iconst (pc := 220) dL_law_220 (by decide) ?_
  refine kr_iadd (pc := 221) dL_law_221 ⟨by omega, by omega⟩ ?_
  refine kr_sald (pc := 222) dL_law_222 sb (by omega) (by omega) (hx _) ?_
  refine kr_aload_n (pc := 223) dL_law_223 rfl ?_
  refine kr_iload (pc := 224) dL_law_224 rfl ?_
  refine kr_iconst (pc := 226) dL_law_226 (by decide) ?_
  refine kr_iadd (pc := 227) dL_law_227 ⟨by omega, by omega⟩ ?_
  refine kr_sald (pc := 228) dL_law_228 sb (by omega) (by omega) (hx _) ?_
  refine kr_aload_n (pc := 229) dL_law_229 rfl ?_
  refine kr_s6 (pc := 230) dL_law_230 rfl rfl (Nat.le_of_ble_eq_true rfl) rfl rfl rfl rfl rfl rfl (l_add D HS so (fun h1 kk O V => ?_))
  show amT _ _ _ _ _ _
  obtain ⟨M1, R1, so1, sb1, hx1⟩ := J.mid O
  refine kr_istore (pc := 233) dL_law_233 (show 5 ≤ _ from by simp) (by decide) ?_
  simp only [stl, List.tail_cons, List.tail_nil]
  refine kr_aload_n (pc := 235) dL_law_235 rfl ?_
  refine kr_aload_n (pc := 236) dL_law_236 rfl ?_
  refine kr_iload (pc := 237) dL_law_237 rfl ?_
  refine kr_iconst (pc := 239) dL_law_239 (by decide) ?_
  refine kr_iadd (pc := 240) dL_law_240 ⟨by omega, by omega⟩ ?_
  refine kr_sald (pc := 241) dL_law_241 sb1 (by omega) (by omega) (hx1 _) ?_
  refine kr_aload_n (pc := 242) dL_law_242 rfl ?_
  refine kr_iload (pc := 243) dL_law_243 rfl ?_
  refine kr_iconst (pc := 245) dL_law_245 (by decide) ?_
  refine kr_iadd (pc := 246) dL_law_246 ⟨by omega, by omega⟩ ?_
  refine kr_sald (pc := 247) dL_law_247 sb1 (by omega) (by omega) (hx1 _) ?_
  refine kr_aload_n (pc := 248) dL_law_248 rfl ?_
  refine kr_iload (pc := 249) dL_law_249 rfl ?_
  refine kr_iconst (pc := 251) dL_law_251 (by decide) ?_
  refine kr_iadd (pc := 252) dL_law_252 ⟨by omega, by omega⟩ ?_
  refine kr_sald (pc := 253) dL_law_253 sb1 (by omega) (by omega) (hx1 _) ?_
  refine kr_aload_n (pc := 254) dL_law_254 rfl ?_
  refine kr_iload (pc := 255) dL_law_255 rfl ?_
  refine kr_iconst (pc := 257) dL_law_257 (by decide) ?_
  refine kr_iadd (pc := 258) dL_law_258 ⟨by omega, by omega⟩ ?_
  refine kr_sald (pc := 259) dL_law_259 sb1 (by omega) (by omega) (hx1 _) ?_
  refine kr_v4 (pc := 260) dL_law_260 rfl rfl M1.1 (Nat.le_of_ble_eq_true rfl) rfl rfl rfl rfl (mc_add M1 R1 HS (fun I' b' O2 => ?_))
  show amT _ _ _ _ _ _
  have M2 : MS (hI h1 I') (z + 1899) := M1
  have so2 : hsh (hI h1 I') (z + 1913) = (21, 1) := so1
  have J2 := J.next O O2 (okS_add HS _ _ _ _)
  refine kr_istore (pc := 263) dL_law_263 (show 6 ≤ _ from by simp) (by decide) ?_
  simp only [stl, List.tail_cons, List.tail_nil]
  refine kr_aload_n (pc := 265) dL_law_265 rfl ?_
  refine kr_v0 (pc := 266) dL_law_266 rfl rfl M2.1 (Nat.le_of_ble_eq_true rfl) (m_thrown M2 ?_)
  show amT _ _ _ _ _ _
  refine kr_iload (pc := 269) dL_law_269 rfl ?_
  refine kr_icmp_eq (pc := 271) dL_law_271 rfl (fun _ => ?_) (fun h => absurd (O2.2.1.trans O.2.1.symm) h)
  refine kr_iload (pc := 276) dL_law_276 rfl ?_
  refine kr_if_ne (pc := 278) dL_law_278 rfl (fun _ => ?_) (fun hk => ?_)
  · refine kr_goto (pc := 293) dL_law_293 rfl ?_
    exact k _ _ _ J2
  · have hr0 := O.2.1.symm.trans hk
    have hv2 : hiv (hI h1 I') (z + 1913) (0 : Int).toNat = _ := (congrFun (O2.2.2.2 (z + 1913) (Or.inr (Nat.le_refl _))) 0).trans (V hk)
    have eb := O2.2.2.1 hr0
    refine kr_aload_n (pc := 281) dL_law_281 rfl ?_
    refine kr_iconst (pc := 282) dL_law_282 (by decide) ?_
    refine kr_lald (pc := 283) dL_law_283 so2 (by decide) (by decide) hv2 ?_
    refine kr_iload (pc := 284) dL_law_284 rfl ?_
    refine kr_i2l (pc := 286) dL_law_286 ?_
    refine kr_lcmp (pc := 287) dL_law_287 ?_
    refine kr_if_eq (pc := 288) dL_law_288 rfl (fun _ => ?_) (fun h => absurd (by rw [eb]; exact lc_0) h)
    refine kr_goto (pc := 293) dL_law_293 rfl ?_
    exact k _ _ _ J2
theorem lc_remove {tl : List aV} (J : LI z b L xs S c h) (h0 : 0 ≤ i) (h6 : i + 6 ≤ (L : Int)) (k : ∀ h' S' tl', LI z b L xs S' (c + 1) h' → amT mL_law 1797 (vR b :: vR z :: vR (z + 1899) :: vR (z + 1913) :: vI i :: tl') [] h' Q) : amT mL_law 296 (vR b :: vR z :: vR (z + 1899) :: vR (z + 1913) :: vI i :: tl) [] h Q := by
  obtain ⟨HS, D, M, R, so, sb, hb, hx, hr, hL, n1, n2⟩ := id J
  refine kr_aload_n (pc := 296) dL_law_296 rfl ?_
  refine kr_aload_n (pc := 297) dL_law_297 rfl ?_
  refine kr_iload (pc := 298) dL_law_298 rfl ?_
  refine kr_iconst (pc := 300) dL_law_300 (by decide) ?_
  refine kr_iadd (pc := 301) dL_law_301 ⟨by omega, by omega⟩ ?_
  refine kr_sald (pc := 302) dL_law_302 sb (by omega) (by omega) (hx _) ?_
  refine kr_aload_n (pc := 303) dL_law_303 rfl ?_
  refine kr_iload (pc := 304) dL_law_304 rfl ?_
  refine kr_iconst (pc := 306) dL_law_306 (by decide) ?_
  refine kr_iadd (pc := 307) dL_law_307 ⟨by omega, by omega⟩ ?_
  refine kr_sald (pc := 308) dL_law_308 sb (by omega) (by omega) (hx _) ?_
  refine kr_aload_n (pc := 309) dL_law_309 rfl ?_
  refine kr_iload (pc := 310) dL_law_310 rfl ?_
  refine kr_iconst (pc := 312) dL_law_312 (by decide) ?_
  refine kr_iadd (pc := 313) dL_law_313 ⟨by omega, by omega⟩ ?_
  refine kr_sald (pc := 314) dL_law_314 sb (by omega) (by omega) (hx _) ?_
  refine kr_aload_n (pc := 315) dL_law_315 rfl ?_
  refine kr_s5 (pc := 316) dL_law_316 rfl rfl (Nat.le_of_ble_eq_true rfl) rfl rfl rfl rfl rfl (l_remove D HS so (fun h1 kk O V => ?_))
  show amT _ _ _ _ _ _
  obtain ⟨M1, R1, so1, sb1, hx1⟩ := J.mid O
  refine kr_istore (pc := 319) dL_law_319 (show 5 ≤ _ from by simp) (by decide) ?_
  simp only [stl, List.tail_cons, List.tail_nil]
  refine kr_aload_n (pc := 321) dL_law_321 rfl ?_
  refine kr_aload_n (pc := 322) dL_law_322 rfl ?_
  refine kr_iload (pc := 323) dL_law_323 rfl ?_
  refine kr_iconst (pc := 325) dL_law_325 (by decide) ?_
  refine kr_iadd (pc := 326) dL_law_326 ⟨by omega, by omega⟩ ?_
  refine kr_sald (pc := 327) dL_law_327 sb1 (by omega) (by omega) (hx1 _) ?_
  refine kr_aload_n (pc := 328) dL_law_328 rfl ?_
  refine kr_iload (pc := 329) dL_law_329 rfl ?_
  refine kr_iconst (pc := 331) dL_law_331 (by decide) ?_
  refine kr_iadd (pc := 332) dL_law_332 ⟨by omega, by omega⟩ ?_
  refine kr_sald (pc := 333) dL_law_333 sb1 (by omega) (by omega) (hx1 _) ?_
  refine kr_aload_n (pc := 334) dL_law_334 rfl ?_
  refine kr_iload (pc := 335) dL_law_335 rfl ?_
  refine kr_iconst (pc := 337) dL_law_337 (by decide) ?_
  refine kr_iadd (pc := 338) dL_law_338 ⟨by omega, by omega⟩ ?_
  refine kr_sald (pc := 339) dL_law_339 sb1 (by omega) (by omega) (hx1 _) ?_
  refine kr_v3 (pc := 340) dL_law_340 rfl rfl M1.1 (Nat.le_of_ble_eq_true rfl) rfl rfl rfl (mc_remove M1 R1 HS (fun I' b' O2 => ?_))
  show amT _ _ _ _ _ _
  have M2 : MS (hI h1 I') (z + 1899) := M1
  have so2 : hsh (hI h1 I') (z + 1913) = (21, 1) := so1
  have J2 := J.next O O2 (okS_remove HS _ _ _)
  refine kr_istore (pc := 343) dL_law_343 (show 6 ≤ _ from by simp) (by decide) ?_
  simp only [stl, List.tail_cons, List.tail_nil]
  refine kr_aload_n (pc := 345) dL_law_345 rfl ?_
  refine kr_v0 (pc := 346) dL_law_346 rfl rfl M2.1 (Nat.le_of_ble_eq_true rfl) (m_thrown M2 ?_)
  show amT _ _ _ _ _ _
  refine kr_iload (pc := 349) dL_law_349 rfl ?_
  refine kr_icmp_eq (pc := 351) dL_law_351 rfl (fun _ => ?_) (fun h => absurd (O2.2.1.trans O.2.1.symm) h)
  refine kr_iload (pc := 356) dL_law_356 rfl ?_
  refine kr_if_ne (pc := 358) dL_law_358 rfl (fun _ => ?_) (fun hk => ?_)
  · refine kr_goto (pc := 373) dL_law_373 rfl ?_
    exact k _ _ _ J2
  · have hr0 := O.2.1.symm.trans hk
    have hv2 : hiv (hI h1 I') (z + 1913) (0 : Int).toNat = _ := (congrFun (O2.2.2.2 (z + 1913) (Or.inr (Nat.le_refl _))) 0).trans (V hk)
    have eb := O2.2.2.1 hr0
    refine kr_aload_n (pc := 361) dL_law_361 rfl ?_
    refine kr_iconst (pc := 362) dL_law_362 (by decide) ?_
    refine kr_lald (pc := 363) dL_law_363 so2 (by decide) (by decide) hv2 ?_
    refine kr_iload (pc := 364) dL_law_364 rfl ?_
    refine kr_i2l (pc := 366) dL_law_366 ?_
    refine kr_lcmp (pc := 367) dL_law_367 ?_
    refine kr_if_eq (pc := 368) dL_law_368 rfl (fun _ => ?_) (fun h => absurd (by rw [eb]; exact lc_0) h)
    refine kr_goto (pc := 373) dL_law_373 rfl ?_
    exact k _ _ _ J2
theorem lc_move {tl : List aV} (J : LI z b L xs S c h) (h0 : 0 ≤ i) (h6 : i + 6 ≤ (L : Int)) (k : ∀ h' S' tl', LI z b L xs S' (c + 1) h' → amT mL_law 1797 (vR b :: vR z :: vR (z + 1899) :: vR (z + 1913) :: vI i :: tl') [] h' Q) : amT mL_law 376 (vR b :: vR z :: vR (z + 1899) :: vR (z + 1913) :: vI i :: tl) [] h Q := by
  obtain ⟨HS, D, M, R, so, sb, hb, hx, hr, hL, n1, n2⟩ := id J
  refine kr_aload_n (pc := 376) dL_law_376 rfl ?_
  refine kr_aload_n (pc := 377) dL_law_377 rfl ?_
  refine kr_iload (pc := 378) dL_law_378 rfl ?_
  refine kr_iconst (pc := 380) dL_law_380 (by decide) ?_
  refine kr_iadd (pc := 381) dL_law_381 ⟨by omega, by omega⟩ ?_
  refine kr_sald (pc := 382) dL_law_382 sb (by omega) (by omega) (hx _) ?_
  refine kr_aload_n (pc := 383) dL_law_383 rfl ?_
  refine kr_iload (pc := 384) dL_law_384 rfl ?_
  refine kr_iconst (pc := 386) dL_law_386 (by decide) ?_
  refine kr_iadd (pc := 387) dL_law_387 ⟨by omega, by omega⟩ ?_
  refine kr_sald (pc := 388) dL_law_388 sb (by omega) (by omega) (hx _) ?_
  refine kr_aload_n (pc := 389) dL_law_389 rfl ?_
  refine kr_iload (pc := 390) dL_law_390 rfl ?_
  refine kr_iconst (pc := 392) dL_law_392 (by decide) ?_
  refine kr_iadd (pc := 393) dL_law_393 ⟨by omega, by omega⟩ ?_
  refine kr_sald (pc := 394) dL_law_394 sb (by omega) (by omega) (hx _) ?_
  refine kr_aload_n (pc := 395) dL_law_395 rfl ?_
  refine kr_iload (pc := 396) dL_law_396 rfl ?_
  refine kr_iconst (pc := 398) dL_law_398 (by decide) ?_
  refine kr_iadd (pc := 399) dL_law_399 ⟨by omega, by omega⟩ ?_
  refine kr_sald (pc := 400) dL_law_400 sb (by omega) (by omega) (hx _) ?_
  refine kr_aload_n (pc := 401) dL_law_401 rfl ?_
  refine kr_s6 (pc := 402) dL_law_402 rfl rfl (Nat.le_of_ble_eq_true rfl) rfl rfl rfl rfl rfl rfl (l_move D HS so (fun h1 kk O V => ?_))
  show amT _ _ _ _ _ _
  obtain ⟨M1, R1, so1, sb1, hx1⟩ := J.mid O
  refine kr_istore (pc := 405) dL_law_405 (show 5 ≤ _ from by simp) (by decide) ?_
  simp only [stl, List.tail_cons, List.tail_nil]
  refine kr_aload_n (pc := 407) dL_law_407 rfl ?_
  refine kr_aload_n (pc := 408) dL_law_408 rfl ?_
  refine kr_iload (pc := 409) dL_law_409 rfl ?_
  refine kr_iconst (pc := 411) dL_law_411 (by decide) ?_
  refine kr_iadd (pc := 412) dL_law_412 ⟨by omega, by omega⟩ ?_
  refine kr_sald (pc := 413) dL_law_413 sb1 (by omega) (by omega) (hx1 _) ?_
  refine kr_aload_n (pc := 414) dL_law_414 rfl ?_
  refine kr_iload (pc := 415) dL_law_415 rfl ?_
  refine kr_iconst (pc := 417) dL_law_417 (by decide) ?_
  refine kr_iadd (pc := 418) dL_law_418 ⟨by omega, by omega⟩ ?_
  refine kr_sald (pc := 419) dL_law_419 sb1 (by omega) (by omega) (hx1 _) ?_
  refine kr_aload_n (pc := 420) dL_law_420 rfl ?_
  refine kr_iload (pc := 421) dL_law_421 rfl ?_
  refine kr_iconst (pc := 423) dL_law_423 (by decide) ?_
  refine kr_iadd (pc := 424) dL_law_424 ⟨by omega, by omega⟩ ?_
  refine kr_sald (pc := 425) dL_law_425 sb1 (by omega) (by omega) (hx1 _) ?_
  refine kr_aload_n (pc := 426) dL_law_426 rfl ?_
  refine kr_iload (pc := 427) dL_law_427 rfl ?_
  refine kr_iconst (pc := 429) dL_law_429 (by decide) ?_
  refine kr_iadd (pc := 430) dL_law_430 ⟨by omega, by omega⟩ ?_
  refine kr_sald (pc := 431) dL_law_431 sb1 (by omega) (by omega) (hx1 _) ?_
  refine kr_v4 (pc := 432) dL_law_432 rfl rfl M1.1 (Nat.le_of_ble_eq_true rfl) rfl rfl rfl rfl (mc_move M1 R1 HS (fun I' b' O2 => ?_))
  show amT _ _ _ _ _ _
  have M2 : MS (hI h1 I') (z + 1899) := M1
  have so2 : hsh (hI h1 I') (z + 1913) = (21, 1) := so1
  have J2 := J.next O O2 (okS_move HS _ _ _ _)
  refine kr_istore (pc := 435) dL_law_435 (show 6 ≤ _ from by simp) (by decide) ?_
  simp only [stl, List.tail_cons, List.tail_nil]
  refine kr_aload_n (pc := 437) dL_law_437 rfl ?_
  refine kr_v0 (pc := 438) dL_law_438 rfl rfl M2.1 (Nat.le_of_ble_eq_true rfl) (m_thrown M2 ?_)
  show amT _ _ _ _ _ _
  refine kr_iload (pc := 441) dL_law_441 rfl ?_
  refine kr_icmp_eq (pc := 443) dL_law_443 rfl (fun _ => ?_) (fun h => absurd (O2.2.1.trans O.2.1.symm) h)
  refine kr_iload (pc := 448) dL_law_448 rfl ?_
  refine kr_if_ne (pc := 450) dL_law_450 rfl (fun _ => ?_) (fun hk => ?_)
  · refine kr_goto (pc := 465) dL_law_465 rfl ?_
    exact k _ _ _ J2
  · have hr0 := O.2.1.symm.trans hk
    have hv2 : hiv (hI h1 I') (z + 1913) (0 : Int).toNat = _ := (congrFun (O2.2.2.2 (z + 1913) (Or.inr (Nat.le_refl _))) 0).trans (V hk)
    have eb := O2.2.2.1 hr0
    refine kr_aload_n (pc := 453) dL_law_453 rfl ?_
    refine kr_iconst (pc := 454) dL_law_454 (by decide) ?_
    refine kr_lald (pc := 455) dL_law_455 so2 (by decide) (by decide) hv2 ?_
    refine kr_iload (pc := 456) dL_law_456 rfl ?_
    refine kr_i2l (pc := 458) dL_law_458 ?_
    refine kr_lcmp (pc := 459) dL_law_459 ?_
    refine kr_if_eq (pc := 460) dL_law_460 rfl (fun _ => ?_) (fun h => absurd (by rw [eb]; exact lc_0) h)
    refine kr_goto (pc := 465) dL_law_465 rfl ?_
    exact k _ _ _ J2
theorem lc_set {tl : List aV} (J : LI z b L xs S c h) (h0 : 0 ≤ i) (h6 : i + 6 ≤ (L : Int)) (k : ∀ h' S' tl', LI z b L xs S' (c + 1) h' → amT mL_law 1797 (vR b :: vR z :: vR (z + 1899) :: vR (z + 1913) :: vI i :: tl') [] h' Q) : amT mL_law 468 (vR b :: vR z :: vR (z + 1899) :: vR (z + 1913) :: vI i :: tl) [] h Q := by
  obtain ⟨HS, D, M, R, so, sb, hb, hx, hr, hL, n1, n2⟩ := id J
  refine kr_aload_n (pc := 468) dL_law_468 rfl ?_
  refine kr_aload_n (pc := 469) dL_law_469 rfl ?_
  refine kr_iload (pc := 470) dL_law_470 rfl ?_
  refine kr_iconst (pc := 472) dL_law_472 (by decide) ?_
  refine kr_iadd (pc := 473) dL_law_473 ⟨by omega, by omega⟩ ?_
  refine kr_sald (pc := 474) dL_law_474 sb (by omega) (by omega) (hx _) ?_
  refine kr_aload_n (pc := 475) dL_law_475 rfl ?_
  refine kr_iload (pc := 476) dL_law_476 rfl ?_
  refine kr_iconst (pc := 478) dL_law_478 (by decide) ?_
  refine kr_iadd (pc := 479) dL_law_479 ⟨by omega, by omega⟩ ?_
  refine kr_sald (pc := 480) dL_law_480 sb (by omega) (by omega) (hx _) ?_
  refine kr_aload_n (pc := 481) dL_law_481 rfl ?_
  refine kr_iload (pc := 482) dL_law_482 rfl ?_
  refine kr_iconst (pc := 484) dL_law_484 (by decide) ?_
  refine kr_iadd (pc := 485) dL_law_485 ⟨by omega, by omega⟩ ?_
  refine kr_sald (pc := 486) dL_law_486 sb (by omega) (by omega) (hx _) ?_
  refine kr_aload_n (pc := 487) dL_law_487 rfl ?_
  refine kr_iload (pc := 488) dL_law_488 rfl ?_
  refine kr_iconst (pc := 490) dL_law_490 (by decide) ?_
  refine kr_iadd (pc := 491) dL_law_491 ⟨by omega, by omega⟩ ?_
  refine kr_sald (pc := 492) dL_law_492 sb (by omega) (by omega) (hx _) ?_
  refine kr_aload_n (pc := 493) dL_law_493 rfl ?_
  refine kr_iload (pc := 494) dL_law_494 rfl ?_
  refine kr_iconst (pc := 496) dL_law_496 (by decide) ?_
  refine kr_iadd (pc := 497) dL_law_497 ⟨by omega, by omega⟩ ?_
  refine kr_sald (pc := 498) dL_law_498 sb (by omega) (by omega) (hx _) ?_
  refine kr_aload_n (pc := 499) dL_law_499 rfl ?_
  refine kr_s7 (pc := 500) dL_law_500 rfl rfl (Nat.le_of_ble_eq_true rfl) rfl rfl rfl rfl rfl rfl rfl (l_set D HS so (fun h1 kk O V => ?_))
  show amT _ _ _ _ _ _
  obtain ⟨M1, R1, so1, sb1, hx1⟩ := J.mid O
  refine kr_istore (pc := 503) dL_law_503 (show 5 ≤ _ from by simp) (by decide) ?_
  simp only [stl, List.tail_cons, List.tail_nil]
  refine kr_aload_n (pc := 505) dL_law_505 rfl ?_
  refine kr_aload_n (pc := 506) dL_law_506 rfl ?_
  refine kr_iload (pc := 507) dL_law_507 rfl ?_
  refine kr_iconst (pc := 509) dL_law_509 (by decide) ?_
  refine kr_iadd (pc := 510) dL_law_510 ⟨by omega, by omega⟩ ?_
  refine kr_sald (pc := 511) dL_law_511 sb1 (by omega) (by omega) (hx1 _) ?_
  refine kr_aload_n (pc := 512) dL_law_512 rfl ?_
  refine kr_iload (pc := 513) dL_law_513 rfl ?_
  refine kr_iconst (pc := 515) dL_law_515 (by decide) ?_
  refine kr_iadd (pc := 516) dL_law_516 ⟨by omega, by omega⟩ ?_
  refine kr_sald (pc := 517) dL_law_517 sb1 (by omega) (by omega) (hx1 _) ?_
  refine kr_aload_n (pc := 518) dL_law_518 rfl ?_
  refine kr_iload (pc := 519) dL_law_519 rfl ?_
  refine kr_iconst (pc := 521) dL_law_521 (by decide) ?_
  refine kr_iadd (pc := 522) dL_law_522 ⟨by omega, by omega⟩ ?_
  refine kr_sald (pc := 523) dL_law_523 sb1 (by omega) (by omega) (hx1 _) ?_
  refine kr_aload_n (pc := 524) dL_law_524 rfl ?_
  refine kr_iload (pc := 525) dL_law_525 rfl ?_
  refine kr_iconst (pc := 527) dL_law_527 (by decide) ?_
  refine kr_iadd (pc := 528) dL_law_528 ⟨by omega, by omega⟩ ?_
  refine kr_sald (pc := 529) dL_law_529 sb1 (by omega) (by omega) (hx1 _) ?_
  refine kr_aload_n (pc := 530) dL_law_530 rfl ?_
  refine kr_iload (pc := 531) dL_law_531 rfl ?_
  refine kr_iconst (pc := 533) dL_law_533 (by decide) ?_
  refine kr_iadd (pc := 534) dL_law_534 ⟨by omega, by omega⟩ ?_
  refine kr_sald (pc := 535) dL_law_535 sb1 (by omega) (by omega) (hx1 _) ?_
  refine kr_v5 (pc := 536) dL_law_536 rfl rfl M1.1 (Nat.le_of_ble_eq_true rfl) rfl rfl rfl rfl rfl (mc_set M1 R1 HS (fun I' b' O2 => ?_))
  show amT _ _ _ _ _ _
  have M2 : MS (hI h1 I') (z + 1899) := M1
  have so2 : hsh (hI h1 I') (z + 1913) = (21, 1) := so1
  have J2 := J.next O O2 (okS_set HS _ _ _ _ _)
  refine kr_istore (pc := 539) dL_law_539 (show 6 ≤ _ from by simp) (by decide) ?_
  simp only [stl, List.tail_cons, List.tail_nil]
  refine kr_aload_n (pc := 541) dL_law_541 rfl ?_
  refine kr_v0 (pc := 542) dL_law_542 rfl rfl M2.1 (Nat.le_of_ble_eq_true rfl) (m_thrown M2 ?_)
  show amT _ _ _ _ _ _
  refine kr_iload (pc := 545) dL_law_545 rfl ?_
  refine kr_icmp_eq (pc := 547) dL_law_547 rfl (fun _ => ?_) (fun h => absurd (O2.2.1.trans O.2.1.symm) h)
  refine kr_iload (pc := 552) dL_law_552 rfl ?_
  refine kr_if_ne (pc := 554) dL_law_554 rfl (fun _ => ?_) (fun hk => ?_)
  · refine kr_goto (pc := 569) dL_law_569 rfl ?_
    exact k _ _ _ J2
  · have hr0 := O.2.1.symm.trans hk
    have hv2 : hiv (hI h1 I') (z + 1913) (0 : Int).toNat = _ := (congrFun (O2.2.2.2 (z + 1913) (Or.inr (Nat.le_refl _))) 0).trans (V hk)
    have eb := O2.2.2.1 hr0
    refine kr_aload_n (pc := 557) dL_law_557 rfl ?_
    refine kr_iconst (pc := 558) dL_law_558 (by decide) ?_
    refine kr_lald (pc := 559) dL_law_559 so2 (by decide) (by decide) hv2 ?_
    refine kr_iload (pc := 560) dL_law_560 rfl ?_
    refine kr_i2l (pc := 562) dL_law_562 ?_
    refine kr_lcmp (pc := 563) dL_law_563 ?_
    refine kr_if_eq (pc := 564) dL_law_564 rfl (fun _ => ?_) (fun h => absurd (by rw [eb]; exact lc_0) h)
    refine kr_goto (pc := 569) dL_law_569 rfl ?_
    exact k _ _ _ J2
theorem lc_join {tl : List aV} (J : LI z b L xs S c h) (h0 : 0 ≤ i) (h6 : i + 6 ≤ (L : Int)) (k : ∀ h' S' tl', LI z b L xs S' (c + 1) h' → amT mL_law 1797 (vR b :: vR z :: vR (z + 1899) :: vR (z + 1913) :: vI i :: tl') [] h' Q) : amT mL_law 572 (vR b :: vR z :: vR (z + 1899) :: vR (z + 1913) :: vI i :: tl) [] h Q := by
  obtain ⟨HS, D, M, R, so, sb, hb, hx, hr, hL, n1, n2⟩ := id J
  refine kr_aload_n (pc := 572) dL_law_572 rfl ?_
  refine kr_aload_n (pc := 573) dL_law_573 rfl ?_
  refine kr_iload (pc := 574) dL_law_574 rfl ?_
  refine kr_iconst (pc := 576) dL_law_576 (by decide) ?_
  refine kr_iadd (pc := 577) dL_law_577 ⟨by omega, by omega⟩ ?_
  refine kr_sald (pc := 578) dL_law_578 sb (by omega) (by omega) (hx _) ?_
  refine kr_aload_n (pc := 579) dL_law_579 rfl ?_
  refine kr_iload (pc := 580) dL_law_580 rfl ?_
  refine kr_iconst (pc := 582) dL_law_582 (by decide) ?_
  refine kr_iadd (pc := 583) dL_law_583 ⟨by omega, by omega⟩ ?_
  refine kr_sald (pc := 584) dL_law_584 sb (by omega) (by omega) (hx _) ?_
  refine kr_aload_n (pc := 585) dL_law_585 rfl ?_
  refine kr_iload (pc := 586) dL_law_586 rfl ?_
  refine kr_iconst (pc := 588) dL_law_588 (by decide) ?_
  refine kr_iadd (pc := 589) dL_law_589 ⟨by omega, by omega⟩ ?_
  refine kr_sald (pc := 590) dL_law_590 sb (by omega) (by omega) (hx _) ?_
  refine kr_aload_n (pc := 591) dL_law_591 rfl ?_
  refine kr_iload (pc := 592) dL_law_592 rfl ?_
  refine kr_iconst (pc := 594) dL_law_594 (by decide) ?_
  refine kr_iadd (pc := 595) dL_law_595 ⟨by omega, by omega⟩ ?_
  refine kr_sald (pc := 596) dL_law_596 sb (by omega) (by omega) (hx _) ?_
  refine kr_aload_n (pc := 597) dL_law_597 rfl ?_
  refine kr_s6 (pc := 598) dL_law_598 rfl rfl (Nat.le_of_ble_eq_true rfl) rfl rfl rfl rfl rfl rfl (l_join D HS so (fun h1 kk O V => ?_))
  show amT _ _ _ _ _ _
  obtain ⟨M1, R1, so1, sb1, hx1⟩ := J.mid O
  refine kr_istore (pc := 601) dL_law_601 (show 5 ≤ _ from by simp) (by decide) ?_
  simp only [stl, List.tail_cons, List.tail_nil]
  refine kr_aload_n (pc := 603) dL_law_603 rfl ?_
  refine kr_aload_n (pc := 604) dL_law_604 rfl ?_
  refine kr_iload (pc := 605) dL_law_605 rfl ?_
  refine kr_iconst (pc := 607) dL_law_607 (by decide) ?_
  refine kr_iadd (pc := 608) dL_law_608 ⟨by omega, by omega⟩ ?_
  refine kr_sald (pc := 609) dL_law_609 sb1 (by omega) (by omega) (hx1 _) ?_
  refine kr_aload_n (pc := 610) dL_law_610 rfl ?_
  refine kr_iload (pc := 611) dL_law_611 rfl ?_
  refine kr_iconst (pc := 613) dL_law_613 (by decide) ?_
  refine kr_iadd (pc := 614) dL_law_614 ⟨by omega, by omega⟩ ?_
  refine kr_sald (pc := 615) dL_law_615 sb1 (by omega) (by omega) (hx1 _) ?_
  refine kr_aload_n (pc := 616) dL_law_616 rfl ?_
  refine kr_iload (pc := 617) dL_law_617 rfl ?_
  refine kr_iconst (pc := 619) dL_law_619 (by decide) ?_
  refine kr_iadd (pc := 620) dL_law_620 ⟨by omega, by omega⟩ ?_
  refine kr_sald (pc := 621) dL_law_621 sb1 (by omega) (by omega) (hx1 _) ?_
  refine kr_aload_n (pc := 622) dL_law_622 rfl ?_
  refine kr_iload (pc := 623) dL_law_623 rfl ?_
  refine kr_iconst (pc := 625) dL_law_625 (by decide) ?_
  refine kr_iadd (pc := 626) dL_law_626 ⟨by omega, by omega⟩ ?_
  refine kr_sald (pc := 627) dL_law_627 sb1 (by omega) (by omega) (hx1 _) ?_
  refine kr_v4 (pc := 628) dL_law_628 rfl rfl M1.1 (Nat.le_of_ble_eq_true rfl) rfl rfl rfl rfl (mc_join M1 R1 HS (fun I' b' O2 => ?_))
  show amT _ _ _ _ _ _
  have M2 : MS (hI h1 I') (z + 1899) := M1
  have so2 : hsh (hI h1 I') (z + 1913) = (21, 1) := so1
  have J2 := J.next O O2 (okS_join HS _ _ _ _)
  refine kr_istore (pc := 631) dL_law_631 (show 6 ≤ _ from by simp) (by decide) ?_
  simp only [stl, List.tail_cons, List.tail_nil]
  refine kr_aload_n (pc := 633) dL_law_633 rfl ?_
  refine kr_v0 (pc := 634) dL_law_634 rfl rfl M2.1 (Nat.le_of_ble_eq_true rfl) (m_thrown M2 ?_)
  show amT _ _ _ _ _ _
  refine kr_iload (pc := 637) dL_law_637 rfl ?_
  refine kr_icmp_eq (pc := 639) dL_law_639 rfl (fun _ => ?_) (fun h => absurd (O2.2.1.trans O.2.1.symm) h)
  refine kr_iload (pc := 644) dL_law_644 rfl ?_
  refine kr_if_ne (pc := 646) dL_law_646 rfl (fun _ => ?_) (fun hk => ?_)
  · refine kr_goto (pc := 661) dL_law_661 rfl ?_
    exact k _ _ _ J2
  · have hr0 := O.2.1.symm.trans hk
    have hv2 : hiv (hI h1 I') (z + 1913) (0 : Int).toNat = _ := (congrFun (O2.2.2.2 (z + 1913) (Or.inr (Nat.le_refl _))) 0).trans (V hk)
    have eb := O2.2.2.1 hr0
    refine kr_aload_n (pc := 649) dL_law_649 rfl ?_
    refine kr_iconst (pc := 650) dL_law_650 (by decide) ?_
    refine kr_lald (pc := 651) dL_law_651 so2 (by decide) (by decide) hv2 ?_
    refine kr_iload (pc := 652) dL_law_652 rfl ?_
    refine kr_i2l (pc := 654) dL_law_654 ?_
    refine kr_lcmp (pc := 655) dL_law_655 ?_
    refine kr_if_eq (pc := 656) dL_law_656 rfl (fun _ => ?_) (fun h => absurd (by rw [eb]; exact lc_0) h)
    refine kr_goto (pc := 661) dL_law_661 rfl ?_
    exact k _ _ _ J2
end XT
