/-! THE LAW'S 'changes' -/
section YF
variable {h : aH} {Q : aR → Prop} {S : St} {z : Nat}
theorem sec_u {c s : Int} {l : List Ent} : sec (uSec S c s l) c s = l := by
  unfold sec uSec
  rw [sCf_at]
  exact upS_at
theorem sec_g {c s : Int} {g f : Nat} {v : Int} : sec (sCf S c.toNat (upG (S.1 c.toNat) g f v)) c s = sec S c s := by
  unfold sec
  rw [sCf_at]
  rfl
theorem r_setGroup {c g f v : Int} (hc : 0 ≤ c ∧ c ≤ 2) (hg : 0 ≤ g ∧ g ≤ 2) (hf : 0 ≤ f ∧ f ≤ 1) (hv : -1 ≤ v ∧ v ≤ 99) (ho : S.2.1 c.toNat = 1) : sp_setGroup S c g f v = (0, (S.1 c.toNat).2 g.toNat f.toNat, sCf S c.toNat (upG (S.1 c.toNat) g.toNat f.toNat v)) := by
  unfold sp_setGroup
  rw [if_neg (fun z => z ⟨hc, hg, hf⟩), if_neg (fun z => z hv), if_neg (by omega)]
theorem sg_rng {e : Ent} {j : Int} (h : okE e) : -1 ≤ sg e j ∧ sg e j ≤ 99 := by
  unfold okE at h
  unfold sg
  split
  · omega
  · split <;> omega
/-- a setting was exchanged: it is the new one, the key is still there -/
theorem xch_facts {c s y j v : Int} (hk : kix (sec S c s) y ≠ -1) : kix (sec (xch S c s y j v).2.2 c s) y ≠ -1 ∧ sg (gt (sec (xch S c s y j v).2.2 c s) y) j = v := by
  have e : sec (xch S c s y j v).2.2 c s = (sec S c s).set (kix (sec S c s) y).toNat (ws (gt (sec S c s) y) j v) := sec_u
  obtain ⟨g1, g2⟩ := gt_at hk
  rw [e, kix_set g1 ws_key, gt_set_at hk (by rw [ws_key, g2]), sg_ws]
  exact ⟨hk, rfl⟩
theorem l_changes {c v : Int} (H : DeR h z S) (HS : okS S) (hc : 0 ≤ c ∧ c ≤ 2) (ho : S.2.1 c.toNat = 1) (k : ∀ h' S', Ch c.toNat S S' → okS S' → frx 2 h h' z (z + 1899) → DeR h' z S' → Q (.inl (some (vI 1)), h')) : amT mL_changes 0 [vR z, vI c, vI v] [] h Q := by
  have hx := H.1.1
  have hw := slt_c hc ho
  obtain ⟨s, hs⟩ : ∃ s, s = lw (am_bw 4 v 3) 3 := ⟨_, rfl⟩
  obtain ⟨y, hy⟩ : ∃ y, y = lw (am_bw 4 v 5) 10 := ⟨_, rfl⟩
  obtain ⟨t, ht⟩ : ∃ t, t = lw (am_bw 4 v 9) 6 := ⟨_, rfl⟩
  have hs2 : 0 ≤ s ∧ s ≤ 2 := by have := lw_rng (x := am_bw 4 v 3) (n := 3) (by decide); omega
  have hy2 : 0 ≤ y ∧ y ≤ 9 := by have := lw_rng (x := am_bw 4 v 5) (n := 10) (by decide); omega
  have ht2 : 0 ≤ t ∧ t ≤ 5 := by have := lw_rng (x := am_bw 4 v 9) (n := 6) (by decide); omega
  obtain ⟨p, hp⟩ : ∃ p, p = lw (am_bw 4 v 12) (((sec S c s).length : Int) + 1) := ⟨_, rfl⟩
  obtain ⟨u, hu⟩ : ∃ u, u = lw (am_bw 4 v 12) 101 := ⟨_, rfl⟩
  obtain ⟨f, hf⟩ : ∃ f, f = lw v 2 := ⟨_, rfl⟩
  obtain ⟨g, hg⟩ : ∃ g, g = lw (am_bw 4 v 12) 4 := ⟨_, rfl⟩
  obtain ⟨gg, hgg⟩ : ∃ gg, gg = lw (am_bw 4 v 14) 3 := ⟨_, rfl⟩
  obtain ⟨gv, hgv⟩ : ∃ gv, gv = lw (am_bw 4 v 4) 101 := ⟨_, rfl⟩
  have hp2 : 0 ≤ p ∧ p ≤ (sec S c s).length := by have := lw_rng (x := am_bw 4 v 12) (n := ((sec S c s).length : Int) + 1) (by omega); omega
  have hu2 : 0 ≤ u ∧ u ≤ 100 := by have := lw_rng (x := am_bw 4 v 12) (n := 101) (by decide); omega
  have hf2 : 0 ≤ f ∧ f ≤ 1 := by have := lw_rng (x := v) (n := 2) (by decide); omega
  have hg2 : 0 ≤ g ∧ g ≤ 3 := by have := lw_rng (x := am_bw 4 v 12) (n := 4) (by decide); omega
  have hgg2 : 0 ≤ gg ∧ gg ≤ 2 := by have := lw_rng (x := am_bw 4 v 14) (n := 3) (by decide); omega
  have hgv2 : 0 ≤ gv ∧ gv ≤ 100 := by have := lw_rng (x := am_bw 4 v 4) (n := 101) (by decide); omega
  have hl := HS.scl hc hs2
  have h6 := hl.1
  have rk := kix_rng (sec S c s) y
  have szS : sp_size S c s = (0, ((sec S c s).length : Int), S) := r_size hw hs2
  have sgr : ∀ j : Int, kix (sec S c s) y ≠ -1 → -1 ≤ sg (gt (sec S c s) y) j := fun j hk => (sg_rng (hl.2.2 _ _ (gt_at hk).1)).1
  refine kr_iload_n (pc := 0) dL_changes_0 rfl ?_
  refine kr_iconst (pc := 1) dL_changes_1 (by decide) ?_
  refine kr_ishr (pc := 2) dL_changes_2 ?_
  refine kr_iconst (pc := 3) dL_changes_3 (by decide) ?_
  refine kr_s2 (pc := 4) dL_changes_4 rfl rfl (Nat.le_of_ble_eq_true rfl) rfl rfl (l_low (by decide) ?_)
  show amT _ _ _ _ _ _
  rw [← hs]
  refine kr_istore_n (pc := 7) dL_changes_7 (show 3 ≤ _ from by simp) (by decide) ?_
  simp only [stl, List.tail_cons, List.tail_nil]
  refine kr_iload_n (pc := 8) dL_changes_8 rfl ?_
  refine kr_iconst (pc := 9) dL_changes_9 (by decide) ?_
  refine kr_ishr (pc := 10) dL_changes_10 ?_
  refine kr_bipush (pc := 11) dL_changes_11 (by decide) ?_
  refine kr_s2 (pc := 13) dL_changes_13 rfl rfl (Nat.le_of_ble_eq_true rfl) rfl rfl (l_low (by decide) ?_)
  show amT _ _ _ _ _ _
  rw [← hy]
  refine kr_istore (pc := 16) dL_changes_16 (show 4 ≤ _ from by simp) (by decide) ?_
  simp only [stl, List.tail_cons, List.tail_nil]
  refine kr_iload_n (pc := 18) dL_changes_18 rfl ?_
  refine kr_bipush (pc := 19) dL_changes_19 (by decide) ?_
  refine kr_ishr (pc := 21) dL_changes_21 ?_
  refine kr_bipush (pc := 22) dL_changes_22 (by decide) ?_
  refine kr_s2 (pc := 24) dL_changes_24 rfl rfl (Nat.le_of_ble_eq_true rfl) rfl rfl (l_low (by decide) ?_)
  show amT _ _ _ _ _ _
  rw [← ht]
  refine kr_istore (pc := 27) dL_changes_27 (show 5 ≤ _ from by simp) (by decide) ?_
  simp only [stl, List.tail_cons, List.tail_nil]
  refine kr_aload_n (pc := 29) dL_changes_29 rfl ?_
  refine kr_iload_n (pc := 30) dL_changes_30 rfl ?_
  refine kr_iload_n (pc := 31) dL_changes_31 rfl ?_
  refine kr_v2 (pc := 32) dL_changes_32 rfl rfl (by assumption) (Nat.le_of_ble_eq_true rfl) rfl rfl (q_size H HS (by omega) szS (fun h32 f32 D32 => ?_))
  show amT _ _ _ _ _ _
  have hx32 := D32.1.1
  refine kr_istore (pc := 35) dL_changes_35 (show 6 ≤ _ from by simp) (by decide) ?_
  simp only [stl, List.tail_cons, List.tail_nil]
  refine kr_iload (pc := 37) dL_changes_37 rfl ?_
  refine kr_iconst (pc := 39) dL_changes_39 (by decide) ?_
  refine kr_icmp_ge (pc := 40) dL_changes_40 rfl (fun h40 => ?_) (fun h40 => ?_)
  · refine kr_iload (pc := 127) dL_changes_127 rfl ?_
    refine kr_iconst (pc := 129) dL_changes_129 (by decide) ?_
    refine kr_icmp_ge (pc := 130) dL_changes_130 rfl (fun h130 => ?_) (fun h130 => ?_)
    · refine kr_iload (pc := 195) dL_changes_195 rfl ?_
      refine kr_iconst (pc := 197) dL_changes_197 (by decide) ?_
      refine kr_icmp_ge (pc := 198) dL_changes_198 rfl (fun h198 => ?_) (fun h198 => ?_)
      · refine kr_iload_n (pc := 270) dL_changes_270 rfl ?_
        refine kr_bipush (pc := 271) dL_changes_271 (by decide) ?_
        refine kr_ishr (pc := 273) dL_changes_273 ?_
        refine kr_iconst (pc := 274) dL_changes_274 (by decide) ?_
        refine kr_s2 (pc := 275) dL_changes_275 rfl rfl (Nat.le_of_ble_eq_true rfl) rfl rfl (l_low (by decide) ?_)
        show amT _ _ _ _ _ _
        rw [← hg]
        refine kr_iconst (pc := 278) dL_changes_278 (by decide) ?_
        refine kr_isub (pc := 279) dL_changes_279 ⟨by omega, by omega⟩ ?_
        refine kr_istore (pc := 280) dL_changes_280 (show 7 ≤ _ from by simp) (by decide) ?_
        simp only [stl, List.tail_cons, List.tail_nil]
        refine kr_aload_n (pc := 282) dL_changes_282 rfl ?_
        refine kr_iload_n (pc := 283) dL_changes_283 rfl ?_
        refine kr_iload_n (pc := 284) dL_changes_284 rfl ?_
        refine kr_iload (pc := 285) dL_changes_285 rfl ?_
        refine kr_iload (pc := 287) dL_changes_287 rfl ?_
        refine kr_s5 (pc := 289) dL_changes_289 rfl rfl (Nat.le_of_ble_eq_true rfl) rfl rfl rfl rfl rfl (l_join D32 HS hc hs2 hy2 ho (by omega) (fun h289 f289 D289 q289 => ?_) (fun q289 => ?_))
        · show amT _ _ _ _ _ _
          have hx289 := D289.1.1
          have o289 := okS_xch HS (j := 2) (v := g - 1) hc hs2 q289 (by omega) (by omega) (by omega)
          obtain ⟨x1, x2⟩ := xch_facts (S := S) (j := 2) (v := g - 1) q289
          have ho289 : ((xch S c s y 2 (g - 1)).2.2).2.1 c.toNat = 1 := ho
          have sg289 := sgr 2 q289
          refine kr_istore (pc := 292) dL_changes_292 (show 8 ≤ _ from by simp) (by decide) ?_
          simp only [stl, List.tail_cons, List.tail_nil]
          refine kr_aload_n (pc := 294) dL_changes_294 rfl ?_
          refine kr_iload_n (pc := 295) dL_changes_295 rfl ?_
          refine kr_iload_n (pc := 296) dL_changes_296 rfl ?_
          refine kr_bipush (pc := 297) dL_changes_297 (by decide) ?_
          refine kr_ishr (pc := 299) dL_changes_299 ?_
          refine kr_iconst (pc := 300) dL_changes_300 (by decide) ?_
          refine kr_s2 (pc := 301) dL_changes_301 rfl rfl (Nat.le_of_ble_eq_true rfl) rfl rfl (l_low (by decide) ?_)
          show amT _ _ _ _ _ _
          rw [← hgg]
          refine kr_iload_n (pc := 304) dL_changes_304 rfl ?_
          refine kr_iconst (pc := 305) dL_changes_305 (by decide) ?_
          refine kr_s2 (pc := 306) dL_changes_306 rfl rfl (Nat.le_of_ble_eq_true rfl) rfl rfl (l_low (by decide) ?_)
          show amT _ _ _ _ _ _
          rw [← hf]
          refine kr_iload_n (pc := 309) dL_changes_309 rfl ?_
          refine kr_iconst (pc := 310) dL_changes_310 (by decide) ?_
          refine kr_ishr (pc := 311) dL_changes_311 ?_
          refine kr_bipush (pc := 312) dL_changes_312 (by decide) ?_
          refine kr_s2 (pc := 314) dL_changes_314 rfl rfl (Nat.le_of_ble_eq_true rfl) rfl rfl (l_low (by decide) ?_)
          show amT _ _ _ _ _ _
          rw [← hgv]
          refine kr_iconst (pc := 317) dL_changes_317 (by decide) ?_
          refine kr_isub (pc := 318) dL_changes_318 ⟨by omega, by omega⟩ ?_
          refine kr_v4 (pc := 319) dL_changes_319 rfl rfl (by assumption) (Nat.le_of_ble_eq_true rfl) rfl rfl rfl rfl (q_setGroup D289 o289 (r_setGroup hc hgg2 hf2 (by omega) ho289) (fun h319 f319 D319 => ?_))
          show amT _ _ _ _ _ _
          have hx319 := D319.1.1
          have o319 := o289.cf (i := c.toNat) ((o289.1 c.toNat (by omega)).grp (g := gg.toNat) (f := f.toNat) (v := gv - 1) (by omega))
          refine kr_pop (pc := 322) dL_changes_322 rfl ?_
          refine kr_iload (pc := 323) dL_changes_323 rfl ?_
          refine kr_bipush (pc := 325) dL_changes_325 (by decide) ?_
          refine kr_icmp_eq (pc := 327) dL_changes_327 rfl (fun h327 => by exfalso; omega) (fun h327 => ?_)
          refine kr_aload_n (pc := 330) dL_changes_330 rfl ?_
          refine kr_iload_n (pc := 331) dL_changes_331 rfl ?_
          refine kr_iload_n (pc := 332) dL_changes_332 rfl ?_
          refine kr_iload (pc := 333) dL_changes_333 rfl ?_
          refine kr_iload (pc := 335) dL_changes_335 rfl ?_
          refine kr_s5 (pc := 337) dL_changes_337 rfl rfl (Nat.le_of_ble_eq_true rfl) rfl rfl rfl rfl rfl (l_join D319 o319 hc hs2 hy2 ho289 (by omega) (fun h337 f337 D337 q337 => ?_) (fun q337 => absurd q337 (by rw [sec_g]; exact x1)))
          show amT _ _ _ _ _ _
          have o337 := okS_xch o319 (j := 2) (v := g - 1) hc hs2 (by rw [sec_g]; exact x1) (by omega) (by omega) (by omega)
          rw [sec_g]
          refine kr_iload (pc := 340) dL_changes_340 rfl ?_
          refine kr_icmp_ne (pc := 342) dL_changes_342 rfl (fun h342 => by exfalso; omega) (fun h342 => ?_)
          refine kr_iconst (pc := 345) dL_changes_345 (by decide) ?_
          refine kr_goto (pc := 346) dL_changes_346 rfl ?_
          refine kr_ireturn (pc := 350) dL_changes_350 rfl ?_
          exact k h337 _ ((Ch.rf.cf (c := _)).cf (c := _)).cf o337 ((f32.tr (f289.tr (f319.tr f337))).x 2) D337
        · show amT _ _ _ _ _ _
          have D289 := D32.th
          have hx289 := D289.1.1
          have o289 := HS
          have ho289 := ho
          refine kr_istore (pc := 292) dL_changes_292 (show 8 ≤ _ from by simp) (by decide) ?_
          simp only [stl, List.tail_cons, List.tail_nil]
          refine kr_aload_n (pc := 294) dL_changes_294 rfl ?_
          refine kr_iload_n (pc := 295) dL_changes_295 rfl ?_
          refine kr_iload_n (pc := 296) dL_changes_296 rfl ?_
          refine kr_bipush (pc := 297) dL_changes_297 (by decide) ?_
          refine kr_ishr (pc := 299) dL_changes_299 ?_
          refine kr_iconst (pc := 300) dL_changes_300 (by decide) ?_
          refine kr_s2 (pc := 301) dL_changes_301 rfl rfl (Nat.le_of_ble_eq_true rfl) rfl rfl (l_low (by decide) ?_)
          show amT _ _ _ _ _ _
          rw [← hgg]
          refine kr_iload_n (pc := 304) dL_changes_304 rfl ?_
          refine kr_iconst (pc := 305) dL_changes_305 (by decide) ?_
          refine kr_s2 (pc := 306) dL_changes_306 rfl rfl (Nat.le_of_ble_eq_true rfl) rfl rfl (l_low (by decide) ?_)
          show amT _ _ _ _ _ _
          rw [← hf]
          refine kr_iload_n (pc := 309) dL_changes_309 rfl ?_
          refine kr_iconst (pc := 310) dL_changes_310 (by decide) ?_
          refine kr_ishr (pc := 311) dL_changes_311 ?_
          refine kr_bipush (pc := 312) dL_changes_312 (by decide) ?_
          refine kr_s2 (pc := 314) dL_changes_314 rfl rfl (Nat.le_of_ble_eq_true rfl) rfl rfl (l_low (by decide) ?_)
          show amT _ _ _ _ _ _
          rw [← hgv]
          refine kr_iconst (pc := 317) dL_changes_317 (by decide) ?_
          refine kr_isub (pc := 318) dL_changes_318 ⟨by omega, by omega⟩ ?_
          refine kr_v4 (pc := 319) dL_changes_319 rfl rfl (by assumption) (Nat.le_of_ble_eq_true rfl) rfl rfl rfl rfl (q_setGroup D289 o289 (r_setGroup hc hgg2 hf2 (by omega) ho289) (fun h319 f319 D319 => ?_))
          show amT _ _ _ _ _ _
          have hx319 := D319.1.1
          have o319 := o289.cf (i := c.toNat) ((o289.1 c.toNat (by omega)).grp (g := gg.toNat) (f := f.toNat) (v := gv - 1) (by omega))
          refine kr_pop (pc := 322) dL_changes_322 rfl ?_
          refine kr_iload (pc := 323) dL_changes_323 rfl ?_
          refine kr_bipush (pc := 325) dL_changes_325 (by decide) ?_
          refine kr_icmp_eq (pc := 327) dL_changes_327 rfl (fun _ => ?_) (fun h => absurd h (by decide))
          refine kr_iconst (pc := 345) dL_changes_345 (by decide) ?_
          refine kr_goto (pc := 346) dL_changes_346 rfl ?_
          refine kr_ireturn (pc := 350) dL_changes_350 rfl ?_
          exact k h319 _ Ch.rf.cf o319 (f32.th.tr (f319.x 0) (by omega)) D319
      · refine kr_iload_n (pc := 201) dL_changes_201 rfl ?_
        refine kr_bipush (pc := 202) dL_changes_202 (by decide) ?_
        refine kr_ishr (pc := 204) dL_changes_204 ?_
        refine kr_bipush (pc := 205) dL_changes_205 (by decide) ?_
        refine kr_s2 (pc := 207) dL_changes_207 rfl rfl (Nat.le_of_ble_eq_true rfl) rfl rfl (l_low (by decide) ?_)
        show amT _ _ _ _ _ _
        rw [← hu]
        refine kr_iconst (pc := 210) dL_changes_210 (by decide) ?_
        refine kr_isub (pc := 211) dL_changes_211 ⟨by omega, by omega⟩ ?_
        refine kr_istore (pc := 212) dL_changes_212 (show 7 ≤ _ from by simp) (by decide) ?_
        simp only [stl, List.tail_cons, List.tail_nil]
        refine kr_aload_n (pc := 214) dL_changes_214 rfl ?_
        refine kr_iload_n (pc := 215) dL_changes_215 rfl ?_
        refine kr_iload_n (pc := 216) dL_changes_216 rfl ?_
        refine kr_iload (pc := 217) dL_changes_217 rfl ?_
        refine kr_iload_n (pc := 219) dL_changes_219 rfl ?_
        refine kr_iconst (pc := 220) dL_changes_220 (by decide) ?_
        refine kr_s2 (pc := 221) dL_changes_221 rfl rfl (Nat.le_of_ble_eq_true rfl) rfl rfl (l_low (by decide) ?_)
        show amT _ _ _ _ _ _
        rw [← hf]
        refine kr_iload (pc := 224) dL_changes_224 rfl ?_
        refine kr_s6 (pc := 226) dL_changes_226 rfl rfl (Nat.le_of_ble_eq_true rfl) rfl rfl rfl rfl rfl rfl (l_set D32 HS hc hs2 hy2 ho hf2 (by omega) (fun h226 f226 D226 q226 => ?_) (fun q226 => ?_))
        · show amT _ _ _ _ _ _
          have hx226 := D226.1.1
          have o226 := okS_xch HS (j := f) (v := u - 1) hc hs2 q226 (by omega) (by omega) (by omega)
          obtain ⟨x1, x2⟩ := xch_facts (S := S) (j := f) (v := u - 1) q226
          have ho226 : ((xch S c s y f (u - 1)).2.2).2.1 c.toNat = 1 := ho
          have sg226 := sgr f q226
          refine kr_istore (pc := 229) dL_changes_229 (show 8 ≤ _ from by simp) (by decide) ?_
          simp only [stl, List.tail_cons, List.tail_nil]
          refine kr_iload (pc := 231) dL_changes_231 rfl ?_
          refine kr_bipush (pc := 233) dL_changes_233 (by decide) ?_
          refine kr_icmp_eq (pc := 235) dL_changes_235 rfl (fun h235 => by exfalso; omega) (fun h235 => ?_)
          refine kr_iload (pc := 238) dL_changes_238 rfl ?_
          refine kr_iconst (pc := 240) dL_changes_240 (by decide) ?_
          refine kr_icmp_lt (pc := 241) dL_changes_241 rfl (fun h241 => by exfalso; omega) (fun h241 => ?_)
          refine kr_aload_n (pc := 244) dL_changes_244 rfl ?_
          refine kr_iload_n (pc := 245) dL_changes_245 rfl ?_
          refine kr_iload_n (pc := 246) dL_changes_246 rfl ?_
          refine kr_iload (pc := 247) dL_changes_247 rfl ?_
          refine kr_iload_n (pc := 249) dL_changes_249 rfl ?_
          refine kr_iconst (pc := 250) dL_changes_250 (by decide) ?_
          refine kr_s2 (pc := 251) dL_changes_251 rfl rfl (Nat.le_of_ble_eq_true rfl) rfl rfl (l_low (by decide) ?_)
          show amT _ _ _ _ _ _
          rw [← hf]
          refine kr_iload (pc := 254) dL_changes_254 rfl ?_
          refine kr_s6 (pc := 256) dL_changes_256 rfl rfl (Nat.le_of_ble_eq_true rfl) rfl rfl rfl rfl rfl rfl (l_set D226 o226 hc hs2 hy2 ho226 hf2 (by omega) (fun h256 f256 D256 q256 => ?_) (fun q256 => absurd q256 x1))
          show amT _ _ _ _ _ _
          have o256 := okS_xch o226 (j := f) (v := u - 1) hc hs2 x1 (by omega) (by omega) (by omega)
          refine kr_iload (pc := 259) dL_changes_259 rfl ?_
          refine kr_icmp_ne (pc := 261) dL_changes_261 rfl (fun h261 => by exfalso; omega) (fun h261 => ?_)
          refine kr_iconst (pc := 264) dL_changes_264 (by decide) ?_
          refine kr_goto (pc := 265) dL_changes_265 rfl ?_
          refine kr_ireturn (pc := 269) dL_changes_269 rfl ?_
          exact k h256 _ (Ch.rf.cf (c := _)).cf o256 ((f32.tr (f226.tr f256)).x 2) D256
        · show amT _ _ _ _ _ _
          refine kr_istore (pc := 229) dL_changes_229 (show 8 ≤ _ from by simp) (by decide) ?_
          simp only [stl, List.tail_cons, List.tail_nil]
          refine kr_iload (pc := 231) dL_changes_231 rfl ?_
          refine kr_bipush (pc := 233) dL_changes_233 (by decide) ?_
          refine kr_icmp_eq (pc := 235) dL_changes_235 rfl (fun _ => ?_) (fun h => absurd h (by decide))
          refine kr_iconst (pc := 264) dL_changes_264 (by decide) ?_
          refine kr_goto (pc := 265) dL_changes_265 rfl ?_
          refine kr_ireturn (pc := 269) dL_changes_269 rfl ?_
          exact k _ S Ch.rf HS (f32.th.tr ((fro.rf (h := hth h32)).x 0) (by omega)) D32.th
    · refine kr_aload_n (pc := 133) dL_changes_133 rfl ?_
      refine kr_iload_n (pc := 134) dL_changes_134 rfl ?_
      refine kr_iload_n (pc := 135) dL_changes_135 rfl ?_
      refine kr_iload (pc := 136) dL_changes_136 rfl ?_
      refine kr_s4 (pc := 138) dL_changes_138 rfl rfl (Nat.le_of_ble_eq_true rfl) rfl rfl rfl rfl (l_remove D32 HS hc hs2 hy2 ho (fun h138 f138 D138 q138 => ?_) (fun q138 => ?_))
      · show amT _ _ _ _ _ _
        have hx138 := D138.1.1
        have o138 : okS (uSec S c s ((sec S c s).eraseIdx (kix (sec S c s) y).toNat)) := HS.usec hc (hl.erase _)
        have ho138 : (uSec S c s ((sec S c s).eraseIdx (kix (sec S c s) y).toNat)).2.1 c.toNat = 1 := ho
        have el := List.length_eraseIdx_of_lt (l := sec S c s) (i := (kix (sec S c s) y).toNat) (by omega)
        refine kr_istore (pc := 141) dL_changes_141 (show 7 ≤ _ from by simp) (by decide) ?_
        simp only [stl, List.tail_cons, List.tail_nil]
        refine kr_iload (pc := 143) dL_changes_143 rfl ?_
        refine kr_bipush (pc := 145) dL_changes_145 (by decide) ?_
        refine kr_icmp_ne (pc := 147) dL_changes_147 rfl (fun h147 => ?_) (fun h147 => by exfalso; omega)
        refine kr_iload (pc := 169) dL_changes_169 rfl ?_
        refine kr_iload (pc := 171) dL_changes_171 rfl ?_
        refine kr_icmp_ge (pc := 173) dL_changes_173 rfl (fun h173 => by exfalso; omega) (fun h173 => ?_)
        refine kr_aload_n (pc := 176) dL_changes_176 rfl ?_
        refine kr_iload_n (pc := 177) dL_changes_177 rfl ?_
        refine kr_iload_n (pc := 178) dL_changes_178 rfl ?_
        refine kr_v2 (pc := 179) dL_changes_179 rfl rfl (by assumption) (Nat.le_of_ble_eq_true rfl) rfl rfl (q_size D138 o138 (by omega) (show sp_size (uSec S c s ((sec S c s).eraseIdx (kix (sec S c s) y).toNat)) c s = (0, ((sec (uSec S c s ((sec S c s).eraseIdx (kix (sec S c s) y).toNat)) c s).length : Int), _) from r_size (slt_c hc ho138) hs2) (fun h179 f179 D179 => ?_))
        show amT _ _ _ _ _ _
        rw [sec_u]
        refine kr_iload (pc := 182) dL_changes_182 rfl ?_
        refine kr_iconst (pc := 184) dL_changes_184 (by decide) ?_
        refine kr_isub (pc := 185) dL_changes_185 ⟨by omega, by omega⟩ ?_
        refine kr_icmp_ne (pc := 186) dL_changes_186 rfl (fun h186 => by exfalso; omega) (fun h186 => ?_)
        refine kr_iconst (pc := 189) dL_changes_189 (by decide) ?_
        refine kr_goto (pc := 190) dL_changes_190 rfl ?_
        refine kr_ireturn (pc := 194) dL_changes_194 rfl ?_
        exact k h179 _ Ch.rf.cf o138 ((f32.tr (f138.tr f179)).x 2) D179
      · show amT _ _ _ _ _ _
        have D138 := D32.th
        have hx138 := D138.1.1
        refine kr_istore (pc := 141) dL_changes_141 (show 7 ≤ _ from by simp) (by decide) ?_
        simp only [stl, List.tail_cons, List.tail_nil]
        refine kr_iload (pc := 143) dL_changes_143 rfl ?_
        refine kr_bipush (pc := 145) dL_changes_145 (by decide) ?_
        refine kr_icmp_ne (pc := 147) dL_changes_147 rfl (fun h => absurd h (by decide)) (fun _ => ?_)
        refine kr_aload_n (pc := 150) dL_changes_150 rfl ?_
        refine kr_iload_n (pc := 151) dL_changes_151 rfl ?_
        refine kr_iload_n (pc := 152) dL_changes_152 rfl ?_
        refine kr_v2 (pc := 153) dL_changes_153 rfl rfl (by assumption) (Nat.le_of_ble_eq_true rfl) rfl rfl (q_size D138 HS (by omega) szS (fun h153 f153 D153 => ?_))
        show amT _ _ _ _ _ _
        refine kr_iload (pc := 156) dL_changes_156 rfl ?_
        refine kr_icmp_ne (pc := 158) dL_changes_158 rfl (fun h158 => by exfalso; omega) (fun h158 => ?_)
        refine kr_iconst (pc := 161) dL_changes_161 (by decide) ?_
        refine kr_goto (pc := 162) dL_changes_162 rfl ?_
        refine kr_ireturn (pc := 194) dL_changes_194 rfl ?_
        exact k h153 S Ch.rf HS (f32.th.tr (f153.x 0) (by omega)) D153
  · refine kr_aload_n (pc := 43) dL_changes_43 rfl ?_
    refine kr_iload_n (pc := 44) dL_changes_44 rfl ?_
    refine kr_iload_n (pc := 45) dL_changes_45 rfl ?_
    refine kr_iload (pc := 46) dL_changes_46 rfl ?_
    refine kr_iload_n (pc := 48) dL_changes_48 rfl ?_
    refine kr_bipush (pc := 49) dL_changes_49 (by decide) ?_
    refine kr_ishr (pc := 51) dL_changes_51 ?_
    refine kr_iload (pc := 52) dL_changes_52 rfl ?_
    refine kr_iconst (pc := 54) dL_changes_54 (by decide) ?_
    refine kr_iadd (pc := 55) dL_changes_55 ⟨by omega, by omega⟩ ?_
    refine kr_s2 (pc := 56) dL_changes_56 rfl rfl (Nat.le_of_ble_eq_true rfl) rfl rfl (l_low (by omega) ?_)
    show amT _ _ _ _ _ _
    rw [← hp]
    refine kr_s5 (pc := 59) dL_changes_59 rfl rfl (Nat.le_of_ble_eq_true rfl) rfl rfl rfl rfl rfl (l_add D32 HS hc hs2 hy2 ho hp2 (fun h59 f59 D59 q59 => ?_) (fun q59 => ?_))
    · show amT _ _ _ _ _ _
      have hx59 := D59.1.1
      have o59 : okS (uSec S c s ((sec S c s).insertIdx p.toNat (y, -1, -1, -1))) := HS.usec hc (hl.ins (by dsimp only; omega) (by omega) (by unfold okE; dsimp only; omega))
      have ho59 : (uSec S c s ((sec S c s).insertIdx p.toNat (y, -1, -1, -1))).2.1 c.toNat = 1 := ho
      refine kr_istore (pc := 62) dL_changes_62 (show 7 ≤ _ from by simp) (by decide) ?_
      simp only [stl, List.tail_cons, List.tail_nil]
      refine kr_iload (pc := 64) dL_changes_64 rfl ?_
      refine kr_bipush (pc := 66) dL_changes_66 (by decide) ?_
      refine kr_icmp_ne (pc := 68) dL_changes_68 rfl (fun h68 => ?_) (fun h68 => by exfalso; omega)
      refine kr_iload (pc := 90) dL_changes_90 rfl ?_
      refine kr_iload (pc := 92) dL_changes_92 rfl ?_
      refine kr_iconst (pc := 94) dL_changes_94 (by decide) ?_
      refine kr_iadd (pc := 95) dL_changes_95 ⟨by omega, by omega⟩ ?_
      refine kr_icmp_ne (pc := 96) dL_changes_96 rfl (fun h96 => by exfalso; omega) (fun h96 => ?_)
      refine kr_aload_n (pc := 99) dL_changes_99 rfl ?_
      refine kr_iload_n (pc := 100) dL_changes_100 rfl ?_
      refine kr_iload_n (pc := 101) dL_changes_101 rfl ?_
      refine kr_iload_n (pc := 102) dL_changes_102 rfl ?_
      refine kr_bipush (pc := 103) dL_changes_103 (by decide) ?_
      refine kr_ishr (pc := 105) dL_changes_105 ?_
      refine kr_iload (pc := 106) dL_changes_106 rfl ?_
      refine kr_iconst (pc := 108) dL_changes_108 (by decide) ?_
      refine kr_iadd (pc := 109) dL_changes_109 ⟨by omega, by omega⟩ ?_
      refine kr_s2 (pc := 110) dL_changes_110 rfl rfl (Nat.le_of_ble_eq_true rfl) rfl rfl (l_low (by omega) ?_)
      show amT _ _ _ _ _ _
      rw [← hp]
      refine kr_v3 (pc := 113) dL_changes_113 rfl rfl (by assumption) (Nat.le_of_ble_eq_true rfl) rfl rfl rfl (q_keyAt D59 o59 (by omega) (r_keyAt (e := (y, -1, -1, -1)) (slt_c hc ho59) hs2 hp2.1 (show (sec (uSec S c s ((sec S c s).insertIdx p.toNat (y, -1, -1, -1))) c s)[p.toNat]? = some (y, -1, -1, -1) by rw [sec_u, List.getElem?_insertIdx, if_neg (by omega), if_pos rfl, if_pos (by omega)])) (fun h113 f113 D113 => ?_))
      show amT _ _ _ _ _ _
      refine kr_iload (pc := 116) dL_changes_116 rfl ?_
      refine kr_icmp_ne (pc := 118) dL_changes_118 rfl (fun h118 => by exfalso; omega) (fun h118 => ?_)
      refine kr_iconst (pc := 121) dL_changes_121 (by decide) ?_
      refine kr_goto (pc := 122) dL_changes_122 rfl ?_
      refine kr_ireturn (pc := 126) dL_changes_126 rfl ?_
      exact k h113 _ Ch.rf.cf o59 ((f32.tr (f59.tr f113)).x 2) D113
    · show amT _ _ _ _ _ _
      have D59 := D32.th
      have hx59 := D59.1.1
      refine kr_istore (pc := 62) dL_changes_62 (show 7 ≤ _ from by simp) (by decide) ?_
      simp only [stl, List.tail_cons, List.tail_nil]
      refine kr_iload (pc := 64) dL_changes_64 rfl ?_
      refine kr_bipush (pc := 66) dL_changes_66 (by decide) ?_
      refine kr_icmp_ne (pc := 68) dL_changes_68 rfl (fun h => absurd h (by decide)) (fun _ => ?_)
      refine kr_aload_n (pc := 71) dL_changes_71 rfl ?_
      refine kr_iload_n (pc := 72) dL_changes_72 rfl ?_
      refine kr_iload_n (pc := 73) dL_changes_73 rfl ?_
      refine kr_v2 (pc := 74) dL_changes_74 rfl rfl (by assumption) (Nat.le_of_ble_eq_true rfl) rfl rfl (q_size D59 HS (by omega) szS (fun h74 f74 D74 => ?_))
      show amT _ _ _ _ _ _
      refine kr_iload (pc := 77) dL_changes_77 rfl ?_
      refine kr_icmp_ne (pc := 79) dL_changes_79 rfl (fun h79 => by exfalso; omega) (fun h79 => ?_)
      refine kr_iconst (pc := 82) dL_changes_82 (by decide) ?_
      refine kr_goto (pc := 83) dL_changes_83 rfl ?_
      refine kr_ireturn (pc := 126) dL_changes_126 rfl ?_
      exact k h74 S Ch.rf HS (f32.th.tr (f74.x 0) (by omega)) D74
end YF
