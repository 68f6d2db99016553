/-! THE CASES of the law's turns -/
def LI (z b L : Nat) (S : St) (n : Nat) (h : aH) : Prop :=
  okS S ∧ DeR h z S ∧ hsh h b = (50, L) ∧ hnx h ≤ z + 1899 + 2 * n ∧ hks h ≤ 8000 + 12 * n ∧ S.2.2.2.2.2.length ≤ n
section YG
variable {z b L T n : Nat} {S : St} {h : aH} {Q : aR → Prop}
theorem LI.next {S' : St} {h' : aH} (J : LI z b L S n h) (f : frx 2 h h' z (z + 1899)) (D : DeR h' z S') (o : okS S') (hr : S'.2.2.2.2.2.length ≤ n + 1) : LI z b L S' (n + 1) h' := by
  obtain ⟨HS, H, sb, n1, n2, n3⟩ := J
  have f2 := f.2.1
  have f3 := f.2.2.1
  exact ⟨o, D, by rw [f.1]; exact sb, by omega, by omega, hr⟩
theorem q_running {r : Int} (H : DeR h z S) (HS : okS S) (hr : (S.2.2.2.1 : Int) = r) (k : Q (.inl (some (vI r)), h)) : amT mX7_running 0 [vR z] [] h Q := xc_running H HS (by rw [hr]; exact k)
theorem q_waiting {r : Int} (H : DeR h z S) (HS : okS S) (hr : S.2.2.2.2.1 = r) (k : Q (.inl (some (vI r)), h)) : amT mX7_waiting 0 [vR z] [] h Q := xc_waiting H HS (by rw [hr]; exact k)
theorem op_at {c : Int} (HS : okS S) (hc : 0 ≤ c ∧ c ≤ 1) : am_bw 0 (am_bw 4 (S.2.1 0 + 2 * S.2.1 1) c) 1 = S.2.1 c.toNat := by
  rw [op_get (HS.2.1 0 (by decide)).1 (HS.2.1 1 (by decide)).1 (by omega)]
  rcases (by omega : c = 0 ∨ c = 1) with rfl | rfl <;> rfl
theorem lc_open {c : Int} {v t : Int} {tl : List aV} (J : LI z b L S n h) (hc : 0 ≤ c ∧ c ≤ 1) (k : ∀ h' S' tl', LI z b L S' (n + 1) h' → amT mL_law 663 (vR b :: vR z :: vI (S'.2.1 0 + 2 * S'.2.1 1) :: vI 1 :: vI (T : Int) :: vI (n : Int) :: tl') [] h' Q) : amT mL_law 122 (vR b :: vR z :: vI (S.2.1 0 + 2 * S.2.1 1) :: vI 1 :: vI (T : Int) :: vI (n : Int) :: vI v :: vI c :: vI t :: tl) [] h Q := by
  obtain ⟨HS, H, sb, n1, n2, n3⟩ := id J
  have hx := H.1.1
  have hr := HS.2.2.1
  obtain ⟨S1, hS1⟩ : ∃ S1, S1 = (sp_open S c).2.2 := ⟨_, rfl⟩
  have o1 : okS S1 := by rw [hS1]; exact okS_open HS c
  have e1 : sp_open S c = (0, (S.2.2.2.1 : Int), S1) := by
    rw [hS1]
    unfold sp_open
    rw [if_pos (by omega)]
  have fs : S1.2.2.2 = S.2.2.2 ∧ (∀ j, S1.2.1 j = if j = c.toNat then 1 else S.2.1 j) ∧ ∀ j, S1.1 j = if j = c.toNat then S.1 (3 + S.2.2.2.1) else S.1 j := by
    rw [hS1]
    unfold sp_open
    rw [if_pos (by omega)]
    exact ⟨rfl, fun _ => rfl, fun _ => rfl⟩
  obtain ⟨s1, s2, s3⟩ := fs
  have r1 : (S1.2.2.2.1 : Int) = (S.2.2.2.1 : Int) := by rw [s1]
  have oc : S1.2.1 c.toNat = 1 := by rw [s2, if_pos rfl]
  have e2 : sp_same S1 c (10 + (S.2.2.2.1 : Int)) = (0, 1, S1) :=
    r_same1 (slt_c (by omega) oc) (slt_v (by rw [s1]; exact Nat.le_refl _)) ((s3 _).trans (if_pos rfl)) ((s3 _).trans (if_neg (by omega))) (edL_nil (HS.1 _ (by omega)) (HS.1 _ (by omega)) eqC.refl)
  have op : am_bw 1 (S.2.1 0 + 2 * S.2.1 1) (am_bw 3 1 c) = S1.2.1 0 + 2 * S1.2.1 1 := by
    rw [op_set (HS.2.1 0 (by decide)).1 (HS.2.1 1 (by decide)).1 (by omega), s2, s2]
    rcases (by omega : c = 0 ∨ c = 1) with rfl | rfl
    · rfl
    · rfl
  refine kr_aload_n (pc := 122) dL_law_122 rfl ?_
  refine kr_iload (pc := 123) dL_law_123 rfl ?_
  refine kr_v1 (pc := 125) dL_law_125 rfl rfl (by assumption) (Nat.le_of_ble_eq_true rfl) rfl (q_open H HS e1 (fun h125 f125 D125 => ?_))
  show amT _ _ _ _ _ _
  have hx125 := D125.1.1
  refine kr_aload_n (pc := 128) dL_law_128 rfl ?_
  refine kr_v0 (pc := 129) dL_law_129 rfl rfl (by assumption) (Nat.le_of_ble_eq_true rfl) (q_running D125 o1 r1 ?_)
  show amT _ _ _ _ _ _
  refine kr_icmp_ne (pc := 132) dL_law_132 rfl (fun h132 => by exfalso; omega) (fun h132 => ?_)
  refine kr_aload_n (pc := 135) dL_law_135 rfl ?_
  refine kr_iload (pc := 136) dL_law_136 rfl ?_
  refine kr_bipush (pc := 138) dL_law_138 (by decide) ?_
  refine kr_aload_n (pc := 140) dL_law_140 rfl ?_
  refine kr_v0 (pc := 141) dL_law_141 rfl rfl (by assumption) (Nat.le_of_ble_eq_true rfl) (q_running D125 o1 r1 ?_)
  show amT _ _ _ _ _ _
  refine kr_iadd (pc := 144) dL_law_144 ⟨by omega, by omega⟩ ?_
  refine kr_v2 (pc := 145) dL_law_145 rfl rfl (by assumption) (Nat.le_of_ble_eq_true rfl) rfl rfl (q_same D125 o1 (by omega) (by omega) e2 (fun h145 f145 D145 => ?_))
  show amT _ _ _ _ _ _
  refine kr_if_eq (pc := 148) dL_law_148 rfl (fun h => absurd h (by decide)) (fun _ => ?_)
  refine kr_iconst (pc := 151) dL_law_151 (by decide) ?_
  refine kr_goto (pc := 152) dL_law_152 rfl ?_
  refine kr_istore_n (pc := 156) dL_law_156 (show 3 ≤ _ from by simp) (by decide) ?_
  simp only [stl, List.tail_cons, List.tail_nil]
  refine kr_iload_n (pc := 157) dL_law_157 rfl ?_
  refine kr_iconst (pc := 158) dL_law_158 (by decide) ?_
  refine kr_iload (pc := 159) dL_law_159 rfl ?_
  refine kr_ishl (pc := 161) dL_law_161 ?_
  refine kr_ior (pc := 162) dL_law_162 ?_
  refine kr_istore_n (pc := 163) dL_law_163 (show 2 ≤ _ from by simp) (by decide) ?_
  simp only [stl, List.tail_cons, List.tail_nil]
  refine kr_goto (pc := 164) dL_law_164 rfl ?_
  rw [op]
  exact k h145 S1 _ (J.next ((f125.tr f145).x 2) D145 o1 (by rw [s1]; omega))
theorem lc_changes {c : Int} {v t : Int} {tl : List aV} (J : LI z b L S n h) (hc : 0 ≤ c ∧ c ≤ 1) (ho : S.2.1 c.toNat = 1) (k : ∀ h' S' tl', LI z b L S' (n + 1) h' → amT mL_law 663 (vR b :: vR z :: vI (S'.2.1 0 + 2 * S'.2.1 1) :: vI 1 :: vI (T : Int) :: vI (n : Int) :: tl') [] h' Q) : amT mL_law 174 (vR b :: vR z :: vI (S.2.1 0 + 2 * S.2.1 1) :: vI 1 :: vI (T : Int) :: vI (n : Int) :: vI v :: vI c :: vI t :: tl) [] h Q := by
  obtain ⟨HS, H, sb, n1, n2, n3⟩ := id J
  have hx := H.1.1
  refine kr_aload_n (pc := 174) dL_law_174 rfl ?_
  refine kr_iload (pc := 175) dL_law_175 rfl ?_
  refine kr_iload (pc := 177) dL_law_177 rfl ?_
  refine kr_iconst (pc := 179) dL_law_179 (by decide) ?_
  refine kr_ishr (pc := 180) dL_law_180 ?_
  refine kr_s3 (pc := 181) dL_law_181 rfl rfl (Nat.le_of_ble_eq_true rfl) rfl rfl rfl (l_changes H HS (by omega) ho (fun h181 S181 C181 o181 f181 D181 => ?_))
  show amT _ _ _ _ _ _
  have hx181 := D181.1.1
  have ho181 : S181.2.1 c.toNat = 1 := by rw [C181.2]; exact ho
  refine kr_if_eq (pc := 184) dL_law_184 rfl (fun h => absurd h (by decide)) (fun _ => ?_)
  refine kr_aload_n (pc := 187) dL_law_187 rfl ?_
  refine kr_iload (pc := 188) dL_law_188 rfl ?_
  refine kr_s2 (pc := 190) dL_law_190 rfl rfl (Nat.le_of_ble_eq_true rfl) rfl rfl (l_shape D181 o181 (slt_c (by omega) ho181) (by omega) (by omega) (fun h190 f190 D190 => ?_))
  show amT _ _ _ _ _ _
  refine kr_if_eq (pc := 193) dL_law_193 rfl (fun h => absurd h (by decide)) (fun _ => ?_)
  refine kr_iconst (pc := 196) dL_law_196 (by decide) ?_
  refine kr_goto (pc := 197) dL_law_197 rfl ?_
  refine kr_istore_n (pc := 201) dL_law_201 (show 3 ≤ _ from by simp) (by decide) ?_
  simp only [stl, List.tail_cons, List.tail_nil]
  refine kr_goto (pc := 202) dL_law_202 rfl ?_
  rw [← C181.2]
  exact k h190 S181 _ (J.next (f181.tr (f190.x 0) (by omega)) D190 o181 (by rw [C181.2]; omega))
theorem commit_facts {c m v : Int} {S' : St} (HS : okS S) (hc : 0 ≤ c ∧ c ≤ 1) (hm : 0 ≤ m ∧ m ≤ 100) (e : sp_commit S c m = (0, v, S')) : okS S' ∧ v = (S.2.2.2.1 : Int) + 1 ∧ S'.2.2.2.1 = S.2.2.2.1 + 1 ∧ (m = 0 → S'.2.2.2.2.1 = -1) ∧ (m ≠ 0 → S'.2.2.2.2.1 = m) ∧ S'.2.2.2.2.2 = S.2.2.2.2.2 ∧ (∀ j, S'.2.1 j = if j = c.toNat then 0 else S.2.1 j) ∧ brk (S'.1 (3 + S'.2.2.2.1)) S'.2.2.2.2.2 = 0 := by
  have o := okS_commit HS c m
  rw [e] at o
  unfold sp_commit at e
  rw [if_neg (fun z => z (by omega)), if_neg (fun z => z hm)] at e
  split at e
  · exact (sx0 (by decide) rfl e.symm).elim
  · split at e
    · exact (sx0 (by decide) rfl e.symm).elim
    · split at e
      · exact (sx0 (by decide) rfl e.symm).elim
      · rename_i c' h1 h2
        cases e
        have b := brk_rng (c := c') S.2.2.2.2.2
        refine ⟨o, rfl, rfl, fun h => if_pos h, fun h => if_neg h, rfl, fun j => rfl, ?_⟩
        have q : ((fun j => if j = 3 + (S.2.2.2.1 + 1) then c' else S.1 j : Nat → Cfg)) (3 + (S.2.2.2.1 + 1)) = c' := if_pos rfl
        show brk ((fun j => if j = 3 + (S.2.2.2.1 + 1) then c' else S.1 j : Nat → Cfg) (3 + (S.2.2.2.1 + 1))) S.2.2.2.2.2 = 0
        rw [q]
        omega
theorem lc_commit {c : Int} {v t : Int} {tl : List aV} (J : LI z b L S n h) (hc : 0 ≤ c ∧ c ≤ 1) (k : ∀ h' S' tl', LI z b L S' (n + 1) h' → amT mL_law 663 (vR b :: vR z :: vI (S'.2.1 0 + 2 * S'.2.1 1) :: vI 1 :: vI (T : Int) :: vI (n : Int) :: tl') [] h' Q) : amT mL_law 212 (vR b :: vR z :: vI (S.2.1 0 + 2 * S.2.1 1) :: vI 1 :: vI (T : Int) :: vI (n : Int) :: vI v :: vI c :: vI t :: tl) [] h Q := by
  obtain ⟨HS, H, sb, n1, n2, n3⟩ := id J
  have hx := H.1.1
  have hr := HS.2.2.1
  obtain ⟨w, hw⟩ : ∃ w, w = lw (am_bw 4 v 5) 20 := ⟨_, rfl⟩
  have hw2 : 0 ≤ w ∧ w ≤ 19 := by have := lw_rng (x := am_bw 4 v 5) (n := 20) (by decide); omega
  have p01 := (HS.2.1 0 (by decide)).1
  have q01 := (HS.2.1 1 (by decide)).1
  refine kr_aload_n (pc := 212) dL_law_212 rfl ?_
  refine kr_v0 (pc := 213) dL_law_213 rfl rfl (by assumption) (Nat.le_of_ble_eq_true rfl) (q_running H HS rfl ?_)
  show amT _ _ _ _ _ _
  refine kr_istore (pc := 216) dL_law_216 (show 9 ≤ _ from by simp) (by decide) ?_
  simp only [stl, List.tail_cons, List.tail_nil]
  refine kr_iload (pc := 218) dL_law_218 rfl ?_
  refine kr_iconst (pc := 220) dL_law_220 (by decide) ?_
  refine kr_ishr (pc := 221) dL_law_221 ?_
  refine kr_iconst (pc := 222) dL_law_222 (by decide) ?_
  refine kr_s2 (pc := 223) dL_law_223 rfl rfl (Nat.le_of_ble_eq_true rfl) rfl rfl (l_low (by decide) ?_)
  show amT _ _ _ _ _ _
  refine kr_if_ne (pc := 226) dL_law_226 rfl (fun h226 => ?_) (fun h226 => ?_)
  · refine kr_iconst (pc := 233) dL_law_233 (by decide) ?_
    refine kr_iload (pc := 234) dL_law_234 rfl ?_
    refine kr_iconst (pc := 236) dL_law_236 (by decide) ?_
    refine kr_ishr (pc := 237) dL_law_237 ?_
    refine kr_bipush (pc := 238) dL_law_238 (by decide) ?_
    refine kr_s2 (pc := 240) dL_law_240 rfl rfl (Nat.le_of_ble_eq_true rfl) rfl rfl (l_low (by decide) ?_)
    show amT _ _ _ _ _ _
    rw [← hw]
    refine kr_iadd (pc := 243) dL_law_243 ⟨by omega, by omega⟩ ?_
    refine kr_istore (pc := 244) dL_law_244 (show 10 ≤ _ from by simp) (by decide) ?_
    simp only [stl, List.tail_cons, List.tail_nil]
    refine kr_aload_n (pc := 246) dL_law_246 rfl ?_
    refine kr_iload (pc := 247) dL_law_247 rfl ?_
    refine kr_iload (pc := 249) dL_law_249 rfl ?_
    refine kr_s3 (pc := 251) dL_law_251 rfl rfl (Nat.le_of_ble_eq_true rfl) rfl rfl rfl (l_commit H HS (by omega) (by omega) (fun v251 S251 h251 e251 f251 D251 => ?_) (fun h251 f251 D251 => ?_))
    · show amT _ _ _ _ _ _
      have hx251 := D251.1.1
      obtain ⟨g1, g2, g3, g4, g5, g6, g7, g8⟩ := commit_facts HS hc (by omega) e251
      have gv : v251 = ((S251.2.2.2.1 : Nat) : Int) := by omega
      subst gv
      have gr := g1.2.2.1
      have op : am_bw 0 (S.2.1 0 + 2 * S.2.1 1) (am_bw 2 (am_bw 3 1 c) (-1)) = S251.2.1 0 + 2 * S251.2.1 1 := by rw [op_clr p01 q01 (by omega), g7, g7]; rcases (by omega : c = 0 ∨ c = 1) with rfl | rfl <;> simp
      refine kr_istore (pc := 254) dL_law_254 (show 11 ≤ _ from by simp) (by decide) ?_
      simp only [stl, List.tail_cons, List.tail_nil]
      refine kr_iload (pc := 256) dL_law_256 rfl ?_
      refine kr_bipush (pc := 258) dL_law_258 (by decide) ?_
      refine kr_icmp_ne (pc := 260) dL_law_260 rfl (fun h260 => ?_) (fun h260 => by exfalso; omega)
      refine kr_iload (pc := 280) dL_law_280 rfl ?_
      refine kr_iload (pc := 282) dL_law_282 rfl ?_
      refine kr_iconst (pc := 284) dL_law_284 (by decide) ?_
      refine kr_iadd (pc := 285) dL_law_285 ⟨by omega, by omega⟩ ?_
      refine kr_icmp_ne (pc := 286) dL_law_286 rfl (fun h286 => by exfalso; omega) (fun h286 => ?_)
      refine kr_aload_n (pc := 289) dL_law_289 rfl ?_
      refine kr_v0 (pc := 290) dL_law_290 rfl rfl (by assumption) (Nat.le_of_ble_eq_true rfl) (q_running D251 g1 rfl ?_)
      show amT _ _ _ _ _ _
      refine kr_iload (pc := 293) dL_law_293 rfl ?_
      refine kr_icmp_ne (pc := 295) dL_law_295 rfl (fun h295 => by exfalso; omega) (fun h295 => ?_)
      refine kr_aload_n (pc := 298) dL_law_298 rfl ?_
      refine kr_v0 (pc := 299) dL_law_299 rfl rfl (by assumption) (Nat.le_of_ble_eq_true rfl) (q_waiting D251 g1 rfl ?_)
      show amT _ _ _ _ _ _
      refine kr_iload (pc := 302) dL_law_302 rfl ?_
      refine kr_if_ne (pc := 304) dL_law_304 rfl (fun h304 => ?_) (fun h304 => by exfalso; omega)
      refine kr_iload (pc := 311) dL_law_311 rfl ?_
      refine kr_icmp_ne (pc := 313) dL_law_313 rfl (fun h313 => by exfalso; omega) (fun h313 => ?_)
      refine kr_aload_n (pc := 316) dL_law_316 rfl ?_
      refine kr_bipush (pc := 317) dL_law_317 (by decide) ?_
      refine kr_iload (pc := 319) dL_law_319 rfl ?_
      refine kr_iadd (pc := 321) dL_law_321 ⟨by omega, by omega⟩ ?_
      refine kr_v1 (pc := 322) dL_law_322 rfl rfl (by assumption) (Nat.le_of_ble_eq_true rfl) rfl (q_faults D251 g1 (by omega) (r_faults (slt_v (Nat.le_refl _))) (fun h322 f322 D322 => ?_))
      show amT _ _ _ _ _ _
      refine kr_if_ne (pc := 325) dL_law_325 rfl (fun h325 => by exfalso; omega) (fun h325 => ?_)
      refine kr_iconst (pc := 328) dL_law_328 (by decide) ?_
      refine kr_goto (pc := 329) dL_law_329 rfl ?_
      refine kr_istore_n (pc := 333) dL_law_333 (show 3 ≤ _ from by simp) (by decide) ?_
      simp only [stl, List.tail_cons, List.tail_nil]
      refine kr_iload_n (pc := 334) dL_law_334 rfl ?_
      refine kr_iload (pc := 335) dL_law_335 rfl ?_
      refine kr_bipush (pc := 337) dL_law_337 (by decide) ?_
      refine kr_icmp_ne (pc := 339) dL_law_339 rfl (fun h339 => ?_) (fun h339 => by exfalso; omega)
      refine kr_iconst (pc := 346) dL_law_346 (by decide) ?_
      refine kr_iload (pc := 347) dL_law_347 rfl ?_
      refine kr_ishl (pc := 349) dL_law_349 ?_
      refine kr_iconst (pc := 350) dL_law_350 (by decide) ?_
      refine kr_ixor (pc := 351) dL_law_351 ?_
      refine kr_iand (pc := 352) dL_law_352 ?_
      refine kr_istore_n (pc := 353) dL_law_353 (show 2 ≤ _ from by simp) (by decide) ?_
      simp only [stl, List.tail_cons, List.tail_nil]
      refine kr_goto (pc := 354) dL_law_354 rfl ?_
      rw [op]
      exact k h322 S251 _ (J.next ((f251.tr f322).x 2) D322 g1 (by rw [g6]; omega))
    · show amT _ _ _ _ _ _
      have E251 := D251.th
      have hx251 := E251.1.1
      refine kr_istore (pc := 254) dL_law_254 (show 11 ≤ _ from by simp) (by decide) ?_
      simp only [stl, List.tail_cons, List.tail_nil]
      refine kr_iload (pc := 256) dL_law_256 rfl ?_
      refine kr_bipush (pc := 258) dL_law_258 (by decide) ?_
      refine kr_icmp_ne (pc := 260) dL_law_260 rfl (fun h => absurd h (by decide)) (fun _ => ?_)
      refine kr_aload_n (pc := 263) dL_law_263 rfl ?_
      refine kr_v0 (pc := 264) dL_law_264 rfl rfl (by assumption) (Nat.le_of_ble_eq_true rfl) (q_running E251 HS rfl ?_)
      show amT _ _ _ _ _ _
      refine kr_iload (pc := 267) dL_law_267 rfl ?_
      refine kr_icmp_ne (pc := 269) dL_law_269 rfl (fun h269 => by exfalso; omega) (fun h269 => ?_)
      refine kr_iconst (pc := 272) dL_law_272 (by decide) ?_
      refine kr_goto (pc := 273) dL_law_273 rfl ?_
      refine kr_istore_n (pc := 333) dL_law_333 (show 3 ≤ _ from by simp) (by decide) ?_
      simp only [stl, List.tail_cons, List.tail_nil]
      refine kr_iload_n (pc := 334) dL_law_334 rfl ?_
      refine kr_iload (pc := 335) dL_law_335 rfl ?_
      refine kr_bipush (pc := 337) dL_law_337 (by decide) ?_
      refine kr_icmp_ne (pc := 339) dL_law_339 rfl (fun h => absurd h (by decide)) (fun _ => ?_)
      refine kr_iconst (pc := 342) dL_law_342 (by decide) ?_
      refine kr_goto (pc := 343) dL_law_343 rfl ?_
      refine kr_iand (pc := 352) dL_law_352 ?_
      refine kr_istore_n (pc := 353) dL_law_353 (show 2 ≤ _ from by simp) (by decide) ?_
      simp only [stl, List.tail_cons, List.tail_nil]
      refine kr_goto (pc := 354) dL_law_354 rfl ?_
      rw [op_and p01 q01]
      exact k _ S _ (J.next (f251.th.tr (fro.rf.x 0) (by omega)) E251 HS (by omega))
  · refine kr_iconst (pc := 229) dL_law_229 (by decide) ?_
    refine kr_goto (pc := 230) dL_law_230 rfl ?_
    refine kr_istore (pc := 244) dL_law_244 (show 10 ≤ _ from by simp) (by decide) ?_
    simp only [stl, List.tail_cons, List.tail_nil]
    refine kr_aload_n (pc := 246) dL_law_246 rfl ?_
    refine kr_iload (pc := 247) dL_law_247 rfl ?_
    refine kr_iload (pc := 249) dL_law_249 rfl ?_
    refine kr_s3 (pc := 251) dL_law_251 rfl rfl (Nat.le_of_ble_eq_true rfl) rfl rfl rfl (l_commit H HS (by omega) (by omega) (fun v251 S251 h251 e251 f251 D251 => ?_) (fun h251 f251 D251 => ?_))
    · show amT _ _ _ _ _ _
      have hx251 := D251.1.1
      obtain ⟨g1, g2, g3, g4, g5, g6, g7, g8⟩ := commit_facts HS hc (by omega) e251
      have gv : v251 = ((S251.2.2.2.1 : Nat) : Int) := by omega
      subst gv
      have gr := g1.2.2.1
      have op : am_bw 0 (S.2.1 0 + 2 * S.2.1 1) (am_bw 2 (am_bw 3 1 c) (-1)) = S251.2.1 0 + 2 * S251.2.1 1 := by rw [op_clr p01 q01 (by omega), g7, g7]; rcases (by omega : c = 0 ∨ c = 1) with rfl | rfl <;> simp
      refine kr_istore (pc := 254) dL_law_254 (show 11 ≤ _ from by simp) (by decide) ?_
      simp only [stl, List.tail_cons, List.tail_nil]
      refine kr_iload (pc := 256) dL_law_256 rfl ?_
      refine kr_bipush (pc := 258) dL_law_258 (by decide) ?_
      refine kr_icmp_ne (pc := 260) dL_law_260 rfl (fun h260 => ?_) (fun h260 => by exfalso; omega)
      refine kr_iload (pc := 280) dL_law_280 rfl ?_
      refine kr_iload (pc := 282) dL_law_282 rfl ?_
      refine kr_iconst (pc := 284) dL_law_284 (by decide) ?_
      refine kr_iadd (pc := 285) dL_law_285 ⟨by omega, by omega⟩ ?_
      refine kr_icmp_ne (pc := 286) dL_law_286 rfl (fun h286 => by exfalso; omega) (fun h286 => ?_)
      refine kr_aload_n (pc := 289) dL_law_289 rfl ?_
      refine kr_v0 (pc := 290) dL_law_290 rfl rfl (by assumption) (Nat.le_of_ble_eq_true rfl) (q_running D251 g1 rfl ?_)
      show amT _ _ _ _ _ _
      refine kr_iload (pc := 293) dL_law_293 rfl ?_
      refine kr_icmp_ne (pc := 295) dL_law_295 rfl (fun h295 => by exfalso; omega) (fun h295 => ?_)
      refine kr_aload_n (pc := 298) dL_law_298 rfl ?_
      refine kr_v0 (pc := 299) dL_law_299 rfl rfl (by assumption) (Nat.le_of_ble_eq_true rfl) (q_waiting D251 g1 rfl ?_)
      show amT _ _ _ _ _ _
      refine kr_iload (pc := 302) dL_law_302 rfl ?_
      refine kr_if_ne (pc := 304) dL_law_304 rfl (fun h => absurd h (by decide)) (fun _ => ?_)
      refine kr_iconst (pc := 307) dL_law_307 (by decide) ?_
      refine kr_goto (pc := 308) dL_law_308 rfl ?_
      refine kr_icmp_ne (pc := 313) dL_law_313 rfl (fun h313 => by exfalso; omega) (fun h313 => ?_)
      refine kr_aload_n (pc := 316) dL_law_316 rfl ?_
      refine kr_bipush (pc := 317) dL_law_317 (by decide) ?_
      refine kr_iload (pc := 319) dL_law_319 rfl ?_
      refine kr_iadd (pc := 321) dL_law_321 ⟨by omega, by omega⟩ ?_
      refine kr_v1 (pc := 322) dL_law_322 rfl rfl (by assumption) (Nat.le_of_ble_eq_true rfl) rfl (q_faults D251 g1 (by omega) (r_faults (slt_v (Nat.le_refl _))) (fun h322 f322 D322 => ?_))
      show amT _ _ _ _ _ _
      refine kr_if_ne (pc := 325) dL_law_325 rfl (fun h325 => by exfalso; omega) (fun h325 => ?_)
      refine kr_iconst (pc := 328) dL_law_328 (by decide) ?_
      refine kr_goto (pc := 329) dL_law_329 rfl ?_
      refine kr_istore_n (pc := 333) dL_law_333 (show 3 ≤ _ from by simp) (by decide) ?_
      simp only [stl, List.tail_cons, List.tail_nil]
      refine kr_iload_n (pc := 334) dL_law_334 rfl ?_
      refine kr_iload (pc := 335) dL_law_335 rfl ?_
      refine kr_bipush (pc := 337) dL_law_337 (by decide) ?_
      refine kr_icmp_ne (pc := 339) dL_law_339 rfl (fun h339 => ?_) (fun h339 => by exfalso; omega)
      refine kr_iconst (pc := 346) dL_law_346 (by decide) ?_
      refine kr_iload (pc := 347) dL_law_347 rfl ?_
      refine kr_ishl (pc := 349) dL_law_349 ?_
      refine kr_iconst (pc := 350) dL_law_350 (by decide) ?_
      refine kr_ixor (pc := 351) dL_law_351 ?_
      refine kr_iand (pc := 352) dL_law_352 ?_
      refine kr_istore_n (pc := 353) dL_law_353 (show 2 ≤ _ from by simp) (by decide) ?_
      simp only [stl, List.tail_cons, List.tail_nil]
      refine kr_goto (pc := 354) dL_law_354 rfl ?_
      rw [op]
      exact k h322 S251 _ (J.next ((f251.tr f322).x 2) D322 g1 (by rw [g6]; omega))
    · show amT _ _ _ _ _ _
      have E251 := D251.th
      have hx251 := E251.1.1
      refine kr_istore (pc := 254) dL_law_254 (show 11 ≤ _ from by simp) (by decide) ?_
      simp only [stl, List.tail_cons, List.tail_nil]
      refine kr_iload (pc := 256) dL_law_256 rfl ?_
      refine kr_bipush (pc := 258) dL_law_258 (by decide) ?_
      refine kr_icmp_ne (pc := 260) dL_law_260 rfl (fun h => absurd h (by decide)) (fun _ => ?_)
      refine kr_aload_n (pc := 263) dL_law_263 rfl ?_
      refine kr_v0 (pc := 264) dL_law_264 rfl rfl (by assumption) (Nat.le_of_ble_eq_true rfl) (q_running E251 HS rfl ?_)
      show amT _ _ _ _ _ _
      refine kr_iload (pc := 267) dL_law_267 rfl ?_
      refine kr_icmp_ne (pc := 269) dL_law_269 rfl (fun h269 => by exfalso; omega) (fun h269 => ?_)
      refine kr_iconst (pc := 272) dL_law_272 (by decide) ?_
      refine kr_goto (pc := 273) dL_law_273 rfl ?_
      refine kr_istore_n (pc := 333) dL_law_333 (show 3 ≤ _ from by simp) (by decide) ?_
      simp only [stl, List.tail_cons, List.tail_nil]
      refine kr_iload_n (pc := 334) dL_law_334 rfl ?_
      refine kr_iload (pc := 335) dL_law_335 rfl ?_
      refine kr_bipush (pc := 337) dL_law_337 (by decide) ?_
      refine kr_icmp_ne (pc := 339) dL_law_339 rfl (fun h => absurd h (by decide)) (fun _ => ?_)
      refine kr_iconst (pc := 342) dL_law_342 (by decide) ?_
      refine kr_goto (pc := 343) dL_law_343 rfl ?_
      refine kr_iand (pc := 352) dL_law_352 ?_
      refine kr_istore_n (pc := 353) dL_law_353 (show 2 ≤ _ from by simp) (by decide) ?_
      simp only [stl, List.tail_cons, List.tail_nil]
      refine kr_goto (pc := 354) dL_law_354 rfl ?_
      rw [op_and p01 q01]
      exact k _ S _ (J.next (f251.th.tr (fro.rf.x 0) (by omega)) E251 HS (by omega))
theorem lc_confirm {c : Int} {v t : Int} {tl : List aV} (J : LI z b L S n h) (hw : S.2.2.2.2.1 ≠ -1) (k : ∀ h' S' tl', LI z b L S' (n + 1) h' → amT mL_law 663 (vR b :: vR z :: vI (S'.2.1 0 + 2 * S'.2.1 1) :: vI 1 :: vI (T : Int) :: vI (n : Int) :: tl') [] h' Q) : amT mL_law 372 (vR b :: vR z :: vI (S.2.1 0 + 2 * S.2.1 1) :: vI 1 :: vI (T : Int) :: vI (n : Int) :: vI v :: vI c :: vI t :: tl) [] h Q := by
  obtain ⟨HS, H, sb, n1, n2, n3⟩ := id J
  have hx := H.1.1
  obtain ⟨S1, hS1⟩ : ∃ S1, S1 = (sp_confirm S).2.2 := ⟨_, rfl⟩
  have o1 : okS S1 := by rw [hS1]; exact okS_confirm HS
  have e1 : sp_confirm S = (0, S.2.2.2.2.1, S1) := by
    rw [hS1]
    unfold sp_confirm
    rw [if_neg hw]
  have fs : S1.2.1 = S.2.1 ∧ S1.2.2.2.2.1 = -1 ∧ S1.2.2.2.2.2 = S.2.2.2.2.2 := by
    rw [hS1]
    unfold sp_confirm
    rw [if_neg hw]
    exact ⟨rfl, rfl, rfl⟩
  obtain ⟨s1, s2, s3⟩ := fs
  refine kr_aload_n (pc := 372) dL_law_372 rfl ?_
  refine kr_v0 (pc := 373) dL_law_373 rfl rfl (by assumption) (Nat.le_of_ble_eq_true rfl) (q_waiting H HS rfl ?_)
  show amT _ _ _ _ _ _
  refine kr_istore (pc := 376) dL_law_376 (show 9 ≤ _ from by simp) (by decide) ?_
  simp only [stl, List.tail_cons, List.tail_nil]
  refine kr_aload_n (pc := 378) dL_law_378 rfl ?_
  refine kr_v0 (pc := 379) dL_law_379 rfl rfl (by assumption) (Nat.le_of_ble_eq_true rfl) (q_confirm H HS e1 (fun h379 f379 D379 => ?_))
  show amT _ _ _ _ _ _
  have hx379 := D379.1.1
  refine kr_iload (pc := 382) dL_law_382 rfl ?_
  refine kr_icmp_ne (pc := 384) dL_law_384 rfl (fun h384 => by exfalso; omega) (fun h384 => ?_)
  refine kr_aload_n (pc := 387) dL_law_387 rfl ?_
  refine kr_v0 (pc := 388) dL_law_388 rfl rfl (by assumption) (Nat.le_of_ble_eq_true rfl) (q_waiting D379 o1 s2 ?_)
  show amT _ _ _ _ _ _
  refine kr_iconst (pc := 391) dL_law_391 (by decide) ?_
  refine kr_icmp_ne (pc := 392) dL_law_392 rfl (fun h => absurd h (by decide)) (fun _ => ?_)
  refine kr_iconst (pc := 395) dL_law_395 (by decide) ?_
  refine kr_goto (pc := 396) dL_law_396 rfl ?_
  refine kr_istore_n (pc := 400) dL_law_400 (show 3 ≤ _ from by simp) (by decide) ?_
  simp only [stl, List.tail_cons, List.tail_nil]
  refine kr_goto (pc := 401) dL_law_401 rfl ?_
  rw [← s1]
  exact k h379 S1 _ (J.next (f379.x 2) D379 o1 (by rw [s3]; omega))
theorem adv_facts {m : Int} (HS : okS S) (hm : 1 ≤ m ∧ m ≤ 100) : ∃ (va : Int) (S' : St), sp_advance S m = (0, va, S') ∧ okS S' ∧ S'.2.1 = S.2.1 ∧ S'.2.2.2.2.2 = S.2.2.2.2.2 ∧
    (S.2.2.2.2.1 ≠ -1 → S.2.2.2.2.1 ≤ m → va = (S.2.2.2.1 : Int) + 1 ∧ S'.2.2.2.1 = S.2.2.2.1 + 1 ∧ S'.2.2.2.2.1 = -1 ∧ 1 ≤ S.2.2.2.1 ∧ S'.1 (3 + (S.2.2.2.1 + 1)) = S.1 (3 + (S.2.2.2.1 - 1)) ∧ S'.1 (3 + (S.2.2.2.1 - 1)) = S.1 (3 + (S.2.2.2.1 - 1))) ∧
    (S.2.2.2.2.1 = -1 → va = (S.2.2.2.1 : Int) ∧ S'.2.2.2.2.1 = -1) ∧ (S.2.2.2.2.1 ≠ -1 → m < S.2.2.2.2.1 → va = (S.2.2.2.1 : Int) ∧ S'.2.2.2.2.1 = S.2.2.2.2.1 - m) := by
  have o := okS_advance HS m
  have h4 := HS.2.2.2.1
  unfold sp_advance at o ⊢
  rw [if_neg (fun z => z hm)] at o ⊢
  by_cases h1 : S.2.2.2.2.1 = -1
  · rw [if_pos h1] at o ⊢
    exact ⟨_, _, rfl, o, rfl, rfl, fun z => absurd h1 z, fun _ => ⟨rfl, h1⟩, fun z => absurd h1 z⟩
  · rw [if_neg h1] at o ⊢
    by_cases h2 : S.2.2.2.2.1 ≤ m
    · rw [if_pos h2] at o ⊢
      exact ⟨_, _, rfl, o, rfl, rfl, fun _ _ => ⟨rfl, rfl, rfl, by omega, if_pos rfl, if_neg (by omega)⟩, fun z => absurd z h1, fun _ z => by omega⟩
    · rw [if_neg h2] at o ⊢
      exact ⟨_, _, rfl, o, rfl, rfl, fun _ z => absurd z h2, fun z => absurd z h1, fun _ _ => ⟨rfl, rfl⟩⟩
theorem lc_adv1 {c : Int} {v t : Int} {tl : List aV} (J : LI z b L S n h) (hw : S.2.2.2.2.1 = -1) (k : ∀ h' S' tl', LI z b L S' (n + 1) h' → amT mL_law 663 (vR b :: vR z :: vI (S'.2.1 0 + 2 * S'.2.1 1) :: vI 1 :: vI (T : Int) :: vI (n : Int) :: tl') [] h' Q) : amT mL_law 411 (vR b :: vR z :: vI (S.2.1 0 + 2 * S.2.1 1) :: vI 1 :: vI (T : Int) :: vI (n : Int) :: vI v :: vI c :: vI t :: tl) [] h Q := by
  obtain ⟨HS, H, sb, n1, n2, n3⟩ := id J
  have hx := H.1.1
  have hr := HS.2.2.1
  have h4 := HS.2.2.2.1
  have hx2 := lw_rng (x := am_bw 4 v 3) (n := 20) (by decide)
  obtain ⟨va, S1, e1, o1, s1, s2, a1, a2, a3⟩ := adv_facts (m := 1 + lw (am_bw 4 v 3) 20) HS (by omega)
  obtain ⟨b1, b2⟩ := a2 hw
  refine kr_aload_n (pc := 411) dL_law_411 rfl ?_
  refine kr_v0 (pc := 412) dL_law_412 rfl rfl (by assumption) (Nat.le_of_ble_eq_true rfl) (q_running H HS rfl ?_)
  show amT _ _ _ _ _ _
  refine kr_istore (pc := 415) dL_law_415 (show 9 ≤ _ from by simp) (by decide) ?_
  simp only [stl, List.tail_cons, List.tail_nil]
  refine kr_aload_n (pc := 417) dL_law_417 rfl ?_
  refine kr_v0 (pc := 418) dL_law_418 rfl rfl (by assumption) (Nat.le_of_ble_eq_true rfl) (q_waiting H HS rfl ?_)
  show amT _ _ _ _ _ _
  refine kr_istore (pc := 421) dL_law_421 (show 10 ≤ _ from by simp) (by decide) ?_
  simp only [stl, List.tail_cons, List.tail_nil]
  refine kr_iconst (pc := 423) dL_law_423 (by decide) ?_
  refine kr_iload (pc := 424) dL_law_424 rfl ?_
  refine kr_iconst (pc := 426) dL_law_426 (by decide) ?_
  refine kr_ishr (pc := 427) dL_law_427 ?_
  refine kr_bipush (pc := 428) dL_law_428 (by decide) ?_
  refine kr_s2 (pc := 430) dL_law_430 rfl rfl (Nat.le_of_ble_eq_true rfl) rfl rfl (l_low (by decide) ?_)
  show amT _ _ _ _ _ _
  refine kr_iadd (pc := 433) dL_law_433 ⟨by omega, by omega⟩ ?_
  refine kr_istore (pc := 434) dL_law_434 (show 11 ≤ _ from by simp) (by decide) ?_
  simp only [stl, List.tail_cons, List.tail_nil]
  refine kr_iload (pc := 436) dL_law_436 rfl ?_
  refine kr_iconst (pc := 438) dL_law_438 (by decide) ?_
  refine kr_icmp_eq (pc := 439) dL_law_439 rfl (fun h439 => ?_) (fun h439 => by exfalso; omega)
  refine kr_iconst (pc := 453) dL_law_453 (by decide) ?_
  refine kr_istore (pc := 454) dL_law_454 (show 12 ≤ _ from by simp) (by decide) ?_
  simp only [stl, List.tail_cons, List.tail_nil]
  refine kr_aload_n (pc := 456) dL_law_456 rfl ?_
  refine kr_iload (pc := 457) dL_law_457 rfl ?_
  refine kr_v1 (pc := 459) dL_law_459 rfl rfl (by assumption) (Nat.le_of_ble_eq_true rfl) rfl (q_advance H HS e1 (fun h459 f459 D459 => ?_))
  show amT _ _ _ _ _ _
  have hx459 := D459.1.1
  refine kr_iload (pc := 462) dL_law_462 rfl ?_
  refine kr_iload (pc := 464) dL_law_464 rfl ?_
  refine kr_if_eq (pc := 466) dL_law_466 rfl (fun _ => ?_) (fun h => absurd h (by decide))
  refine kr_iconst (pc := 473) dL_law_473 (by decide) ?_
  refine kr_iadd (pc := 474) dL_law_474 ⟨by omega, by omega⟩ ?_
  refine kr_icmp_ne (pc := 475) dL_law_475 rfl (fun h475 => by exfalso; omega) (fun h475 => ?_)
  refine kr_aload_n (pc := 478) dL_law_478 rfl ?_
  refine kr_v0 (pc := 479) dL_law_479 rfl rfl (by assumption) (Nat.le_of_ble_eq_true rfl) (q_waiting D459 o1 b2 ?_)
  show amT _ _ _ _ _ _
  refine kr_iload (pc := 482) dL_law_482 rfl ?_
  refine kr_iconst (pc := 484) dL_law_484 (by decide) ?_
  refine kr_icmp_eq (pc := 485) dL_law_485 rfl (fun h485 => ?_) (fun h485 => by exfalso; omega)
  refine kr_iconst (pc := 493) dL_law_493 (by decide) ?_
  refine kr_goto (pc := 494) dL_law_494 rfl ?_
  refine kr_icmp_ne (pc := 502) dL_law_502 rfl (fun h502 => by exfalso; omega) (fun h502 => ?_)
  refine kr_iconst (pc := 505) dL_law_505 (by decide) ?_
  refine kr_goto (pc := 506) dL_law_506 rfl ?_
  refine kr_istore_n (pc := 510) dL_law_510 (show 3 ≤ _ from by simp) (by decide) ?_
  simp only [stl, List.tail_cons, List.tail_nil]
  refine kr_iload_n (pc := 511) dL_law_511 rfl ?_
  refine kr_if_eq (pc := 512) dL_law_512 rfl (fun h => absurd h (by decide)) (fun _ => ?_)
  refine kr_iload (pc := 515) dL_law_515 rfl ?_
  refine kr_if_eq (pc := 517) dL_law_517 rfl (fun _ => ?_) (fun h => absurd h (by decide))
  refine kr_iconst (pc := 543) dL_law_543 (by decide) ?_
  refine kr_goto (pc := 544) dL_law_544 rfl ?_
  refine kr_istore_n (pc := 548) dL_law_548 (show 3 ≤ _ from by simp) (by decide) ?_
  simp only [stl, List.tail_cons, List.tail_nil]
  refine kr_goto (pc := 549) dL_law_549 rfl ?_
  rw [← s1]
  exact k h459 S1 _ (J.next (f459.x 2) D459 o1 (by rw [s2]; omega))
theorem lc_adv2 {c : Int} {v t : Int} {tl : List aV} (J : LI z b L S n h) (hw : S.2.2.2.2.1 ≠ -1) (hm : S.2.2.2.2.1 ≤ 1 + lw (am_bw 4 v 3) 20) (k : ∀ h' S' tl', LI z b L S' (n + 1) h' → amT mL_law 663 (vR b :: vR z :: vI (S'.2.1 0 + 2 * S'.2.1 1) :: vI 1 :: vI (T : Int) :: vI (n : Int) :: tl') [] h' Q) : amT mL_law 411 (vR b :: vR z :: vI (S.2.1 0 + 2 * S.2.1 1) :: vI 1 :: vI (T : Int) :: vI (n : Int) :: vI v :: vI c :: vI t :: tl) [] h Q := by
  obtain ⟨HS, H, sb, n1, n2, n3⟩ := id J
  have hx := H.1.1
  have hr := HS.2.2.1
  have h4 := HS.2.2.2.1
  have hx2 := lw_rng (x := am_bw 4 v 3) (n := 20) (by decide)
  obtain ⟨va, S1, e1, o1, s1, s2, a1, a2, a3⟩ := adv_facts (m := 1 + lw (am_bw 4 v 3) 20) HS (by omega)
  obtain ⟨b1, b3, b2, b4, b5, b6⟩ := a1 hw hm
  have oN := HS.1 (3 + (S.2.2.2.1 - 1)) (by omega)
  have e2 : sp_same S1 (10 + (S1.2.2.2.1 : Int)) (10 + (S1.2.2.2.1 : Int) - 2) = (0, 1, S1) := by
    have w1 : slt S1 (10 + (S1.2.2.2.1 : Int) - 2) = ((3 + (S.2.2.2.1 - 1) : Nat) : Int) := by
      rw [show 10 + (S1.2.2.2.1 : Int) - 2 = 10 + ((S.2.2.2.1 - 1 : Nat) : Int) by omega]
      exact slt_v (by omega)
    exact r_same1 (slt_v (Nat.le_refl _)) w1 (by rw [b3]; exact b5) b6 (edL_nil oN oN eqC.refl)
  refine kr_aload_n (pc := 411) dL_law_411 rfl ?_
  refine kr_v0 (pc := 412) dL_law_412 rfl rfl (by assumption) (Nat.le_of_ble_eq_true rfl) (q_running H HS rfl ?_)
  show amT _ _ _ _ _ _
  refine kr_istore (pc := 415) dL_law_415 (show 9 ≤ _ from by simp) (by decide) ?_
  simp only [stl, List.tail_cons, List.tail_nil]
  refine kr_aload_n (pc := 417) dL_law_417 rfl ?_
  refine kr_v0 (pc := 418) dL_law_418 rfl rfl (by assumption) (Nat.le_of_ble_eq_true rfl) (q_waiting H HS rfl ?_)
  show amT _ _ _ _ _ _
  refine kr_istore (pc := 421) dL_law_421 (show 10 ≤ _ from by simp) (by decide) ?_
  simp only [stl, List.tail_cons, List.tail_nil]
  refine kr_iconst (pc := 423) dL_law_423 (by decide) ?_
  refine kr_iload (pc := 424) dL_law_424 rfl ?_
  refine kr_iconst (pc := 426) dL_law_426 (by decide) ?_
  refine kr_ishr (pc := 427) dL_law_427 ?_
  refine kr_bipush (pc := 428) dL_law_428 (by decide) ?_
  refine kr_s2 (pc := 430) dL_law_430 rfl rfl (Nat.le_of_ble_eq_true rfl) rfl rfl (l_low (by decide) ?_)
  show amT _ _ _ _ _ _
  refine kr_iadd (pc := 433) dL_law_433 ⟨by omega, by omega⟩ ?_
  refine kr_istore (pc := 434) dL_law_434 (show 11 ≤ _ from by simp) (by decide) ?_
  simp only [stl, List.tail_cons, List.tail_nil]
  refine kr_iload (pc := 436) dL_law_436 rfl ?_
  refine kr_iconst (pc := 438) dL_law_438 (by decide) ?_
  refine kr_icmp_eq (pc := 439) dL_law_439 rfl (fun h439 => by exfalso; omega) (fun h439 => ?_)
  refine kr_iload (pc := 442) dL_law_442 rfl ?_
  refine kr_iload (pc := 444) dL_law_444 rfl ?_
  refine kr_icmp_gt (pc := 446) dL_law_446 rfl (fun h446 => by exfalso; omega) (fun h446 => ?_)
  refine kr_iconst (pc := 449) dL_law_449 (by decide) ?_
  refine kr_goto (pc := 450) dL_law_450 rfl ?_
  refine kr_istore (pc := 454) dL_law_454 (show 12 ≤ _ from by simp) (by decide) ?_
  simp only [stl, List.tail_cons, List.tail_nil]
  refine kr_aload_n (pc := 456) dL_law_456 rfl ?_
  refine kr_iload (pc := 457) dL_law_457 rfl ?_
  refine kr_v1 (pc := 459) dL_law_459 rfl rfl (by assumption) (Nat.le_of_ble_eq_true rfl) rfl (q_advance H HS e1 (fun h459 f459 D459 => ?_))
  show amT _ _ _ _ _ _
  have hx459 := D459.1.1
  refine kr_iload (pc := 462) dL_law_462 rfl ?_
  refine kr_iload (pc := 464) dL_law_464 rfl ?_
  refine kr_if_eq (pc := 466) dL_law_466 rfl (fun h => absurd h (by decide)) (fun _ => ?_)
  refine kr_iconst (pc := 469) dL_law_469 (by decide) ?_
  refine kr_goto (pc := 470) dL_law_470 rfl ?_
  refine kr_iadd (pc := 474) dL_law_474 ⟨by omega, by omega⟩ ?_
  refine kr_icmp_ne (pc := 475) dL_law_475 rfl (fun h475 => by exfalso; omega) (fun h475 => ?_)
  refine kr_aload_n (pc := 478) dL_law_478 rfl ?_
  refine kr_v0 (pc := 479) dL_law_479 rfl rfl (by assumption) (Nat.le_of_ble_eq_true rfl) (q_waiting D459 o1 b2 ?_)
  show amT _ _ _ _ _ _
  refine kr_iload (pc := 482) dL_law_482 rfl ?_
  refine kr_iconst (pc := 484) dL_law_484 (by decide) ?_
  refine kr_icmp_eq (pc := 485) dL_law_485 rfl (fun h485 => by exfalso; omega) (fun h485 => ?_)
  refine kr_iload (pc := 488) dL_law_488 rfl ?_
  refine kr_if_eq (pc := 490) dL_law_490 rfl (fun h => absurd h (by decide)) (fun _ => ?_)
  refine kr_iconst (pc := 493) dL_law_493 (by decide) ?_
  refine kr_goto (pc := 494) dL_law_494 rfl ?_
  refine kr_icmp_ne (pc := 502) dL_law_502 rfl (fun h502 => by exfalso; omega) (fun h502 => ?_)
  refine kr_iconst (pc := 505) dL_law_505 (by decide) ?_
  refine kr_goto (pc := 506) dL_law_506 rfl ?_
  refine kr_istore_n (pc := 510) dL_law_510 (show 3 ≤ _ from by simp) (by decide) ?_
  simp only [stl, List.tail_cons, List.tail_nil]
  refine kr_iload_n (pc := 511) dL_law_511 rfl ?_
  refine kr_if_eq (pc := 512) dL_law_512 rfl (fun h => absurd h (by decide)) (fun _ => ?_)
  refine kr_iload (pc := 515) dL_law_515 rfl ?_
  refine kr_if_eq (pc := 517) dL_law_517 rfl (fun h => absurd h (by decide)) (fun _ => ?_)
  refine kr_aload_n (pc := 520) dL_law_520 rfl ?_
  refine kr_bipush (pc := 521) dL_law_521 (by decide) ?_
  refine kr_aload_n (pc := 523) dL_law_523 rfl ?_
  refine kr_v0 (pc := 524) dL_law_524 rfl rfl (by assumption) (Nat.le_of_ble_eq_true rfl) (q_running D459 o1 rfl ?_)
  show amT _ _ _ _ _ _
  refine kr_iadd (pc := 527) dL_law_527 ⟨by omega, by omega⟩ ?_
  refine kr_bipush (pc := 528) dL_law_528 (by decide) ?_
  refine kr_aload_n (pc := 530) dL_law_530 rfl ?_
  refine kr_v0 (pc := 531) dL_law_531 rfl rfl (by assumption) (Nat.le_of_ble_eq_true rfl) (q_running D459 o1 rfl ?_)
  show amT _ _ _ _ _ _
  refine kr_iadd (pc := 534) dL_law_534 ⟨by omega, by omega⟩ ?_
  refine kr_iconst (pc := 535) dL_law_535 (by decide) ?_
  refine kr_isub (pc := 536) dL_law_536 ⟨by omega, by omega⟩ ?_
  refine kr_v2 (pc := 537) dL_law_537 rfl rfl (by assumption) (Nat.le_of_ble_eq_true rfl) rfl rfl (q_same D459 o1 (by omega) (by omega) e2 (fun h537 f537 D537 => ?_))
  show amT _ _ _ _ _ _
  refine kr_if_eq (pc := 540) dL_law_540 rfl (fun h => absurd h (by decide)) (fun _ => ?_)
  refine kr_iconst (pc := 543) dL_law_543 (by decide) ?_
  refine kr_goto (pc := 544) dL_law_544 rfl ?_
  refine kr_istore_n (pc := 548) dL_law_548 (show 3 ≤ _ from by simp) (by decide) ?_
  simp only [stl, List.tail_cons, List.tail_nil]
  refine kr_goto (pc := 549) dL_law_549 rfl ?_
  rw [← s1]
  exact k h537 S1 _ (J.next ((f459.tr f537).x 2) D537 o1 (by rw [s2]; omega))
theorem lc_adv3 {c : Int} {v t : Int} {tl : List aV} (J : LI z b L S n h) (hw : S.2.2.2.2.1 ≠ -1) (hm : 1 + lw (am_bw 4 v 3) 20 < S.2.2.2.2.1) (k : ∀ h' S' tl', LI z b L S' (n + 1) h' → amT mL_law 663 (vR b :: vR z :: vI (S'.2.1 0 + 2 * S'.2.1 1) :: vI 1 :: vI (T : Int) :: vI (n : Int) :: tl') [] h' Q) : amT mL_law 411 (vR b :: vR z :: vI (S.2.1 0 + 2 * S.2.1 1) :: vI 1 :: vI (T : Int) :: vI (n : Int) :: vI v :: vI c :: vI t :: tl) [] h Q := by
  obtain ⟨HS, H, sb, n1, n2, n3⟩ := id J
  have hx := H.1.1
  have hr := HS.2.2.1
  have h4 := HS.2.2.2.1
  have hx2 := lw_rng (x := am_bw 4 v 3) (n := 20) (by decide)
  obtain ⟨va, S1, e1, o1, s1, s2, a1, a2, a3⟩ := adv_facts (m := 1 + lw (am_bw 4 v 3) 20) HS (by omega)
  obtain ⟨b1, b2⟩ := a3 hw hm
  refine kr_aload_n (pc := 411) dL_law_411 rfl ?_
  refine kr_v0 (pc := 412) dL_law_412 rfl rfl (by assumption) (Nat.le_of_ble_eq_true rfl) (q_running H HS rfl ?_)
  show amT _ _ _ _ _ _
  refine kr_istore (pc := 415) dL_law_415 (show 9 ≤ _ from by simp) (by decide) ?_
  simp only [stl, List.tail_cons, List.tail_nil]
  refine kr_aload_n (pc := 417) dL_law_417 rfl ?_
  refine kr_v0 (pc := 418) dL_law_418 rfl rfl (by assumption) (Nat.le_of_ble_eq_true rfl) (q_waiting H HS rfl ?_)
  show amT _ _ _ _ _ _
  refine kr_istore (pc := 421) dL_law_421 (show 10 ≤ _ from by simp) (by decide) ?_
  simp only [stl, List.tail_cons, List.tail_nil]
  refine kr_iconst (pc := 423) dL_law_423 (by decide) ?_
  refine kr_iload (pc := 424) dL_law_424 rfl ?_
  refine kr_iconst (pc := 426) dL_law_426 (by decide) ?_
  refine kr_ishr (pc := 427) dL_law_427 ?_
  refine kr_bipush (pc := 428) dL_law_428 (by decide) ?_
  refine kr_s2 (pc := 430) dL_law_430 rfl rfl (Nat.le_of_ble_eq_true rfl) rfl rfl (l_low (by decide) ?_)
  show amT _ _ _ _ _ _
  refine kr_iadd (pc := 433) dL_law_433 ⟨by omega, by omega⟩ ?_
  refine kr_istore (pc := 434) dL_law_434 (show 11 ≤ _ from by simp) (by decide) ?_
  simp only [stl, List.tail_cons, List.tail_nil]
  refine kr_iload (pc := 436) dL_law_436 rfl ?_
  refine kr_iconst (pc := 438) dL_law_438 (by decide) ?_
  refine kr_icmp_eq (pc := 439) dL_law_439 rfl (fun h439 => by exfalso; omega) (fun h439 => ?_)
  refine kr_iload (pc := 442) dL_law_442 rfl ?_
  refine kr_iload (pc := 444) dL_law_444 rfl ?_
  refine kr_icmp_gt (pc := 446) dL_law_446 rfl (fun h446 => ?_) (fun h446 => by exfalso; omega)
  refine kr_iconst (pc := 453) dL_law_453 (by decide) ?_
  refine kr_istore (pc := 454) dL_law_454 (show 12 ≤ _ from by simp) (by decide) ?_
  simp only [stl, List.tail_cons, List.tail_nil]
  refine kr_aload_n (pc := 456) dL_law_456 rfl ?_
  refine kr_iload (pc := 457) dL_law_457 rfl ?_
  refine kr_v1 (pc := 459) dL_law_459 rfl rfl (by assumption) (Nat.le_of_ble_eq_true rfl) rfl (q_advance H HS e1 (fun h459 f459 D459 => ?_))
  show amT _ _ _ _ _ _
  have hx459 := D459.1.1
  refine kr_iload (pc := 462) dL_law_462 rfl ?_
  refine kr_iload (pc := 464) dL_law_464 rfl ?_
  refine kr_if_eq (pc := 466) dL_law_466 rfl (fun _ => ?_) (fun h => absurd h (by decide))
  refine kr_iconst (pc := 473) dL_law_473 (by decide) ?_
  refine kr_iadd (pc := 474) dL_law_474 ⟨by omega, by omega⟩ ?_
  refine kr_icmp_ne (pc := 475) dL_law_475 rfl (fun h475 => by exfalso; omega) (fun h475 => ?_)
  refine kr_aload_n (pc := 478) dL_law_478 rfl ?_
  refine kr_v0 (pc := 479) dL_law_479 rfl rfl (by assumption) (Nat.le_of_ble_eq_true rfl) (q_waiting D459 o1 b2 ?_)
  show amT _ _ _ _ _ _
  refine kr_iload (pc := 482) dL_law_482 rfl ?_
  refine kr_iconst (pc := 484) dL_law_484 (by decide) ?_
  refine kr_icmp_eq (pc := 485) dL_law_485 rfl (fun h485 => by exfalso; omega) (fun h485 => ?_)
  refine kr_iload (pc := 488) dL_law_488 rfl ?_
  refine kr_if_eq (pc := 490) dL_law_490 rfl (fun _ => ?_) (fun h => absurd h (by decide))
  refine kr_iload (pc := 497) dL_law_497 rfl ?_
  refine kr_iload (pc := 499) dL_law_499 rfl ?_
  refine kr_isub (pc := 501) dL_law_501 ⟨by omega, by omega⟩ ?_
  refine kr_icmp_ne (pc := 502) dL_law_502 rfl (fun h502 => by exfalso; omega) (fun h502 => ?_)
  refine kr_iconst (pc := 505) dL_law_505 (by decide) ?_
  refine kr_goto (pc := 506) dL_law_506 rfl ?_
  refine kr_istore_n (pc := 510) dL_law_510 (show 3 ≤ _ from by simp) (by decide) ?_
  simp only [stl, List.tail_cons, List.tail_nil]
  refine kr_iload_n (pc := 511) dL_law_511 rfl ?_
  refine kr_if_eq (pc := 512) dL_law_512 rfl (fun h => absurd h (by decide)) (fun _ => ?_)
  refine kr_iload (pc := 515) dL_law_515 rfl ?_
  refine kr_if_eq (pc := 517) dL_law_517 rfl (fun _ => ?_) (fun h => absurd h (by decide))
  refine kr_iconst (pc := 543) dL_law_543 (by decide) ?_
  refine kr_goto (pc := 544) dL_law_544 rfl ?_
  refine kr_istore_n (pc := 548) dL_law_548 (show 3 ≤ _ from by simp) (by decide) ?_
  simp only [stl, List.tail_cons, List.tail_nil]
  refine kr_goto (pc := 549) dL_law_549 rfl ?_
  rw [← s1]
  exact k h459 S1 _ (J.next (f459.x 2) D459 o1 (by rw [s2]; omega))
theorem lc_rule {c : Int} {v t : Int} {tl : List aV} (J : LI z b L S n h) (hn : n < 8) (k : ∀ h' S' tl', LI z b L S' (n + 1) h' → amT mL_law 663 (vR b :: vR z :: vI (S'.2.1 0 + 2 * S'.2.1 1) :: vI 1 :: vI (T : Int) :: vI (n : Int) :: tl') [] h' Q) : amT mL_law 577 (vR b :: vR z :: vI (S.2.1 0 + 2 * S.2.1 1) :: vI 1 :: vI (T : Int) :: vI (n : Int) :: vI v :: vI c :: vI t :: tl) [] h Q := by
  obtain ⟨HS, H, sb, n1, n2, n3⟩ := id J
  have hx := H.1.1
  have x1 := lw_rng (x := am_bw 4 v 5) (n := 4) (by decide)
  have x2 := lw_rng (x := am_bw 4 v 7) (n := 3) (by decide)
  have x3 := lw_rng (x := am_bw 4 v 9) (n := 2) (by decide)
  have x4 := lw_rng (x := am_bw 4 v 11) (n := 100) (by decide)
  have o1 := okS_rule HS (lw (am_bw 4 v 5) 4) (lw (am_bw 4 v 7) 3) (lw (am_bw 4 v 9) 2) (lw (am_bw 4 v 11) 100)
  have e1 : sp_rule S (lw (am_bw 4 v 5) 4) (lw (am_bw 4 v 7) 3) (lw (am_bw 4 v 9) 2) (lw (am_bw 4 v 11) 100) = (0, (S.2.2.2.2.2.length : Int), (S.1, S.2.1, S.2.2.1, S.2.2.2.1, S.2.2.2.2.1, S.2.2.2.2.2 ++ [(lw (am_bw 4 v 5) 4, lw (am_bw 4 v 7) 3, lw (am_bw 4 v 9) 2, lw (am_bw 4 v 11) 100)])) := by
    unfold sp_rule
    rw [if_neg (fun z => z (by omega)), if_neg (fun z => z (by omega)), if_neg (by omega)]
  rw [e1] at o1
  obtain ⟨S1, hS1⟩ : ∃ S1 : St, S1 = (S.1, S.2.1, S.2.2.1, S.2.2.2.1, S.2.2.2.2.1, S.2.2.2.2.2 ++ [(lw (am_bw 4 v 5) 4, lw (am_bw 4 v 7) 3, lw (am_bw 4 v 9) 2, lw (am_bw 4 v 11) 100)]) := ⟨_, rfl⟩
  have s1 : S1.2.1 = S.2.1 := by rw [hS1]
  have s2 : S1.2.2.2.2.2.length ≤ n + 1 := by
    rw [hS1]
    show (S.2.2.2.2.2 ++ _).length ≤ _
    rw [List.length_append]
    exact Nat.succ_le_succ n3
  rw [← hS1] at e1
  replace o1 : okS S1 := by rw [hS1]; exact o1
  refine kr_aload_n (pc := 577) dL_law_577 rfl ?_
  refine kr_iload (pc := 578) dL_law_578 rfl ?_
  refine kr_iconst (pc := 580) dL_law_580 (by decide) ?_
  refine kr_ishr (pc := 581) dL_law_581 ?_
  refine kr_iconst (pc := 582) dL_law_582 (by decide) ?_
  refine kr_s2 (pc := 583) dL_law_583 rfl rfl (Nat.le_of_ble_eq_true rfl) rfl rfl (l_low (by decide) ?_)
  show amT _ _ _ _ _ _
  refine kr_iload (pc := 586) dL_law_586 rfl ?_
  refine kr_bipush (pc := 588) dL_law_588 (by decide) ?_
  refine kr_ishr (pc := 590) dL_law_590 ?_
  refine kr_iconst (pc := 591) dL_law_591 (by decide) ?_
  refine kr_s2 (pc := 592) dL_law_592 rfl rfl (Nat.le_of_ble_eq_true rfl) rfl rfl (l_low (by decide) ?_)
  show amT _ _ _ _ _ _
  refine kr_iload (pc := 595) dL_law_595 rfl ?_
  refine kr_bipush (pc := 597) dL_law_597 (by decide) ?_
  refine kr_ishr (pc := 599) dL_law_599 ?_
  refine kr_iconst (pc := 600) dL_law_600 (by decide) ?_
  refine kr_s2 (pc := 601) dL_law_601 rfl rfl (Nat.le_of_ble_eq_true rfl) rfl rfl (l_low (by decide) ?_)
  show amT _ _ _ _ _ _
  refine kr_iload (pc := 604) dL_law_604 rfl ?_
  refine kr_bipush (pc := 606) dL_law_606 (by decide) ?_
  refine kr_ishr (pc := 608) dL_law_608 ?_
  refine kr_bipush (pc := 609) dL_law_609 (by decide) ?_
  refine kr_s2 (pc := 611) dL_law_611 rfl rfl (Nat.le_of_ble_eq_true rfl) rfl rfl (l_low (by decide) ?_)
  show amT _ _ _ _ _ _
  refine kr_v4 (pc := 614) dL_law_614 rfl rfl (by assumption) (Nat.le_of_ble_eq_true rfl) rfl rfl rfl rfl (q_rule H HS e1 (fun h614 f614 D614 => ?_))
  show amT _ _ _ _ _ _
  refine kr_bipush (pc := 617) dL_law_617 (by decide) ?_
  refine kr_icmp_ge (pc := 619) dL_law_619 rfl (fun h619 => by exfalso; omega) (fun h619 => ?_)
  refine kr_iconst (pc := 622) dL_law_622 (by decide) ?_
  refine kr_goto (pc := 623) dL_law_623 rfl ?_
  refine kr_istore_n (pc := 627) dL_law_627 (show 3 ≤ _ from by simp) (by decide) ?_
  simp only [stl, List.tail_cons, List.tail_nil]
  refine kr_goto (pc := 628) dL_law_628 rfl ?_
  rw [← s1]
  exact k h614 S1 _ (J.next (f614.x 2) D614 o1 s2)
theorem lc_leads {c : Int} {v t : Int} {tl : List aV} (J : LI z b L S n h) (k : ∀ h' S' tl', LI z b L S' (n + 1) h' → amT mL_law 663 (vR b :: vR z :: vI (S'.2.1 0 + 2 * S'.2.1 1) :: vI 1 :: vI (T : Int) :: vI (n : Int) :: tl') [] h' Q) : amT mL_law 631 (vR b :: vR z :: vI (S.2.1 0 + 2 * S.2.1 1) :: vI 1 :: vI (T : Int) :: vI (n : Int) :: vI v :: vI c :: vI t :: tl) [] h Q := by
  obtain ⟨HS, H, sb, n1, n2, n3⟩ := id J
  have hx := H.1.1
  have hr := HS.2.2.1
  obtain ⟨a, ha⟩ : ∃ a : Nat, (a : Int) = lw (am_bw 4 v 3) ((S.2.2.2.1 : Int) + 1) := ⟨(lw (am_bw 4 v 3) ((S.2.2.2.1 : Int) + 1)).toNat, by have := lw_rng (x := am_bw 4 v 3) (n := (S.2.2.2.1 : Int) + 1) (by omega); omega⟩
  obtain ⟨d, hd⟩ : ∃ d : Nat, (d : Int) = lw (am_bw 4 v 8) ((S.2.2.2.1 : Int) + 1) := ⟨(lw (am_bw 4 v 8) ((S.2.2.2.1 : Int) + 1)).toNat, by have := lw_rng (x := am_bw 4 v 8) (n := (S.2.2.2.1 : Int) + 1) (by omega); omega⟩
  have ha2 := lw_rng (x := am_bw 4 v 3) (n := (S.2.2.2.1 : Int) + 1) (by omega)
  have hd2 := lw_rng (x := am_bw 4 v 8) (n := (S.2.2.2.1 : Int) + 1) (by omega)
  refine kr_aload_n (pc := 631) dL_law_631 rfl ?_
  refine kr_iload (pc := 632) dL_law_632 rfl ?_
  refine kr_iconst (pc := 634) dL_law_634 (by decide) ?_
  refine kr_ishr (pc := 635) dL_law_635 ?_
  refine kr_aload_n (pc := 636) dL_law_636 rfl ?_
  refine kr_v0 (pc := 637) dL_law_637 rfl rfl (by assumption) (Nat.le_of_ble_eq_true rfl) (q_running H HS rfl ?_)
  show amT _ _ _ _ _ _
  refine kr_iconst (pc := 640) dL_law_640 (by decide) ?_
  refine kr_iadd (pc := 641) dL_law_641 ⟨by omega, by omega⟩ ?_
  refine kr_s2 (pc := 642) dL_law_642 rfl rfl (Nat.le_of_ble_eq_true rfl) rfl rfl (l_low (by omega) ?_)
  show amT _ _ _ _ _ _
  rw [← ha]
  refine kr_iload (pc := 645) dL_law_645 rfl ?_
  refine kr_bipush (pc := 647) dL_law_647 (by decide) ?_
  refine kr_ishr (pc := 649) dL_law_649 ?_
  refine kr_aload_n (pc := 650) dL_law_650 rfl ?_
  refine kr_v0 (pc := 651) dL_law_651 rfl rfl (by assumption) (Nat.le_of_ble_eq_true rfl) (q_running H HS rfl ?_)
  show amT _ _ _ _ _ _
  refine kr_iconst (pc := 654) dL_law_654 (by decide) ?_
  refine kr_iadd (pc := 655) dL_law_655 ⟨by omega, by omega⟩ ?_
  refine kr_s2 (pc := 656) dL_law_656 rfl rfl (Nat.le_of_ble_eq_true rfl) rfl rfl (l_low (by omega) ?_)
  show amT _ _ _ _ _ _
  rw [← hd]
  refine kr_s3 (pc := 659) dL_law_659 rfl rfl (Nat.le_of_ble_eq_true rfl) rfl rfl rfl (l_leads H HS (by omega) (by omega) (fun h659 S659 C659 o659 f659 D659 => ?_))
  show amT _ _ _ _ _ _
  refine kr_istore_n (pc := 662) dL_law_662 (show 3 ≤ _ from by simp) (by decide) ?_
  simp only [stl, List.tail_cons, List.tail_nil]
  rw [← C659.2.1 0 (by decide), ← C659.2.1 1 (by decide)]
  exact k h659 S659 _ (J.next (f659.x 2) D659 o659 (by rw [C659.2.2]; omega))
end YG
