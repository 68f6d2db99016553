section XT
variable {z b L c : Nat} {xs : Nat → Int} {S : St} {h : aH} {Q : aR → Prop} {i : Int}
theorem lc_confirm {tl : List aV} (J : LI z b L xs S c h) (h0 : 0 ≤ i) (h6 : i + 6 ≤ (L : Int)) (k : ∀ h' S' tl', LI z b L xs S' (c + 1) h' → amT mL_law 1797 (vR b :: vR z :: vR (z + 1899) :: vR (z + 1913) :: vI i :: tl') [] h' Q) : amT mL_law 1128 (vR b :: vR z :: vR (z + 1899) :: vR (z + 1913) :: vI i :: tl) [] h Q := by
  obtain ⟨HS, D, M, R, so, sb, hb, hx, hr, hL, n1, n2⟩ := id J
  refine kr_aload_n (pc := 1128) dL_law_1128 rfl ?_
  refine kr_aload_n (pc := 1129) dL_law_1129 rfl ?_
  refine kr_s2 (pc := 1130) dL_law_1130 rfl rfl (Nat.le_of_ble_eq_true rfl) rfl rfl (l_confirm D HS so (fun h1 kk O V => ?_))
  show amT _ _ _ _ _ _
  obtain ⟨M1, R1, so1, sb1, hx1⟩ := J.mid O
  refine kr_istore (pc := 1133) dL_law_1133 (show 5 ≤ _ from by simp) (by decide) ?_
  simp only [stl, List.tail_cons, List.tail_nil]
  refine kr_aload_n (pc := 1135) dL_law_1135 rfl ?_
  refine kr_v0 (pc := 1136) dL_law_1136 rfl rfl M1.1 (Nat.le_of_ble_eq_true rfl) (mc_confirm M1 R1 HS (fun I' b' O2 => ?_))
  show amT _ _ _ _ _ _
  have M2 : MS (hI h1 I') (z + 1899) := M1
  have so2 : hsh (hI h1 I') (z + 1913) = (21, 1) := so1
  have J2 := J.next O O2 (okS_confirm HS)
  refine kr_istore (pc := 1139) dL_law_1139 (show 6 ≤ _ from by simp) (by decide) ?_
  simp only [stl, List.tail_cons, List.tail_nil]
  refine kr_aload_n (pc := 1141) dL_law_1141 rfl ?_
  refine kr_v0 (pc := 1142) dL_law_1142 rfl rfl M2.1 (Nat.le_of_ble_eq_true rfl) (m_thrown M2 ?_)
  show amT _ _ _ _ _ _
  refine kr_iload (pc := 1145) dL_law_1145 rfl ?_
  refine kr_icmp_eq (pc := 1147) dL_law_1147 rfl (fun _ => ?_) (fun h => absurd (O2.2.1.trans O.2.1.symm) h)
  refine kr_iload (pc := 1152) dL_law_1152 rfl ?_
  refine kr_if_ne (pc := 1154) dL_law_1154 rfl (fun _ => ?_) (fun hk => ?_)
  · refine kr_goto (pc := 1169) dL_law_1169 rfl ?_
    exact k _ _ _ J2
  · have hr0 := O.2.1.symm.trans hk
    have hv2 : hiv (hI h1 I') (z + 1913) (0 : Int).toNat = _ := (congrFun (O2.2.2.2 (z + 1913) (Or.inr (Nat.le_refl _))) 0).trans (V hk)
    have eb := O2.2.2.1 hr0
    refine kr_aload_n (pc := 1157) dL_law_1157 rfl ?_
    refine kr_iconst (pc := 1158) dL_law_1158 (by decide) ?_
    refine kr_lald (pc := 1159) dL_law_1159 so2 (by decide) (by decide) hv2 ?_
    refine kr_iload (pc := 1160) dL_law_1160 rfl ?_
    refine kr_i2l (pc := 1162) dL_law_1162 ?_
    refine kr_lcmp (pc := 1163) dL_law_1163 ?_
    refine kr_if_eq (pc := 1164) dL_law_1164 rfl (fun _ => ?_) (fun h => absurd (by rw [eb]; exact lc_0) h)
    refine kr_goto (pc := 1169) dL_law_1169 rfl ?_
    exact k _ _ _ J2
theorem lc_advance {tl : List aV} (J : LI z b L xs S c h) (h0 : 0 ≤ i) (h6 : i + 6 ≤ (L : Int)) (k : ∀ h' S' tl', LI z b L xs S' (c + 1) h' → amT mL_law 1797 (vR b :: vR z :: vR (z + 1899) :: vR (z + 1913) :: vI i :: tl') [] h' Q) : amT mL_law 1172 (vR b :: vR z :: vR (z + 1899) :: vR (z + 1913) :: vI i :: tl) [] h Q := by
  obtain ⟨HS, D, M, R, so, sb, hb, hx, hr, hL, n1, n2⟩ := id J
  refine kr_aload_n (pc := 1172) dL_law_1172 rfl ?_
  refine kr_aload_n (pc := 1173) dL_law_1173 rfl ?_
  refine kr_iload (pc := 1174) dL_law_1174 rfl ?_
  refine kr_iconst (pc := 1176) dL_law_1176 (by decide) ?_
  refine kr_iadd (pc := 1177) dL_law_1177 ⟨by omega, by omega⟩ ?_
  refine kr_sald (pc := 1178) dL_law_1178 sb (by omega) (by omega) (hx _) ?_
  refine kr_aload_n (pc := 1179) dL_law_1179 rfl ?_
  refine kr_s3 (pc := 1180) dL_law_1180 rfl rfl (Nat.le_of_ble_eq_true rfl) rfl rfl rfl (l_advance D HS so (fun h1 kk O V => ?_))
  show amT _ _ _ _ _ _
  obtain ⟨M1, R1, so1, sb1, hx1⟩ := J.mid O
  refine kr_istore (pc := 1183) dL_law_1183 (show 5 ≤ _ from by simp) (by decide) ?_
  simp only [stl, List.tail_cons, List.tail_nil]
  refine kr_aload_n (pc := 1185) dL_law_1185 rfl ?_
  refine kr_aload_n (pc := 1186) dL_law_1186 rfl ?_
  refine kr_iload (pc := 1187) dL_law_1187 rfl ?_
  refine kr_iconst (pc := 1189) dL_law_1189 (by decide) ?_
  refine kr_iadd (pc := 1190) dL_law_1190 ⟨by omega, by omega⟩ ?_
  refine kr_sald (pc := 1191) dL_law_1191 sb1 (by omega) (by omega) (hx1 _) ?_
  refine kr_v1 (pc := 1192) dL_law_1192 rfl rfl M1.1 (Nat.le_of_ble_eq_true rfl) rfl (mc_advance M1 R1 HS (fun I' b' O2 => ?_))
  show amT _ _ _ _ _ _
  have M2 : MS (hI h1 I') (z + 1899) := M1
  have so2 : hsh (hI h1 I') (z + 1913) = (21, 1) := so1
  have J2 := J.next O O2 (okS_advance HS _)
  refine kr_istore (pc := 1195) dL_law_1195 (show 6 ≤ _ from by simp) (by decide) ?_
  simp only [stl, List.tail_cons, List.tail_nil]
  refine kr_aload_n (pc := 1197) dL_law_1197 rfl ?_
  refine kr_v0 (pc := 1198) dL_law_1198 rfl rfl M2.1 (Nat.le_of_ble_eq_true rfl) (m_thrown M2 ?_)
  show amT _ _ _ _ _ _
  refine kr_iload (pc := 1201) dL_law_1201 rfl ?_
  refine kr_icmp_eq (pc := 1203) dL_law_1203 rfl (fun _ => ?_) (fun h => absurd (O2.2.1.trans O.2.1.symm) h)
  refine kr_iload (pc := 1208) dL_law_1208 rfl ?_
  refine kr_if_ne (pc := 1210) dL_law_1210 rfl (fun _ => ?_) (fun hk => ?_)
  · refine kr_goto (pc := 1225) dL_law_1225 rfl ?_
    exact k _ _ _ J2
  · have hr0 := O.2.1.symm.trans hk
    have hv2 : hiv (hI h1 I') (z + 1913) (0 : Int).toNat = _ := (congrFun (O2.2.2.2 (z + 1913) (Or.inr (Nat.le_refl _))) 0).trans (V hk)
    have eb := O2.2.2.1 hr0
    refine kr_aload_n (pc := 1213) dL_law_1213 rfl ?_
    refine kr_iconst (pc := 1214) dL_law_1214 (by decide) ?_
    refine kr_lald (pc := 1215) dL_law_1215 so2 (by decide) (by decide) hv2 ?_
    refine kr_iload (pc := 1216) dL_law_1216 rfl ?_
    refine kr_i2l (pc := 1218) dL_law_1218 ?_
    refine kr_lcmp (pc := 1219) dL_law_1219 ?_
    refine kr_if_eq (pc := 1220) dL_law_1220 rfl (fun _ => ?_) (fun h => absurd (by rw [eb]; exact lc_0) h)
    refine kr_goto (pc := 1225) dL_law_1225 rfl ?_
    exact k _ _ _ J2
theorem lc_running {tl : List aV} (J : LI z b L xs S c h) (h0 : 0 ≤ i) (h6 : i + 6 ≤ (L : Int)) (k : ∀ h' S' tl', LI z b L xs S' (c + 1) h' → amT mL_law 1797 (vR b :: vR z :: vR (z + 1899) :: vR (z + 1913) :: vI i :: tl') [] h' Q) : amT mL_law 1228 (vR b :: vR z :: vR (z + 1899) :: vR (z + 1913) :: vI i :: tl) [] h Q := by
  obtain ⟨HS, D, M, R, so, sb, hb, hx, hr, hL, n1, n2⟩ := id J
  refine kr_aload_n (pc := 1228) dL_law_1228 rfl ?_
  refine kr_v0 (pc := 1229) dL_law_1229 rfl rfl D.1.1 (Nat.le_of_ble_eq_true rfl) (xc_running D HS ?_)
  show amT _ _ _ _ _ _
  refine kr_aload_n (pc := 1232) dL_law_1232 rfl ?_
  refine kr_v0 (pc := 1233) dL_law_1233 rfl rfl M.1 (Nat.le_of_ble_eq_true rfl) (mc_running M R (fun I' O => ?_))
  show amT _ _ _ _ _ _
  refine kr_icmp_eq (pc := 1236) dL_law_1236 rfl (fun _ => ?_) (fun h => absurd rfl h)
  exact k _ _ _ (J.stay O)
theorem lc_waiting {tl : List aV} (J : LI z b L xs S c h) (h0 : 0 ≤ i) (h6 : i + 6 ≤ (L : Int)) (k : ∀ h' S' tl', LI z b L xs S' (c + 1) h' → amT mL_law 1797 (vR b :: vR z :: vR (z + 1899) :: vR (z + 1913) :: vI i :: tl') [] h' Q) : amT mL_law 1241 (vR b :: vR z :: vR (z + 1899) :: vR (z + 1913) :: vI i :: tl) [] h Q := by
  obtain ⟨HS, D, M, R, so, sb, hb, hx, hr, hL, n1, n2⟩ := id J
  refine kr_aload_n (pc := 1241) dL_law_1241 rfl ?_
  refine kr_v0 (pc := 1242) dL_law_1242 rfl rfl D.1.1 (Nat.le_of_ble_eq_true rfl) (xc_waiting D HS ?_)
  show amT _ _ _ _ _ _
  refine kr_aload_n (pc := 1245) dL_law_1245 rfl ?_
  refine kr_v0 (pc := 1246) dL_law_1246 rfl rfl M.1 (Nat.le_of_ble_eq_true rfl) (mc_waiting M R (fun I' O => ?_))
  show amT _ _ _ _ _ _
  refine kr_icmp_eq (pc := 1249) dL_law_1249 rfl (fun _ => ?_) (fun h => absurd rfl h)
  exact k _ _ _ (J.stay O)
theorem lc_size {tl : List aV} (J : LI z b L xs S c h) (h0 : 0 ≤ i) (h6 : i + 6 ≤ (L : Int)) (k : ∀ h' S' tl', LI z b L xs S' (c + 1) h' → amT mL_law 1797 (vR b :: vR z :: vR (z + 1899) :: vR (z + 1913) :: vI i :: tl') [] h' Q) : amT mL_law 1254 (vR b :: vR z :: vR (z + 1899) :: vR (z + 1913) :: vI i :: tl) [] h Q := by
  obtain ⟨HS, D, M, R, so, sb, hb, hx, hr, hL, n1, n2⟩ := id J
  refine kr_aload_n (pc := 1254) dL_law_1254 rfl ?_
  refine kr_aload_n (pc := 1255) dL_law_1255 rfl ?_
  refine kr_iload (pc := 1256) dL_law_1256 rfl ?_
  refine kr_iconst (pc := 1258) dL_law_1258 (by decide) ?_
  refine kr_iadd (pc := 1259) dL_law_1259 ⟨by omega, by omega⟩ ?_
  refine kr_sald (pc := 1260) dL_law_1260 sb (by omega) (by omega) (hx _) ?_
  refine kr_aload_n (pc := 1261) dL_law_1261 rfl ?_
  refine kr_iload (pc := 1262) dL_law_1262 rfl ?_
  refine kr_iconst (pc := 1264) dL_law_1264 (by decide) ?_
  refine kr_iadd (pc := 1265) dL_law_1265 ⟨by omega, by omega⟩ ?_
  refine kr_sald (pc := 1266) dL_law_1266 sb (by omega) (by omega) (hx _) ?_
  refine kr_aload_n (pc := 1267) dL_law_1267 rfl ?_
  refine kr_s4 (pc := 1268) dL_law_1268 rfl rfl (Nat.le_of_ble_eq_true rfl) rfl rfl rfl rfl (l_size D HS (by have := (hr (i + 1).toNat).2; omega) so (fun h1 kk O V => ?_))
  show amT _ _ _ _ _ _
  obtain ⟨M1, R1, so1, sb1, hx1⟩ := J.mid O
  refine kr_istore (pc := 1271) dL_law_1271 (show 5 ≤ _ from by simp) (by decide) ?_
  simp only [stl, List.tail_cons, List.tail_nil]
  refine kr_aload_n (pc := 1273) dL_law_1273 rfl ?_
  refine kr_aload_n (pc := 1274) dL_law_1274 rfl ?_
  refine kr_iload (pc := 1275) dL_law_1275 rfl ?_
  refine kr_iconst (pc := 1277) dL_law_1277 (by decide) ?_
  refine kr_iadd (pc := 1278) dL_law_1278 ⟨by omega, by omega⟩ ?_
  refine kr_sald (pc := 1279) dL_law_1279 sb1 (by omega) (by omega) (hx1 _) ?_
  refine kr_aload_n (pc := 1280) dL_law_1280 rfl ?_
  refine kr_iload (pc := 1281) dL_law_1281 rfl ?_
  refine kr_iconst (pc := 1283) dL_law_1283 (by decide) ?_
  refine kr_iadd (pc := 1284) dL_law_1284 ⟨by omega, by omega⟩ ?_
  refine kr_sald (pc := 1285) dL_law_1285 sb1 (by omega) (by omega) (hx1 _) ?_
  refine kr_v2 (pc := 1286) dL_law_1286 rfl rfl M1.1 (Nat.le_of_ble_eq_true rfl) rfl rfl (mc_size M1 R1 HS (fun I' b' O2 => ?_))
  show amT _ _ _ _ _ _
  have M2 : MS (hI h1 I') (z + 1899) := M1
  have so2 : hsh (hI h1 I') (z + 1913) = (21, 1) := so1
  have J2 := J.next O O2 (okS_size HS _ _)
  refine kr_istore (pc := 1289) dL_law_1289 (show 6 ≤ _ from by simp) (by decide) ?_
  simp only [stl, List.tail_cons, List.tail_nil]
  refine kr_aload_n (pc := 1291) dL_law_1291 rfl ?_
  refine kr_v0 (pc := 1292) dL_law_1292 rfl rfl M2.1 (Nat.le_of_ble_eq_true rfl) (m_thrown M2 ?_)
  show amT _ _ _ _ _ _
  refine kr_iload (pc := 1295) dL_law_1295 rfl ?_
  refine kr_icmp_eq (pc := 1297) dL_law_1297 rfl (fun _ => ?_) (fun h => absurd (O2.2.1.trans O.2.1.symm) h)
  refine kr_iload (pc := 1302) dL_law_1302 rfl ?_
  refine kr_if_ne (pc := 1304) dL_law_1304 rfl (fun _ => ?_) (fun hk => ?_)
  · refine kr_goto (pc := 1319) dL_law_1319 rfl ?_
    exact k _ _ _ J2
  · have hr0 := O.2.1.symm.trans hk
    have hv2 : hiv (hI h1 I') (z + 1913) (0 : Int).toNat = _ := (congrFun (O2.2.2.2 (z + 1913) (Or.inr (Nat.le_refl _))) 0).trans (V hk)
    have eb := O2.2.2.1 hr0
    refine kr_aload_n (pc := 1307) dL_law_1307 rfl ?_
    refine kr_iconst (pc := 1308) dL_law_1308 (by decide) ?_
    refine kr_lald (pc := 1309) dL_law_1309 so2 (by decide) (by decide) hv2 ?_
    refine kr_iload (pc := 1310) dL_law_1310 rfl ?_
    refine kr_i2l (pc := 1312) dL_law_1312 ?_
    refine kr_lcmp (pc := 1313) dL_law_1313 ?_
    refine kr_if_eq (pc := 1314) dL_law_1314 rfl (fun _ => ?_) (fun h => absurd (by rw [eb]; exact lc_0) h)
    refine kr_goto (pc := 1319) dL_law_1319 rfl ?_
    exact k _ _ _ J2
theorem lc_keyAt {tl : List aV} (J : LI z b L xs S c h) (h0 : 0 ≤ i) (h6 : i + 6 ≤ (L : Int)) (k : ∀ h' S' tl', LI z b L xs S' (c + 1) h' → amT mL_law 1797 (vR b :: vR z :: vR (z + 1899) :: vR (z + 1913) :: vI i :: tl') [] h' Q) : amT mL_law 1322 (vR b :: vR z :: vR (z + 1899) :: vR (z + 1913) :: vI i :: tl) [] h Q := by
  obtain ⟨HS, D, M, R, so, sb, hb, hx, hr, hL, n1, n2⟩ := id J
  refine kr_aload_n (pc := 1322) dL_law_1322 rfl ?_
  refine kr_aload_n (pc := 1323) dL_law_1323 rfl ?_
  refine kr_iload (pc := 1324) dL_law_1324 rfl ?_
  refine kr_iconst (pc := 1326) dL_law_1326 (by decide) ?_
  refine kr_iadd (pc := 1327) dL_law_1327 ⟨by omega, by omega⟩ ?_
  refine kr_sald (pc := 1328) dL_law_1328 sb (by omega) (by omega) (hx _) ?_
  refine kr_aload_n (pc := 1329) dL_law_1329 rfl ?_
  refine kr_iload (pc := 1330) dL_law_1330 rfl ?_
  refine kr_iconst (pc := 1332) dL_law_1332 (by decide) ?_
  refine kr_iadd (pc := 1333) dL_law_1333 ⟨by omega, by omega⟩ ?_
  refine kr_sald (pc := 1334) dL_law_1334 sb (by omega) (by omega) (hx _) ?_
  refine kr_aload_n (pc := 1335) dL_law_1335 rfl ?_
  refine kr_iload (pc := 1336) dL_law_1336 rfl ?_
  refine kr_iconst (pc := 1338) dL_law_1338 (by decide) ?_
  refine kr_iadd (pc := 1339) dL_law_1339 ⟨by omega, by omega⟩ ?_
  refine kr_sald (pc := 1340) dL_law_1340 sb (by omega) (by omega) (hx _) ?_
  refine kr_aload_n (pc := 1341) dL_law_1341 rfl ?_
  refine kr_s5 (pc := 1342) dL_law_1342 rfl rfl (Nat.le_of_ble_eq_true rfl) rfl rfl rfl rfl rfl (l_keyAt D HS (by have := (hr (i + 1).toNat).2; omega) so (fun h1 kk O V => ?_))
  show amT _ _ _ _ _ _
  obtain ⟨M1, R1, so1, sb1, hx1⟩ := J.mid O
  refine kr_istore (pc := 1345) dL_law_1345 (show 5 ≤ _ from by simp) (by decide) ?_
  simp only [stl, List.tail_cons, List.tail_nil]
  refine kr_aload_n (pc := 1347) dL_law_1347 rfl ?_
  refine kr_aload_n (pc := 1348) dL_law_1348 rfl ?_
  refine kr_iload (pc := 1349) dL_law_1349 rfl ?_
  refine kr_iconst (pc := 1351) dL_law_1351 (by decide) ?_
  refine kr_iadd (pc := 1352) dL_law_1352 ⟨by omega, by omega⟩ ?_
  refine kr_sald (pc := 1353) dL_law_1353 sb1 (by omega) (by omega) (hx1 _) ?_
  refine kr_aload_n (pc := 1354) dL_law_1354 rfl ?_
  refine kr_iload (pc := 1355) dL_law_1355 rfl ?_
  refine kr_iconst (pc := 1357) dL_law_1357 (by decide) ?_
  refine kr_iadd (pc := 1358) dL_law_1358 ⟨by omega, by omega⟩ ?_
  refine kr_sald (pc := 1359) dL_law_1359 sb1 (by omega) (by omega) (hx1 _) ?_
  refine kr_aload_n (pc := 1360) dL_law_1360 rfl ?_
  refine kr_iload (pc := 1361) dL_law_1361 rfl ?_
  refine kr_iconst (pc := 1363) dL_law_1363 (by decide) ?_
  refine kr_iadd (pc := 1364) dL_law_1364 ⟨by omega, by omega⟩ ?_
  refine kr_sald (pc := 1365) dL_law_1365 sb1 (by omega) (by omega) (hx1 _) ?_
  refine kr_v3 (pc := 1366) dL_law_1366 rfl rfl M1.1 (Nat.le_of_ble_eq_true rfl) rfl rfl rfl (mc_keyAt M1 R1 HS (fun I' b' O2 => ?_))
  show amT _ _ _ _ _ _
  have M2 : MS (hI h1 I') (z + 1899) := M1
  have so2 : hsh (hI h1 I') (z + 1913) = (21, 1) := so1
  have J2 := J.next O O2 (okS_keyAt HS _ _ _)
  refine kr_istore (pc := 1369) dL_law_1369 (show 6 ≤ _ from by simp) (by decide) ?_
  simp only [stl, List.tail_cons, List.tail_nil]
  refine kr_aload_n (pc := 1371) dL_law_1371 rfl ?_
  refine kr_v0 (pc := 1372) dL_law_1372 rfl rfl M2.1 (Nat.le_of_ble_eq_true rfl) (m_thrown M2 ?_)
  show amT _ _ _ _ _ _
  refine kr_iload (pc := 1375) dL_law_1375 rfl ?_
  refine kr_icmp_eq (pc := 1377) dL_law_1377 rfl (fun _ => ?_) (fun h => absurd (O2.2.1.trans O.2.1.symm) h)
  refine kr_iload (pc := 1382) dL_law_1382 rfl ?_
  refine kr_if_ne (pc := 1384) dL_law_1384 rfl (fun _ => ?_) (fun hk => ?_)
  · refine kr_goto (pc := 1399) dL_law_1399 rfl ?_
    exact k _ _ _ J2
  · have hr0 := O.2.1.symm.trans hk
    have hv2 : hiv (hI h1 I') (z + 1913) (0 : Int).toNat = _ := (congrFun (O2.2.2.2 (z + 1913) (Or.inr (Nat.le_refl _))) 0).trans (V hk)
    have eb := O2.2.2.1 hr0
    refine kr_aload_n (pc := 1387) dL_law_1387 rfl ?_
    refine kr_iconst (pc := 1388) dL_law_1388 (by decide) ?_
    refine kr_lald (pc := 1389) dL_law_1389 so2 (by decide) (by decide) hv2 ?_
    refine kr_iload (pc := 1390) dL_law_1390 rfl ?_
    refine kr_i2l (pc := 1392) dL_law_1392 ?_
    refine kr_lcmp (pc := 1393) dL_law_1393 ?_
    refine kr_if_eq (pc := 1394) dL_law_1394 rfl (fun _ => ?_) (fun h => absurd (by rw [eb]; exact lc_0) h)
    refine kr_goto (pc := 1399) dL_law_1399 rfl ?_
    exact k _ _ _ J2
end XT
