/-! EDITS LEAD from one configuration to another one: forth -/
theorem fw_rmv {c : Int} {T : List Ent} : ∀ (n : Nat) (l : List Ent), KD l → n ≤ l.length → apL (rmv c T n l).1 l = some (rmv c T n l).2
  | 0, l, _, _ => rfl
  | n + 1, l, H, hn => by
    have h1 : l[n]? = some l[n] := List.getElem?_eq_getElem (by omega)
    unfold rmv
    rw [h1]
    dsimp only
    by_cases h2 : kix T l[n].1 = -1
    · rw [if_pos h2]
      dsimp only
      have hl : (l.eraseIdx n).length = l.length - 1 := List.length_eraseIdx_of_lt (by omega)
      have hk := kix_eq H h1
      have hg := gt_of H h1
      have ha : apS false 1 l[n].1 (n : Int) (-1) l[n] l = some (l.eraseIdx n) := by
        rw [apS1 lo0 (by omega), if_neg (fun z => z.elim (fun z => z.2 hk) (fun z => z hg)), show (kix l l[n].1).toNat = n by omega]
      rw [apL_one (e := (1, c, l[n].1, (n : Int), -1, l[n])) ha]
      exact fw_rmv n (l.eraseIdx n) (H.erase n) (by omega)
    · rw [if_neg h2]
      exact fw_rmv n l H (by omega)
theorem fw_plc {c : Int} {T : List Ent} (hT : okL T) : ∀ (d i : Nat) (l : List Ent), PI T i l → apL (plc c T d i l).1 l = some (plc c T d i l).2
  | 0, _, l, _ => rfl
  | d + 1, i, l, H => by
    have hle := H.le
    have h6 := hT.1
    unfold plc
    cases he : T[i]? with
    | none => rfl
    | some x =>
      dsimp only
      by_cases h3 : kix l x.1 = -1
      · rw [if_pos h3]
        dsimp only
        have hlt := H.lt he h3
        have hi := H.len
        have ha : apS false 2 x.1 (-1) (i : Int) x l = some (l.insertIdx i x) := by
          rw [apS2 lo0, if_neg (by omega), show (min (i : Int) (l.length : Int)).toNat = i by omega]
        rw [apL_one (e := (2, c, x.1, -1, (i : Int), x)) ha]
        exact fw_plc hT d (i + 1) _ (H.ins he h3)
      · rw [if_neg h3]
        by_cases h4 : kix l x.1 = i
        · rw [if_pos h4]
          exact fw_plc hT d (i + 1) l (H.eq he h4)
        · rw [if_neg h4]
          dsimp only
          have hge := H.ge hT.2.1 he h3
          obtain ⟨z, z1, z2, z3, z4⟩ := kix_at h3
          have ha : apS false 3 x.1 (kix l x.1) (i : Int) E0 l = some (mv l (kix l x.1).toNat i) := by
            rw [apS3 lo0 h3, if_neg (by omega), show (min (i : Int) ((l.length : Int) - 1)).toNat = i by omega]
          rw [apL_one (e := (3, c, x.1, kix l x.1, (i : Int), E0)) ha]
          exact fw_plc hT d (i + 1) _ (H.mvd hT.2.1 he h3)
theorem plc_PI {c : Int} {T : List Ent} (hT : KD T) : ∀ (d i : Nat) (l : List Ent), i + d = T.length → PI T i l → PI T T.length (plc c T d i l).2
  | 0, i, l, hd, H => by
    have e : i = T.length := by omega
    rw [e] at H
    exact H
  | d + 1, i, l, hd, H => by
    unfold plc
    cases he : T[i]? with
    | none =>
      have := List.getElem?_eq_none_iff.mp he
      omega
    | some x =>
      dsimp only
      by_cases h3 : kix l x.1 = -1
      · rw [if_pos h3]
        exact plc_PI hT d (i + 1) _ (by omega) (H.ins he h3)
      · rw [if_neg h3]
        by_cases h4 : kix l x.1 = i
        · rw [if_pos h4]
          exact plc_PI hT d (i + 1) l (by omega) (H.eq he h4)
        · rw [if_neg h4]
          exact plc_PI hT d (i + 1) _ (by omega) (H.mvd hT he h3)
theorem mv_mem {l : List Ent} {p q k : Nat} {z e : Ent} (hp : l[p]? = some z) (hq : q < l.length) (hk : l[k]? = some e) : ∃ k' : Nat, (mv l p q)[k']? = some e := by
  rw [mv_some hp]
  have h1 := (List.getElem?_eq_some_iff.mp hp).1
  have hl : (l.eraseIdx p).length = l.length - 1 := List.length_eraseIdx_of_lt h1
  have ins : ∀ k0 : Nat, (l.eraseIdx p)[k0]? = some e → ∃ k' : Nat, ((l.eraseIdx p).insertIdx q z)[k']? = some e := by
    intro k0 h0
    by_cases hki : k0 < q
    · exact ⟨k0, by rw [List.getElem?_insertIdx, if_pos hki]; exact h0⟩
    · exact ⟨k0 + 1, by rw [List.getElem?_insertIdx, if_neg (by omega), if_neg (by omega)]; exact h0⟩
  rcases Nat.lt_trichotomy k p with h | h | h
  · exact ins k (by rw [List.getElem?_eraseIdx, if_pos h]; exact hk)
  · rw [h, hp] at hk
    cases hk
    exact ⟨q, by rw [List.getElem?_insertIdx, if_neg (by omega), if_pos rfl, if_pos (by omega)]⟩
  · exact ins (k - 1) (by rw [List.getElem?_eraseIdx, if_neg (by omega), show k - 1 + 1 = k by omega]; exact hk)
/-- entries are F's, or T's where F hasn't their key; what F has of T's keys is there -/
def QI (F T l : List Ent) : Prop := (∀ (j : Nat) (e : Ent), l[j]? = some e → (∃ k : Nat, F[k]? = some e) ∨ (kix F e.1 = -1 ∧ ∃ k : Nat, T[k]? = some e)) ∧ ∀ (j : Nat) (e : Ent), F[j]? = some e → kix T e.1 ≠ -1 → ∃ k : Nat, l[k]? = some e
theorem QI_rmv {c : Int} {F T : List Ent} (H : KD F) : QI F T (rmv c T F.length F).2 := by
  obtain ⟨a1, a2, a3, a4⟩ := rmv_spec (c := c) (T := T) F.length F H (Nat.le_refl _) fun j e hj he => by
    have := (List.getElem?_eq_some_iff.mp he).1
    omega
  exact ⟨fun j e he => Or.inl (a3 j e he).2, a4⟩
theorem QI_plc {c : Int} {F T : List Ent} (hT : KD T) : ∀ (d i : Nat) (l : List Ent), PI T i l → QI F T l → QI F T (plc c T d i l).2
  | 0, i, l, _, H => H
  | d + 1, i, l, P, H => by
    unfold plc
    cases he : T[i]? with
    | none => exact H
    | some x =>
      dsimp only
      by_cases h3 : kix l x.1 = -1
      · rw [if_pos h3]
        refine QI_plc hT d (i + 1) _ (P.ins he h3) ⟨fun j e hj => ?_, fun j e hj hk => ?_⟩
        · rcases ins_get hj with ⟨a1, a2⟩ | ⟨a1, a2⟩ | ⟨a1, a2⟩
          · exact H.1 _ _ a2
          · subst a2
            refine Or.inr ⟨Classical.byContradiction fun hx => ?_, i, he⟩
            obtain ⟨y, y1, y2, _⟩ := kix_at hx
            have hk : kix T y.1 ≠ -1 := by
              rw [y2, kix_eq hT he]
              omega
            obtain ⟨k, hk'⟩ := H.2 _ y y1 hk
            exact kix_none.mp h3 k y hk' y2
          · exact H.1 _ _ a2
        · obtain ⟨k, hk'⟩ := H.2 j e hj hk
          by_cases hki : k < i
          · exact ⟨k, by rw [List.getElem?_insertIdx, if_pos hki]; exact hk'⟩
          · exact ⟨k + 1, by rw [List.getElem?_insertIdx, if_neg (by omega), if_neg (by omega)]; exact hk'⟩
      · rw [if_neg h3]
        by_cases h4 : kix l x.1 = i
        · rw [if_pos h4]
          exact QI_plc hT d (i + 1) l (P.eq he h4) H
        · rw [if_neg h4]
          obtain ⟨z, z1, z2, z3, z4⟩ := kix_at h3
          have hge := P.ge hT he h3
          refine QI_plc hT d (i + 1) _ (P.mvd hT he h3) ⟨fun j e hj => ?_, fun j e hj hk => ?_⟩
          · rw [mv_some z1] at hj
            rcases ins_get hj with ⟨a1, a2⟩ | ⟨a1, a2⟩ | ⟨a1, a2⟩
            · rw [List.getElem?_eraseIdx] at a2
              split at a2
              · exact H.1 _ _ a2
              · exact H.1 _ _ a2
            · rw [← a2]
              exact H.1 _ _ z1
            · rw [List.getElem?_eraseIdx] at a2
              split at a2
              · exact H.1 _ _ a2
              · exact H.1 _ _ a2
          · obtain ⟨k, hk'⟩ := H.2 j e hj hk
            exact mv_mem z1 (by omega) hk'
theorem kix_keys : ∀ {l T : List Ent}, l.length = T.length → (∀ (j : Nat) (e f : Ent), l[j]? = some e → T[j]? = some f → e.1 = f.1) → ∀ k, kix l k = kix T k
  | [], [], _, _, _ => rfl
  | [], _ :: _, h, _, _ => by simp at h
  | _ :: _, [], h, _, _ => by simp at h
  | e :: l, f :: T, h, hk, k => by
    have ih := kix_keys (l := l) (T := T) (by simpa using h) (fun j x y hx hy => hk (j + 1) x y hx hy) k
    have h0 := hk 0 e f rfl rfl
    rw [kix_cons, kix_cons, h0, ih]
/-- keys as in T; the settings are T's, but F's for F's keys from 10 - d on -/
def SI (F T l : List Ent) (d : Nat) : Prop := l.length = T.length ∧ (∀ k, kix l k = kix T k) ∧ ∀ k, kix T k ≠ -1 → gt l k = if kix F k ≠ -1 ∧ 10 - (d : Int) ≤ k then gt F k else gt T k
theorem SI_of {F T l : List Ent} (hF : okL F) (hT : okL T) (P : PI T T.length l) (q : QI F T l) : SI F T l 10 := by
  have h1 := P.len
  have h2 := P.le
  have hk : ∀ k, kix l k = kix T k := kix_keys (by omega) fun j e f he hf => by
    obtain ⟨e', f', b1, b2, b3⟩ := P.2.1 j (List.getElem?_eq_some_iff.mp hf).1
    rw [b1] at he
    rw [b2] at hf
    cases he
    cases hf
    exact b3
  refine ⟨by omega, hk, fun k hkT => ?_⟩
  obtain ⟨g1, g2⟩ := gt_at (l := l) (k := k) (by rw [hk]; exact hkT)
  obtain ⟨t1, t2⟩ := gt_at hkT
  have ok := okE_key (hT.2.2 _ _ t1)
  rcases q.1 _ _ g1 with ⟨m, hm⟩ | ⟨hn, m, hm⟩
  · have e1 := kix_eq hF.2.1 hm
    have e2 := gt_of hF.2.1 hm
    rw [g2] at e1 e2
    rw [if_pos ⟨by omega, by omega⟩, e2]
  · have e2 := gt_of hT.2.1 hm
    rw [g2] at hn e2
    rw [if_neg (fun z => z.1 hn), e2]
theorem SI.fin {F T l : List Ent} (hT : okL T) (H : SI F T l 0) : l = T := by
  obtain ⟨h1, h2, h3⟩ := H
  refine List.ext_getElem? fun j => ?_
  by_cases hj : j < T.length
  · have g1 : T[j]? = some T[j] := List.getElem?_eq_getElem hj
    have g2 := kix_eq hT.2.1 g1
    have g3 := okE_key (hT.2.2 j _ g1)
    have g4 := h3 T[j].1 (by omega)
    rw [if_neg (by omega)] at g4
    have a := (gt_at (l := l) (k := T[j].1) (by rw [h2]; omega)).1
    have b := (gt_at (l := T) (k := T[j].1) (by omega)).1
    rw [show (kix l T[j].1).toNat = j by rw [h2]; omega] at a
    rw [show (kix T T[j].1).toNat = j by omega] at b
    rw [a, b, g4]
  · rw [List.getElem?_eq_none (by omega), List.getElem?_eq_none (by omega)]
theorem fw_unl {c key a b j k : Int} {l : List Ent} (hj : 0 ≤ j) (hk4 : k = 4 + j) (hk : kix l key ≠ -1) (h : sg (gt l key) j = a) : apL (unl k c key a b) l = some (l.set (kix l key).toNat (ws (gt l key) j b)) := by
  unfold unl
  by_cases hab : a = b
  · rw [if_pos hab, ← hab, ← h, ws_sg, set_back (gt_at hk).1]
    rfl
  · rw [if_neg hab]
    have ha : apS false k key a b E0 l = some (l.set (kix l key).toNat (ws (gt l key) j b)) := by
      rw [apS4 (by omega) hk, show k - 4 = j by omega, if_neg (fun z => z h)]
    exact apL_one (e := (k, c, key, a, b, E0)) ha
theorem fw_stK {c key : Int} {F T l : List Ent} {d : Nat} (hd : key = 9 - (d : Int)) (H : SI F T l (d + 1)) : ∃ l', apL (stK c F T key) l = some l' ∧ SI F T l' d := by
  obtain ⟨h1, h2, h3⟩ := H
  unfold stK
  by_cases hc : kix F key = -1 ∨ kix T key = -1
  · rw [if_pos hc]
    refine ⟨l, rfl, h1, h2, fun k hk => ?_⟩
    rw [h3 k hk]
    by_cases hkk : k = key
    · subst hkk
      rw [if_neg (fun z => hc.elim z.1 hk), if_neg (fun z => hc.elim z.1 hk)]
    · by_cases hc2 : kix F k ≠ -1 ∧ 10 - (d : Int) ≤ k
      · rw [if_pos hc2, if_pos (by omega)]
      · rw [if_neg hc2, if_neg (by omega)]
  · rw [if_neg hc]
    have hF : kix F key ≠ -1 := fun z => hc (Or.inl z)
    have hT : kix T key ≠ -1 := fun z => hc (Or.inr z)
    have hl : kix l key ≠ -1 := by rw [h2]; exact hT
    have g0 : gt l key = gt F key := by rw [h3 key hT, if_pos ⟨hF, by omega⟩]
    obtain ⟨p1, p2⟩ := gt_at hl
    have t2 := (gt_at hT).2
    have f2 := (gt_at hF).2
    have u1 := fw_unl (c := c) (a := (gt F key).2.1) (b := (gt T key).2.1) (j := 0) (k := 4) (by decide) (by decide) hl (by rw [g0]; rfl)
    have k1 : kix (l.set (kix l key).toNat (ws (gt l key) 0 (gt T key).2.1)) key = kix l key := kix_set p1 ws_key
    have g1 : gt (l.set (kix l key).toNat (ws (gt l key) 0 (gt T key).2.1)) key = ws (gt l key) 0 (gt T key).2.1 := gt_set_at hl (by rw [ws_key, p2])
    have u2 := fw_unl (c := c) (a := (gt F key).2.2.1) (b := (gt T key).2.2.1) (j := 1) (k := 5) (l := l.set (kix l key).toNat (ws (gt l key) 0 (gt T key).2.1)) (by decide) (by decide) (by rw [k1]; exact hl) (by rw [g1, g0]; simp [sg, ws])
    rw [k1, g1, List.set_set] at u2
    have k2 : kix (l.set (kix l key).toNat (ws (ws (gt l key) 0 (gt T key).2.1) 1 (gt T key).2.2.1)) key = kix l key := kix_set p1 (by rw [ws_key, ws_key])
    have g2 : gt (l.set (kix l key).toNat (ws (ws (gt l key) 0 (gt T key).2.1) 1 (gt T key).2.2.1)) key = ws (ws (gt l key) 0 (gt T key).2.1) 1 (gt T key).2.2.1 := gt_set_at hl (by rw [ws_key, ws_key, p2])
    have u3 := fw_unl (c := c) (a := (gt F key).2.2.2) (b := (gt T key).2.2.2) (j := 2) (k := 6) (l := l.set (kix l key).toNat (ws (ws (gt l key) 0 (gt T key).2.1) 1 (gt T key).2.2.1)) (by decide) (by decide) (by rw [k2]; exact hl) (by rw [g2, g0]; simp [sg, ws])
    rw [k2, g2, List.set_set] at u3
    have e3 : ws (ws (ws (gt l key) 0 (gt T key).2.1) 1 (gt T key).2.2.1) 2 (gt T key).2.2.2 = gt T key := by
      have q1 : (gt l key).1 = (gt T key).1 := by rw [p2, t2]
      generalize gt l key = x at q1
      generalize gt T key = y at q1
      obtain ⟨x1, x2, x3, x4⟩ := x
      obtain ⟨y1, y2, y3, y4⟩ := y
      dsimp only at q1
      subst q1
      simp [ws]
    rw [e3] at u3
    refine ⟨l.set (kix l key).toNat (gt T key), by rw [apL_app _ _ _ _ u1, apL_app _ _ _ _ u2, u3], by rw [List.length_set]; exact h1, fun k => by rw [kix_set p1 (by rw [p2, t2]), h2], fun k hk => ?_⟩
    by_cases hkk : k = key
    · subst hkk
      rw [gt_set_at hl t2, if_neg (by omega)]
    · rw [gt_set_ne hl t2 hkk (by rw [h2]; exact hk), h3 k hk]
      by_cases hc2 : kix F k ≠ -1 ∧ 10 - (d : Int) ≤ k
      · rw [if_pos hc2, if_pos (by omega)]
      · rw [if_neg hc2, if_neg (by omega)]
theorem fw_stA {c : Int} {F T : List Ent} : ∀ (d : Nat) (l : List Ent), SI F T l d → ∃ l', apL (stA c F T d) l = some l' ∧ SI F T l' 0
  | 0, l, H => ⟨l, rfl, H⟩
  | d + 1, l, H => by
    obtain ⟨l1, h1, H1⟩ := fw_stK (c := c) (key := 9 - (d : Int)) rfl H
    obtain ⟨l2, h2, H2⟩ := fw_stA (c := c) d l1 H1
    refine ⟨l2, ?_, H2⟩
    unfold stA
    rw [apL_app _ _ _ _ h1]
    exact h2
theorem fw_sec {c : Int} {F T : List Ent} (hF : okL F) (hT : okL T) : apL (secL c F T) F = some T := by
  have h1 := fw_rmv (c := c) (T := T) F.length F hF.2.1 (Nat.le_refl _)
  have P := rmv_PI (c := c) (F := F) (T := T) hF.2.1
  have h2 := fw_plc (c := c) hT T.length 0 _ P
  have P2 := plc_PI (c := c) hT.2.1 T.length 0 _ (Nat.zero_add _) P
  have q := QI_plc (c := c) hT.2.1 T.length 0 _ P (QI_rmv (c := c) hF.2.1)
  obtain ⟨l', h3, H⟩ := fw_stA (c := c) 10 _ (SI_of hF hT P2 q)
  unfold secL
  rw [apL_app _ _ _ _ h1, apL_app _ _ _ _ h2, h3, H.fin hT]
theorem rmv_s {c : Int} {T : List Ent} : ∀ (n : Nat) (l : List Ent) (e : Edt), e ∈ (rmv c T n l).1 → e.1 ≤ 6 ∧ e.2.1 = c
  | 0, _, _, h => by cases h
  | n + 1, l, e, h => by
    unfold rmv at h
    split at h
    · exact rmv_s n l e h
    · split at h
      · rcases List.mem_cons.mp h with h | h
        · subst h
          exact ⟨by dsimp only; omega, rfl⟩
        · exact rmv_s n _ e h
      · exact rmv_s n l e h
theorem plc_s {c : Int} {T : List Ent} : ∀ (d i : Nat) (l : List Ent) (e : Edt), e ∈ (plc c T d i l).1 → e.1 ≤ 6 ∧ e.2.1 = c
  | 0, _, _, _, h => by cases h
  | d + 1, i, l, e, h => by
    unfold plc at h
    split at h
    · cases h
    · split at h
      · rcases List.mem_cons.mp h with h | h
        · subst h
          exact ⟨by dsimp only; omega, rfl⟩
        · exact plc_s d _ _ e h
      · split at h
        · exact plc_s d _ _ e h
        · rcases List.mem_cons.mp h with h | h
          · subst h
            exact ⟨by dsimp only; omega, rfl⟩
          · exact plc_s d _ _ e h
theorem stK_s {c key : Int} {F T : List Ent} {e : Edt} (h : e ∈ stK c F T key) : e.1 ≤ 6 ∧ e.2.1 = c := by
  unfold stK at h
  split at h
  · cases h
  · rcases List.mem_append.mp h with h | h
    · rw [unl_mem h]
      exact ⟨by dsimp only; omega, rfl⟩
    · rcases List.mem_append.mp h with h | h
      · rw [unl_mem h]
        exact ⟨by dsimp only; omega, rfl⟩
      · rw [unl_mem h]
        exact ⟨by dsimp only; omega, rfl⟩
theorem stA_s {c : Int} {F T : List Ent} : ∀ (d : Nat) (e : Edt), e ∈ stA c F T d → e.1 ≤ 6 ∧ e.2.1 = c
  | 0, _, h => by cases h
  | d + 1, e, h => by
    unfold stA at h
    rcases List.mem_append.mp h with h | h
    · exact stK_s h
    · exact stA_s d e h
theorem secL_s {c : Int} {F T : List Ent} (e : Edt) (h : e ∈ secL c F T) : e.1 ≤ 6 ∧ e.2.1 = c := by
  unfold secL at h
  rcases List.mem_append.mp h with h | h
  · exact rmv_s _ _ e h
  · rcases List.mem_append.mp h with h | h
    · exact plc_s _ _ _ e h
    · exact stA_s _ e h
theorem fw_ung {a b y k : Int} {g j : Nat} {c : Cfg} (hk : k = 7 + (j : Int)) (hy : y.toNat = g) (h : c.2 g j = a) : apA false (unl k 0 y a b) c = some (upG c g j b) := by
  unfold unl
  by_cases hab : a = b
  · rw [if_pos hab, ← hab, ← h, upG_self]
    rfl
  · rw [if_neg hab]
    have ha : ap1 false (k, 0, y, a, b, E0) c = some (upG c g j b) := by
      unfold ap1
      dsimp only
      rw [if_pos (by omega), hy, show (k - 7).toNat = j by omega, if_neg (fun z => z h)]
    exact apA_one ha
theorem fw_grp {f t : Nat → Nat → Int} {c : Cfg} (h : ∀ g j, g < 3 → j < 2 → c.2 g j = f g j) : ∃ c', apA false (grpL f t) c = some c' ∧ c'.1 = c.1 ∧ ∀ g j, g < 3 → j < 2 → c'.2 g j = t g j := by
  have e0 := fw_ung (k := 7) (y := 0) (g := 0) (j := 0) (a := f 0 0) (b := t 0 0) (c := c) (by decide) (by decide) (h 0 0 (by decide) (by decide))
  have e1 := fw_ung (k := 8) (y := 0) (g := 0) (j := 1) (a := f 0 1) (b := t 0 1) (c := upG c 0 0 (t 0 0)) (by decide) (by decide) ((upG_ne (by decide)).trans (h 0 1 (by decide) (by decide)))
  have e2 := fw_ung (k := 7) (y := 1) (g := 1) (j := 0) (a := f 1 0) (b := t 1 0) (c := upG (upG c 0 0 (t 0 0)) 0 1 (t 0 1)) (by decide) (by decide) ((upG_ne (by decide)).trans ((upG_ne (by decide)).trans (h 1 0 (by decide) (by decide))))
  have e3 := fw_ung (k := 8) (y := 1) (g := 1) (j := 1) (a := f 1 1) (b := t 1 1) (c := upG (upG (upG c 0 0 (t 0 0)) 0 1 (t 0 1)) 1 0 (t 1 0)) (by decide) (by decide) ((upG_ne (by decide)).trans ((upG_ne (by decide)).trans ((upG_ne (by decide)).trans (h 1 1 (by decide) (by decide)))))
  have e4 := fw_ung (k := 7) (y := 2) (g := 2) (j := 0) (a := f 2 0) (b := t 2 0) (c := upG (upG (upG (upG c 0 0 (t 0 0)) 0 1 (t 0 1)) 1 0 (t 1 0)) 1 1 (t 1 1)) (by decide) (by decide) ((upG_ne (by decide)).trans ((upG_ne (by decide)).trans ((upG_ne (by decide)).trans ((upG_ne (by decide)).trans (h 2 0 (by decide) (by decide))))))
  have e5 := fw_ung (k := 8) (y := 2) (g := 2) (j := 1) (a := f 2 1) (b := t 2 1) (c := upG (upG (upG (upG (upG c 0 0 (t 0 0)) 0 1 (t 0 1)) 1 0 (t 1 0)) 1 1 (t 1 1)) 2 0 (t 2 0)) (by decide) (by decide) ((upG_ne (by decide)).trans ((upG_ne (by decide)).trans ((upG_ne (by decide)).trans ((upG_ne (by decide)).trans ((upG_ne (by decide)).trans (h 2 1 (by decide) (by decide)))))))
  refine ⟨upG (upG (upG (upG (upG (upG c 0 0 (t 0 0)) 0 1 (t 0 1)) 1 0 (t 1 0)) 1 1 (t 1 1)) 2 0 (t 2 0)) 2 1 (t 2 1), ?_, rfl, fun g j hg hj => ?_⟩
  · unfold grpL
    rw [apA_app _ _ _ _ e0, apA_app _ _ _ _ e1, apA_app _ _ _ _ e2, apA_app _ _ _ _ e3, apA_app _ _ _ _ e4]
    exact e5
  · rcases (by omega : g = 0 ∨ g = 1 ∨ g = 2) with rfl | rfl | rfl <;> rcases (by omega : j = 0 ∨ j = 1) with rfl | rfl <;> simp [upG]
/-- the same for every question -/
def eqC (c d : Cfg) : Prop := (∀ s, s < 3 → c.1 s = d.1 s) ∧ ∀ g j, g < 3 → j < 2 → c.2 g j = d.2 g j
theorem eqC.refl {c : Cfg} : eqC c c := ⟨fun _ _ => rfl, fun _ _ _ _ => rfl⟩
theorem edL_nil {f t : Cfg} (hf : okC f) (ht : okC t) (h : eqC f t) : edL f t = [] := (edL_same hf ht).mpr h
theorem fw_all {f t : Cfg} (hf : okC f) (ht : okC t) : ∃ c', apA false (edL f t) f = some c' ∧ eqC c' t := by
  have s0 := fw_sec (c := 0) (hf.1 0 (by decide)) (ht.1 0 (by decide))
  have s1 := fw_sec (c := 1) (hf.1 1 (by decide)) (ht.1 1 (by decide))
  have s2 := fw_sec (c := 2) (hf.1 2 (by decide)) (ht.1 2 (by decide))
  have a0 := apL_apA (s := 0) (secL 0 (f.1 0) (t.1 0)) f (t.1 0) secL_s s0
  have a1 := apL_apA (s := 1) (secL 1 (f.1 1) (t.1 1)) (upS f 0 (t.1 0)) (t.1 1) secL_s s1
  have a2 := apL_apA (s := 2) (secL 2 (f.1 2) (t.1 2)) (upS (upS f 0 (t.1 0)) 1 (t.1 1)) (t.1 2) secL_s s2
  obtain ⟨c', h1, h2, h3⟩ := fw_grp (f := f.2) (t := t.2) (c := upS (upS (upS f 0 (t.1 0)) 1 (t.1 1)) 2 (t.1 2)) (fun g j _ _ => rfl)
  refine ⟨c', ?_, fun s hs => ?_, h3⟩
  · unfold edL
    rw [apA_app _ _ _ _ a0, apA_app _ _ _ _ a1, apA_app _ _ _ _ a2, h1]
  · rw [h2]
    rcases (by omega : s = 0 ∨ s = 1 ∨ s = 2) with rfl | rfl | rfl <;> rfl
/-- forth and back -/
theorem leads_to {f t : Cfg} (hf : okC f) (ht : okC t) : ∃ c', apA false (edL f t) f = some c' ∧ okC c' ∧ eqC c' t ∧ apA false (invL (edL f t)) c' = some f := by
  obtain ⟨c', h1, h2⟩ := fw_all hf ht
  have ho := edL_okd hf ht
  exact ⟨c', h1, apA_ok ho hf h1, h2, rev_all ho hf h1⟩
