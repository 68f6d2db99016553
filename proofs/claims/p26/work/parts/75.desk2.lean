section XG
variable {h : aH} {Q : aR → Prop} {x : Nat} {S : St}
theorem x_secOf {w s : Int} (H : DeR h x S) (HS : okS S) (hw : w < 2147483648) (k1 : ∀ n : Nat, slt S w = n → n < 33 → 0 ≤ s ∧ s ≤ 2 → Q (.inl (some (vR (kp x n + 6 + 14 * s.toNat))), h)) (k0 : ¬ (slt S w ≠ -1 ∧ 0 ≤ s ∧ s ≤ 2) → Q (.inr 1, hth h)) : amT mX7_sectionOf 0 [vR x, vI w, vI s] [] h Q := by
  have a1 := H.1.1
  refine kr_aload_n (pc := 0) dX7_sectionOf_0 rfl ?_
  refine kr_iload_n (pc := 1) dX7_sectionOf_1 rfl ?_
  refine kr_v1 (pc := 2) dX7_sectionOf_2 rfl rfl (by assumption) (Nat.le_of_ble_eq_true rfl) rfl (x_confOf H HS hw (fun n2 e2 f2 => ?_) (fun e2 => ?_))
  · show amT _ _ _ _ _ _
    refine kr_astore_n (pc := 5) dX7_sectionOf_5 (show 3 ≤ _ from by simp) (by decide) ?_
    simp only [stl, List.tail_cons, List.tail_nil]
    refine kr_iload_n (pc := 6) dX7_sectionOf_6 rfl ?_
    refine kr_iconst (pc := 7) dX7_sectionOf_7 (by decide) ?_
    refine kr_s2 (pc := 8) dX7_sectionOf_8 rfl rfl (Nat.le_of_ble_eq_true rfl) rfl rfl (x_needIndex (fun c8 => ?_) (fun c8 => ?_))
    · show amT _ _ _ _ _ _
      obtain ⟨z1, z2, z3, z4, z5, z6, z7⟩ := (H.2.1 n2 f2).1
      have z8 := z6 s.toNat (by omega)
      refine kr_aload_n (pc := 11) dX7_sectionOf_11 rfl ?_
      refine kr_getr (pc := 12) dX7_sectionOf_12 rfl rfl (by assumption) (by assumption) ?_
      refine kr_iload_n (pc := 15) dX7_sectionOf_15 rfl ?_
      refine kr_aald (pc := 16) dX7_sectionOf_16 (by assumption) (by decide) (by omega) (by omega) (by assumption) ?_
      refine kr_areturn (pc := 17) dX7_sectionOf_17 rfl ?_
      exact k1 n2 e2 f2 (by omega)
    · show Q (.inr _, _)
      exact k0 (by omega)
  · show Q (.inr _, _)
    exact k0 (by omega)
theorem x_entryOf {w s p : Int} (H : DeR h x S) (HS : okS S) (hw : w < 2147483648) (k1 : ∀ n d : Nat, slt S w = n → n < 33 → 0 ≤ s ∧ s ≤ 2 → 0 ≤ p → p < ((S.1 n).1 s.toNat).length → EnC h d (enA S w s p) → okE (enA S w s p) → Q (.inl (some (vR d)), h))
    (k0 : ¬ (slt S w ≠ -1 ∧ (0 ≤ s ∧ s ≤ 2) ∧ 0 ≤ p ∧ p < ((S.1 (slt S w).toNat).1 s.toNat).length) → Q (.inr 1, hth h)) : amT mX7_entryOf 0 [vR x, vI w, vI s, vI p] [] h Q := by
  have a1 := H.1.1
  refine kr_aload_n (pc := 0) dX7_entryOf_0 rfl ?_
  refine kr_iload_n (pc := 1) dX7_entryOf_1 rfl ?_
  refine kr_iload_n (pc := 2) dX7_entryOf_2 rfl ?_
  refine kr_v2 (pc := 3) dX7_entryOf_3 rfl rfl (by assumption) (Nat.le_of_ble_eq_true rfl) rfl rfl (x_secOf H HS hw (fun n3 e3 f3 g3 => ?_) (fun e3 => ?_))
  · show amT _ _ _ _ _ _
    obtain ⟨q, ⟨z1, z2, z3, z4, z5, z6⟩, y1, y2, y3⟩ := (H.2.1 n3 f3).2.1 s.toNat (by omega)
    refine kr_astore (pc := 6) dX7_entryOf_6 (show 4 ≤ _ from by simp) (by decide) ?_
    simp only [stl, List.tail_cons, List.tail_nil]
    refine kr_iload_n (pc := 8) dX7_entryOf_8 rfl ?_
    refine kr_aload (pc := 9) dX7_entryOf_9 rfl ?_
    refine kr_geti (pc := 11) dX7_entryOf_11 rfl (by decide) (by assumption) y1 ?_
    refine kr_s2 (pc := 14) dX7_entryOf_14 rfl rfl (Nat.le_of_ble_eq_true rfl) rfl rfl (x_needIndex (fun c14 => ?_) (fun c14 => ?_))
    · show amT _ _ _ _ _ _
      obtain ⟨r, hr⟩ : ∃ r, ((S.1 n3).1 s.toNat)[p.toNat]? = some r := ⟨_, List.getElem?_eq_getElem (by omega)⟩
      have z8 := (z5 p.toNat (by omega)).1
      refine kr_aload (pc := 17) dX7_entryOf_17 rfl ?_
      refine kr_getr (pc := 19) dX7_entryOf_19 rfl rfl (by assumption) (by assumption) ?_
      refine kr_iload_n (pc := 22) dX7_entryOf_22 rfl ?_
      refine kr_aald (pc := 23) dX7_entryOf_23 (by assumption) (by decide) (by omega) (by omega) (by assumption) ?_
      refine kr_areturn (pc := 24) dX7_entryOf_24 rfl ?_
      have er : enA S w s p = r := by (unfold enA; rw [show (slt S w).toNat = n3 by omega, hr]; rfl)
      exact k1 n3 _ e3 f3 g3 (by omega) (by omega) (by rw [er]; exact y3 _ _ hr) (by rw [er]; exact ((HS.1 n3 f3).1 s.toNat (by omega)).2.2 _ _ hr)
    · show Q (.inr _, _)
      exact k0 (by rw [show (slt S w).toNat = n3 by omega]; omega)
  · show Q (.inr _, _)
    exact k0 (by omega)
theorem xc_size {w s : Int} (H : DeR h x S) (HS : okS S) (hw : w < 2147483648) (k1 : ∀ v S' h', sp_size S w s = (0, v, S') → fro h h' x (x + 1899) → DeR h' x S' → Q (.inl (some (vI v)), h')) (kE : ∀ h', sp_size S w s = sx S 1 → fro h h' x (x + 1899) → DeR h' x S → Q (.inr 1, hth h')) : amT mX7_size 0 [vR x, vI w, vI s] [] h Q := by
  have a1 := H.1.1
  refine kr_aload_n (pc := 0) dX7_size_0 rfl ?_
  refine kr_iload_n (pc := 1) dX7_size_1 rfl ?_
  refine kr_iload_n (pc := 2) dX7_size_2 rfl ?_
  refine kr_v2 (pc := 3) dX7_size_3 rfl rfl (by assumption) (Nat.le_of_ble_eq_true rfl) rfl rfl (x_secOf H HS hw (fun n3 e3 f3 g3 => ?_) (fun e3 => ?_))
  · show amT _ _ _ _ _ _
    obtain ⟨q, ⟨z1, z2, z3, z4, z5, z6⟩, y1, y2, y3⟩ := (H.2.1 n3 f3).2.1 s.toNat (by omega)
    refine kr_geti (pc := 6) dX7_size_6 rfl (by decide) (by assumption) y1 ?_
    refine kr_ireturn (pc := 9) dX7_size_9 rfl ?_
    exact k1 _ S h (by unfold sp_size; rw [if_neg (by omega), e3]; rfl) fro.rf H
  · show Q (.inr _, _)
    exact kE h (by unfold sp_size; rw [if_pos (by omega)]) fro.rf H
theorem xc_keyAt {w s p : Int} (H : DeR h x S) (HS : okS S) (hw : w < 2147483648) (k1 : ∀ v S' h', sp_keyAt S w s p = (0, v, S') → fro h h' x (x + 1899) → DeR h' x S' → Q (.inl (some (vI v)), h')) (kE : ∀ h', sp_keyAt S w s p = sx S 1 → fro h h' x (x + 1899) → DeR h' x S → Q (.inr 1, hth h')) : amT mX7_keyAt 0 [vR x, vI w, vI s, vI p] [] h Q := by
  have a1 := H.1.1
  refine kr_aload_n (pc := 0) dX7_keyAt_0 rfl ?_
  refine kr_iload_n (pc := 1) dX7_keyAt_1 rfl ?_
  refine kr_iload_n (pc := 2) dX7_keyAt_2 rfl ?_
  refine kr_iload_n (pc := 3) dX7_keyAt_3 rfl ?_
  refine kr_v3 (pc := 4) dX7_keyAt_4 rfl rfl (by assumption) (Nat.le_of_ble_eq_true rfl) rfl rfl rfl (x_entryOf H HS hw (fun n4 d4 e4 f4 g4 i4 j4 E4 o4 => ?_) (fun e4 => ?_))
  · show amT _ _ _ _ _ _
    have z1 := E4.1.1
    have z2 := E4.2.1
    refine kr_geti (pc := 7) dX7_keyAt_7 rfl (by decide) (by assumption) z2 ?_
    refine kr_ireturn (pc := 10) dX7_keyAt_10 rfl ?_
    exact k1 _ S h (by unfold sp_keyAt; rw [if_neg (by rw [show (slt S w).toNat = n4 by omega]; omega)]) fro.rf H
  · show Q (.inr _, _)
    exact kE h (by unfold sp_keyAt; rw [if_pos e4]) fro.rf H
theorem xc_own {w s p : Int} (H : DeR h x S) (HS : okS S) (hw : w < 2147483648) (k1 : ∀ v S' h', sp_own S w s p = (0, v, S') → fro h h' x (x + 1899) → DeR h' x S' → Q (.inl (some (vI v)), h')) (kE : ∀ h', sp_own S w s p = sx S 1 → fro h h' x (x + 1899) → DeR h' x S → Q (.inr 1, hth h')) : amT mX7_own 0 [vR x, vI w, vI s, vI p] [] h Q := by
  have a1 := H.1.1
  refine kr_aload_n (pc := 0) dX7_own_0 rfl ?_
  refine kr_iload_n (pc := 1) dX7_own_1 rfl ?_
  refine kr_iload_n (pc := 2) dX7_own_2 rfl ?_
  refine kr_iload_n (pc := 3) dX7_own_3 rfl ?_
  refine kr_v3 (pc := 4) dX7_own_4 rfl rfl (by assumption) (Nat.le_of_ble_eq_true rfl) rfl rfl rfl (x_entryOf H HS hw (fun n4 d4 e4 f4 g4 i4 j4 E4 o4 => ?_) (fun e4 => ?_))
  · show amT _ _ _ _ _ _
    obtain ⟨⟨z1, z2, z3⟩, z4, z5, z6, z7⟩ := E4
    have oo := o4
    unfold okE at oo
    refine kr_getr (pc := 7) dX7_own_7 rfl rfl (by assumption) (by assumption) ?_
    refine kr_astore (pc := 10) dX7_own_10 (show 4 ≤ _ from by simp) (by decide) ?_
    simp only [stl, List.tail_cons, List.tail_nil]
    refine kr_sipush (pc := 12) dX7_own_12 (by decide) ?_
    refine kr_aload (pc := 15) dX7_own_15 rfl ?_
    refine kr_iconst (pc := 17) dX7_own_17 (by decide) ?_
    refine kr_iald (pc := 18) dX7_own_18 (by assumption) (by omega) (by omega) (by first | exact z5 | exact z6 | exact z7) ?_
    refine kr_iconst (pc := 19) dX7_own_19 (by decide) ?_
    refine kr_iadd (pc := 20) dX7_own_20 ⟨by omega, by omega⟩ ?_
    refine kr_imul (pc := 21) dX7_own_21 ⟨by omega, by omega⟩ ?_
    refine kr_bipush (pc := 22) dX7_own_22 (by decide) ?_
    refine kr_aload (pc := 24) dX7_own_24 rfl ?_
    refine kr_iconst (pc := 26) dX7_own_26 (by decide) ?_
    refine kr_iald (pc := 27) dX7_own_27 (by assumption) (by omega) (by omega) (by first | exact z5 | exact z6 | exact z7) ?_
    refine kr_iconst (pc := 28) dX7_own_28 (by decide) ?_
    refine kr_iadd (pc := 29) dX7_own_29 ⟨by omega, by omega⟩ ?_
    refine kr_imul (pc := 30) dX7_own_30 ⟨by omega, by omega⟩ ?_
    refine kr_iadd (pc := 31) dX7_own_31 ⟨by omega, by omega⟩ ?_
    refine kr_aload (pc := 32) dX7_own_32 rfl ?_
    refine kr_iconst (pc := 34) dX7_own_34 (by decide) ?_
    refine kr_iald (pc := 35) dX7_own_35 (by assumption) (by omega) (by omega) (by first | exact z5 | exact z6 | exact z7) ?_
    refine kr_iadd (pc := 36) dX7_own_36 ⟨by omega, by omega⟩ ?_
    refine kr_iconst (pc := 37) dX7_own_37 (by decide) ?_
    refine kr_iadd (pc := 38) dX7_own_38 ⟨by omega, by omega⟩ ?_
    refine kr_ireturn (pc := 39) dX7_own_39 rfl ?_
    exact k1 _ S h (by unfold sp_own; rw [if_neg (by rw [show (slt S w).toNat = n4 by omega]; omega)]) fro.rf H
  · show Q (.inr _, _)
    exact kE h (by unfold sp_own; rw [if_pos e4]) fro.rf H
theorem xc_shown {w s p f : Int} (H : DeR h x S) (HS : okS S) (hw : w < 2147483648) (k1 : ∀ v S' h', sp_shown S w s p f = (0, v, S') → fro h h' x (x + 1899) → DeR h' x S' → Q (.inl (some (vI v)), h')) (kE : ∀ h', sp_shown S w s p f = sx S 1 → fro h h' x (x + 1899) → DeR h' x S → Q (.inr 1, hth h')) : amT mX7_shown 0 [vR x, vI w, vI s, vI p, vI f] [] h Q := by
  have a1 := H.1.1
  refine kr_aload_n (pc := 0) dX7_shown_0 rfl ?_
  refine kr_iload_n (pc := 1) dX7_shown_1 rfl ?_
  refine kr_iload_n (pc := 2) dX7_shown_2 rfl ?_
  refine kr_iload_n (pc := 3) dX7_shown_3 rfl ?_
  refine kr_v3 (pc := 4) dX7_shown_4 rfl rfl (by assumption) (Nat.le_of_ble_eq_true rfl) rfl rfl rfl (x_entryOf H HS hw (fun n4 d4 e4 f4 g4 i4 j4 E4 o4 => ?_) (fun e4 => ?_))
  · show amT _ _ _ _ _ _
    refine kr_astore (pc := 7) dX7_shown_7 (show 5 ≤ _ from by simp) (by decide) ?_
    simp only [stl, List.tail_cons, List.tail_nil]
    refine kr_iload (pc := 9) dX7_shown_9 rfl ?_
    refine kr_iconst (pc := 11) dX7_shown_11 (by decide) ?_
    refine kr_s2 (pc := 12) dX7_shown_12 rfl rfl (Nat.le_of_ble_eq_true rfl) rfl rfl (x_needIndex (fun c12 => ?_) (fun c12 => ?_))
    · show amT _ _ _ _ _ _
      refine kr_aload_n (pc := 15) dX7_shown_15 rfl ?_
      refine kr_iload_n (pc := 16) dX7_shown_16 rfl ?_
      refine kr_v1 (pc := 17) dX7_shown_17 rfl rfl (by assumption) (Nat.le_of_ble_eq_true rfl) rfl (x_confOf H HS hw (fun n17 e17 f17 => ?_) (fun e17 => ?_))
      · show amT _ _ _ _ _ _
        have z1 := (H.2.1 n17 f17).1.1
        refine kr_aload (pc := 20) dX7_shown_20 rfl ?_
        refine kr_iload (pc := 22) dX7_shown_22 rfl ?_
        refine kr_v2 (pc := 24) dX7_shown_24 rfl rfl (by assumption) (Nat.le_of_ble_eq_true rfl) rfl rfl (x_shown (H.2.1 n17 f17) E4 o4 (by omega) ?_)
        show amT _ _ _ _ _ _
        refine kr_ireturn (pc := 27) dX7_shown_27 rfl ?_
        exact k1 _ S h (by unfold sp_shown; rw [if_neg (by rw [show (slt S w).toNat = n4 by omega]; omega), show (slt S w).toNat = n17 by omega]) fro.rf H
      · show Q (.inr _, _)
        exfalso
        omega
    · show Q (.inr _, _)
      exact kE h (by unfold sp_shown; rw [if_pos (fun hh => c12 (by omega))]) fro.rf H
  · show Q (.inr _, _)
    exact kE h (by unfold sp_shown; rw [if_pos (fun hh => e4 hh.1)]) fro.rf H
theorem x_broken {κ : Nat} {c : Cfg} (H : DeR h x S) (HS : okS S) (C : CfC h κ c) (oc : okC c) (k : Q (.inl (some (vI (brk c S.2.2.2.2.2))), h)) : amT mX7_brokenRules 0 [vR x, vR κ] [] h Q := by
  obtain ⟨⟨a1, a2, a3, a4, a5, a6, a7, a8, a9, b0, b1, b2, b3⟩, c1, c2, c3, c4, c5, c6, c7, c8⟩ := id H
  have h8 := HS.2.2.2.2.1
  have hb := brk_rng (c := c) S.2.2.2.2.2
  have loop : ∀ (d i : Nat) (n : Int), i + d = S.2.2.2.2.2.length → 0 ≤ n ∧ n ≤ i → n + brk c (S.2.2.2.2.2.drop i) = brk c S.2.2.2.2.2 → amT mX7_brokenRules 4 [vR x, vR κ, vI n, vI (i : Int)] [] h Q := by
    intro d
    induction d with
    | zero =>
      intro i n hi h0n he
      rw [List.drop_eq_nil_of_le (by omega)] at he
      have he : n = brk c S.2.2.2.2.2 := by
        rw [← he]
        exact (Int.add_zero n).symm
      rw [← he] at k
      refine kr_iload_n (pc := 4) dX7_brokenRules_4 rfl ?_
      refine kr_aload_n (pc := 5) dX7_brokenRules_5 rfl ?_
      refine kr_geti (pc := 6) dX7_brokenRules_6 rfl (by decide) (by assumption) c4 ?_
      refine kr_icmp_ge (pc := 9) dX7_brokenRules_9 rfl (fun h9 => ?_) (fun h9 => by exfalso; omega)
      refine kr_iload_n (pc := 34) dX7_brokenRules_34 rfl ?_
      refine kr_ireturn (pc := 35) dX7_brokenRules_35 rfl ?_
      exact k
    | succ d ih =>
      intro i n hi h0n he
      have h1 : i < S.2.2.2.2.2.length := by omega
      have hg : S.2.2.2.2.2[i]? = some S.2.2.2.2.2[i] := List.getElem?_eq_getElem h1
      have R := (c7 _ _ hg).2
      have x1 := (b3 i (by omega)).1
      have x2 := (b3 i (by omega)).2
      have x3 : hrf h (x + 3) ((i : Nat) : Int).toNat = some (x + 1891 + i) := x1
      rw [List.drop_eq_getElem_cons h1] at he
      have hb2 := brk_rng (c := c) (S.2.2.2.2.2.drop (i + 1))
      refine kr_iload_n (pc := 4) dX7_brokenRules_4 rfl ?_
      refine kr_aload_n (pc := 5) dX7_brokenRules_5 rfl ?_
      refine kr_geti (pc := 6) dX7_brokenRules_6 rfl (by decide) (by assumption) c4 ?_
      refine kr_icmp_ge (pc := 9) dX7_brokenRules_9 rfl (fun h9 => by exfalso; omega) (fun h9 => ?_)
      refine kr_aload_n (pc := 12) dX7_brokenRules_12 rfl ?_
      refine kr_getr (pc := 13) dX7_brokenRules_13 rfl rfl (by assumption) (by assumption) ?_
      refine kr_iload_n (pc := 16) dX7_brokenRules_16 rfl ?_
      refine kr_aald (pc := 17) dX7_brokenRules_17 (by assumption) (by decide) (by omega) (by omega) (by assumption) ?_
      refine kr_aload_n (pc := 18) dX7_brokenRules_18 rfl ?_
      refine kr_v1 (pc := 19) dX7_brokenRules_19 rfl rfl (by assumption) (Nat.le_of_ble_eq_true rfl) rfl (x_kept R (HS.2.2.2.2.2 _ _ hg) C oc (fun c19 => ?_) (fun c19 => ?_))
      · show amT _ _ _ _ _ _
        refine kr_if_ne (pc := 22) dX7_brokenRules_22 rfl (fun _ => ?_) (fun h => absurd h (by decide))
        refine kr_iinc (pc := 28) dX7_brokenRules_28 rfl ⟨⟨by omega, by omega⟩, by decide, by decide⟩ ?_
        simp only [stl, List.tail_cons, List.tail_nil]
        refine kr_goto (pc := 31) dX7_brokenRules_31 rfl ?_
        exact ih (i + 1) n (by omega) (by omega) (by rw [brk_y c19] at he; omega)
      · show amT _ _ _ _ _ _
        refine kr_if_ne (pc := 22) dX7_brokenRules_22 rfl (fun h => absurd h (by decide)) (fun _ => ?_)
        refine kr_iinc (pc := 25) dX7_brokenRules_25 rfl ⟨⟨by omega, by omega⟩, by decide, by decide⟩ ?_
        simp only [stl, List.tail_cons, List.tail_nil]
        refine kr_iinc (pc := 28) dX7_brokenRules_28 rfl ⟨⟨by omega, by omega⟩, by decide, by decide⟩ ?_
        simp only [stl, List.tail_cons, List.tail_nil]
        refine kr_goto (pc := 31) dX7_brokenRules_31 rfl ?_
        exact ih (i + 1) (n + 1) (by omega) (by omega) (by rw [brk_n c19] at he; omega)
  refine kr_iconst (pc := 0) dX7_brokenRules_0 (by decide) ?_
  refine kr_istore_n (pc := 1) dX7_brokenRules_1 (show 2 ≤ _ from by simp) (by decide) ?_
  simp only [stl, List.tail_cons, List.tail_nil]
  refine kr_iconst (pc := 2) dX7_brokenRules_2 (by decide) ?_
  refine kr_istore_n (pc := 3) dX7_brokenRules_3 (show 3 ≤ _ from by simp) (by decide) ?_
  simp only [stl, List.tail_cons, List.tail_nil]
  exact loop S.2.2.2.2.2.length 0 0 (by omega) (by omega) (by rw [List.drop_zero, Int.zero_add])
theorem xc_faults {w : Int} (H : DeR h x S) (HS : okS S) (hw : w < 2147483648) (k1 : ∀ v S' h', sp_faults S w = (0, v, S') → fro h h' x (x + 1899) → DeR h' x S' → Q (.inl (some (vI v)), h')) (kE : ∀ h', sp_faults S w = sx S 1 → fro h h' x (x + 1899) → DeR h' x S → Q (.inr 1, hth h')) : amT mX7_faults 0 [vR x, vI w] [] h Q := by
  have a1 := H.1.1
  refine kr_aload_n (pc := 0) dX7_faults_0 rfl ?_
  refine kr_aload_n (pc := 1) dX7_faults_1 rfl ?_
  refine kr_iload_n (pc := 2) dX7_faults_2 rfl ?_
  refine kr_v1 (pc := 3) dX7_faults_3 rfl rfl (by assumption) (Nat.le_of_ble_eq_true rfl) rfl (x_confOf H HS hw (fun n3 e3 f3 => ?_) (fun e3 => ?_))
  · show amT _ _ _ _ _ _
    refine kr_v1 (pc := 6) dX7_faults_6 rfl rfl (by assumption) (Nat.le_of_ble_eq_true rfl) rfl (x_broken H HS (H.2.1 n3 f3) (HS.1 n3 f3) ?_)
    show amT _ _ _ _ _ _
    refine kr_ireturn (pc := 9) dX7_faults_9 rfl ?_
    exact k1 _ S h (by unfold sp_faults; rw [if_neg (by omega), e3]; rfl) fro.rf H
  · show Q (.inr _, _)
    exact kE h (by unfold sp_faults; rw [if_pos (by omega)]) fro.rf H
theorem xc_running (H : DeR h x S) (HS : okS S) (k1 : Q (.inl (some (vI S.2.2.2.1)), h)) : amT mX7_running 0 [vR x] [] h Q := by
  have a1 := H.1.1
  have c3 := H.2.2.2.1
  have hb := HS.2.2.1
  refine kr_aload_n (pc := 0) dX7_running_0 rfl ?_
  refine kr_geti (pc := 1) dX7_running_1 rfl (by decide) (by assumption) c3 ?_
  refine kr_iconst (pc := 4) dX7_running_4 (by decide) ?_
  refine kr_isub (pc := 5) dX7_running_5 ⟨by omega, by omega⟩ ?_
  rw [show (S.2.2.2.1 : Int) + 1 - 1 = S.2.2.2.1 by omega]
  refine kr_ireturn (pc := 6) dX7_running_6 rfl ?_
  exact k1
theorem xc_waiting (H : DeR h x S) (HS : okS S) (k1 : Q (.inl (some (vI S.2.2.2.2.1)), h)) : amT mX7_waiting 0 [vR x] [] h Q := by
  have a1 := H.1.1
  have c5 := H.2.2.2.2.2.1
  have hv := HS.2.2.2.1
  by_cases hn : S.2.2.2.2.1 = -1
  · rw [if_pos hn] at c5
    refine kr_aload_n (pc := 0) dX7_waiting_0 rfl ?_
    refine kr_geti (pc := 1) dX7_waiting_1 rfl (by decide) (by assumption) c5 ?_
    refine kr_if_le (pc := 4) dX7_waiting_4 rfl (fun h4 => ?_) (fun h4 => by exfalso; omega)
    refine kr_iconst (pc := 14) dX7_waiting_14 (by decide) ?_
    refine kr_ireturn (pc := 15) dX7_waiting_15 rfl ?_
    rw [hn] at k1
    exact k1
  · rw [if_neg hn] at c5
    refine kr_aload_n (pc := 0) dX7_waiting_0 rfl ?_
    refine kr_geti (pc := 1) dX7_waiting_1 rfl (by decide) (by assumption) c5 ?_
    refine kr_if_le (pc := 4) dX7_waiting_4 rfl (fun h4 => ?_) (fun h4 => ?_)
    · refine kr_iconst (pc := 14) dX7_waiting_14 (by decide) ?_
      refine kr_ireturn (pc := 15) dX7_waiting_15 rfl ?_
      first | (exfalso; omega) | exact k1
    · refine kr_aload_n (pc := 7) dX7_waiting_7 rfl ?_
      refine kr_geti (pc := 8) dX7_waiting_8 rfl (by decide) (by assumption) c5 ?_
      refine kr_goto (pc := 11) dX7_waiting_11 rfl ?_
      refine kr_ireturn (pc := 15) dX7_waiting_15 rfl ?_
      first | (exfalso; omega) | exact k1
theorem xc_same {a b : Int} (H : DeR h x S) (HS : okS S) (ha : a < 2147483648) (hb : b < 2147483648) (k1 : ∀ v S' h', (v = 0 ∨ v = 1) → sp_same S a b = (0, v, S') → fro h h' x (x + 1899) → DeR h' x S' → Q (.inl (some (vI v)), h')) (kE : ∀ h', sp_same S a b = sx S 1 → fro h h' x (x + 1899) → DeR h' x S → Q (.inr 1, hth h')) : amT mX7_same 0 [vR x, vI a, vI b] [] h Q := by
  have a1 := H.1.1
  have ed : ∀ na nb : Nat, slt S a = na → na < 33 → slt S b = nb → nb < 33 → ((edS S a b).length = 0 ↔ ((∀ s, s < 3 → (S.1 na).1 s = (S.1 nb).1 s) ∧ ∀ g j, g < 3 → j < 2 → (S.1 na).2 g j = (S.1 nb).2 g j)) := by
    intro na nb ea fa eb fb
    rw [← edL_same (HS.1 na fa) (HS.1 nb fb), List.length_eq_zero_iff]
    unfold edS
    rw [ea, eb]
    rfl
  refine kr_aload_n (pc := 0) dX7_same_0 rfl ?_
  refine kr_iload_n (pc := 1) dX7_same_1 rfl ?_
  refine kr_v1 (pc := 2) dX7_same_2 rfl rfl (by assumption) (Nat.le_of_ble_eq_true rfl) rfl (x_confOf H HS ha (fun n2 e2 f2 => ?_) (fun e2 => ?_))
  · show amT _ _ _ _ _ _
    refine kr_aload_n (pc := 5) dX7_same_5 rfl ?_
    refine kr_iload_n (pc := 6) dX7_same_6 rfl ?_
    refine kr_v1 (pc := 7) dX7_same_7 rfl rfl (by assumption) (Nat.le_of_ble_eq_true rfl) rfl (x_confOf H HS hb (fun n7 e7 f7 => ?_) (fun e7 => ?_))
    · show amT _ _ _ _ _ _
      have z1 := (H.2.1 n2 f2).1.1
      have z2 := ed n2 n7 e2 f2 e7 f7
      refine kr_v1 (pc := 10) dX7_same_10 rfl rfl (by assumption) (Nat.le_of_ble_eq_true rfl) rfl (x_clike (H.2.1 n2 f2) (H.2.1 n7 f7) (fun c10 => ?_) (fun c10 => ?_))
      · show amT _ _ _ _ _ _
        refine kr_ireturn (pc := 13) dX7_same_13 rfl ?_
        exact k1 1 S h (Or.inr rfl) (by unfold sp_same; rw [if_neg (by omega), if_pos (z2.mpr c10)]) fro.rf H
      · show amT _ _ _ _ _ _
        refine kr_ireturn (pc := 13) dX7_same_13 rfl ?_
        exact k1 0 S h (Or.inl rfl) (by unfold sp_same; rw [if_neg (by omega), if_neg (fun hh => c10 (z2.mp hh))]) fro.rf H
    · show Q (.inr _, _)
      exact kE h (by unfold sp_same; rw [if_pos (by omega)]) fro.rf H
  · show Q (.inr _, _)
    exact kE h (by unfold sp_same; rw [if_pos (by omega)]) fro.rf H
theorem fill_sc {h' : aH} {L : List Edt} {q : Nat → Nat} (H : DeR h x S) (f : fro h h' (x + 4) (x + 4 + 250)) (Hl : LiP h' (x + 4) L q) (Sl : ∃ p, SeB h' (x + 4 + 2) p) : DeR h' x S := by
  obtain ⟨_, _, C, E⟩ := H.2.2.2.2.2.2.2.2
  exact H.sc (f.up (by omega) (by omega)) ⟨⟨q, Hl.1⟩, Sl, C.ag (f.ag (by omega)), E.ag (f.ag (by omega))⟩
/-- the list of the edits between two configurations -/
theorem x_fillS {a b : Int} {na nb : Nat} (H : DeR h x S) (HS : okS S) (ea : slt S a = na) (fa : na < 33) (eb : slt S b = nb) (fb : nb < 33) (kk : ∀ h' q, fro h h' (x + 4) (x + 4 + 250) → LiP h' (x + 4) (edS S a b) q → DeR h' x S → (∀ e, e ∈ edS S a b → okEd e) → (edS S a b).length ≤ 78 → Q (.inl none, h')) : amT mX3_fill 0 [vR (x + 4), vR (kp x na), vR (kp x nb)] [] h Q := by
  obtain ⟨⟨q, L⟩, P, C, E⟩ := H.2.2.2.2.2.2.2.2
  have r1 := kp_rng (x := x) fa
  have r2 := kp_rng (x := x) fb
  obtain ⟨okd, hlen⟩ := edS_okd HS (a := a) (b := b) (by omega) (by omega)
  have eL : edS S a b = edL (S.1 na) (S.1 nb) := by
    unfold edS
    rw [ea, eb]
    rfl
  refine x_fill L P (H.2.1 na fa) (H.2.1 nb fb) (HS.1 na fa) (HS.1 nb fb) (by omega) (by omega) fun h' f Hl Sl => ?_
  exact kk h' q f (by rw [eL]; exact Hl) (fill_sc H f Hl Sl) okd hlen
theorem xc_edits {a b : Int} (H : DeR h x S) (HS : okS S) (ha : a < 2147483648) (hb : b < 2147483648) (k1 : ∀ v S' h', sp_edits S a b = (0, v, S') → fro h h' x (x + 1899) → DeR h' x S' → Q (.inl (some (vI v)), h')) (kE : ∀ h', sp_edits S a b = sx S 1 → fro h h' x (x + 1899) → DeR h' x S → Q (.inr 1, hth h')) : amT mX7_edits 0 [vR x, vI a, vI b] [] h Q := by
  have a1 := H.1.1
  have a8 := H.1.2.2.2.2.2.2.2.1
  obtain ⟨⟨q, L⟩, P, C, E⟩ := H.2.2.2.2.2.2.2.2
  have s1 := L.1
  refine kr_aload_n (pc := 0) dX7_edits_0 rfl ?_
  refine kr_getr (pc := 1) dX7_edits_1 rfl rfl (by assumption) (by assumption) ?_
  refine kr_aload_n (pc := 4) dX7_edits_4 rfl ?_
  refine kr_iload_n (pc := 5) dX7_edits_5 rfl ?_
  refine kr_v1 (pc := 6) dX7_edits_6 rfl rfl (by assumption) (Nat.le_of_ble_eq_true rfl) rfl (x_confOf H HS ha (fun n6 e6 f6 => ?_) (fun e6 => ?_))
  · show amT _ _ _ _ _ _
    refine kr_aload_n (pc := 9) dX7_edits_9 rfl ?_
    refine kr_iload_n (pc := 10) dX7_edits_10 rfl ?_
    refine kr_v1 (pc := 11) dX7_edits_11 rfl rfl (by assumption) (Nat.le_of_ble_eq_true rfl) rfl (x_confOf H HS hb (fun n11 e11 f11 => ?_) (fun e11 => ?_))
    · show amT _ _ _ _ _ _
      refine kr_v2 (pc := 14) dX7_edits_14 rfl rfl (by assumption) (Nat.le_of_ble_eq_true rfl) rfl rfl (x_fillS H HS e6 f6 e11 f11 (fun h' q' fr Hl D okd hlen => ?_))
      show amT _ _ _ _ _ _
      have t1 := D.1.1
      have t8 := D.1.2.2.2.2.2.2.2.1
      have t9 := Hl.1.1
      have t2 := Hl.2.1
      refine kr_aload_n (pc := 17) dX7_edits_17 rfl ?_
      refine kr_getr (pc := 18) dX7_edits_18 rfl rfl (by assumption) (by assumption) ?_
      refine kr_geti (pc := 21) dX7_edits_21 rfl (by decide) (by assumption) t2 ?_
      refine kr_ireturn (pc := 24) dX7_edits_24 rfl ?_
      exact k1 _ S h' (by unfold sp_edits; rw [if_neg (by omega)]) (fr.up (by omega) (by omega)) D
    · show Q (.inr _, _)
      exact kE h (by unfold sp_edits; rw [if_pos (by omega)]) fro.rf H
  · show Q (.inr _, _)
    exact kE h (by unfold sp_edits; rw [if_pos (by omega)]) fro.rf H
end XG
