theorem ed46 {k s y f t : Int} {n : Ent} (h : 4 ≤ k ∧ k ≤ 6) : k = kM (k, s, y, f, t, n) ∧ s = sM (k, s, y, f, t, n) ∧ y = yM (k, s, y, f, t, n) ∧ f + 1 = bM (k, s, y, f, t, n) ∧ t + 1 = hM (k, s, y, f, t, n) := by
  unfold kM sM yM bM hM
  dsimp only
  rw [if_neg (by omega), if_neg (by omega), if_neg (by omega), if_neg (by omega), if_neg (by omega), if_neg (by omega), if_neg (by omega), if_neg (by omega), if_neg (by omega)]
  exact ⟨rfl, rfl, rfl, rfl, rfl⟩
theorem ed7 {k s y f t : Int} {n : Ent} (h : 7 ≤ k) : 7 = kM (k, s, y, f, t, n) ∧ y = sM (k, s, y, f, t, n) ∧ k - 7 = yM (k, s, y, f, t, n) ∧ f + 1 = bM (k, s, y, f, t, n) ∧ t + 1 = hM (k, s, y, f, t, n) := by
  unfold kM sM yM bM hM
  dsimp only
  rw [if_pos h, if_pos h, if_pos h, if_neg (by omega), if_neg (by omega), if_neg (by omega), if_neg (by omega), if_neg (by omega), if_neg (by omega)]
  exact ⟨rfl, rfl, rfl, rfl, rfl⟩
section M8
variable {h : aH} {m : Nat} {S : St} {Q : aR → Prop}
theorem m_settles {a b c : Int} {F T : List Ent} {L : List Edt} (M : MS h m) (ha : 0 ≤ a) (hb : 0 ≤ b) (hc : 0 ≤ c) (HF : SecM (hiv h (m + 1)) a.toNat c.toNat F) (HT : SecM (hiv h (m + 1)) b.toNat c.toNat T) (E0' : EdM (hiv h) m L) (hl0 : L.length + 30 ≤ 100)
    (kk : ∀ I', EdM I' m (L ++ stA c F T 10) → frE (hiv h) I' m → Q (.inl none, hI h I')) : amT mX8_settles 0 [vR m, vI a, vI b, vI c] [] h Q := by
  have h0 := M.o
  have h1 := M.2.1
  have h2 := M.2.2.1
  have fld : ∀ (f key was is : Int) (tl : List aV) (I : Nat → Nat → Int) (L' : List Edt) (e1 e2 : Ent), f = 0 ∨ f = 1 → okE e1 → okE e2 → EdM I m L' → L'.length < 100 →
      (∀ I', EdM I' m (L' ++ unl (4 + f) c key (fieldE e1 f) (fieldE e2 f)) → frE I I' m → amT mX8_settles 125 (vR m :: vI a :: vI b :: vI c :: vI key :: vI was :: vI is :: vI (pk e1) :: vI (pk e2) :: vI f :: tl) [] (hI h I') Q) →
      amT mX8_settles 82 (vR m :: vI a :: vI b :: vI c :: vI key :: vI was :: vI is :: vI (pk e1) :: vI (pk e2) :: vI f :: tl) [] (hI h I) Q := by
    intro f key was is tl I L' e1 e2 hf o1 o2 E hl k
    have M1 : MS (hI h I) m := M
    obtain ⟨q1, q2, q3, q4, q5⟩ := ed46 (k := 4 + f) (s := c) (y := key) (f := fieldE e1 f) (t := fieldE e2 f) (n := E0) (by omega)
    refine kr_iload (pc := 82) dX8_settles_82 rfl ?_
    refine kr_iload (pc := 84) dX8_settles_84 rfl ?_
    refine kr_s2 (pc := 86) dX8_settles_86 rfl rfl (Nat.le_of_ble_eq_true rfl) rfl rfl (m_field o1 hf ?_)
    show amT _ _ _ _ _ _
    refine kr_iload (pc := 89) dX8_settles_89 rfl ?_
    refine kr_iload (pc := 91) dX8_settles_91 rfl ?_
    refine kr_s2 (pc := 93) dX8_settles_93 rfl rfl (Nat.le_of_ble_eq_true rfl) rfl rfl (m_field o2 hf ?_)
    show amT _ _ _ _ _ _
    refine kr_icmp_eq (pc := 96) dX8_settles_96 rfl (fun h96 => ?_) (fun h96 => ?_)
    · first | exact k I (by unfold unl; rw [if_pos (by omega), List.append_nil]; exact E) frE.rf | exact k I' (by unfold unl; rw [if_neg (by omega)]; exact E') fr
    · refine kr_aload_n (pc := 99) dX8_settles_99 rfl ?_
      refine kr_iconst (pc := 100) dX8_settles_100 (by decide) ?_
      refine kr_iload (pc := 101) dX8_settles_101 rfl ?_
      refine kr_iadd (pc := 103) dX8_settles_103 ⟨by omega, by omega⟩ ?_
      refine kr_iload_n (pc := 104) dX8_settles_104 rfl ?_
      refine kr_iload (pc := 105) dX8_settles_105 rfl ?_
      refine kr_iload (pc := 107) dX8_settles_107 rfl ?_
      refine kr_iload (pc := 109) dX8_settles_109 rfl ?_
      refine kr_s2 (pc := 111) dX8_settles_111 rfl rfl (Nat.le_of_ble_eq_true rfl) rfl rfl (m_field o1 hf ?_)
      show amT _ _ _ _ _ _
      refine kr_iload (pc := 114) dX8_settles_114 rfl ?_
      refine kr_iload (pc := 116) dX8_settles_116 rfl ?_
      refine kr_s2 (pc := 118) dX8_settles_118 rfl rfl (Nat.le_of_ble_eq_true rfl) rfl rfl (m_field o2 hf ?_)
      show amT _ _ _ _ _ _
      refine kr_iconst (pc := 121) dX8_settles_121 (by decide) ?_
      refine kr_v6 (pc := 122) dX8_settles_122 rfl rfl (by assumption) (Nat.le_of_ble_eq_true rfl) rfl rfl rfl rfl rfl rfl (m_notes (4 + f, c, key, fieldE e1 f, fieldE e2 f, E0) M1 E hl q1 q2 q3 q4 q5 (fun h => by dsimp only at h; omega) fun I' E' fr => ?_)
      show amT _ _ _ _ _ _
      first | exact k I (by unfold unl; rw [if_pos (by omega), List.append_nil]; exact E) frE.rf | exact k I' (by unfold unl; rw [if_neg (by omega)]; exact E') fr
  have grp : ∀ (key was is : Int) (tl : List aV) (I : Nat → Nat → Int) (L' : List Edt) (e1 e2 : Ent), okE e1 → okE e2 → EdM I m L' → L'.length < 100 →
      (∀ I', EdM I' m (L' ++ unl 6 c key e1.2.2.2 e2.2.2.2) → frE I I' m → amT mX8_settles 164 (vR m :: vI a :: vI b :: vI c :: vI key :: vI was :: vI is :: vI (pk e1) :: vI (pk e2) :: tl) [] (hI h I') Q) →
      amT mX8_settles 131 (vR m :: vI a :: vI b :: vI c :: vI key :: vI was :: vI is :: vI (pk e1) :: vI (pk e2) :: tl) [] (hI h I) Q := by
    intro key was is tl I L' e1 e2 o1 o2 E hl k
    have M1 : MS (hI h I) m := M
    obtain ⟨q1, q2, q3, q4, q5⟩ := ed46 (k := 6) (s := c) (y := key) (f := e1.2.2.2) (t := e2.2.2.2) (n := E0) (by omega)
    refine kr_iload (pc := 131) dX8_settles_131 rfl ?_
    refine kr_s1 (pc := 133) dX8_settles_133 rfl rfl (Nat.le_of_ble_eq_true rfl) rfl (m_group o1 ?_)
    show amT _ _ _ _ _ _
    refine kr_iload (pc := 136) dX8_settles_136 rfl ?_
    refine kr_s1 (pc := 138) dX8_settles_138 rfl rfl (Nat.le_of_ble_eq_true rfl) rfl (m_group o2 ?_)
    show amT _ _ _ _ _ _
    refine kr_icmp_eq (pc := 141) dX8_settles_141 rfl (fun h141 => ?_) (fun h141 => ?_)
    · first | exact k I (by unfold unl; rw [if_pos (by omega), List.append_nil]; exact E) frE.rf | exact k I' (by unfold unl; rw [if_neg (by omega)]; exact E') fr
    · refine kr_aload_n (pc := 144) dX8_settles_144 rfl ?_
      refine kr_bipush (pc := 145) dX8_settles_145 (by decide) ?_
      refine kr_iload_n (pc := 147) dX8_settles_147 rfl ?_
      refine kr_iload (pc := 148) dX8_settles_148 rfl ?_
      refine kr_iload (pc := 150) dX8_settles_150 rfl ?_
      refine kr_s1 (pc := 152) dX8_settles_152 rfl rfl (Nat.le_of_ble_eq_true rfl) rfl (m_group o1 ?_)
      show amT _ _ _ _ _ _
      refine kr_iload (pc := 155) dX8_settles_155 rfl ?_
      refine kr_s1 (pc := 157) dX8_settles_157 rfl rfl (Nat.le_of_ble_eq_true rfl) rfl (m_group o2 ?_)
      show amT _ _ _ _ _ _
      refine kr_iconst (pc := 160) dX8_settles_160 (by decide) ?_
      refine kr_v6 (pc := 161) dX8_settles_161 rfl rfl (by assumption) (Nat.le_of_ble_eq_true rfl) rfl rfl rfl rfl rfl rfl (m_notes (6, c, key, e1.2.2.2, e2.2.2.2, E0) M1 E hl q1 q2 q3 q4 q5 (fun h => by dsimp only at h; omega) fun I' E' fr => ?_)
      show amT _ _ _ _ _ _
      first | exact k I (by unfold unl; rw [if_pos (by omega), List.append_nil]; exact E) frE.rf | exact k I' (by unfold unl; rw [if_neg (by omega)]; exact E') fr
  have loop : ∀ (d : Nat) (tl : List aV) (I : Nat → Nat → Int) (L' : List Edt), d ≤ 10 → EdM I m L' → frE (hiv h) I m → L'.length + 3 * d ≤ 100 → L' ++ stA c F T d = L ++ stA c F T 10 →
      amT mX8_settles 3 (vR m :: vI a :: vI b :: vI c :: vI (10 - (d : Int)) :: tl) [] (hI h I) Q := by
    intro d
    induction d with
    | zero =>
      intro tl I L' _ E fr hl hL
      refine kr_iload (pc := 3) dX8_settles_3 rfl ?_
      refine kr_bipush (pc := 5) dX8_settles_5 (by decide) ?_
      refine kr_icmp_ge (pc := 7) dX8_settles_7 rfl (fun h7 => ?_) (fun h7 => by exfalso; omega)
      refine kr_return (d0 := ()) (pc := 170) dX8_settles_170 rfl ?_
      exact kk I (by rw [← hL]; unfold stA; rw [List.append_nil]; exact E) fr
    | succ d ih =>
      intro tl I L' hd E fr hl hL
      have M1 : MS (hI h I) m := M
      have eR : hiv (hI h I) (m + 1) = hiv h (m + 1) := fr.1 (m + 1) (by omega) (by omega)
      have HF1 : SecM (hiv (hI h I) (m + 1)) a.toNat c.toNat F := by rw [eR]; exact HF
      have HT1 : SecM (hiv (hI h I) (m + 1)) b.toNat c.toNat T := by rw [eR]; exact HT
      have rF := kix_rng F (9 - (d : Int))
      have rT := kix_rng T (9 - (d : Int))
      have next : ∀ (x y : Int) (tl : List aV) (I' : Nat → Nat → Int), EdM I' m (L' ++ stK c F T (9 - (d : Int))) → frE I I' m → amT mX8_settles 164 (vR m :: vI a :: vI b :: vI c :: vI (9 - (d : Int)) :: vI x :: vI y :: tl) [] (hI h I') Q := by
        intro x y tl I' E' fr'
        refine kr_iinc (pc := 164) dX8_settles_164 rfl ⟨⟨by omega, by omega⟩, by decide, by decide⟩ ?_
        simp only [stl, List.tail_cons, List.tail_nil]
        refine kr_goto (pc := 167) dX8_settles_167 rfl ?_
        rw [show 9 - (d : Int) + 1 = 10 - (d : Int) by omega]
        refine ih _ I' _ (by omega) E' (fr.tr fr') ?_ ?_
        · have := (stK_len (c := c) (key := 9 - (d : Int)) (F := F) (T := T)).1
          rw [List.length_append]
          omega
        · rw [← hL]
          unfold stA
          rw [List.append_assoc]
          show _ = L' ++ (stK c F T (9 - (d : Int)) ++ stA c F T d)
          cases d <;> rfl
      rw [show (10 : Int) - ((d + 1 : Nat) : Int) = 9 - (d : Int) by omega]
      have big : kix F (9 - (d : Int)) ≠ -1 → kix T (9 - (d : Int)) ≠ -1 → ∀ tl : List aV, amT mX8_settles 45 (vR m :: vI a :: vI b :: vI c :: vI (9 - (d : Int)) :: vI (kix F (9 - (d : Int))) :: vI (kix T (9 - (d : Int))) :: tl) [] (hI h I) Q := by
        intro c1 c2 tl
        obtain ⟨f1, f2, f3, f4, f5⟩ := id HF1
        obtain ⟨t1, t2, t3, t4, t5⟩ := id HT1
        obtain ⟨x1, x2⟩ := f5 _ _ (gt_at c1).1
        obtain ⟨y1, y2⟩ := t5 _ _ (gt_at c2).1
        rw [show 27 * a.toNat + 3 + 6 * c.toNat + (kix F (9 - (d : Int))).toNat = (27 * a + 3 + 6 * c + kix F (9 - (d : Int))).toNat by omega] at x1
        rw [show 27 * b.toNat + 3 + 6 * c.toNat + (kix T (9 - (d : Int))).toNat = (27 * b + 3 + 6 * c + kix T (9 - (d : Int))).toNat by omega] at y1
        refine kr_aload_n (pc := 45) dX8_settles_45 rfl ?_
        refine kr_getr (pc := 46) dX8_settles_46 rfl rfl (by assumption) (by assumption) ?_
        refine kr_iload_n (pc := 49) dX8_settles_49 rfl ?_
        refine kr_iload_n (pc := 50) dX8_settles_50 rfl ?_
        refine kr_iload (pc := 51) dX8_settles_51 rfl ?_
        refine kr_s3 (pc := 53) dX8_settles_53 rfl rfl (Nat.le_of_ble_eq_true rfl) rfl rfl rfl (m_at ⟨by omega, by omega⟩ ⟨by omega, by omega⟩ ⟨by omega, by omega⟩ ?_)
        show amT _ _ _ _ _ _
        refine kr_iald (pc := 56) dX8_settles_56 (by assumption) (by omega) (by omega) rfl ?_
        rw [x1]
        refine kr_istore (pc := 57) dX8_settles_57 (show 7 ≤ _ from by simp) (by decide) ?_
        simp only [stl, List.tail_cons, List.tail_nil]
        refine kr_aload_n (pc := 59) dX8_settles_59 rfl ?_
        refine kr_getr (pc := 60) dX8_settles_60 rfl rfl (by assumption) (by assumption) ?_
        refine kr_iload_n (pc := 63) dX8_settles_63 rfl ?_
        refine kr_iload_n (pc := 64) dX8_settles_64 rfl ?_
        refine kr_iload (pc := 65) dX8_settles_65 rfl ?_
        refine kr_s3 (pc := 67) dX8_settles_67 rfl rfl (Nat.le_of_ble_eq_true rfl) rfl rfl rfl (m_at ⟨by omega, by omega⟩ ⟨by omega, by omega⟩ ⟨by omega, by omega⟩ ?_)
        show amT _ _ _ _ _ _
        refine kr_iald (pc := 70) dX8_settles_70 (by assumption) (by omega) (by omega) rfl ?_
        rw [y1]
        refine kr_istore (pc := 71) dX8_settles_71 (show 8 ≤ _ from by simp) (by decide) ?_
        simp only [stl, List.tail_cons, List.tail_nil]
        refine kr_iconst (pc := 73) dX8_settles_73 (by decide) ?_
        refine kr_istore (pc := 74) dX8_settles_74 (show 9 ≤ _ from by simp) (by decide) ?_
        simp only [stl, List.tail_cons, List.tail_nil]
        refine kr_iload (pc := 76) dX8_settles_76 rfl ?_
        refine kr_iconst (pc := 78) dX8_settles_78 (by decide) ?_
        refine kr_icmp_ge (pc := 79) dX8_settles_79 rfl (fun h => absurd h (by decide)) (fun _ => ?_)
        refine fld 0 _ _ _ _ I L' _ _ (Or.inl rfl) x2 y2 E (by omega) fun I1 E1 fr1 => ?_
        have l1 := unl_len (k := 4 + 0) (s := c) (key := 9 - (d : Int)) (a := fieldE (gt F (9 - (d : Int))) 0) (b := fieldE (gt T (9 - (d : Int))) 0)
        refine kr_iinc (pc := 125) dX8_settles_125 rfl ⟨⟨by omega, by omega⟩, by decide, by decide⟩ ?_
        simp only [stl, List.tail_cons, List.tail_nil]
        refine kr_goto (pc := 128) dX8_settles_128 rfl ?_
        refine kr_iload (pc := 76) dX8_settles_76 rfl ?_
        refine kr_iconst (pc := 78) dX8_settles_78 (by decide) ?_
        refine kr_icmp_ge (pc := 79) dX8_settles_79 rfl (fun h => absurd h (by decide)) (fun _ => ?_)
        refine fld (0 + 1) _ _ _ _ I1 _ _ _ (Or.inr rfl) x2 y2 E1 (by rw [List.length_append]; omega) fun I2 E2 fr2 => ?_
        have l2 := unl_len (k := 4 + (0 + 1)) (s := c) (key := 9 - (d : Int)) (a := fieldE (gt F (9 - (d : Int))) (0 + 1)) (b := fieldE (gt T (9 - (d : Int))) (0 + 1))
        refine kr_iinc (pc := 125) dX8_settles_125 rfl ⟨⟨by omega, by omega⟩, by decide, by decide⟩ ?_
        simp only [stl, List.tail_cons, List.tail_nil]
        refine kr_goto (pc := 128) dX8_settles_128 rfl ?_
        refine kr_iload (pc := 76) dX8_settles_76 rfl ?_
        refine kr_iconst (pc := 78) dX8_settles_78 (by decide) ?_
        refine kr_icmp_ge (pc := 79) dX8_settles_79 rfl (fun _ => ?_) (fun h => absurd h (by decide))
        refine grp _ _ _ _ I2 _ _ _ x2 y2 E2 (by rw [List.length_append, List.length_append]; omega) fun I3 E3 fr3 => ?_
        refine next _ _ _ I3 ?_ (fr1.tr (fr2.tr fr3))
        unfold stK
        rw [if_neg (by omega), ← List.append_assoc, ← List.append_assoc]
        exact E3
      refine kr_iload (pc := 3) dX8_settles_3 rfl ?_
      refine kr_bipush (pc := 5) dX8_settles_5 (by decide) ?_
      refine kr_icmp_ge (pc := 7) dX8_settles_7 rfl (fun h7 => by exfalso; omega) (fun h7 => ?_)
      refine kr_aload_n (pc := 10) dX8_settles_10 rfl ?_
      refine kr_iload_n (pc := 11) dX8_settles_11 rfl ?_
      refine kr_iload_n (pc := 12) dX8_settles_12 rfl ?_
      refine kr_iload (pc := 13) dX8_settles_13 rfl ?_
      refine kr_v3 (pc := 15) dX8_settles_15 rfl rfl (by assumption) (Nat.le_of_ble_eq_true rfl) rfl rfl rfl (m_findI M1 ha hc HF1 ?_)
      show amT _ _ _ _ _ _
      refine kr_istore (pc := 18) dX8_settles_18 (show 5 ≤ _ from by simp) (by decide) ?_
      simp only [stl, List.tail_cons, List.tail_nil]
      refine kr_aload_n (pc := 20) dX8_settles_20 rfl ?_
      refine kr_iload_n (pc := 21) dX8_settles_21 rfl ?_
      refine kr_iload_n (pc := 22) dX8_settles_22 rfl ?_
      refine kr_iload (pc := 23) dX8_settles_23 rfl ?_
      refine kr_v3 (pc := 25) dX8_settles_25 rfl rfl (by assumption) (Nat.le_of_ble_eq_true rfl) rfl rfl rfl (m_findI M1 hb hc HT1 ?_)
      show amT _ _ _ _ _ _
      refine kr_istore (pc := 28) dX8_settles_28 (show 6 ≤ _ from by simp) (by decide) ?_
      simp only [stl, List.tail_cons, List.tail_nil]
      refine kr_iload (pc := 30) dX8_settles_30 rfl ?_
      refine kr_iconst (pc := 32) dX8_settles_32 (by decide) ?_
      refine kr_icmp_eq (pc := 33) dX8_settles_33 rfl (fun h33 => ?_) (fun h33 => ?_)
      · exact next _ _ _ I (by unfold stK; rw [if_pos (by omega), List.append_nil]; exact E) frE.rf
      · refine kr_iload (pc := 36) dX8_settles_36 rfl ?_
        refine kr_iconst (pc := 38) dX8_settles_38 (by decide) ?_
        refine kr_icmp_ne (pc := 39) dX8_settles_39 rfl (fun h39 => ?_) (fun h39 => ?_)
        · have c1 : kix F (9 - (d : Int)) ≠ -1 := by omega
          have c2 : kix T (9 - (d : Int)) ≠ -1 := by omega
          exact big c1 c2 _
        · refine kr_goto (pc := 42) dX8_settles_42 rfl ?_
          exact next _ _ _ I (by unfold stK; rw [if_pos (by omega), List.append_nil]; exact E) frE.rf
  refine kr_iconst (pc := 0) dX8_settles_0 (by decide) ?_
  refine kr_istore (pc := 1) dX8_settles_1 (show 4 ≤ _ from by simp) (by decide) ?_
  simp only [stl, List.tail_cons, List.tail_nil]
  have e : h = hI h (hiv h) := rfl
  rw [e]
  exact loop 10 [] (hiv h) L (by omega) E0' frE.rf (by omega) rfl
end M8
