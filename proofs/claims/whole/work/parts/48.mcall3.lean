section MD
variable {h : aH} {m : Nat} {S : St} {Q : aR → Prop}
theorem m_slot1 {w : Int} {n : Nat} (M : MS h m) (H : ModR (hiv h) m S) (HS : okS S) (e : slt S w = n) (k : Q (.inl (some (vI (n : Int))), h)) : amT mX8_slot 0 [vR m, vI w] [] h Q := by
  refine m_slot M H HS (fun n' e' _ => ?_) (fun e' => by omega)
  rw [show n' = n by omega]
  exact k
theorem mc_apply {c a b i : Int} (M : MS h m) (H : ModR (hiv h) m S) (HS : okS S) (hi : i = 0 ∨ i = 1) (k : ∀ I' b', MO (sp_apply S c a b i) (hiv h) I' m b' → Q (.inl (some (vI b')), hI h I')) : amT mX8_apply 0 [vR m, vI c, vI a, vI b, vI i] [] h Q := by
  have h0 := M.o
  have g1 := M.2.2.2.1
  have g2 := M.2.2.2.2.1
  have M1 : MS (hwi h m 17 0) m := M
  have H1 : ModR (hiv (hwi h m 17 0)) m S := H.th
  have act : 0 ≤ c ∧ c ≤ 2 → ¬ S.2.1 c.toNat = 0 → ∀ na nb : Nat, slt S a = na → slt S b = nb → na < 33 → nb < 33 → amT mX8_apply 58 [vR m, vI c, vI a, vI b, vI i] [] (hwi h m 17 0) Q := by
    intro hc ho na nb ea eb hna hnb
    have eL : edS S a b = edL (S.1 na) (S.1 nb) := by
      unfold edS
      rw [ea, eb]
      rfl
    obtain ⟨okd, hlen⟩ := edS_okd HS (a := a) (b := b) (by omega) (by omega)
    rw [eL] at okd hlen
    refine kr_aload_n (pc := 58) dX8_apply_58 rfl ?_
    refine kr_aload_n (pc := 59) dX8_apply_59 rfl ?_
    refine kr_iload_n (pc := 60) dX8_apply_60 rfl ?_
    refine kr_v1 (pc := 61) dX8_apply_61 rfl rfl (by assumption) (Nat.le_of_ble_eq_true rfl) rfl (m_slot1 M1 H1 HS ea ?_)
    show amT _ _ _ _ _ _
    refine kr_aload_n (pc := 64) dX8_apply_64 rfl ?_
    refine kr_iload_n (pc := 65) dX8_apply_65 rfl ?_
    refine kr_v1 (pc := 66) dX8_apply_66 rfl rfl (by assumption) (Nat.le_of_ble_eq_true rfl) rfl (m_slot1 M1 H1 HS eb ?_)
    show amT _ _ _ _ _ _
    refine kr_v2 (pc := 69) dX8_apply_69 rfl rfl (by assumption) (Nat.le_of_ble_eq_true rfl) rfl rfl (m_lists M1 (by omega) (by omega) (H1.1 na hna) (H1.1 nb hnb) (HS.1 na hna) (HS.1 nb hnb) fun I1 E1 fr1 => ?_)
    show amT _ _ _ _ _ _
    refine kr_aload_n (pc := 72) dX8_apply_72 rfl ?_
    refine kr_iload_n (pc := 73) dX8_apply_73 rfl ?_
    refine kr_bipush (pc := 74) dX8_apply_74 (by decide) ?_
    have M2 : MS (hI (hwi h m 17 0) I1) m := M
    refine kr_v2 (pc := 76) dX8_apply_76 rfl rfl (by assumption) (Nat.le_of_ble_eq_true rfl) rfl rfl (m_copiesI M2 (by omega) (by decide) ?_)
    show amT _ _ _ _ _ _
    have rows : ∀ s, s < 33 → CfgM (I1 (m + 1)) s (S.1 s) := fun s hs => (H1.1 s hs).fr fun j h1 h2 => fr1.2.2 j (by omega)
    have M3 : MS (sa (hI (hwi h m 17 0) I1) (m + 1) (cpF (hiv (hI (hwi h m 17 0) I1) (m + 1)) c.toNat (34 : Int).toNat)) m := M
    have C3 : CfgM (hiv (sa (hI (hwi h m 17 0) I1) (m + 1) (cpF (hiv (hI (hwi h m 17 0) I1) (m + 1)) c.toNat (34 : Int).toNat)) (m + 1)) 34 (S.1 c.toNat) := by
      rw [hiv_sa]
      exact (rows c.toNat (by omega)).cp (by decide)
    have f3 : ∀ j, j < 918 → hiv (sa (hI (hwi h m 17 0) I1) (m + 1) (cpF (hiv (hI (hwi h m 17 0) I1) (m + 1)) c.toNat (34 : Int).toNat)) (m + 1) j = I1 (m + 1) j := fun j hj => by
      rw [hiv_sa]
      exact if_neg (by omega)
    refine kr_aload_n (pc := 79) dX8_apply_79 rfl ?_
    refine kr_iload (pc := 80) dX8_apply_80 rfl ?_
    refine kr_iconst (pc := 82) dX8_apply_82 (by decide) ?_
    refine kr_v2 (pc := 83) dX8_apply_83 rfl rfl (by assumption) (Nat.le_of_ble_eq_true rfl) rfl rfl (m_doesAll (b := false) M3 (E1.set) (by omega) okd hi (Or.inl ⟨rfl, rfl⟩) C3 (fun c' R' ha C' hf => ?_) (fun R' ha hf => ?_))
    show amT _ _ _ _ _ _
    · rw [sa_sa]
      refine kr_if_ne (pc := 86) dX8_apply_86 rfl (fun _ => ?_) (fun h => absurd h (by decide))
      have M4 : MS (sa (hI (hwi h m 17 0) I1) (m + 1) R') m := M
      refine kr_aload_n (pc := 95) dX8_apply_95 rfl ?_
      refine kr_bipush (pc := 96) dX8_apply_96 (by decide) ?_
      refine kr_iload_n (pc := 98) dX8_apply_98 rfl ?_
      refine kr_v2 (pc := 99) dX8_apply_99 rfl rfl (by assumption) (Nat.le_of_ble_eq_true rfl) rfl rfl (m_copiesI M4 (by decide) (by omega) ?_)
      show amT _ _ _ _ _ _
      rw [sa_sa, hiv_sa]
      have e5 : hiv (sa (hI (hwi h m 17 0) I1) (m + 1) (cpF R' (34 : Int).toNat c.toNat)) m 5 = (edL (S.1 na) (S.1 nb)).length := (if_neg (by omega)).trans E1.1
      refine kr_aload_n (pc := 102) dX8_apply_102 rfl ?_
      refine kr_geti (pc := 103) dX8_apply_103 rfl (by decide) (by assumption) e5 ?_
      refine kr_ireturn (pc := 106) dX8_apply_106 rfl ?_
      refine k (setR I1 m (cpF R' (34 : Int).toNat c.toNat)) _ (MO.gen (f := (sCf S c.toNat c').1) H ((up17.sm.tr fr1.sm).tr setR.sm) (fun s hs => ?_) ?_ ?_)
      · rw [setR_at]
        show CfgM _ s (if s = c.toNat then c' else S.1 s)
        split
        · rename_i h
          rw [h]
          exact C'.cp (by omega)
        · rename_i h
          refine (rows s hs).fr fun j h1 h2 => ?_
          rw [cpF_ne h j h1 h2, hf j (by omega)]
          exact f3 j (by omega)
      · rw [setR_ne (by omega), fr1.2.1 17 (by decide)]
        exact up2_at
      · unfold sp_apply
        rw [if_neg (by omega), if_neg ho, eL, ha]
        rfl
    · rw [sa_sa]
      have M4 : MS (sa (hI (hwi h m 17 0) I1) (m + 1) R') m := M
      refine kr_if_ne (pc := 86) dX8_apply_86 rfl (fun h => absurd rfl h) (fun _ => ?_)
      refine kr_aload_n (pc := 89) dX8_apply_89 rfl ?_
      refine kr_iconst (pc := 90) dX8_apply_90 (by decide) ?_
      refine kr_v1 (pc := 91) dX8_apply_91 rfl rfl (by assumption) (Nat.le_of_ble_eq_true rfl) rfl (m_fails M4 ?_)
      show amT _ _ _ _ _ _
      refine kr_ireturn (pc := 94) dX8_apply_94 rfl ?_
      refine k (up2 (setR I1 m R') m 17 2) _ (MO.gerr H (((up17.sm.tr fr1.sm).tr setR.sm).tr up17.sm) (fun j hj => ?_) up2_at (by decide) ?_)
      · rw [up2_ne (by omega), setR_at, hf j (by omega), f3 j (by omega), fr1.2.2 j (by omega)]
        exact congrFun rw17 j
      · unfold sp_apply
        rw [if_neg (by omega), if_neg ho, eL, ha]
  refine kr_aload_n (pc := 0) dX8_apply_0 rfl ?_
  refine kr_iload_n (pc := 1) dX8_apply_1 rfl ?_
  refine kr_s1 (pc := 2) dX8_apply_2 rfl rfl (Nat.le_of_ble_eq_true rfl) rfl (m_isC (fun c2 => ?_) (fun c2 => ?_))
  · show amT _ _ _ _ _ _
    refine kr_if_eq (pc := 5) dX8_apply_5 rfl (fun h => absurd h (by decide)) (fun _ => ?_)
    refine kr_aload_n (pc := 8) dX8_apply_8 rfl ?_
    refine kr_iload_n (pc := 9) dX8_apply_9 rfl ?_
    refine kr_v1 (pc := 10) dX8_apply_10 rfl rfl (by assumption) (Nat.le_of_ble_eq_true rfl) rfl (m_slot M H HS (fun n10 e10 f10 => ?_) (fun e10 => ?_))
    · show amT _ _ _ _ _ _
      refine kr_iconst (pc := 13) dX8_apply_13 (by decide) ?_
      refine kr_icmp_eq (pc := 14) dX8_apply_14 rfl (fun h14 => ?_) (fun h14 => ?_)
      · refine kr_iconst (pc := 30) dX8_apply_30 (by decide) ?_
        refine kr_puti (pc := 31) dX8_apply_31 rfl (Or.inl rfl) (by decide) (by assumption) ?_
        refine kr_aload_n (pc := 34) dX8_apply_34 rfl ?_
        refine kr_geti (pc := 35) dX8_apply_35 rfl (by decide) (by assumption) (by first | exact hiv_wi_same | assumption) ?_
        refine kr_if_le (pc := 38) dX8_apply_38 rfl (fun h => absurd h (by decide)) (fun _ => ?_)
        refine kr_iconst (pc := 41) dX8_apply_41 (by decide) ?_
        refine kr_ireturn (pc := 42) dX8_apply_42 rfl ?_
        first | exact k _ _ (MO.errw (t := 1) H (by unfold sp_apply; rw [if_pos (by omega)]) (by decide)) | exact k _ _ (MO.errw2 (t := 2) H (by unfold sp_apply; rw [if_neg (by omega), if_pos (by omega)]) (by decide))
      · refine kr_aload_n (pc := 17) dX8_apply_17 rfl ?_
        refine kr_iload_n (pc := 18) dX8_apply_18 rfl ?_
        refine kr_v1 (pc := 19) dX8_apply_19 rfl rfl (by assumption) (Nat.le_of_ble_eq_true rfl) rfl (m_slot M H HS (fun n19 e19 f19 => ?_) (fun e19 => ?_))
        · show amT _ _ _ _ _ _
          refine kr_iconst (pc := 22) dX8_apply_22 (by decide) ?_
          refine kr_icmp_eq (pc := 23) dX8_apply_23 rfl (fun h23 => ?_) (fun h23 => ?_)
          · refine kr_iconst (pc := 30) dX8_apply_30 (by decide) ?_
            refine kr_puti (pc := 31) dX8_apply_31 rfl (Or.inl rfl) (by decide) (by assumption) ?_
            refine kr_aload_n (pc := 34) dX8_apply_34 rfl ?_
            refine kr_geti (pc := 35) dX8_apply_35 rfl (by decide) (by assumption) (by first | exact hiv_wi_same | assumption) ?_
            refine kr_if_le (pc := 38) dX8_apply_38 rfl (fun h => absurd h (by decide)) (fun _ => ?_)
            refine kr_iconst (pc := 41) dX8_apply_41 (by decide) ?_
            refine kr_ireturn (pc := 42) dX8_apply_42 rfl ?_
            first | exact k _ _ (MO.errw (t := 1) H (by unfold sp_apply; rw [if_pos (by omega)]) (by decide)) | exact k _ _ (MO.errw2 (t := 2) H (by unfold sp_apply; rw [if_neg (by omega), if_pos (by omega)]) (by decide))
          · refine kr_iconst (pc := 26) dX8_apply_26 (by decide) ?_
            refine kr_goto (pc := 27) dX8_apply_27 rfl ?_
            refine kr_puti (pc := 31) dX8_apply_31 rfl (Or.inl rfl) (by decide) (by assumption) ?_
            refine kr_aload_n (pc := 34) dX8_apply_34 rfl ?_
            refine kr_geti (pc := 35) dX8_apply_35 rfl (by decide) (by assumption) (by first | exact hiv_wi_same | assumption) ?_
            refine kr_if_le (pc := 38) dX8_apply_38 rfl (fun _ => ?_) (fun h => absurd h (by decide))
            refine kr_aload_n (pc := 43) dX8_apply_43 rfl ?_
            refine kr_getr (pc := 44) dX8_apply_44 rfl rfl (by assumption) (by assumption) ?_
            refine kr_iload_n (pc := 47) dX8_apply_47 rfl ?_
            refine kr_iald (pc := 48) dX8_apply_48 (by assumption) (by omega) (by omega) rfl ?_
            obtain ⟨q1, q2⟩ := H1.op HS c2
            rw [q1]
            refine kr_if_ne (pc := 49) dX8_apply_49 rfl (fun h49 => ?_) (fun h49 => ?_)
            · exact act c2 h49 n10 n19 e10 e19 f10 f19
            · refine kr_aload_n (pc := 52) dX8_apply_52 rfl ?_
              refine kr_iconst (pc := 53) dX8_apply_53 (by decide) ?_
              refine kr_v1 (pc := 54) dX8_apply_54 rfl rfl (by assumption) (Nat.le_of_ble_eq_true rfl) rfl (m_fails M1 ?_)
              show amT _ _ _ _ _ _
              refine kr_ireturn (pc := 57) dX8_apply_57 rfl ?_
              first | exact k _ _ (MO.errw (t := 1) H (by unfold sp_apply; rw [if_pos (by omega)]) (by decide)) | exact k _ _ (MO.errw2 (t := 2) H (by unfold sp_apply; rw [if_neg (by omega), if_pos (by omega)]) (by decide))
        · show amT _ _ _ _ _ _
          refine kr_iconst (pc := 22) dX8_apply_22 (by decide) ?_
          refine kr_icmp_eq (pc := 23) dX8_apply_23 rfl (fun _ => ?_) (fun h => absurd h (by decide))
          refine kr_iconst (pc := 30) dX8_apply_30 (by decide) ?_
          refine kr_puti (pc := 31) dX8_apply_31 rfl (Or.inl rfl) (by decide) (by assumption) ?_
          refine kr_aload_n (pc := 34) dX8_apply_34 rfl ?_
          refine kr_geti (pc := 35) dX8_apply_35 rfl (by decide) (by assumption) (by first | exact hiv_wi_same | assumption) ?_
          refine kr_if_le (pc := 38) dX8_apply_38 rfl (fun h => absurd h (by decide)) (fun _ => ?_)
          refine kr_iconst (pc := 41) dX8_apply_41 (by decide) ?_
          refine kr_ireturn (pc := 42) dX8_apply_42 rfl ?_
          first | exact k _ _ (MO.errw (t := 1) H (by unfold sp_apply; rw [if_pos (by omega)]) (by decide)) | exact k _ _ (MO.errw2 (t := 2) H (by unfold sp_apply; rw [if_neg (by omega), if_pos (by omega)]) (by decide))
    · show amT _ _ _ _ _ _
      refine kr_iconst (pc := 13) dX8_apply_13 (by decide) ?_
      refine kr_icmp_eq (pc := 14) dX8_apply_14 rfl (fun _ => ?_) (fun h => absurd h (by decide))
      refine kr_iconst (pc := 30) dX8_apply_30 (by decide) ?_
      refine kr_puti (pc := 31) dX8_apply_31 rfl (Or.inl rfl) (by decide) (by assumption) ?_
      refine kr_aload_n (pc := 34) dX8_apply_34 rfl ?_
      refine kr_geti (pc := 35) dX8_apply_35 rfl (by decide) (by assumption) (by first | exact hiv_wi_same | assumption) ?_
      refine kr_if_le (pc := 38) dX8_apply_38 rfl (fun h => absurd h (by decide)) (fun _ => ?_)
      refine kr_iconst (pc := 41) dX8_apply_41 (by decide) ?_
      refine kr_ireturn (pc := 42) dX8_apply_42 rfl ?_
      first | exact k _ _ (MO.errw (t := 1) H (by unfold sp_apply; rw [if_pos (by omega)]) (by decide)) | exact k _ _ (MO.errw2 (t := 2) H (by unfold sp_apply; rw [if_neg (by omega), if_pos (by omega)]) (by decide))
  · show amT _ _ _ _ _ _
    refine kr_if_eq (pc := 5) dX8_apply_5 rfl (fun _ => ?_) (fun h => absurd h (by decide))
    refine kr_iconst (pc := 30) dX8_apply_30 (by decide) ?_
    refine kr_puti (pc := 31) dX8_apply_31 rfl (Or.inl rfl) (by decide) (by assumption) ?_
    refine kr_aload_n (pc := 34) dX8_apply_34 rfl ?_
    refine kr_geti (pc := 35) dX8_apply_35 rfl (by decide) (by assumption) (by first | exact hiv_wi_same | assumption) ?_
    refine kr_if_le (pc := 38) dX8_apply_38 rfl (fun h => absurd h (by decide)) (fun _ => ?_)
    refine kr_iconst (pc := 41) dX8_apply_41 (by decide) ?_
    refine kr_ireturn (pc := 42) dX8_apply_42 rfl ?_
    first | exact k _ _ (MO.errw (t := 1) H (by unfold sp_apply; rw [if_pos (by omega)]) (by decide)) | exact k _ _ (MO.errw2 (t := 2) H (by unfold sp_apply; rw [if_neg (by omega), if_pos (by omega)]) (by decide))
theorem mc_rule {d s f n : Int} (M : MS h m) (H : ModR (hiv h) m S) (HS : okS S) (k : ∀ I' b, MO (sp_rule S d s f n) (hiv h) I' m b → Q (.inl (some (vI b)), hI h I')) : amT mX8_rule 0 [vR m, vI d, vI s, vI f, vI n] [] h Q := by
  have h0 := M.o
  obtain ⟨a0, a1, a2, a3, a4, a5, a6, a7, a8, a9, b0, b1, b2, b3, b4, b5, b6, b7, b8, w1, w2, w3, w4, w5, w6, w7, w8⟩ := id M
  have hn : hiv h m 12 = S.2.2.2.2.2.length := H.2.2.2.2.1
  have h8 := HS.2.2.2.2.1
  have act : (0 ≤ s ∧ s ≤ 2) → (0 ≤ f ∧ f ≤ 1) → (0 ≤ d ∧ d ≤ 3) → (0 ≤ n ∧ n ≤ 99) → ¬ S.2.2.2.2.2.length = 8 → amT mX8_rule 69 [vR m, vI d, vI s, vI f, vI n] [] (hwi h m 17 0) Q := by
    intro hs hf hd hnn hl
    obtain ⟨N, hN⟩ : ∃ N : Nat, N = S.2.2.2.2.2.length := ⟨_, rfl⟩
    rw [← hN] at hn hl h8
    have r1 : hiv (hwi h m 17 0) m 12 = N := (if_neg (by omega)).trans hn
    have r2 : hiv (hwi (hwi h m 17 0) (m + 10) N d) m 12 = N := (if_neg (by omega)).trans r1
    have r3 : hiv (hwi (hwi (hwi h m 17 0) (m + 10) N d) (m + 11) N s) m 12 = N := (if_neg (by omega)).trans r2
    have r4 : hiv (hwi (hwi (hwi (hwi h m 17 0) (m + 10) N d) (m + 11) N s) (m + 12) N f) m 12 = N := (if_neg (by omega)).trans r3
    have r5 : hiv (hwi (hwi (hwi (hwi (hwi h m 17 0) (m + 10) N d) (m + 11) N s) (m + 12) N f) (m + 13) N n) m 12 = N := (if_neg (by omega)).trans r4
    have r6 : hiv (hwi (hwi (hwi (hwi (hwi (hwi h m 17 0) (m + 10) N d) (m + 11) N s) (m + 12) N f) (m + 13) N n) m 12 ((N : Int) + 1)) m 12 = (N : Int) + 1 := if_pos ⟨rfl, rfl⟩
    refine kr_aload_n (pc := 69) dX8_rule_69 rfl ?_
    refine kr_getr (pc := 70) dX8_rule_70 rfl rfl (by assumption) (by assumption) ?_
    refine kr_aload_n (pc := 73) dX8_rule_73 rfl ?_
    refine kr_geti (pc := 74) dX8_rule_74 rfl (by decide) (by assumption) (by first | exact r1 | exact r2 | exact r3 | exact r4 | exact r5 | exact r6) ?_
    refine kr_iload_n (pc := 77) dX8_rule_77 rfl ?_
    refine kr_iast (pc := 78) dX8_rule_78 (by assumption) (by omega) (by omega) ?_
    refine kr_aload_n (pc := 79) dX8_rule_79 rfl ?_
    refine kr_getr (pc := 80) dX8_rule_80 rfl rfl (by assumption) (by assumption) ?_
    refine kr_aload_n (pc := 83) dX8_rule_83 rfl ?_
    refine kr_geti (pc := 84) dX8_rule_84 rfl (by decide) (by assumption) (by first | exact r1 | exact r2 | exact r3 | exact r4 | exact r5 | exact r6) ?_
    refine kr_iload_n (pc := 87) dX8_rule_87 rfl ?_
    refine kr_iast (pc := 88) dX8_rule_88 (by assumption) (by omega) (by omega) ?_
    refine kr_aload_n (pc := 89) dX8_rule_89 rfl ?_
    refine kr_getr (pc := 90) dX8_rule_90 rfl rfl (by assumption) (by assumption) ?_
    refine kr_aload_n (pc := 93) dX8_rule_93 rfl ?_
    refine kr_geti (pc := 94) dX8_rule_94 rfl (by decide) (by assumption) (by first | exact r1 | exact r2 | exact r3 | exact r4 | exact r5 | exact r6) ?_
    refine kr_iload_n (pc := 97) dX8_rule_97 rfl ?_
    refine kr_iast (pc := 98) dX8_rule_98 (by assumption) (by omega) (by omega) ?_
    refine kr_aload_n (pc := 99) dX8_rule_99 rfl ?_
    refine kr_getr (pc := 100) dX8_rule_100 rfl rfl (by assumption) (by assumption) ?_
    refine kr_aload_n (pc := 103) dX8_rule_103 rfl ?_
    refine kr_geti (pc := 104) dX8_rule_104 rfl (by decide) (by assumption) (by first | exact r1 | exact r2 | exact r3 | exact r4 | exact r5 | exact r6) ?_
    refine kr_iload (pc := 107) dX8_rule_107 rfl ?_
    refine kr_iast (pc := 109) dX8_rule_109 (by assumption) (by omega) (by omega) ?_
    refine kr_aload_n (pc := 110) dX8_rule_110 rfl ?_
    refine kr_dup (pc := 111) dX8_rule_111 rfl ?_
    refine kr_geti (pc := 112) dX8_rule_112 rfl (by decide) (by assumption) (by first | exact r1 | exact r2 | exact r3 | exact r4 | exact r5 | exact r6) ?_
    refine kr_iconst (pc := 115) dX8_rule_115 (by decide) ?_
    refine kr_iadd (pc := 116) dX8_rule_116 ⟨by omega, by omega⟩ ?_
    refine kr_puti (pc := 117) dX8_rule_117 rfl (Or.inl rfl) (by decide) (by assumption) ?_
    refine kr_aload_n (pc := 120) dX8_rule_120 rfl ?_
    refine kr_geti (pc := 121) dX8_rule_121 rfl (by decide) (by assumption) (by first | exact r1 | exact r2 | exact r3 | exact r4 | exact r5 | exact r6) ?_
    refine kr_iconst (pc := 124) dX8_rule_124 (by decide) ?_
    refine kr_isub (pc := 125) dX8_rule_125 ⟨by omega, by omega⟩ ?_
    refine kr_ireturn (pc := 126) dX8_rule_126 rfl ?_
    rw [show (N : Int) + 1 - 1 = (N : Int) by omega]
    obtain ⟨J, hJ⟩ : ∃ J, J = up2 (up2 (up2 (up2 (up2 (up2 (hiv h) m 17 0) (m + 10) N d) (m + 11) N s) (m + 12) N f) (m + 13) N n) m 12 ((N : Int) + 1) := ⟨_, rfl⟩
    have fin := k J (N : Int)
    rw [hJ] at fin
    refine fin ?_
    rw [← hJ]
    have c1 : ∀ a, a ≠ m → a < m + 10 ∨ m + 14 ≤ a → J a = hiv h a := fun a h1 h2 => by
      rw [hJ, up2_ne (by omega), up2_ne (by omega), up2_ne (by omega), up2_ne (by omega), up2_ne (by omega), up2_ne (by omega)]
    have c2 : ∀ j, j ≠ 12 → j ≠ 17 → J m j = hiv h m j := fun j h1 h2 => by
      rw [hJ, up2_nj h1, up2_ne (by omega), up2_ne (by omega), up2_ne (by omega), up2_ne (by omega), up2_nj h2]
    have x0 : ∀ j, j ≠ N → J (m + 10) j = hiv h (m + 10) j := fun j hj => by rw [hJ, up2_ne (by omega), up2_ne (by omega), up2_ne (by omega), up2_ne (by omega), up2_nj hj, up2_ne (by omega)]
    have x1 : ∀ j, j ≠ N → J (m + 11) j = hiv h (m + 11) j := fun j hj => by rw [hJ, up2_ne (by omega), up2_ne (by omega), up2_ne (by omega), up2_nj hj, up2_ne (by omega), up2_ne (by omega)]
    have x2 : ∀ j, j ≠ N → J (m + 12) j = hiv h (m + 12) j := fun j hj => by rw [hJ, up2_ne (by omega), up2_ne (by omega), up2_nj hj, up2_ne (by omega), up2_ne (by omega), up2_ne (by omega)]
    have x3 : ∀ j, j ≠ N → J (m + 13) j = hiv h (m + 13) j := fun j hj => by rw [hJ, up2_ne (by omega), up2_nj hj, up2_ne (by omega), up2_ne (by omega), up2_ne (by omega), up2_ne (by omega)]
    have y0 : J (m + 10) N = d := by rw [hJ, up2_ne (by omega), up2_ne (by omega), up2_ne (by omega), up2_ne (by omega), up2_at]
    have y1 : J (m + 11) N = s := by rw [hJ, up2_ne (by omega), up2_ne (by omega), up2_ne (by omega), up2_at]
    have y2 : J (m + 12) N = f := by rw [hJ, up2_ne (by omega), up2_ne (by omega), up2_at]
    have y3 : J (m + 13) N = n := by rw [hJ, up2_ne (by omega), up2_at]
    have e : sp_rule S d s f n = (0, (N : Int), (S.1, S.2.1, S.2.2.1, S.2.2.2.1, S.2.2.2.2.1, S.2.2.2.2.2 ++ [(d, s, f, n)])) := by
      unfold sp_rule
      rw [if_neg (by omega), if_neg (by omega), if_neg (by omega), hN]
    rw [e]
    refine ⟨⟨fun i hi => ?_, fun i hi => ?_, ?_, ?_, ?_, fun i r hr => ?_⟩, ?_, fun _ => rfl, fun a ha => c1 a (by omega) (by omega)⟩
    · rw [c1 (m + 1) (by omega) (by omega)]
      exact H.1 i hi
    · rw [c1 (m + 2) (by omega) (by omega), c1 (m + 3) (by omega) (by omega)]
      exact H.2.1 i hi
    · rw [c2 3 (by decide) (by decide)]
      exact H.2.2.1
    · rw [c2 4 (by decide) (by decide)]
      exact H.2.2.2.1
    · rw [hJ, up2_at]
      dsimp only
      rw [List.length_append, hN]
      rfl
    · dsimp only at hr
      rw [List.getElem?_append, ← hN] at hr
      split at hr
      · rename_i hlt
        rw [x0 i (by omega), x1 i (by omega), x2 i (by omega), x3 i (by omega)]
        exact H.2.2.2.2.2 i r hr
      · by_cases hi : i = N
        · subst hi
          rw [Nat.sub_self] at hr
          cases hr
          exact ⟨y0, y1, y2, y3⟩
        · rw [List.getElem?_eq_none (by show 1 ≤ _; omega)] at hr
          cases hr
    · show J m 17 = 0
      rw [hJ, up2_nj (by decide), up2_ne (by omega), up2_ne (by omega), up2_ne (by omega), up2_ne (by omega), up2_at]
  refine kr_aload_n (pc := 0) dX8_rule_0 rfl ?_
  refine kr_iload_n (pc := 1) dX8_rule_1 rfl ?_
  refine kr_s1 (pc := 2) dX8_rule_2 rfl rfl (Nat.le_of_ble_eq_true rfl) rfl (m_isS (fun c2 => ?_) (fun c2 => ?_))
  · show amT _ _ _ _ _ _
    refine kr_if_eq (pc := 5) dX8_rule_5 rfl (fun h => absurd h (by decide)) (fun _ => ?_)
    refine kr_iload_n (pc := 8) dX8_rule_8 rfl ?_
    refine kr_s1 (pc := 9) dX8_rule_9 rfl rfl (Nat.le_of_ble_eq_true rfl) rfl (m_isF (fun c9 => ?_) (fun c9 => ?_))
    · show amT _ _ _ _ _ _
      refine kr_if_ne (pc := 12) dX8_rule_12 rfl (fun _ => ?_) (fun h => absurd h (by decide))
      refine kr_iload_n (pc := 19) dX8_rule_19 rfl ?_
      refine kr_iconst (pc := 20) dX8_rule_20 (by decide) ?_
      refine kr_iconst (pc := 21) dX8_rule_21 (by decide) ?_
      refine kr_s3 (pc := 22) dX8_rule_22 rfl rfl (Nat.le_of_ble_eq_true rfl) rfl rfl rfl (m_in2 (fun c22 => ?_) (fun c22 => ?_))
      · show amT _ _ _ _ _ _
        refine kr_if_eq (pc := 25) dX8_rule_25 rfl (fun h => absurd h (by decide)) (fun _ => ?_)
        refine kr_iload (pc := 28) dX8_rule_28 rfl ?_
        refine kr_iconst (pc := 30) dX8_rule_30 (by decide) ?_
        refine kr_bipush (pc := 31) dX8_rule_31 (by decide) ?_
        refine kr_s3 (pc := 33) dX8_rule_33 rfl rfl (Nat.le_of_ble_eq_true rfl) rfl rfl rfl (m_in2 (fun c33 => ?_) (fun c33 => ?_))
        · show amT _ _ _ _ _ _
          refine kr_if_ne (pc := 36) dX8_rule_36 rfl (fun _ => ?_) (fun h => absurd h (by decide))
          refine kr_aload_n (pc := 43) dX8_rule_43 rfl ?_
          refine kr_geti (pc := 44) dX8_rule_44 rfl (by decide) (by assumption) rfl ?_
          rw [hn]
          refine kr_bipush (pc := 47) dX8_rule_47 (by decide) ?_
          refine kr_icmp_ne (pc := 49) dX8_rule_49 rfl (fun h49 => ?_) (fun h49 => ?_)
          · refine kr_iconst (pc := 56) dX8_rule_56 (by decide) ?_
            refine kr_puti (pc := 57) dX8_rule_57 rfl (Or.inl rfl) (by decide) (by assumption) ?_
            refine kr_aload_n (pc := 60) dX8_rule_60 rfl ?_
            refine kr_geti (pc := 61) dX8_rule_61 rfl (by decide) (by assumption) (by first | exact hiv_wi_same | assumption) ?_
            refine kr_if_le (pc := 64) dX8_rule_64 rfl (fun _ => ?_) (fun h => absurd h (by decide))
            exact act (by omega) (by omega) (by omega) (by omega) (by omega)
          · refine kr_iconst (pc := 52) dX8_rule_52 (by decide) ?_
            refine kr_goto (pc := 53) dX8_rule_53 rfl ?_
            refine kr_puti (pc := 57) dX8_rule_57 rfl (Or.inl rfl) (by decide) (by assumption) ?_
            refine kr_aload_n (pc := 60) dX8_rule_60 rfl ?_
            refine kr_geti (pc := 61) dX8_rule_61 rfl (by decide) (by assumption) (by first | exact hiv_wi_same | assumption) ?_
            refine kr_if_le (pc := 64) dX8_rule_64 rfl (fun h => absurd h (by decide)) (fun _ => ?_)
            refine kr_iconst (pc := 67) dX8_rule_67 (by decide) ?_
            refine kr_ireturn (pc := 68) dX8_rule_68 rfl ?_
            first | exact k _ _ (MO.errw (t := 1) H (by unfold sp_rule; rw [if_pos (by omega)]) (by decide)) | exact k _ _ (MO.errw (t := 2) H (by unfold sp_rule; rw [if_neg (by omega), if_pos (by omega)]) (by decide)) | exact k _ _ (MO.errw (t := 3) H (by unfold sp_rule; rw [if_neg (by omega), if_neg (by omega), if_pos (by omega)]) (by decide))
        · show amT _ _ _ _ _ _
          refine kr_if_ne (pc := 36) dX8_rule_36 rfl (fun h => absurd h (by decide)) (fun _ => ?_)
          refine kr_iconst (pc := 39) dX8_rule_39 (by decide) ?_
          refine kr_goto (pc := 40) dX8_rule_40 rfl ?_
          refine kr_puti (pc := 57) dX8_rule_57 rfl (Or.inl rfl) (by decide) (by assumption) ?_
          refine kr_aload_n (pc := 60) dX8_rule_60 rfl ?_
          refine kr_geti (pc := 61) dX8_rule_61 rfl (by decide) (by assumption) (by first | exact hiv_wi_same | assumption) ?_
          refine kr_if_le (pc := 64) dX8_rule_64 rfl (fun h => absurd h (by decide)) (fun _ => ?_)
          refine kr_iconst (pc := 67) dX8_rule_67 (by decide) ?_
          refine kr_ireturn (pc := 68) dX8_rule_68 rfl ?_
          first | exact k _ _ (MO.errw (t := 1) H (by unfold sp_rule; rw [if_pos (by omega)]) (by decide)) | exact k _ _ (MO.errw (t := 2) H (by unfold sp_rule; rw [if_neg (by omega), if_pos (by omega)]) (by decide)) | exact k _ _ (MO.errw (t := 3) H (by unfold sp_rule; rw [if_neg (by omega), if_neg (by omega), if_pos (by omega)]) (by decide))
      · show amT _ _ _ _ _ _
        refine kr_if_eq (pc := 25) dX8_rule_25 rfl (fun _ => ?_) (fun h => absurd h (by decide))
        refine kr_iconst (pc := 39) dX8_rule_39 (by decide) ?_
        refine kr_goto (pc := 40) dX8_rule_40 rfl ?_
        refine kr_puti (pc := 57) dX8_rule_57 rfl (Or.inl rfl) (by decide) (by assumption) ?_
        refine kr_aload_n (pc := 60) dX8_rule_60 rfl ?_
        refine kr_geti (pc := 61) dX8_rule_61 rfl (by decide) (by assumption) (by first | exact hiv_wi_same | assumption) ?_
        refine kr_if_le (pc := 64) dX8_rule_64 rfl (fun h => absurd h (by decide)) (fun _ => ?_)
        refine kr_iconst (pc := 67) dX8_rule_67 (by decide) ?_
        refine kr_ireturn (pc := 68) dX8_rule_68 rfl ?_
        first | exact k _ _ (MO.errw (t := 1) H (by unfold sp_rule; rw [if_pos (by omega)]) (by decide)) | exact k _ _ (MO.errw (t := 2) H (by unfold sp_rule; rw [if_neg (by omega), if_pos (by omega)]) (by decide)) | exact k _ _ (MO.errw (t := 3) H (by unfold sp_rule; rw [if_neg (by omega), if_neg (by omega), if_pos (by omega)]) (by decide))
    · show amT _ _ _ _ _ _
      refine kr_if_ne (pc := 12) dX8_rule_12 rfl (fun h => absurd h (by decide)) (fun _ => ?_)
      refine kr_iconst (pc := 15) dX8_rule_15 (by decide) ?_
      refine kr_goto (pc := 16) dX8_rule_16 rfl ?_
      refine kr_puti (pc := 57) dX8_rule_57 rfl (Or.inl rfl) (by decide) (by assumption) ?_
      refine kr_aload_n (pc := 60) dX8_rule_60 rfl ?_
      refine kr_geti (pc := 61) dX8_rule_61 rfl (by decide) (by assumption) (by first | exact hiv_wi_same | assumption) ?_
      refine kr_if_le (pc := 64) dX8_rule_64 rfl (fun h => absurd h (by decide)) (fun _ => ?_)
      refine kr_iconst (pc := 67) dX8_rule_67 (by decide) ?_
      refine kr_ireturn (pc := 68) dX8_rule_68 rfl ?_
      first | exact k _ _ (MO.errw (t := 1) H (by unfold sp_rule; rw [if_pos (by omega)]) (by decide)) | exact k _ _ (MO.errw (t := 2) H (by unfold sp_rule; rw [if_neg (by omega), if_pos (by omega)]) (by decide)) | exact k _ _ (MO.errw (t := 3) H (by unfold sp_rule; rw [if_neg (by omega), if_neg (by omega), if_pos (by omega)]) (by decide))
  · show amT _ _ _ _ _ _
    refine kr_if_eq (pc := 5) dX8_rule_5 rfl (fun _ => ?_) (fun h => absurd h (by decide))
    refine kr_iconst (pc := 15) dX8_rule_15 (by decide) ?_
    refine kr_goto (pc := 16) dX8_rule_16 rfl ?_
    refine kr_puti (pc := 57) dX8_rule_57 rfl (Or.inl rfl) (by decide) (by assumption) ?_
    refine kr_aload_n (pc := 60) dX8_rule_60 rfl ?_
    refine kr_geti (pc := 61) dX8_rule_61 rfl (by decide) (by assumption) (by first | exact hiv_wi_same | assumption) ?_
    refine kr_if_le (pc := 64) dX8_rule_64 rfl (fun h => absurd h (by decide)) (fun _ => ?_)
    refine kr_iconst (pc := 67) dX8_rule_67 (by decide) ?_
    refine kr_ireturn (pc := 68) dX8_rule_68 rfl ?_
    first | exact k _ _ (MO.errw (t := 1) H (by unfold sp_rule; rw [if_pos (by omega)]) (by decide)) | exact k _ _ (MO.errw (t := 2) H (by unfold sp_rule; rw [if_neg (by omega), if_pos (by omega)]) (by decide)) | exact k _ _ (MO.errw (t := 3) H (by unfold sp_rule; rw [if_neg (by omega), if_neg (by omega), if_pos (by omega)]) (by decide))
end MD
