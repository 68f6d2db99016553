section MG
variable {h : aH} {m : Nat} {S : St} {Q : aR → Prop}
theorem MO.com {G : Nat → Nat → Int} {R2 : Nat → Int} {c w : Int} {c' : Cfg} {I : Nat → Nat → Int} {r : Res} (H : ModR G m S) (HS : okS S) (hb : S.2.2.2.1 ≤ 27) (hc : 0 ≤ c ∧ c ≤ 2) (h17 : G m 17 = 0) (hG : ∀ a, a < m ∨ m + 14 ≤ a → G a = I a)
    (hR : ∀ i, i < 33 → CfgM R2 i (if i = 3 + (S.2.2.2.1 + 1) then c' else S.1 i))
    (hr : r = (0, (S.2.2.2.1 : Int) + 1, (fun j => if j = 3 + (S.2.2.2.1 + 1) then c' else S.1 j, fun j => if j = c.toNat then 0 else S.2.1 j, S.2.2.1, S.2.2.2.1 + 1, w, S.2.2.2.2.2))) :
    MO r I (up2 (up2 (setR (up2 G m 3 ((S.2.2.2.1 : Int) + 1)) m R2) (m + 2) c.toNat 0) m 4 w) m ((S.2.2.2.1 : Int) + 1) := by
  rw [hr]
  obtain ⟨J, hJ⟩ : ∃ J, J = up2 (up2 (setR (up2 G m 3 ((S.2.2.2.1 : Int) + 1)) m R2) (m + 2) c.toNat 0) m 4 w := ⟨_, rfl⟩
  rw [← hJ]
  have u1 : ∀ a, a ≠ m → a ≠ m + 1 → a ≠ m + 2 → J a = G a := fun a h1 h2 h3 => by rw [hJ, up2_ne h1, up2_ne h3, setR_ne h2, up2_ne h1]
  have u2 : ∀ j, j ≠ 3 → j ≠ 4 → J m j = G m j := fun j h1 h2 => by rw [hJ, up2_nj h2, up2_ne (by omega), setR_ne (by omega), up2_nj h1]
  have u3 : J (m + 1) = R2 := by rw [hJ, up2_ne (by omega), up2_ne (by omega), setR_at]
  refine ⟨⟨fun i hi => ?_, fun i hi => ⟨?_, ?_⟩, ?_, ?_, ?_, fun i r hr => ?_⟩, ?_, fun _ => rfl, fun a ha => (u1 a (by omega) (by omega) (by omega)).trans (hG a ha)⟩
  · rw [u3]
    exact hR i hi
  · rw [hJ, up2_ne (by omega)]
    show (if m + 2 = m + 2 ∧ i = c.toNat then (0 : Int) else setR (up2 G m 3 ((S.2.2.2.1 : Int) + 1)) m R2 (m + 2) i) = if i = c.toNat then 0 else S.2.1 i
    by_cases h : i = c.toNat
    · rw [if_pos ⟨rfl, h⟩, if_pos h]
    · rw [if_neg (by omega), if_neg h, setR_ne (by omega), up2_ne (by omega)]
      exact (H.2.1 i hi).1
  · rw [u1 _ (by omega) (by omega) (by omega)]
    exact (H.2.1 i hi).2
  · show J m 3 = ((S.2.2.2.1 + 1 : Nat) : Int)
    rw [hJ, up2_nj (by decide), up2_ne (by omega), setR_ne (by omega), up2_at]
    rfl
  · show J m 4 = w
    rw [hJ, up2_at]
  · rw [u2 _ (by decide) (by decide)]
    exact H.2.2.2.2.1
  · rw [u1 _ (by omega) (by omega) (by omega), u1 _ (by omega) (by omega) (by omega), u1 _ (by omega) (by omega) (by omega), u1 _ (by omega) (by omega) (by omega)]
    exact H.2.2.2.2.2 i r hr
  · show J m 17 = 0
    rw [u2 _ (by decide) (by decide)]
    exact h17
theorem mc_commit {c n : Int} (M : MS h m) (H : ModR (hiv h) m S) (HS : okS S) (k : ∀ I' b', MO (sp_commit S c n) (hiv h) I' m b' → Q (.inl (some (vI b')), hI h I')) : amT mX8_commit 0 [vR m, vI c, vI n] [] h Q := by
  have h0 := M.o
  have g1 := M.2.2.2.1
  have g2 := M.2.2.2.2.1
  have g3 := M.2.2.2.2.2.1
  have g4 := M.2.2.2.2.2.2.1
  have M1 : MS (hwi h m 17 0) m := M
  have H1 : ModR (hiv (hwi h m 17 0)) m S := H.th
  have hw : hiv h m 4 = S.2.2.2.2.1 := H.2.2.2.1
  have hr : hiv h m 3 = S.2.2.2.1 := H.2.2.1
  have hb := HS.2.2.1
  have act : 0 ≤ c ∧ c ≤ 2 → 0 ≤ n ∧ n ≤ 100 → ¬ (S.2.1 c.toNat = 0 ∨ S.2.2.2.2.1 ≠ -1 ∨ 28 ≤ S.2.2.2.1) → amT mX8_commit 71 [vR m, vI c, vI n] [] (hwi h m 17 0) Q := by
    intro hc hn ho
    obtain ⟨L, hL⟩ : ∃ L, L = edL (S.1 (3 + S.2.2.1 c.toNat)) (S.1 c.toNat) := ⟨_, rfl⟩
    have hbs := (HS.2.1 c.toNat (by omega)).2
    have okb := HS.1 (3 + S.2.2.1 c.toNat) (by omega)
    have okc := HS.1 c.toNat (by omega)
    have okr := HS.1 (3 + S.2.2.2.1) (by omega)
    have okd := edL_okd okb okc
    have hlen := edL_len okb okc
    rw [← hL] at okd hlen
    have eb : hiv (hwi h m 17 0) (m + 3) c.toNat = S.2.2.1 c.toNat := (H1.2.1 c.toNat (by omega)).2
    refine kr_aload_n (pc := 71) dX8_commit_71 rfl ?_
    refine kr_iconst (pc := 72) dX8_commit_72 (by decide) ?_
    refine kr_aload_n (pc := 73) dX8_commit_73 rfl ?_
    refine kr_getr (pc := 74) dX8_commit_74 rfl rfl (by assumption) (by assumption) ?_
    refine kr_iload_n (pc := 77) dX8_commit_77 rfl ?_
    refine kr_iald (pc := 78) dX8_commit_78 (by assumption) (by omega) (by omega) rfl ?_
    rw [eb]
    refine kr_iadd (pc := 79) dX8_commit_79 ⟨by omega, by omega⟩ ?_
    refine kr_iload_n (pc := 80) dX8_commit_80 rfl ?_
    have Cb : CfgM (hiv (hwi h m 17 0) (m + 1)) (3 + (S.2.2.1 c.toNat : Int)).toNat (S.1 (3 + S.2.2.1 c.toNat)) := by
      rw [show (3 + (S.2.2.1 c.toNat : Int)).toNat = 3 + S.2.2.1 c.toNat by omega]
      exact H1.1 _ (by omega)
    refine kr_v2 (pc := 81) dX8_commit_81 rfl rfl (by assumption) (Nat.le_of_ble_eq_true rfl) rfl rfl (m_lists M1 (by omega) (by omega) Cb (H1.1 c.toNat (by omega)) okb okc fun I1 E1 fr1 => ?_)
    show amT _ _ _ _ _ _
    rw [← hL] at E1
    have M2 : MS (hI (hwi h m 17 0) I1) m := M
    have er : hiv (hI (hwi h m 17 0) I1) m 3 = S.2.2.2.1 := (fr1.2.1 3 (by decide)).trans H1.2.2.1
    refine kr_aload_n (pc := 84) dX8_commit_84 rfl ?_
    refine kr_iconst (pc := 85) dX8_commit_85 (by decide) ?_
    refine kr_aload_n (pc := 86) dX8_commit_86 rfl ?_
    refine kr_geti (pc := 87) dX8_commit_87 rfl (by decide) (by assumption) er ?_
    refine kr_iadd (pc := 90) dX8_commit_90 ⟨by omega, by omega⟩ ?_
    refine kr_bipush (pc := 91) dX8_commit_91 (by decide) ?_
    refine kr_v2 (pc := 93) dX8_commit_93 rfl rfl (by assumption) (Nat.le_of_ble_eq_true rfl) rfl rfl (m_copiesI M2 (by omega) (by decide) ?_)
    show amT _ _ _ _ _ _
    have rows : ∀ s, s < 33 → CfgM (I1 (m + 1)) s (S.1 s) := fun s hs => (H1.1 s hs).fr fun j h1 h2 => fr1.2.2 j (by omega)
    obtain ⟨R1, hR1⟩ : ∃ R1, R1 = cpF (hiv (hI (hwi h m 17 0) I1) (m + 1)) (3 + (S.2.2.2.1 : Int)).toNat (34 : Int).toNat := ⟨_, rfl⟩
    rw [← hR1]
    have M3 : MS (sa (hI (hwi h m 17 0) I1) (m + 1) R1) m := M
    have C3 : CfgM (hiv (sa (hI (hwi h m 17 0) I1) (m + 1) R1) (m + 1)) 34 (S.1 (3 + S.2.2.2.1)) := by
      rw [hiv_sa, hR1, show (3 + (S.2.2.2.1 : Int)).toNat = 3 + S.2.2.2.1 by omega]
      exact (rows _ (by omega)).cp (by decide)
    have f3 : ∀ j, j < 918 → hiv (sa (hI (hwi h m 17 0) I1) (m + 1) R1) (m + 1) j = I1 (m + 1) j := fun j hj => by
      rw [hiv_sa, hR1]
      exact if_neg (by omega)
    have bad : ∀ R' : Nat → Int, (∀ j, j < 918 → R' j = hiv (sa (hI (hwi h m 17 0) I1) (m + 1) R1) (m + 1) j) → sp_commit S c n = sx S 3 → amT mX8_commit 114 [vR m, vI c, vI n] [] (sa (hI (hwi h m 17 0) I1) (m + 1) R') Q := by
      intro R' hf hsp
      have M4 : MS (sa (hI (hwi h m 17 0) I1) (m + 1) R') m := M
      refine kr_aload_n (pc := 114) dX8_commit_114 rfl ?_
      refine kr_iconst (pc := 115) dX8_commit_115 (by decide) ?_
      refine kr_v1 (pc := 116) dX8_commit_116 rfl rfl (by assumption) (Nat.le_of_ble_eq_true rfl) rfl (m_fails M4 ?_)
      show amT _ _ _ _ _ _
      refine kr_ireturn (pc := 119) dX8_commit_119 rfl ?_
      refine k (up2 (setR I1 m R') m 17 3) _ (MO.gerr H (((up17.sm.tr fr1.sm).tr setR.sm).tr up17.sm) (fun j hj => ?_) up2_at (by decide) hsp)
      rw [up2_ne (by omega), setR_at, hf j (by omega), f3 j (by omega), fr1.2.2 j (by omega)]
      exact congrFun rw17 j
    have spx : sp_commit S c n = (match apA true L (S.1 (3 + S.2.2.2.1)) with
      | none => sx S 3
      | some c' => if 0 < brk c' S.2.2.2.2.2 then sx S 3
        else (0, S.2.2.2.1 + 1, (fun j => if j = 3 + (S.2.2.2.1 + 1) then c' else S.1 j, fun j => if j = c.toNat then 0 else S.2.1 j, S.2.2.1, S.2.2.2.1 + 1, (if n = 0 then -1 else n), S.2.2.2.2.2))) := by
      unfold sp_commit
      rw [if_neg (by omega), if_neg (by omega), if_neg ho, hL]
      rfl
    refine kr_aload_n (pc := 96) dX8_commit_96 rfl ?_
    refine kr_iconst (pc := 97) dX8_commit_97 (by decide) ?_
    refine kr_iconst (pc := 98) dX8_commit_98 (by decide) ?_
    refine kr_v2 (pc := 99) dX8_commit_99 rfl rfl (by assumption) (Nat.le_of_ble_eq_true rfl) rfl rfl (m_doesAll (b := true) M3 (E1.set) (by omega) okd (Or.inl rfl) (Or.inr ⟨rfl, rfl⟩) C3 (fun c' R' ha C' hf => ?_) (fun R' ha hf => ?_))
    show amT _ _ _ _ _ _
    · rw [sa_sa]
      rw [if_pos rfl] at ha
      rw [ha] at spx
      dsimp only at spx
      have okc' : okC c' := apA_ok okd okr ha
      refine kr_if_eq (pc := 102) dX8_commit_102 rfl (fun h => absurd h (by decide)) (fun _ => ?_)
      have M4 : MS (sa (hI (hwi h m 17 0) I1) (m + 1) R') m := M
      have H4 : ModR (hiv (sa (hI (hwi h m 17 0) I1) (m + 1) R')) m S := by
        refine H.same (up17.sm.tr (fr1.sm.tr (setR.sm (R := R')))) fun j hj => ?_
        show setR I1 m R' (m + 1) j = _
        rw [setR_at, hf j (by omega), f3 j (by omega), fr1.2.2 j (by omega)]
        exact congrFun rw17 j
      have C4 : CfgM (hiv (sa (hI (hwi h m 17 0) I1) (m + 1) R') (m + 1)) (34 : Int).toNat c' := by
        rw [hiv_sa]
        exact C'
      refine kr_aload_n (pc := 105) dX8_commit_105 rfl ?_
      refine kr_bipush (pc := 106) dX8_commit_106 (by decide) ?_
      refine kr_v1 (pc := 108) dX8_commit_108 rfl rfl (by assumption) (Nat.le_of_ble_eq_true rfl) rfl (m_faultsOf M4 H4 HS (by decide) (by decide) C4 okc' ?_)
      show amT _ _ _ _ _ _
      refine kr_if_le (pc := 111) dX8_commit_111 rfl (fun h111 => ?_) (fun h111 => ?_)
      · rw [if_neg (by omega)] at spx
        have e3 : hiv (sa (hI (hwi h m 17 0) I1) (m + 1) R') m 3 = S.2.2.2.1 := H4.2.2.1
        have e3' : hiv (hwi (sa (hI (hwi h m 17 0) I1) (m + 1) R') m 3 ((S.2.2.2.1 : Int) + 1)) m 3 = (S.2.2.2.1 : Int) + 1 := up2_at
        refine kr_aload_n (pc := 120) dX8_commit_120 rfl ?_
        refine kr_dup (pc := 121) dX8_commit_121 rfl ?_
        refine kr_geti (pc := 122) dX8_commit_122 rfl (by decide) (by assumption) (by first | exact e3 | exact e3') ?_
        refine kr_iconst (pc := 125) dX8_commit_125 (by decide) ?_
        refine kr_iadd (pc := 126) dX8_commit_126 ⟨by omega, by omega⟩ ?_
        refine kr_puti (pc := 127) dX8_commit_127 rfl (Or.inl rfl) (by decide) (by assumption) ?_
        refine kr_aload_n (pc := 130) dX8_commit_130 rfl ?_
        refine kr_bipush (pc := 131) dX8_commit_131 (by decide) ?_
        refine kr_iconst (pc := 133) dX8_commit_133 (by decide) ?_
        refine kr_aload_n (pc := 134) dX8_commit_134 rfl ?_
        refine kr_geti (pc := 135) dX8_commit_135 rfl (by decide) (by assumption) (by first | exact e3 | exact e3') ?_
        refine kr_iadd (pc := 138) dX8_commit_138 ⟨by omega, by omega⟩ ?_
        have M5 : MS (hwi (sa (hI (hwi h m 17 0) I1) (m + 1) R') m 3 ((S.2.2.2.1 : Int) + 1)) m := M
        refine kr_v2 (pc := 139) dX8_commit_139 rfl rfl (by assumption) (Nat.le_of_ble_eq_true rfl) rfl rfl (m_copiesI M5 (by decide) (by omega) ?_)
        show amT _ _ _ _ _ _
        have e6 : hiv (hwi (sa (hI (hwi h m 17 0) I1) (m + 1) R') m 3 ((S.2.2.2.1 : Int) + 1)) (m + 1) = R' := (up2_ne (by omega)).trans hiv_sa
        rw [e6]
        have fin := fun w hr => k _ _ (MO.com (G := hiv (sa (hI (hwi h m 17 0) I1) (m + 1) R')) (R2 := cpF R' (34 : Int).toNat (3 + ((S.2.2.2.1 : Int) + 1)).toNat) (c := c) (c' := c') (w := w) (I := hiv h) (r := sp_commit S c n) H4 HS (by omega) hc
          ((if_neg (by omega)).trans ((fr1.2.1 17 (by decide)).trans up2_at)) (fun a ha => (setR_ne (by omega)).trans ((fr1.1 a (by omega) (by omega) (by omega)).trans (up2_ne (by omega)))) (fun i hi => by
            rw [show (3 + ((S.2.2.2.1 : Int) + 1)).toNat = 3 + (S.2.2.2.1 + 1) by omega]
            split
            · rename_i hh
              rw [hh]
              exact C'.cp (by omega)
            · rename_i hh
              refine (rows i hi).fr fun j h1 h2 => ?_
              rw [cpF_ne hh j h1 h2, hf j (by omega)]
              exact f3 j (by omega)) hr)
        have e7 : ∀ w : Int, hiv (hwi (hwi (sa (hwi (sa (hI (hwi h m 17 0) I1) (m + 1) R') m 3 ((S.2.2.2.1 : Int) + 1)) (m + 1) (cpF R' (34 : Int).toNat (3 + ((S.2.2.2.1 : Int) + 1)).toNat)) (m + 2) c.toNat 0) m 4 w) m 3 = (S.2.2.2.1 : Int) + 1 := fun w => (up2_nj (by decide)).trans ((if_neg (by omega)).trans ((if_neg (by omega)).trans up2_at))
        refine kr_aload_n (pc := 142) dX8_commit_142 rfl ?_
        refine kr_getr (pc := 143) dX8_commit_143 rfl rfl (by assumption) (by assumption) ?_
        refine kr_iload_n (pc := 146) dX8_commit_146 rfl ?_
        refine kr_iconst (pc := 147) dX8_commit_147 (by decide) ?_
        refine kr_iast (pc := 148) dX8_commit_148 (by assumption) (by omega) (by omega) ?_
        refine kr_aload_n (pc := 149) dX8_commit_149 rfl ?_
        refine kr_iload_n (pc := 150) dX8_commit_150 rfl ?_
        refine kr_if_ne (pc := 151) dX8_commit_151 rfl (fun h151 => ?_) (fun h151 => ?_)
        · refine kr_iload_n (pc := 158) dX8_commit_158 rfl ?_
          refine kr_puti (pc := 159) dX8_commit_159 rfl (Or.inl rfl) (by decide) (by assumption) ?_
          refine kr_aload_n (pc := 162) dX8_commit_162 rfl ?_
          refine kr_geti (pc := 163) dX8_commit_163 rfl (by decide) (by assumption) (e7 n) ?_
          refine kr_ireturn (pc := 166) dX8_commit_166 rfl ?_
          rw [if_neg h151] at spx
          exact fin n spx
        · refine kr_iconst (pc := 154) dX8_commit_154 (by decide) ?_
          refine kr_goto (pc := 155) dX8_commit_155 rfl ?_
          refine kr_puti (pc := 159) dX8_commit_159 rfl (Or.inl rfl) (by decide) (by assumption) ?_
          refine kr_aload_n (pc := 162) dX8_commit_162 rfl ?_
          refine kr_geti (pc := 163) dX8_commit_163 rfl (by decide) (by assumption) (e7 (-1)) ?_
          refine kr_ireturn (pc := 166) dX8_commit_166 rfl ?_
          rw [if_pos h151] at spx
          exact fin (-1) spx
      · rw [if_pos (by omega)] at spx
        exact bad R' hf spx
    · rw [sa_sa]
      rw [if_pos rfl] at ha
      rw [ha] at spx
      dsimp only at spx
      refine kr_if_eq (pc := 102) dX8_commit_102 rfl (fun _ => ?_) (fun h => absurd rfl h)
      exact bad R' hf spx
  refine kr_aload_n (pc := 0) dX8_commit_0 rfl ?_
  refine kr_iload_n (pc := 1) dX8_commit_1 rfl ?_
  refine kr_s1 (pc := 2) dX8_commit_2 rfl rfl (Nat.le_of_ble_eq_true rfl) rfl (m_isC (fun c2 => ?_) (fun c2 => ?_))
  · show amT _ _ _ _ _ _
    refine kr_if_ne (pc := 5) dX8_commit_5 rfl (fun _ => ?_) (fun h => absurd h (by decide))
    refine kr_iload_n (pc := 12) dX8_commit_12 rfl ?_
    refine kr_iconst (pc := 13) dX8_commit_13 (by decide) ?_
    refine kr_bipush (pc := 14) dX8_commit_14 (by decide) ?_
    refine kr_s3 (pc := 16) dX8_commit_16 rfl rfl (Nat.le_of_ble_eq_true rfl) rfl rfl rfl (m_in2 (fun c16 => ?_) (fun c16 => ?_))
    · show amT _ _ _ _ _ _
      refine kr_if_ne (pc := 19) dX8_commit_19 rfl (fun _ => ?_) (fun h => absurd h (by decide))
      refine kr_aload_n (pc := 26) dX8_commit_26 rfl ?_
      refine kr_getr (pc := 27) dX8_commit_27 rfl rfl (by assumption) (by assumption) ?_
      refine kr_iload_n (pc := 30) dX8_commit_30 rfl ?_
      refine kr_iald (pc := 31) dX8_commit_31 (by assumption) (by omega) (by omega) rfl ?_
      obtain ⟨q1, q2⟩ := H.op HS c2
      rw [q1]
      refine kr_if_eq (pc := 32) dX8_commit_32 rfl (fun h32 => ?_) (fun h32 => ?_)
      · refine kr_iconst (pc := 54) dX8_commit_54 (by decide) ?_
        refine kr_goto (pc := 55) dX8_commit_55 rfl ?_
        refine kr_puti (pc := 59) dX8_commit_59 rfl (Or.inl rfl) (by decide) (by assumption) ?_
        refine kr_aload_n (pc := 62) dX8_commit_62 rfl ?_
        refine kr_geti (pc := 63) dX8_commit_63 rfl (by decide) (by assumption) (by first | exact hiv_wi_same | assumption) ?_
        refine kr_if_le (pc := 66) dX8_commit_66 rfl (fun h => absurd h (by decide)) (fun _ => ?_)
        refine kr_iconst (pc := 69) dX8_commit_69 (by decide) ?_
        refine kr_ireturn (pc := 70) dX8_commit_70 rfl ?_
        first | exact k _ _ (MO.errw (t := 1) H (by unfold sp_commit; rw [if_pos (by omega)]) (by decide)) | exact k _ _ (MO.errw (t := 2) H (by unfold sp_commit; rw [if_neg (by omega), if_pos (by omega)]) (by decide)) | exact k _ _ (MO.errw (t := 3) H (by unfold sp_commit; rw [if_neg (by omega), if_neg (by omega), if_pos (by omega)]) (by decide))
      · refine kr_aload_n (pc := 35) dX8_commit_35 rfl ?_
        refine kr_geti (pc := 36) dX8_commit_36 rfl (by decide) (by assumption) rfl ?_
        rw [hw]
        refine kr_iconst (pc := 39) dX8_commit_39 (by decide) ?_
        refine kr_icmp_ne (pc := 40) dX8_commit_40 rfl (fun h40 => ?_) (fun h40 => ?_)
        · refine kr_iconst (pc := 54) dX8_commit_54 (by decide) ?_
          refine kr_goto (pc := 55) dX8_commit_55 rfl ?_
          refine kr_puti (pc := 59) dX8_commit_59 rfl (Or.inl rfl) (by decide) (by assumption) ?_
          refine kr_aload_n (pc := 62) dX8_commit_62 rfl ?_
          refine kr_geti (pc := 63) dX8_commit_63 rfl (by decide) (by assumption) (by first | exact hiv_wi_same | assumption) ?_
          refine kr_if_le (pc := 66) dX8_commit_66 rfl (fun h => absurd h (by decide)) (fun _ => ?_)
          refine kr_iconst (pc := 69) dX8_commit_69 (by decide) ?_
          refine kr_ireturn (pc := 70) dX8_commit_70 rfl ?_
          first | exact k _ _ (MO.errw (t := 1) H (by unfold sp_commit; rw [if_pos (by omega)]) (by decide)) | exact k _ _ (MO.errw (t := 2) H (by unfold sp_commit; rw [if_neg (by omega), if_pos (by omega)]) (by decide)) | exact k _ _ (MO.errw (t := 3) H (by unfold sp_commit; rw [if_neg (by omega), if_neg (by omega), if_pos (by omega)]) (by decide))
        · refine kr_aload_n (pc := 43) dX8_commit_43 rfl ?_
          refine kr_geti (pc := 44) dX8_commit_44 rfl (by decide) (by assumption) rfl ?_
          rw [hr]
          refine kr_iconst (pc := 47) dX8_commit_47 (by decide) ?_
          refine kr_iadd (pc := 48) dX8_commit_48 ⟨by omega, by omega⟩ ?_
          refine kr_bipush (pc := 49) dX8_commit_49 (by decide) ?_
          refine kr_icmp_lt (pc := 51) dX8_commit_51 rfl (fun h51 => ?_) (fun h51 => ?_)
          · refine kr_iconst (pc := 58) dX8_commit_58 (by decide) ?_
            refine kr_puti (pc := 59) dX8_commit_59 rfl (Or.inl rfl) (by decide) (by assumption) ?_
            refine kr_aload_n (pc := 62) dX8_commit_62 rfl ?_
            refine kr_geti (pc := 63) dX8_commit_63 rfl (by decide) (by assumption) (by first | exact hiv_wi_same | assumption) ?_
            refine kr_if_le (pc := 66) dX8_commit_66 rfl (fun _ => ?_) (fun h => absurd h (by decide))
            exact act c2 c16 (by omega)
          · refine kr_iconst (pc := 54) dX8_commit_54 (by decide) ?_
            refine kr_goto (pc := 55) dX8_commit_55 rfl ?_
            refine kr_puti (pc := 59) dX8_commit_59 rfl (Or.inl rfl) (by decide) (by assumption) ?_
            refine kr_aload_n (pc := 62) dX8_commit_62 rfl ?_
            refine kr_geti (pc := 63) dX8_commit_63 rfl (by decide) (by assumption) (by first | exact hiv_wi_same | assumption) ?_
            refine kr_if_le (pc := 66) dX8_commit_66 rfl (fun h => absurd h (by decide)) (fun _ => ?_)
            refine kr_iconst (pc := 69) dX8_commit_69 (by decide) ?_
            refine kr_ireturn (pc := 70) dX8_commit_70 rfl ?_
            first | exact k _ _ (MO.errw (t := 1) H (by unfold sp_commit; rw [if_pos (by omega)]) (by decide)) | exact k _ _ (MO.errw (t := 2) H (by unfold sp_commit; rw [if_neg (by omega), if_pos (by omega)]) (by decide)) | exact k _ _ (MO.errw (t := 3) H (by unfold sp_commit; rw [if_neg (by omega), if_neg (by omega), if_pos (by omega)]) (by decide))
    · show amT _ _ _ _ _ _
      refine kr_if_ne (pc := 19) dX8_commit_19 rfl (fun h => absurd h (by decide)) (fun _ => ?_)
      refine kr_iconst (pc := 22) dX8_commit_22 (by decide) ?_
      refine kr_goto (pc := 23) dX8_commit_23 rfl ?_
      refine kr_puti (pc := 59) dX8_commit_59 rfl (Or.inl rfl) (by decide) (by assumption) ?_
      refine kr_aload_n (pc := 62) dX8_commit_62 rfl ?_
      refine kr_geti (pc := 63) dX8_commit_63 rfl (by decide) (by assumption) (by first | exact hiv_wi_same | assumption) ?_
      refine kr_if_le (pc := 66) dX8_commit_66 rfl (fun h => absurd h (by decide)) (fun _ => ?_)
      refine kr_iconst (pc := 69) dX8_commit_69 (by decide) ?_
      refine kr_ireturn (pc := 70) dX8_commit_70 rfl ?_
      first | exact k _ _ (MO.errw (t := 1) H (by unfold sp_commit; rw [if_pos (by omega)]) (by decide)) | exact k _ _ (MO.errw (t := 2) H (by unfold sp_commit; rw [if_neg (by omega), if_pos (by omega)]) (by decide)) | exact k _ _ (MO.errw (t := 3) H (by unfold sp_commit; rw [if_neg (by omega), if_neg (by omega), if_pos (by omega)]) (by decide))
  · show amT _ _ _ _ _ _
    refine kr_if_ne (pc := 5) dX8_commit_5 rfl (fun h => absurd h (by decide)) (fun _ => ?_)
    refine kr_iconst (pc := 8) dX8_commit_8 (by decide) ?_
    refine kr_goto (pc := 9) dX8_commit_9 rfl ?_
    refine kr_puti (pc := 59) dX8_commit_59 rfl (Or.inl rfl) (by decide) (by assumption) ?_
    refine kr_aload_n (pc := 62) dX8_commit_62 rfl ?_
    refine kr_geti (pc := 63) dX8_commit_63 rfl (by decide) (by assumption) (by first | exact hiv_wi_same | assumption) ?_
    refine kr_if_le (pc := 66) dX8_commit_66 rfl (fun h => absurd h (by decide)) (fun _ => ?_)
    refine kr_iconst (pc := 69) dX8_commit_69 (by decide) ?_
    refine kr_ireturn (pc := 70) dX8_commit_70 rfl ?_
    first | exact k _ _ (MO.errw (t := 1) H (by unfold sp_commit; rw [if_pos (by omega)]) (by decide)) | exact k _ _ (MO.errw (t := 2) H (by unfold sp_commit; rw [if_neg (by omega), if_pos (by omega)]) (by decide)) | exact k _ _ (MO.errw (t := 3) H (by unfold sp_commit; rw [if_neg (by omega), if_neg (by omega), if_pos (by omega)]) (by decide))
theorem mc_advance {n : Int} (M : MS h m) (H : ModR (hiv h) m S) (HS : okS S) (k : ∀ I' b', MO (sp_advance S n) (hiv h) I' m b' → Q (.inl (some (vI b')), hI h I')) : amT mX8_advance 0 [vR m, vI n] [] h Q := by
  have h0 := M.o
  have hw : hiv (hwi h m 17 0) m 4 = S.2.2.2.2.1 := (up2_nj (by decide)).trans H.2.2.2.1
  have hr : hiv (hwi h m 17 0) m 3 = S.2.2.2.1 := (up2_nj (by decide)).trans H.2.2.1
  have hb := HS.2.2.1
  have hv := HS.2.2.2.1
  have hw4 : ∀ x, hiv (hwi (hwi h m 17 0) m 4 x) m 3 = S.2.2.2.1 := fun x => (up2_nj (by decide)).trans hr
  have hw5 : ∀ x, hiv (hwi (hwi (hwi h m 17 0) m 4 (-1)) m 3 x) m 3 = x := fun x => up2_at
  have undo : 1 ≤ n ∧ n ≤ 100 → S.2.2.2.2.1 ≠ -1 → S.2.2.2.2.1 ≤ n → amT mX8_advance 44 [vR m, vI n] [] (hwi h m 17 0) Q := by
    intro hn h1 h2
    have M5 : MS (hwi (hwi (hwi h m 17 0) m 4 (-1)) m 3 ((S.2.2.2.1 : Int) + 1)) m := M
    have e6 : hiv (hwi (hwi (hwi h m 17 0) m 4 (-1)) m 3 ((S.2.2.2.1 : Int) + 1)) (m + 1) = hiv h (m + 1) := (up2_ne (by omega)).trans ((up2_ne (by omega)).trans (up2_ne (by omega)))
    refine kr_aload_n (pc := 44) dX8_advance_44 rfl ?_
    refine kr_iconst (pc := 45) dX8_advance_45 (by decide) ?_
    refine kr_puti (pc := 46) dX8_advance_46 rfl (Or.inl rfl) (by decide) (by assumption) ?_
    refine kr_aload_n (pc := 49) dX8_advance_49 rfl ?_
    refine kr_dup (pc := 50) dX8_advance_50 rfl ?_
    refine kr_geti (pc := 51) dX8_advance_51 rfl (by decide) (by assumption) (by first | exact hw4 _ | exact hw5 _) ?_
    refine kr_iconst (pc := 54) dX8_advance_54 (by decide) ?_
    refine kr_iadd (pc := 55) dX8_advance_55 ⟨by omega, by omega⟩ ?_
    refine kr_puti (pc := 56) dX8_advance_56 rfl (Or.inl rfl) (by decide) (by assumption) ?_
    refine kr_aload_n (pc := 59) dX8_advance_59 rfl ?_
    refine kr_iconst (pc := 60) dX8_advance_60 (by decide) ?_
    refine kr_aload_n (pc := 61) dX8_advance_61 rfl ?_
    refine kr_geti (pc := 62) dX8_advance_62 rfl (by decide) (by assumption) (by first | exact hw4 _ | exact hw5 _) ?_
    refine kr_iadd (pc := 65) dX8_advance_65 ⟨by omega, by omega⟩ ?_
    refine kr_iconst (pc := 66) dX8_advance_66 (by decide) ?_
    refine kr_isub (pc := 67) dX8_advance_67 ⟨by omega, by omega⟩ ?_
    refine kr_iconst (pc := 68) dX8_advance_68 (by decide) ?_
    refine kr_aload_n (pc := 69) dX8_advance_69 rfl ?_
    refine kr_geti (pc := 70) dX8_advance_70 rfl (by decide) (by assumption) (by first | exact hw4 _ | exact hw5 _) ?_
    refine kr_iadd (pc := 73) dX8_advance_73 ⟨by omega, by omega⟩ ?_
    refine kr_v2 (pc := 74) dX8_advance_74 rfl rfl (by assumption) (Nat.le_of_ble_eq_true rfl) rfl rfl (m_copiesI M5 (by omega) (by omega) ?_)
    show amT _ _ _ _ _ _
    rw [e6]
    have e7 : hiv (sa (hwi (hwi (hwi h m 17 0) m 4 (-1)) m 3 ((S.2.2.2.1 : Int) + 1)) (m + 1) (cpF (hiv h (m + 1)) (3 + ((S.2.2.2.1 : Int) + 1) - 2).toNat (3 + ((S.2.2.2.1 : Int) + 1)).toNat)) m 3 = (S.2.2.2.1 : Int) + 1 := (if_neg (by omega)).trans up2_at
    refine kr_goto (pc := 77) dX8_advance_77 rfl ?_
    refine kr_aload_n (pc := 98) dX8_advance_98 rfl ?_
    refine kr_geti (pc := 99) dX8_advance_99 rfl (by decide) (by assumption) e7 ?_
    refine kr_ireturn (pc := 102) dX8_advance_102 rfl ?_
    refine k (setR (up2 (up2 (up2 (hiv h) m 17 0) m 4 (-1)) m 3 ((S.2.2.2.1 : Int) + 1)) m (cpF (hiv h (m + 1)) (3 + ((S.2.2.2.1 : Int) + 1) - 2).toNat (3 + ((S.2.2.2.1 : Int) + 1)).toNat)) _ ?_
    have e : sp_advance S n = (0, (S.2.2.2.1 : Int) + 1, (fun j => if j = 3 + (S.2.2.2.1 + 1) then S.1 (3 + (S.2.2.2.1 - 1)) else S.1 j, S.2.1, S.2.2.1, S.2.2.2.1 + 1, -1, S.2.2.2.2.2)) := by
      unfold sp_advance
      rw [if_neg (by omega), if_neg h1, if_pos h2]
    rw [e]
    obtain ⟨J, hJ⟩ : ∃ J, J = setR (up2 (up2 (up2 (hiv h) m 17 0) m 4 (-1)) m 3 ((S.2.2.2.1 : Int) + 1)) m (cpF (hiv h (m + 1)) (3 + ((S.2.2.2.1 : Int) + 1) - 2).toNat (3 + ((S.2.2.2.1 : Int) + 1)).toNat) := ⟨_, rfl⟩
    rw [← hJ]
    have u1 : ∀ a, a ≠ m → a ≠ m + 1 → J a = hiv h a := fun a h1 h2 => by rw [hJ, setR_ne h2, up2_ne h1, up2_ne h1, up2_ne h1]
    have u2 : ∀ j, j ≠ 3 → j ≠ 4 → j ≠ 17 → J m j = hiv h m j := fun j h1 h2 h3 => by rw [hJ, setR_ne (by omega), up2_nj h1, up2_nj h2, up2_nj h3]
    refine ⟨⟨fun i hi => ?_, fun i hi => ?_, ?_, ?_, ?_, fun i r hr => ?_⟩, ?_, fun _ => rfl, fun a ha => u1 a (by omega) (by omega)⟩
    · rw [hJ, setR_at, show (3 + ((S.2.2.2.1 : Int) + 1) - 2).toNat = 3 + (S.2.2.2.1 - 1) by omega, show (3 + ((S.2.2.2.1 : Int) + 1)).toNat = 3 + (S.2.2.2.1 + 1) by omega]
      dsimp only
      split
      · rename_i hh
        rw [hh]
        exact (H.1 _ (by omega)).cp (by omega)
      · rename_i hh
        exact (H.1 i hi).fr fun j h1 h2 => cpF_ne hh j h1 h2
    · rw [u1 _ (by omega) (by omega), u1 _ (by omega) (by omega)]
      exact H.2.1 i hi
    · show J m 3 = ((S.2.2.2.1 + 1 : Nat) : Int)
      rw [hJ, setR_ne (by omega), up2_at]
      rfl
    · show J m 4 = -1
      rw [hJ, setR_ne (by omega), up2_nj (by decide), up2_at]
    · rw [u2 _ (by decide) (by decide) (by decide)]
      exact H.2.2.2.2.1
    · rw [u1 _ (by omega) (by omega), u1 _ (by omega) (by omega), u1 _ (by omega) (by omega), u1 _ (by omega) (by omega)]
      exact H.2.2.2.2.2 i r hr
    · show J m 17 = 0
      rw [hJ, setR_ne (by omega), up2_nj (by decide), up2_nj (by decide), up2_at]
  have less : 1 ≤ n ∧ n ≤ 100 → S.2.2.2.2.1 ≠ -1 → ¬ S.2.2.2.2.1 ≤ n → Q (.inl (some (vI S.2.2.2.1)), hwi (hwi h m 17 0) m 4 (S.2.2.2.2.1 - n)) := by
    intro hn h1 h2
    refine k (up2 (up2 (hiv h) m 17 0) m 4 (S.2.2.2.2.1 - n)) _ ?_
    have e : sp_advance S n = (0, (S.2.2.2.1 : Int), (S.1, S.2.1, S.2.2.1, S.2.2.2.1, S.2.2.2.2.1 - n, S.2.2.2.2.2)) := by
      unfold sp_advance
      rw [if_neg (by omega), if_neg h1, if_neg h2]
    rw [e]
    have u1 : ∀ a, a ≠ m → up2 (up2 (hiv h) m 17 0) m 4 (S.2.2.2.2.1 - n) a = hiv h a := fun a ha => (up2_ne ha).trans (up2_ne ha)
    have u2 : ∀ j, j ≠ 4 → j ≠ 17 → up2 (up2 (hiv h) m 17 0) m 4 (S.2.2.2.2.1 - n) m j = hiv h m j := fun j h1 h2 => (up2_nj h1).trans (up2_nj h2)
    refine ⟨⟨fun i hi => ?_, fun i hi => ?_, ?_, up2_at, ?_, fun i r hr => ?_⟩, ?_, fun _ => rfl, fun a ha => u1 a (by omega)⟩
    · rw [u1 _ (by omega)]
      exact H.1 i hi
    · rw [u1 _ (by omega), u1 _ (by omega)]
      exact H.2.1 i hi
    · rw [u2 _ (by decide) (by decide)]
      exact H.2.2.1
    · rw [u2 _ (by decide) (by decide)]
      exact H.2.2.2.2.1
    · rw [u1 _ (by omega), u1 _ (by omega), u1 _ (by omega), u1 _ (by omega)]
      exact H.2.2.2.2.2 i r hr
    · exact (up2_nj (by decide)).trans up2_at
  have same : 1 ≤ n ∧ n ≤ 100 → S.2.2.2.2.1 = -1 → Q (.inl (some (vI S.2.2.2.1)), hwi h m 17 0) := by
    intro hn h1
    refine k _ _ (MO.q H ?_)
    unfold sp_advance
    rw [if_neg (by omega), if_pos h1]
  refine kr_aload_n (pc := 0) dX8_advance_0 rfl ?_
  refine kr_iload_n (pc := 1) dX8_advance_1 rfl ?_
  refine kr_iconst (pc := 2) dX8_advance_2 (by decide) ?_
  refine kr_bipush (pc := 3) dX8_advance_3 (by decide) ?_
  refine kr_s3 (pc := 5) dX8_advance_5 rfl rfl (Nat.le_of_ble_eq_true rfl) rfl rfl rfl (m_in2 (fun c5 => ?_) (fun c5 => ?_))
  · show amT _ _ _ _ _ _
    refine kr_if_eq (pc := 8) dX8_advance_8 rfl (fun h => absurd h (by decide)) (fun _ => ?_)
    refine kr_iconst (pc := 11) dX8_advance_11 (by decide) ?_
    refine kr_goto (pc := 12) dX8_advance_12 rfl ?_
    refine kr_puti (pc := 16) dX8_advance_16 rfl (Or.inl rfl) (by decide) (by assumption) ?_
    refine kr_aload_n (pc := 19) dX8_advance_19 rfl ?_
    refine kr_geti (pc := 20) dX8_advance_20 rfl (by decide) (by assumption) (by first | exact hiv_wi_same | assumption) ?_
    refine kr_if_le (pc := 23) dX8_advance_23 rfl (fun _ => ?_) (fun h => absurd h (by decide))
    refine kr_aload_n (pc := 28) dX8_advance_28 rfl ?_
    refine kr_geti (pc := 29) dX8_advance_29 rfl (by decide) (by assumption) rfl ?_
    rw [hw]
    refine kr_iconst (pc := 32) dX8_advance_32 (by decide) ?_
    refine kr_icmp_eq (pc := 33) dX8_advance_33 rfl (fun h33 => ?_) (fun h33 => ?_)
    · refine kr_aload_n (pc := 80) dX8_advance_80 rfl ?_
      refine kr_geti (pc := 81) dX8_advance_81 rfl (by decide) (by assumption) rfl ?_
      rw [hw]
      refine kr_iconst (pc := 84) dX8_advance_84 (by decide) ?_
      refine kr_icmp_eq (pc := 85) dX8_advance_85 rfl (fun h85 => ?_) (fun h85 => ?_)
      · refine kr_aload_n (pc := 98) dX8_advance_98 rfl ?_
        refine kr_geti (pc := 99) dX8_advance_99 rfl (by decide) (by assumption) rfl ?_
        first | rw [hr] | rw [hw4]
        refine kr_ireturn (pc := 102) dX8_advance_102 rfl ?_
        first | exact k _ _ (MO.errw (t := 1) H (by unfold sp_advance; rw [if_pos (by omega)]) (by decide)) | exact same (by omega) (by omega) | exact less (by omega) (by omega) (by omega)
      · refine kr_aload_n (pc := 88) dX8_advance_88 rfl ?_
        refine kr_dup (pc := 89) dX8_advance_89 rfl ?_
        refine kr_geti (pc := 90) dX8_advance_90 rfl (by decide) (by assumption) rfl ?_
        refine kr_iload_n (pc := 93) dX8_advance_93 rfl ?_
        rw [show hiv (hwi h m 17 0) m 4 = S.2.2.2.2.1 from hw]
        refine kr_isub (pc := 94) dX8_advance_94 ⟨by omega, by omega⟩ ?_
        refine kr_puti (pc := 95) dX8_advance_95 rfl (Or.inl rfl) (by decide) (by assumption) ?_
        refine kr_aload_n (pc := 98) dX8_advance_98 rfl ?_
        refine kr_geti (pc := 99) dX8_advance_99 rfl (by decide) (by assumption) rfl ?_
        first | rw [hr] | rw [hw4]
        refine kr_ireturn (pc := 102) dX8_advance_102 rfl ?_
        first | exact k _ _ (MO.errw (t := 1) H (by unfold sp_advance; rw [if_pos (by omega)]) (by decide)) | exact same (by omega) (by omega) | exact less (by omega) (by omega) (by omega)
    · refine kr_aload_n (pc := 36) dX8_advance_36 rfl ?_
      refine kr_geti (pc := 37) dX8_advance_37 rfl (by decide) (by assumption) rfl ?_
      rw [hw]
      refine kr_iload_n (pc := 40) dX8_advance_40 rfl ?_
      refine kr_icmp_gt (pc := 41) dX8_advance_41 rfl (fun h41 => ?_) (fun h41 => ?_)
      · refine kr_aload_n (pc := 80) dX8_advance_80 rfl ?_
        refine kr_geti (pc := 81) dX8_advance_81 rfl (by decide) (by assumption) rfl ?_
        rw [hw]
        refine kr_iconst (pc := 84) dX8_advance_84 (by decide) ?_
        refine kr_icmp_eq (pc := 85) dX8_advance_85 rfl (fun h85 => ?_) (fun h85 => ?_)
        · refine kr_aload_n (pc := 98) dX8_advance_98 rfl ?_
          refine kr_geti (pc := 99) dX8_advance_99 rfl (by decide) (by assumption) rfl ?_
          first | rw [hr] | rw [hw4]
          refine kr_ireturn (pc := 102) dX8_advance_102 rfl ?_
          first | exact k _ _ (MO.errw (t := 1) H (by unfold sp_advance; rw [if_pos (by omega)]) (by decide)) | exact same (by omega) (by omega) | exact less (by omega) (by omega) (by omega)
        · refine kr_aload_n (pc := 88) dX8_advance_88 rfl ?_
          refine kr_dup (pc := 89) dX8_advance_89 rfl ?_
          refine kr_geti (pc := 90) dX8_advance_90 rfl (by decide) (by assumption) rfl ?_
          refine kr_iload_n (pc := 93) dX8_advance_93 rfl ?_
          rw [show hiv (hwi h m 17 0) m 4 = S.2.2.2.2.1 from hw]
          refine kr_isub (pc := 94) dX8_advance_94 ⟨by omega, by omega⟩ ?_
          refine kr_puti (pc := 95) dX8_advance_95 rfl (Or.inl rfl) (by decide) (by assumption) ?_
          refine kr_aload_n (pc := 98) dX8_advance_98 rfl ?_
          refine kr_geti (pc := 99) dX8_advance_99 rfl (by decide) (by assumption) rfl ?_
          first | rw [hr] | rw [hw4]
          refine kr_ireturn (pc := 102) dX8_advance_102 rfl ?_
          first | exact k _ _ (MO.errw (t := 1) H (by unfold sp_advance; rw [if_pos (by omega)]) (by decide)) | exact same (by omega) (by omega) | exact less (by omega) (by omega) (by omega)
      · exact undo (by omega) (by omega) (by omega)
  · show amT _ _ _ _ _ _
    refine kr_if_eq (pc := 8) dX8_advance_8 rfl (fun _ => ?_) (fun h => absurd h (by decide))
    refine kr_iconst (pc := 15) dX8_advance_15 (by decide) ?_
    refine kr_puti (pc := 16) dX8_advance_16 rfl (Or.inl rfl) (by decide) (by assumption) ?_
    refine kr_aload_n (pc := 19) dX8_advance_19 rfl ?_
    refine kr_geti (pc := 20) dX8_advance_20 rfl (by decide) (by assumption) (by first | exact hiv_wi_same | assumption) ?_
    refine kr_if_le (pc := 23) dX8_advance_23 rfl (fun h => absurd h (by decide)) (fun _ => ?_)
    refine kr_iconst (pc := 26) dX8_advance_26 (by decide) ?_
    refine kr_ireturn (pc := 27) dX8_advance_27 rfl ?_
    first | exact k _ _ (MO.errw (t := 1) H (by unfold sp_advance; rw [if_pos (by omega)]) (by decide)) | exact same (by omega) (by omega) | exact less (by omega) (by omega) (by omega)
end MG
