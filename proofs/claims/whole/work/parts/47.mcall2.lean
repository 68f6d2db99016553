/-! THE REFERENCE'S OTHER CALLS -/
theorem smM.tr {I I' J : Nat → Nat → Int} {m : Nat} (h : smM I I' m) (k : smM I' J m) : smM I J m :=
  ⟨fun a h1 h2 h3 => (k.1 a h1 h2 h3).trans (h.1 a h1 h2 h3), fun j h1 h2 => (k.2 j h1 h2).trans (h.2 j h1 h2)⟩
theorem frW.sm {I I' : Nat → Nat → Int} {m : Nat} (h : frW I I' m) : smM I I' m := ⟨h.1, fun j h1 _ => h.2.1 j h1⟩
theorem setR.sm {I : Nat → Nat → Int} {m : Nat} {R : Nat → Int} : smM I (setR I m R) m := ⟨fun a _ h2 _ => setR_ne h2, fun j _ _ => by rw [setR_ne (by omega)]⟩
theorem up17.sm {I : Nat → Nat → Int} {m : Nat} {t : Int} : smM I (up2 I m 17 t) m := ⟨fun a h1 _ _ => up2_ne h1, fun j _ h2 => up2_nj h2⟩
theorem MO.gen {I I' : Nat → Nat → Int} {m : Nat} {S : St} {f : Nat → Cfg} {r : Res} {b : Int} (H : ModR I m S) (h : smM I I' m) (hc : ∀ i, i < 33 → CfgM (I' (m + 1)) i (f i)) (h17 : I' m 17 = 0) (hr : r = (0, b, (f, S.2))) : MO r I I' m b := by
  rw [hr]
  exact ⟨H.sl h f hc, h17, fun _ => rfl, fun a ha => h.1 a (by omega) (by omega) (by omega)⟩
theorem MO.gerr {I I' : Nat → Nat → Int} {m : Nat} {S : St} {r : Res} {b t : Int} (H : ModR I m S) (h : smM I I' m) (hR : ∀ j, j < 891 → I' (m + 1) j = I (m + 1) j) (h17 : I' m 17 = t) (ht : t ≠ 0) (hr : r = sx S t) : MO r I I' m b := by
  rw [hr]
  exact ⟨H.same h hR, h17, fun h0 => absurd h0 ht, fun a ha => h.1 a (by omega) (by omega) (by omega)⟩
section MC
variable {h : aH} {m : Nat} {S : St} {Q : aR → Prop}
theorem MO.q {r : Res} {b : Int} (H : ModR (hiv h) m S) (hr : r = (0, b, S)) : MO r (hiv h) (hiv (hwi h m 17 0)) m b := by
  rw [hr]
  exact ⟨H.th, if_pos ⟨rfl, rfl⟩, fun _ => rfl, fun a ha => up2_ne (by omega)⟩
theorem MO.cfw {r : Res} {b : Int} {R' : Nat → Int} {f : Nat → Cfg} (H : ModR (hiv h) m S) (hc : ∀ i, i < 33 → CfgM R' i (f i)) (hr : r = (0, b, (f, S.2))) : MO r (hiv h) (hiv (sa (hwi h m 17 0) (m + 1) R')) m b := by
  refine MO.gen H (I' := hiv (sa (hwi h m 17 0) (m + 1) R')) (up17.sm.tr (setR.sm (R := R'))) (fun i hi => ?_) ?_ hr
  · rw [show hiv (sa (hwi h m 17 0) (m + 1) R') (m + 1) = R' from hiv_sa]
    exact hc i hi
  · exact (if_neg (by omega)).trans up2_at
theorem rw17 {t : Int} : hiv (hwi h m 17 t) (m + 1) = hiv h (m + 1) := up2_ne (by omega)
theorem mc_open {c : Int} (M : MS h m) (H : ModR (hiv h) m S) (HS : okS S) (k : ∀ I' b, MO (sp_open S c) (hiv h) I' m b → Q (.inl (some (vI b)), hI h I')) : amT mX8_open 0 [vR m, vI c] [] h Q := by
  have h0 := M.o
  have g1 := M.2.2.2.1
  have g2 := M.2.2.2.2.1
  have g3 := M.2.2.2.2.2.1
  have g4 := M.2.2.2.2.2.2.1
  have hr := H.2.2.1
  have hb := HS.2.2.1
  have act : 0 ≤ c ∧ c ≤ 2 → amT mX8_open 25 [vR m, vI c] [] (hwi h m 17 0) Q := by
    intro hc
    have r1 : hiv (hwi (hwi h m 17 0) (m + 2) c.toNat 1) m 3 = S.2.2.2.1 := ((if_neg (by omega)).trans (if_neg (by omega))).trans hr
    have r2 : hiv (hwi (hwi (hwi h m 17 0) (m + 2) c.toNat 1) (m + 3) c.toNat S.2.2.2.1) m 3 = S.2.2.2.1 := (if_neg (by omega)).trans r1
    have M1 : MS (hwi (hwi (hwi h m 17 0) (m + 2) c.toNat 1) (m + 3) c.toNat S.2.2.2.1) m := M
    have r3 : hiv (hwi (hwi (hwi h m 17 0) (m + 2) c.toNat 1) (m + 3) c.toNat S.2.2.2.1) (m + 1) = hiv h (m + 1) := (up2_ne (by omega)).trans ((up2_ne (by omega)).trans (up2_ne (by omega)))
    refine kr_aload_n (pc := 25) dX8_open_25 rfl ?_
    refine kr_getr (pc := 26) dX8_open_26 rfl rfl (by assumption) (by assumption) ?_
    refine kr_iload_n (pc := 29) dX8_open_29 rfl ?_
    refine kr_iconst (pc := 30) dX8_open_30 (by decide) ?_
    refine kr_iast (pc := 31) dX8_open_31 (by assumption) (by omega) (by omega) ?_
    refine kr_aload_n (pc := 32) dX8_open_32 rfl ?_
    refine kr_getr (pc := 33) dX8_open_33 rfl rfl (by assumption) (by assumption) ?_
    refine kr_iload_n (pc := 36) dX8_open_36 rfl ?_
    refine kr_aload_n (pc := 37) dX8_open_37 rfl ?_
    refine kr_geti (pc := 38) dX8_open_38 rfl (by decide) (by assumption) (by first | exact r1 | exact r2 | exact r4) ?_
    refine kr_iast (pc := 41) dX8_open_41 (by assumption) (by omega) (by omega) ?_
    refine kr_aload_n (pc := 42) dX8_open_42 rfl ?_
    refine kr_iconst (pc := 43) dX8_open_43 (by decide) ?_
    refine kr_aload_n (pc := 44) dX8_open_44 rfl ?_
    refine kr_geti (pc := 45) dX8_open_45 rfl (by decide) (by assumption) (by first | exact r1 | exact r2 | exact r4) ?_
    refine kr_iadd (pc := 48) dX8_open_48 ⟨by omega, by omega⟩ ?_
    refine kr_iload_n (pc := 49) dX8_open_49 rfl ?_
    refine kr_v2 (pc := 50) dX8_open_50 rfl rfl (by assumption) (Nat.le_of_ble_eq_true rfl) rfl rfl (m_copiesI M1 (by omega) (by omega) ?_)
    show amT _ _ _ _ _ _
    have r4 : hiv (sa (hwi (hwi (hwi h m 17 0) (m + 2) c.toNat 1) (m + 3) c.toNat S.2.2.2.1) (m + 1) (cpF (hiv (hwi (hwi (hwi h m 17 0) (m + 2) c.toNat 1) (m + 3) c.toNat S.2.2.2.1) (m + 1)) (3 + (S.2.2.2.1 : Int)).toNat c.toNat)) m 3 = S.2.2.2.1 := (if_neg (by omega)).trans r2
    refine kr_aload_n (pc := 53) dX8_open_53 rfl ?_
    refine kr_geti (pc := 54) dX8_open_54 rfl (by decide) (by assumption) (by first | exact r1 | exact r2 | exact r4) ?_
    refine kr_ireturn (pc := 57) dX8_open_57 rfl ?_
    refine k (hiv (sa (hwi (hwi (hwi h m 17 0) (m + 2) c.toNat 1) (m + 3) c.toNat S.2.2.2.1) (m + 1) (cpF (hiv (hwi (hwi (hwi h m 17 0) (m + 2) c.toNat 1) (m + 3) c.toNat S.2.2.2.1) (m + 1)) (3 + (S.2.2.2.1 : Int)).toNat c.toNat))) _ ?_
    unfold sp_open
    rw [if_pos hc]
    have u : ∀ a, a ≠ m + 1 → hiv (sa (hwi (hwi (hwi h m 17 0) (m + 2) c.toNat 1) (m + 3) c.toNat S.2.2.2.1) (m + 1) (cpF (hiv (hwi (hwi (hwi h m 17 0) (m + 2) c.toNat 1) (m + 3) c.toNat S.2.2.2.1) (m + 1)) (3 + (S.2.2.2.1 : Int)).toNat c.toNat)) a = hiv (hwi (hwi (hwi h m 17 0) (m + 2) c.toNat 1) (m + 3) c.toNat S.2.2.2.1) a := fun a ha => funext fun j => if_neg ha
    refine ⟨⟨fun s hs => ?_, fun i hi => ⟨?_, ?_⟩, ?_, ?_, ?_, fun i r hir => ?_⟩, ?_, fun _ => rfl, fun a ha => ?_⟩
    · rw [hiv_sa, r3]
      dsimp only
      split
      · rename_i h
        rw [h, show (3 + (S.2.2.2.1 : Int)).toNat = 3 + S.2.2.2.1 by omega]
        exact (H.1 _ (by omega)).cp (by omega)
      · rename_i h
        exact (H.1 s hs).fr fun j h1 h2 => cpF_ne h j h1 h2
    · rw [u _ (by omega)]
      refine (if_neg (by omega)).trans ?_
      show (if m + 2 = m + 2 ∧ i = c.toNat then (1 : Int) else hiv (hwi h m 17 0) (m + 2) i) = if i = c.toNat then 1 else S.2.1 i
      by_cases h : i = c.toNat
      · rw [if_pos ⟨rfl, h⟩, if_pos h]
      · rw [if_neg (by omega), if_neg h]
        exact (if_neg (by omega)).trans (H.2.1 i hi).1
    · rw [u _ (by omega)]
      show (if m + 3 = m + 3 ∧ i = c.toNat then (S.2.2.2.1 : Int) else hiv (hwi (hwi h m 17 0) (m + 2) c.toNat 1) (m + 3) i) = ((if i = c.toNat then S.2.2.2.1 else S.2.2.1 i : Nat) : Int)
      by_cases h : i = c.toNat
      · rw [if_pos ⟨rfl, h⟩, if_pos h]
      · rw [if_neg (by omega), if_neg h]
        exact ((if_neg (by omega)).trans (if_neg (by omega))).trans (H.2.1 i hi).2
    · rw [u _ (by omega)]
      exact r2
    · rw [u _ (by omega)]
      exact ((if_neg (by omega)).trans ((if_neg (by omega)).trans (if_neg (by omega)))).trans H.2.2.2.1
    · rw [u _ (by omega)]
      exact ((if_neg (by omega)).trans ((if_neg (by omega)).trans (if_neg (by omega)))).trans H.2.2.2.2.1
    · have v : ∀ a, m + 10 ≤ a → hiv (sa (hwi (hwi (hwi h m 17 0) (m + 2) c.toNat 1) (m + 3) c.toNat S.2.2.2.1) (m + 1) (cpF (hiv (hwi (hwi (hwi h m 17 0) (m + 2) c.toNat 1) (m + 3) c.toNat S.2.2.2.1) (m + 1)) (3 + (S.2.2.2.1 : Int)).toNat c.toNat)) a = hiv h a := fun a ha => (u a (by omega)).trans ((up2_ne (by omega)).trans ((up2_ne (by omega)).trans (up2_ne (by omega))))
      rw [v (m + 10) (by omega), v (m + 11) (by omega), v (m + 12) (by omega), v (m + 13) (by omega)]
      exact H.2.2.2.2.2 i r hir
    · rw [u _ (by omega)]
      exact (if_neg (by omega)).trans ((if_neg (by omega)).trans (if_pos ⟨rfl, rfl⟩))
    · exact (u a (by omega)).trans ((up2_ne (by omega)).trans ((up2_ne (by omega)).trans (up2_ne (by omega))))
  refine kr_aload_n (pc := 0) dX8_open_0 rfl ?_
  refine kr_iload_n (pc := 1) dX8_open_1 rfl ?_
  refine kr_s1 (pc := 2) dX8_open_2 rfl rfl (Nat.le_of_ble_eq_true rfl) rfl (m_isC (fun c2 => ?_) (fun c2 => ?_))
  · show amT _ _ _ _ _ _
    refine kr_if_eq (pc := 5) dX8_open_5 rfl (fun h => absurd h (by decide)) (fun _ => ?_)
    refine kr_iconst (pc := 8) dX8_open_8 (by decide) ?_
    refine kr_goto (pc := 9) dX8_open_9 rfl ?_
    refine kr_puti (pc := 13) dX8_open_13 rfl (Or.inl rfl) (by decide) (by assumption) ?_
    refine kr_aload_n (pc := 16) dX8_open_16 rfl ?_
    refine kr_geti (pc := 17) dX8_open_17 rfl (by decide) (by assumption) (by first | exact hiv_wi_same | assumption) ?_
    refine kr_if_le (pc := 20) dX8_open_20 rfl (fun _ => ?_) (fun h => absurd h (by decide))
    exact act c2
  · show amT _ _ _ _ _ _
    refine kr_if_eq (pc := 5) dX8_open_5 rfl (fun _ => ?_) (fun h => absurd h (by decide))
    refine kr_iconst (pc := 12) dX8_open_12 (by decide) ?_
    refine kr_puti (pc := 13) dX8_open_13 rfl (Or.inl rfl) (by decide) (by assumption) ?_
    refine kr_aload_n (pc := 16) dX8_open_16 rfl ?_
    refine kr_geti (pc := 17) dX8_open_17 rfl (by decide) (by assumption) (by first | exact hiv_wi_same | assumption) ?_
    refine kr_if_le (pc := 20) dX8_open_20 rfl (fun h => absurd h (by decide)) (fun _ => ?_)
    refine kr_iconst (pc := 23) dX8_open_23 (by decide) ?_
    refine kr_ireturn (pc := 24) dX8_open_24 rfl ?_
    exact k _ _ (MO.errw (t := 1) H (by unfold sp_open; rw [if_neg (by omega)]) (by decide))
theorem mc_setGroup {c g f v : Int} (M : MS h m) (H : ModR (hiv h) m S) (HS : okS S) (k : ∀ I' b, MO (sp_setGroup S c g f v) (hiv h) I' m b → Q (.inl (some (vI b)), hI h I')) : amT mX8_setGroup 0 [vR m, vI c, vI g, vI f, vI v] [] h Q := by
  have h0 := M.o
  have f1 := M.2.1
  have f2 := M.2.2.1
  have g1 := M.2.2.2.1
  have g2 := M.2.2.2.2.1
  have act : 0 ≤ c ∧ c ≤ 2 → 0 ≤ g ∧ g ≤ 2 → 0 ≤ f ∧ f ≤ 1 → sp_setGroup S c g f v = (0, (S.1 c.toNat).2 g.toNat f.toNat, sCf S c.toNat (upG (S.1 c.toNat) g.toNat f.toNat v)) → -1 ≤ v ∧ v ≤ 99 → amT mX8_setGroup 69 [vR m, vI c, vI g, vI f, vI v] [] (hwi h m 17 0) Q := by
    intro hc hg hf hsp hv
    have e : hiv (hwi h m 17 0) (m + 1) (27 * c + 21 + 2 * g + f).toNat = (S.1 c.toNat).2 g.toNat f.toNat + 1 := by
      rw [rw17, show (27 * c + 21 + 2 * g + f).toNat = 27 * c.toNat + 21 + 2 * g.toNat + f.toNat by omega]
      exact (H.1 c.toNat (by omega)).2 _ _ (by omega) (by omega)
    have hval := (HS.1 c.toNat (by omega)).2 g.toNat f.toNat (by omega) (by omega)
    refine kr_iload_n (pc := 69) dX8_setGroup_69 rfl ?_
    refine kr_iload_n (pc := 70) dX8_setGroup_70 rfl ?_
    refine kr_iload_n (pc := 71) dX8_setGroup_71 rfl ?_
    refine kr_s3 (pc := 72) dX8_setGroup_72 rfl rfl (Nat.le_of_ble_eq_true rfl) rfl rfl rfl (m_groupAt ⟨by omega, by omega⟩ ⟨by omega, by omega⟩ ⟨by omega, by omega⟩ ?_)
    show amT _ _ _ _ _ _
    refine kr_istore (pc := 75) dX8_setGroup_75 (show 5 ≤ _ from by simp) (by decide) ?_
    simp only [stl, List.tail_cons, List.tail_nil]
    refine kr_aload_n (pc := 77) dX8_setGroup_77 rfl ?_
    refine kr_getr (pc := 78) dX8_setGroup_78 rfl rfl (by assumption) (by assumption) ?_
    refine kr_iload (pc := 81) dX8_setGroup_81 rfl ?_
    refine kr_iald (pc := 83) dX8_setGroup_83 (by assumption) (by omega) (by omega) rfl ?_
    rw [e]
    refine kr_iconst (pc := 84) dX8_setGroup_84 (by decide) ?_
    refine kr_isub (pc := 85) dX8_setGroup_85 ⟨by omega, by omega⟩ ?_
    refine kr_istore (pc := 86) dX8_setGroup_86 (show 6 ≤ _ from by simp) (by decide) ?_
    simp only [stl, List.tail_cons, List.tail_nil]
    refine kr_aload_n (pc := 88) dX8_setGroup_88 rfl ?_
    refine kr_getr (pc := 89) dX8_setGroup_89 rfl rfl (by assumption) (by assumption) ?_
    refine kr_iload (pc := 92) dX8_setGroup_92 rfl ?_
    refine kr_iload (pc := 94) dX8_setGroup_94 rfl ?_
    refine kr_iconst (pc := 96) dX8_setGroup_96 (by decide) ?_
    refine kr_iadd (pc := 97) dX8_setGroup_97 ⟨by omega, by omega⟩ ?_
    refine kr_iast (pc := 98) dX8_setGroup_98 (by assumption) (by omega) (by omega) ?_
    refine kr_iload (pc := 99) dX8_setGroup_99 rfl ?_
    rw [show (S.1 c.toNat).2 g.toNat f.toNat + 1 - 1 = (S.1 c.toNat).2 g.toNat f.toNat by omega, hwi_of, show (27 * c + 21 + 2 * g + f).toNat = 27 * c.toNat + 21 + 2 * g.toNat + f.toNat by omega, rw17]
    refine kr_ireturn (pc := 101) dX8_setGroup_101 rfl ?_
    refine k _ _ (MO.cfw H (fun i hi => ?_) hsp)
    show CfgM _ i (if i = c.toNat then upG (S.1 c.toNat) g.toNat f.toNat v else S.1 i)
    split
    · rename_i hh
      rw [hh]
      exact (H.1 c.toNat (by omega)).grp (g := g.toNat) (f := f.toNat) (v := v) (by omega) (by omega) fun j => rfl
    · rename_i hh
      exact (H.1 i hi).fr fun j h1 h2 => if_neg (by omega)
  refine kr_aload_n (pc := 0) dX8_setGroup_0 rfl ?_
  refine kr_iload_n (pc := 1) dX8_setGroup_1 rfl ?_
  refine kr_s1 (pc := 2) dX8_setGroup_2 rfl rfl (Nat.le_of_ble_eq_true rfl) rfl (m_isC (fun c2 => ?_) (fun c2 => ?_))
  · show amT _ _ _ _ _ _
    refine kr_if_eq (pc := 5) dX8_setGroup_5 rfl (fun h => absurd h (by decide)) (fun _ => ?_)
    refine kr_iload_n (pc := 8) dX8_setGroup_8 rfl ?_
    refine kr_iconst (pc := 9) dX8_setGroup_9 (by decide) ?_
    refine kr_iconst (pc := 10) dX8_setGroup_10 (by decide) ?_
    refine kr_s3 (pc := 11) dX8_setGroup_11 rfl rfl (Nat.le_of_ble_eq_true rfl) rfl rfl rfl (m_in2 (fun c11 => ?_) (fun c11 => ?_))
    · show amT _ _ _ _ _ _
      refine kr_if_eq (pc := 14) dX8_setGroup_14 rfl (fun h => absurd h (by decide)) (fun _ => ?_)
      refine kr_iload_n (pc := 17) dX8_setGroup_17 rfl ?_
      refine kr_s1 (pc := 18) dX8_setGroup_18 rfl rfl (Nat.le_of_ble_eq_true rfl) rfl (m_isF (fun c18 => ?_) (fun c18 => ?_))
      · show amT _ _ _ _ _ _
        refine kr_if_ne (pc := 21) dX8_setGroup_21 rfl (fun _ => ?_) (fun h => absurd h (by decide))
        refine kr_iload (pc := 28) dX8_setGroup_28 rfl ?_
        refine kr_iconst (pc := 30) dX8_setGroup_30 (by decide) ?_
        refine kr_bipush (pc := 31) dX8_setGroup_31 (by decide) ?_
        refine kr_s3 (pc := 33) dX8_setGroup_33 rfl rfl (Nat.le_of_ble_eq_true rfl) rfl rfl rfl (m_in2 (fun c33 => ?_) (fun c33 => ?_))
        · show amT _ _ _ _ _ _
          refine kr_if_ne (pc := 36) dX8_setGroup_36 rfl (fun _ => ?_) (fun h => absurd h (by decide))
          refine kr_aload_n (pc := 43) dX8_setGroup_43 rfl ?_
          refine kr_getr (pc := 44) dX8_setGroup_44 rfl rfl (by assumption) (by assumption) ?_
          refine kr_iload_n (pc := 47) dX8_setGroup_47 rfl ?_
          refine kr_iald (pc := 48) dX8_setGroup_48 (by assumption) (by omega) (by omega) rfl ?_
          obtain ⟨q1, q2⟩ := H.op HS c2
          rw [q1]
          refine kr_if_ne (pc := 49) dX8_setGroup_49 rfl (fun h49 => ?_) (fun h49 => ?_)
          · refine kr_iconst (pc := 56) dX8_setGroup_56 (by decide) ?_
            refine kr_puti (pc := 57) dX8_setGroup_57 rfl (Or.inl rfl) (by decide) (by assumption) ?_
            refine kr_aload_n (pc := 60) dX8_setGroup_60 rfl ?_
            refine kr_geti (pc := 61) dX8_setGroup_61 rfl (by decide) (by assumption) (by first | exact hiv_wi_same | assumption) ?_
            refine kr_if_le (pc := 64) dX8_setGroup_64 rfl (fun _ => ?_) (fun h => absurd h (by decide))
            exact act (by omega) (by omega) (by omega) (by unfold sp_setGroup; rw [if_neg (by omega), if_neg (by omega), if_neg (by omega)]) (by omega)
          · refine kr_iconst (pc := 52) dX8_setGroup_52 (by decide) ?_
            refine kr_goto (pc := 53) dX8_setGroup_53 rfl ?_
            refine kr_puti (pc := 57) dX8_setGroup_57 rfl (Or.inl rfl) (by decide) (by assumption) ?_
            refine kr_aload_n (pc := 60) dX8_setGroup_60 rfl ?_
            refine kr_geti (pc := 61) dX8_setGroup_61 rfl (by decide) (by assumption) (by first | exact hiv_wi_same | assumption) ?_
            refine kr_if_le (pc := 64) dX8_setGroup_64 rfl (fun h => absurd h (by decide)) (fun _ => ?_)
            refine kr_iconst (pc := 67) dX8_setGroup_67 (by decide) ?_
            refine kr_ireturn (pc := 68) dX8_setGroup_68 rfl ?_
            first | exact k _ _ (MO.errw (t := 1) H (by unfold sp_setGroup; rw [if_pos (by omega)]) (by decide)) | exact k _ _ (MO.errw (t := 2) H (by unfold sp_setGroup; rw [if_neg (by omega), if_pos (by omega)]) (by decide)) | exact k _ _ (MO.errw (t := 3) H (by unfold sp_setGroup; rw [if_neg (by omega), if_neg (by omega), if_pos (by omega)]) (by decide))
        · show amT _ _ _ _ _ _
          refine kr_if_ne (pc := 36) dX8_setGroup_36 rfl (fun h => absurd h (by decide)) (fun _ => ?_)
          refine kr_iconst (pc := 39) dX8_setGroup_39 (by decide) ?_
          refine kr_goto (pc := 40) dX8_setGroup_40 rfl ?_
          refine kr_puti (pc := 57) dX8_setGroup_57 rfl (Or.inl rfl) (by decide) (by assumption) ?_
          refine kr_aload_n (pc := 60) dX8_setGroup_60 rfl ?_
          refine kr_geti (pc := 61) dX8_setGroup_61 rfl (by decide) (by assumption) (by first | exact hiv_wi_same | assumption) ?_
          refine kr_if_le (pc := 64) dX8_setGroup_64 rfl (fun h => absurd h (by decide)) (fun _ => ?_)
          refine kr_iconst (pc := 67) dX8_setGroup_67 (by decide) ?_
          refine kr_ireturn (pc := 68) dX8_setGroup_68 rfl ?_
          first | exact k _ _ (MO.errw (t := 1) H (by unfold sp_setGroup; rw [if_pos (by omega)]) (by decide)) | exact k _ _ (MO.errw (t := 2) H (by unfold sp_setGroup; rw [if_neg (by omega), if_pos (by omega)]) (by decide)) | exact k _ _ (MO.errw (t := 3) H (by unfold sp_setGroup; rw [if_neg (by omega), if_neg (by omega), if_pos (by omega)]) (by decide))
      · show amT _ _ _ _ _ _
        refine kr_if_ne (pc := 21) dX8_setGroup_21 rfl (fun h => absurd h (by decide)) (fun _ => ?_)
        refine kr_iconst (pc := 24) dX8_setGroup_24 (by decide) ?_
        refine kr_goto (pc := 25) dX8_setGroup_25 rfl ?_
        refine kr_puti (pc := 57) dX8_setGroup_57 rfl (Or.inl rfl) (by decide) (by assumption) ?_
        refine kr_aload_n (pc := 60) dX8_setGroup_60 rfl ?_
        refine kr_geti (pc := 61) dX8_setGroup_61 rfl (by decide) (by assumption) (by first | exact hiv_wi_same | assumption) ?_
        refine kr_if_le (pc := 64) dX8_setGroup_64 rfl (fun h => absurd h (by decide)) (fun _ => ?_)
        refine kr_iconst (pc := 67) dX8_setGroup_67 (by decide) ?_
        refine kr_ireturn (pc := 68) dX8_setGroup_68 rfl ?_
        first | exact k _ _ (MO.errw (t := 1) H (by unfold sp_setGroup; rw [if_pos (by omega)]) (by decide)) | exact k _ _ (MO.errw (t := 2) H (by unfold sp_setGroup; rw [if_neg (by omega), if_pos (by omega)]) (by decide)) | exact k _ _ (MO.errw (t := 3) H (by unfold sp_setGroup; rw [if_neg (by omega), if_neg (by omega), if_pos (by omega)]) (by decide))
    · show amT _ _ _ _ _ _
      refine kr_if_eq (pc := 14) dX8_setGroup_14 rfl (fun _ => ?_) (fun h => absurd h (by decide))
      refine kr_iconst (pc := 24) dX8_setGroup_24 (by decide) ?_
      refine kr_goto (pc := 25) dX8_setGroup_25 rfl ?_
      refine kr_puti (pc := 57) dX8_setGroup_57 rfl (Or.inl rfl) (by decide) (by assumption) ?_
      refine kr_aload_n (pc := 60) dX8_setGroup_60 rfl ?_
      refine kr_geti (pc := 61) dX8_setGroup_61 rfl (by decide) (by assumption) (by first | exact hiv_wi_same | assumption) ?_
      refine kr_if_le (pc := 64) dX8_setGroup_64 rfl (fun h => absurd h (by decide)) (fun _ => ?_)
      refine kr_iconst (pc := 67) dX8_setGroup_67 (by decide) ?_
      refine kr_ireturn (pc := 68) dX8_setGroup_68 rfl ?_
      first | exact k _ _ (MO.errw (t := 1) H (by unfold sp_setGroup; rw [if_pos (by omega)]) (by decide)) | exact k _ _ (MO.errw (t := 2) H (by unfold sp_setGroup; rw [if_neg (by omega), if_pos (by omega)]) (by decide)) | exact k _ _ (MO.errw (t := 3) H (by unfold sp_setGroup; rw [if_neg (by omega), if_neg (by omega), if_pos (by omega)]) (by decide))
  · show amT _ _ _ _ _ _
    refine kr_if_eq (pc := 5) dX8_setGroup_5 rfl (fun _ => ?_) (fun h => absurd h (by decide))
    refine kr_iconst (pc := 24) dX8_setGroup_24 (by decide) ?_
    refine kr_goto (pc := 25) dX8_setGroup_25 rfl ?_
    refine kr_puti (pc := 57) dX8_setGroup_57 rfl (Or.inl rfl) (by decide) (by assumption) ?_
    refine kr_aload_n (pc := 60) dX8_setGroup_60 rfl ?_
    refine kr_geti (pc := 61) dX8_setGroup_61 rfl (by decide) (by assumption) (by first | exact hiv_wi_same | assumption) ?_
    refine kr_if_le (pc := 64) dX8_setGroup_64 rfl (fun h => absurd h (by decide)) (fun _ => ?_)
    refine kr_iconst (pc := 67) dX8_setGroup_67 (by decide) ?_
    refine kr_ireturn (pc := 68) dX8_setGroup_68 rfl ?_
    first | exact k _ _ (MO.errw (t := 1) H (by unfold sp_setGroup; rw [if_pos (by omega)]) (by decide)) | exact k _ _ (MO.errw (t := 2) H (by unfold sp_setGroup; rw [if_neg (by omega), if_pos (by omega)]) (by decide)) | exact k _ _ (MO.errw (t := 3) H (by unfold sp_setGroup; rw [if_neg (by omega), if_neg (by omega), if_pos (by omega)]) (by decide))
theorem mc_load {c v : Int} (M : MS h m) (H : ModR (hiv h) m S) (HS : okS S) (k : ∀ I', MO (sp_load S c v) (hiv h) I' m 0 → Q (.inl none, hI h I')) : amT mX8_load 0 [vR m, vI c, vI v] [] h Q := by
  have h0 := M.o
  have g1 := M.2.2.2.1
  have g2 := M.2.2.2.2.1
  have M1 : MS (hwi h m 17 0) m := M
  have hr : hiv h m 3 = S.2.2.2.1 := H.2.2.1
  have hb := HS.2.2.1
  have act : 0 ≤ c ∧ c ≤ 2 → 0 ≤ v ∧ v ≤ S.2.2.2.1 → ∀ i, i < 33 → CfgM (cpF (hiv (hwi h m 17 0) (m + 1)) (3 + v).toNat c.toNat) i ((sCf S c.toNat (S.1 (3 + v.toNat))).1 i) := by
    intro hc hv i hi
    rw [rw17, show (3 + v).toNat = 3 + v.toNat by omega]
    unfold sCf
    dsimp only
    split
    · rename_i h
      rw [h]
      exact (H.1 _ (by omega)).cp (by omega)
    · rename_i h
      exact (H.1 i hi).fr fun j h1 h2 => cpF_ne h j h1 h2
  refine kr_aload_n (pc := 0) dX8_load_0 rfl ?_
  refine kr_iload_n (pc := 1) dX8_load_1 rfl ?_
  refine kr_s1 (pc := 2) dX8_load_2 rfl rfl (Nat.le_of_ble_eq_true rfl) rfl (m_isC (fun c2 => ?_) (fun c2 => ?_))
  · show amT _ _ _ _ _ _
    refine kr_if_eq (pc := 5) dX8_load_5 rfl (fun h => absurd h (by decide)) (fun _ => ?_)
    refine kr_iload_n (pc := 8) dX8_load_8 rfl ?_
    refine kr_iconst (pc := 9) dX8_load_9 (by decide) ?_
    refine kr_aload_n (pc := 10) dX8_load_10 rfl ?_
    refine kr_geti (pc := 11) dX8_load_11 rfl (by decide) (by assumption) rfl ?_
    refine kr_s3 (pc := 14) dX8_load_14 rfl rfl (Nat.le_of_ble_eq_true rfl) rfl rfl rfl (m_in2 (fun c14 => ?_) (fun c14 => ?_))
    · show amT _ _ _ _ _ _
      refine kr_if_ne (pc := 17) dX8_load_17 rfl (fun _ => ?_) (fun h => absurd h (by decide))
      refine kr_aload_n (pc := 24) dX8_load_24 rfl ?_
      refine kr_getr (pc := 25) dX8_load_25 rfl rfl (by assumption) (by assumption) ?_
      refine kr_iload_n (pc := 28) dX8_load_28 rfl ?_
      refine kr_iald (pc := 29) dX8_load_29 (by assumption) (by omega) (by omega) rfl ?_
      obtain ⟨q1, q2⟩ := H.op HS c2
      rw [q1]
      refine kr_if_ne (pc := 30) dX8_load_30 rfl (fun h30 => ?_) (fun h30 => ?_)
      · refine kr_iconst (pc := 37) dX8_load_37 (by decide) ?_
        refine kr_puti (pc := 38) dX8_load_38 rfl (Or.inl rfl) (by decide) (by assumption) ?_
        refine kr_aload_n (pc := 41) dX8_load_41 rfl ?_
        refine kr_geti (pc := 42) dX8_load_42 rfl (by decide) (by assumption) (by first | exact hiv_wi_same | assumption) ?_
        refine kr_if_ne (pc := 45) dX8_load_45 rfl (fun h => absurd h (by decide)) (fun _ => ?_)
        refine kr_aload_n (pc := 48) dX8_load_48 rfl ?_
        refine kr_iconst (pc := 49) dX8_load_49 (by decide) ?_
        refine kr_iload_n (pc := 50) dX8_load_50 rfl ?_
        refine kr_iadd (pc := 51) dX8_load_51 ⟨by omega, by omega⟩ ?_
        refine kr_iload_n (pc := 52) dX8_load_52 rfl ?_
        refine kr_v2 (pc := 53) dX8_load_53 rfl rfl (by assumption) (Nat.le_of_ble_eq_true rfl) rfl rfl (m_copiesI M1 (by omega) (by omega) ?_)
        show amT _ _ _ _ _ _
        refine kr_return (d0 := ()) (pc := 56) dX8_load_56 rfl ?_
        exact k _ (MO.cfw (r := sp_load S c v) (f := (sCf S c.toNat (S.1 (3 + v.toNat))).1) H (act c2 (by omega)) (by unfold sp_load; rw [if_neg (by omega), if_neg (by omega)]; rfl))
      · refine kr_iconst (pc := 33) dX8_load_33 (by decide) ?_
        refine kr_goto (pc := 34) dX8_load_34 rfl ?_
        refine kr_puti (pc := 38) dX8_load_38 rfl (Or.inl rfl) (by decide) (by assumption) ?_
        refine kr_aload_n (pc := 41) dX8_load_41 rfl ?_
        refine kr_geti (pc := 42) dX8_load_42 rfl (by decide) (by assumption) (by first | exact hiv_wi_same | assumption) ?_
        refine kr_if_ne (pc := 45) dX8_load_45 rfl (fun _ => ?_) (fun h => absurd h (by decide))
        refine kr_return (d0 := ()) (pc := 56) dX8_load_56 rfl ?_
        first | exact k _ (MO.errw (t := 1) H (by unfold sp_load; rw [if_pos (by omega)]) (by decide)) | exact k _ (MO.errw (t := 2) H (by unfold sp_load; rw [if_neg (by omega), if_pos (by omega)]) (by decide))
    · show amT _ _ _ _ _ _
      refine kr_if_ne (pc := 17) dX8_load_17 rfl (fun h => absurd h (by decide)) (fun _ => ?_)
      refine kr_iconst (pc := 20) dX8_load_20 (by decide) ?_
      refine kr_goto (pc := 21) dX8_load_21 rfl ?_
      refine kr_puti (pc := 38) dX8_load_38 rfl (Or.inl rfl) (by decide) (by assumption) ?_
      refine kr_aload_n (pc := 41) dX8_load_41 rfl ?_
      refine kr_geti (pc := 42) dX8_load_42 rfl (by decide) (by assumption) (by first | exact hiv_wi_same | assumption) ?_
      refine kr_if_ne (pc := 45) dX8_load_45 rfl (fun _ => ?_) (fun h => absurd h (by decide))
      refine kr_return (d0 := ()) (pc := 56) dX8_load_56 rfl ?_
      first | exact k _ (MO.errw (t := 1) H (by unfold sp_load; rw [if_pos (by omega)]) (by decide)) | exact k _ (MO.errw (t := 2) H (by unfold sp_load; rw [if_neg (by omega), if_pos (by omega)]) (by decide))
  · show amT _ _ _ _ _ _
    refine kr_if_eq (pc := 5) dX8_load_5 rfl (fun _ => ?_) (fun h => absurd h (by decide))
    refine kr_iconst (pc := 20) dX8_load_20 (by decide) ?_
    refine kr_goto (pc := 21) dX8_load_21 rfl ?_
    refine kr_puti (pc := 38) dX8_load_38 rfl (Or.inl rfl) (by decide) (by assumption) ?_
    refine kr_aload_n (pc := 41) dX8_load_41 rfl ?_
    refine kr_geti (pc := 42) dX8_load_42 rfl (by decide) (by assumption) (by first | exact hiv_wi_same | assumption) ?_
    refine kr_if_ne (pc := 45) dX8_load_45 rfl (fun _ => ?_) (fun h => absurd h (by decide))
    refine kr_return (d0 := ()) (pc := 56) dX8_load_56 rfl ?_
    first | exact k _ (MO.errw (t := 1) H (by unfold sp_load; rw [if_pos (by omega)]) (by decide)) | exact k _ (MO.errw (t := 2) H (by unfold sp_load; rw [if_neg (by omega), if_pos (by omega)]) (by decide))
end MC
