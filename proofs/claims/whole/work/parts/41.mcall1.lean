/-! THE REFERENCE'S CALLS that change an entry -/
theorem hwi_hwi {h : aH} {a k : Nat} {x y : Int} : hwi (hwi h a k x) a k y = hwi h a k y := by
  unfold hwi up2
  dsimp only
  congr 2
  funext b j
  split <;> rfl
theorem SecM.st {R : Nat → Int} {s c p : Nat} {l : List Ent} {e e' : Ent} (H : SecM R s c l) (hp : l[p]? = some e) (ho : okE e') : SecM (fun j => if j = 27 * s + 3 + 6 * c + p then pk e' else R j) s c (l.set p e') := by
  obtain ⟨h1, h2, h3, h4, h5⟩ := H
  refine ⟨h1, h2, by rw [List.length_set]; exact h3, by rw [List.length_set]; dsimp only; rw [if_neg (by omega)]; exact h4, fun i x hx => ?_⟩
  rw [List.getElem?_set] at hx
  dsimp only
  split at hx
  · rename_i h
    subst h
    split at hx
    · cases hx
      rw [if_pos rfl]
      exact ⟨rfl, ho⟩
    · cases hx
  · rw [if_neg (by omega)]
    exact h5 i x hx
section M5
variable {h : aH} {m : Nat} {S : St} {Q : aR → Prop} {l : List Ent} {s c : Int}
theorem cI {s : Int} (h : 0 ≤ s) : ((s.toNat : Nat) : Int) = s := by omega
theorem m_findI {key : Int} (M : MS h m) (hs : 0 ≤ s) (hc : 0 ≤ c) (H : SecM (hiv h (m + 1)) s.toNat c.toNat l) (k : Q (.inl (some (vI (kix l key))), h)) : amT mX8_find 0 [vR m, vI s, vI c, vI key] [] h Q := by
  have e := m_find (Q := Q) M H k
  rw [cI hs, cI hc] at e
  exact e
theorem m_manyI (M : MS h m) (hs : 0 ≤ s) (hc : 0 ≤ c) (H : SecM (hiv h (m + 1)) s.toNat c.toNat l) (k : Q (.inl (some (vI (l.length : Int))), h)) : amT mX8_many 0 [vR m, vI s, vI c] [] h Q := by
  obtain ⟨h1, h2, h3, h4, h5⟩ := H
  refine m_many M ⟨hs, by omega⟩ ⟨hc, by omega⟩ ?_
  rw [show (27 * s + c).toNat = 27 * s.toNat + c.toNat by omega, h4]
  exact k
theorem m_takesI {p : Int} (M : MS h m) (hs : 0 ≤ s) (hc : 0 ≤ c) (H : SecM (hiv h (m + 1)) s.toNat c.toNat l) (hp : 0 ≤ p ∧ p < l.length)
    (k : ∀ R' : Nat → Int, SecM R' s.toNat c.toNat (l.eraseIdx p.toNat) → (∀ j, offS s.toNat c.toNat j → R' j = hiv h (m + 1) j) → Q (.inl none, sa h (m + 1) R')) : amT mX8_takes 0 [vR m, vI s, vI c, vI p] [] h Q := by
  have e := m_takes (Q := Q) (p := p.toNat) M H (by omega) k
  rw [cI hs, cI hc, cI hp.1] at e
  exact e
theorem m_putsI {p : Int} {e0 : Ent} (M : MS h m) (hs : 0 ≤ s) (hc : 0 ≤ c) (H : SecM (hiv h (m + 1)) s.toNat c.toNat l) (hp : 0 ≤ p ∧ p ≤ l.length) (h6 : l.length < 6) (ho : okE e0)
    (k : ∀ R' : Nat → Int, SecM R' s.toNat c.toNat (l.insertIdx p.toNat e0) → (∀ j, offS s.toNat c.toNat j → R' j = hiv h (m + 1) j) → Q (.inl none, sa h (m + 1) R')) : amT mX8_puts 0 [vR m, vI s, vI c, vI p, vI (pk e0)] [] h Q := by
  have e := m_puts (Q := Q) (p := p.toNat) M H (by omega) h6 ho k
  rw [cI hs, cI hc, cI hp.1] at e
  exact e
theorem m_shiftsI {p q : Int} (M : MS h m) (hs : 0 ≤ s) (hc : 0 ≤ c) (H : SecM (hiv h (m + 1)) s.toNat c.toNat l) (hp : 0 ≤ p ∧ p < l.length) (hq : 0 ≤ q ∧ q < l.length)
    (k : ∀ R' : Nat → Int, SecM R' s.toNat c.toNat (mv l p.toNat q.toNat) → (∀ j, offS s.toNat c.toNat j → R' j = hiv h (m + 1) j) → Q (.inl none, sa h (m + 1) R')) : amT mX8_shifts 0 [vR m, vI s, vI c, vI p, vI q] [] h Q := by
  obtain ⟨e0, he⟩ : ∃ e0, l[p.toNat]? = some e0 := ⟨_, List.getElem?_eq_getElem (by omega)⟩
  rw [mv_some he] at k
  have e := m_shifts (Q := Q) (p := p.toNat) (q := q.toNat) M H he (by omega) k
  rw [cI hs, cI hc, cI hp.1, cI hq.1] at e
  exact e
theorem m_copiesI {a b : Int} (M : MS h m) (ha : 0 ≤ a ∧ a ≤ 34) (hb : 0 ≤ b ∧ b ≤ 34) (k : Q (.inl none, sa h (m + 1) (cpF (hiv h (m + 1)) a.toNat b.toNat))) : amT mX8_copies 0 [vR m, vI a, vI b] [] h Q := by
  have e := m_copies (Q := Q) (a := a.toNat) (b := b.toNat) M (by omega) (by omega) k
  rw [cI ha.1, cI hb.1] at e
  exact e
theorem ModR.sec (H : ModR (hiv h) m S) (hs : 0 ≤ s ∧ s ≤ 2) (hc : 0 ≤ c ∧ c ≤ 2) : SecM (hiv h (m + 1)) s.toNat c.toNat (sec S s c) := (H.1 s.toNat (by omega)).1 c.toNat (by omega)
theorem ModR.op (H : ModR (hiv h) m S) (HS : okS S) (hs : 0 ≤ s ∧ s ≤ 2) : hiv h (m + 2) s.toNat = S.2.1 s.toNat ∧ (S.2.1 s.toNat = 0 ∨ S.2.1 s.toNat = 1) := ⟨(H.2.1 s.toNat (by omega)).1, (HS.2.1 s.toNat (by omega)).1⟩
theorem MO.secw {r : Res} {b : Int} {R' : Nat → Int} {l' : List Ent} (H : ModR (hiv h) m S) (hs : 0 ≤ s ∧ s ≤ 2) (hc : 0 ≤ c ∧ c ≤ 2) (H' : SecM R' s.toNat c.toNat l') (hf : ∀ j, offS s.toNat c.toNat j → R' j = hiv (hwi h m 17 0) (m + 1) j)
    (hr : r = (0, b, uSec S s c l')) : MO r (hiv h) (hiv (sa (hwi h m 17 0) (m + 1) R')) m b := by
  rw [hr]
  have e1 : hiv (sa (hwi h m 17 0) (m + 1) R') (m + 1) = R' := hiv_sa
  have hf : ∀ j, offS s.toNat c.toNat j → R' j = hiv h (m + 1) j := fun j hj => (hf j hj).trans (if_neg (by omega))
  have e2 : ∀ a j, a ≠ m + 1 → ¬ (a = m ∧ j = 17) → hiv (sa (hwi h m 17 0) (m + 1) R') a j = hiv h a j := fun a j h1 h2 => (if_neg h1).trans (if_neg h2)
  refine ⟨H.sl ⟨fun a h1 h2 _ => funext fun j => e2 a j h2 (by omega), fun j _ h2 => e2 m j (by omega) (by omega)⟩ _ fun i hi => ?_, ?_, fun _ => rfl, fun a ha => funext fun j => e2 a j (by omega) (by omega)⟩
  · rw [e1]
    show CfgM R' i (if i = s.toNat then upS (S.1 s.toNat) c.toNat l' else S.1 i)
    split
    · rename_i h
      rw [h]
      exact (H.1 _ (by omega)).sec (by omega) H' hf
    · rename_i h
      exact (H.1 i hi).fr fun j h1 h2 => hf j (offS_ne h (by omega) h1 h2)
  · exact (if_neg (by omega)).trans (if_pos ⟨rfl, rfl⟩)
end M5
section M6
variable {h : aH} {m : Nat} {S : St} {Q : aR → Prop}
theorem mc_add {c s y p : Int} (M : MS h m) (H : ModR (hiv h) m S) (HS : okS S) (k : ∀ I' b, MO (sp_add S c s y p) (hiv h) I' m b → Q (.inl (some (vI b)), hI h I')) : amT mX8_add 0 [vR m, vI c, vI s, vI y, vI p] [] h Q := by
  have h0 := M.o
  have g1 := M.2.2.2.1
  have g2 := M.2.2.2.2.1
  have M1 : MS (hwi h m 17 0) m := M
  have H1 : ModR (hiv (hwi h m 17 0)) m S := H.th
  have act : (0 ≤ c ∧ c ≤ 2) → ((0 ≤ s ∧ s ≤ 2) ∧ 0 ≤ y ∧ y ≤ 9) → amT mX8_add 33 [vR m, vI c, vI s, vI y, vI p] [] (hwi h m 17 0) Q := by
    intro hc hs
    obtain ⟨q1, q2⟩ := H1.op HS hc
    have hl := (HS.scl hc hs.1).1
    refine kr_aload_n (pc := 33) dX8_add_33 rfl ?_
    refine kr_getr (pc := 34) dX8_add_34 rfl rfl (by assumption) (by assumption) ?_
    refine kr_iload_n (pc := 37) dX8_add_37 rfl ?_
    refine kr_iald (pc := 38) dX8_add_38 (by assumption) (by omega) (by omega) rfl ?_
    rw [q1]
    refine kr_if_eq (pc := 39) dX8_add_39 rfl (fun h39 => ?_) (fun h39 => ?_)
    · refine kr_aload_n (pc := 64) dX8_add_64 rfl ?_
      refine kr_iconst (pc := 65) dX8_add_65 (by decide) ?_
      refine kr_v1 (pc := 66) dX8_add_66 rfl rfl (by assumption) (Nat.le_of_ble_eq_true rfl) rfl (m_fails M1 ?_)
      show amT _ _ _ _ _ _
      refine kr_ireturn (pc := 69) dX8_add_69 rfl ?_
      first | exact k _ _ (MO.secw H hc hs.1 H2 hf (by unfold sp_add; rw [if_neg (by omega), if_neg (by omega), if_neg (by omega), e6]; rfl)) | exact k _ _ (MO.errw2 (t := 2) H (by unfold sp_add; rw [if_neg (by omega), if_pos (by omega)]) (by decide)) | exact k _ _ (MO.errw2 (t := 3) H (by unfold sp_add; rw [if_neg (by omega), if_neg (by omega), if_pos (by omega)]) (by decide))
    · refine kr_aload_n (pc := 42) dX8_add_42 rfl ?_
      refine kr_iload_n (pc := 43) dX8_add_43 rfl ?_
      refine kr_iload_n (pc := 44) dX8_add_44 rfl ?_
      refine kr_iload_n (pc := 45) dX8_add_45 rfl ?_
      refine kr_v3 (pc := 46) dX8_add_46 rfl rfl (by assumption) (Nat.le_of_ble_eq_true rfl) rfl rfl rfl (m_findI M1 (by omega) (by omega) (H1.sec (by omega) (by omega)) ?_)
      show amT _ _ _ _ _ _
      refine kr_iconst (pc := 49) dX8_add_49 (by decide) ?_
      refine kr_icmp_ne (pc := 50) dX8_add_50 rfl (fun h50 => ?_) (fun h50 => ?_)
      · refine kr_aload_n (pc := 64) dX8_add_64 rfl ?_
        refine kr_iconst (pc := 65) dX8_add_65 (by decide) ?_
        refine kr_v1 (pc := 66) dX8_add_66 rfl rfl (by assumption) (Nat.le_of_ble_eq_true rfl) rfl (m_fails M1 ?_)
        show amT _ _ _ _ _ _
        refine kr_ireturn (pc := 69) dX8_add_69 rfl ?_
        first | exact k _ _ (MO.secw H hc hs.1 H2 hf (by unfold sp_add; rw [if_neg (by omega), if_neg (by omega), if_neg (by omega), e6]; rfl)) | exact k _ _ (MO.errw2 (t := 2) H (by unfold sp_add; rw [if_neg (by omega), if_pos (by omega)]) (by decide)) | exact k _ _ (MO.errw2 (t := 3) H (by unfold sp_add; rw [if_neg (by omega), if_neg (by omega), if_pos (by omega)]) (by decide))
      · refine kr_aload_n (pc := 53) dX8_add_53 rfl ?_
        refine kr_iload_n (pc := 54) dX8_add_54 rfl ?_
        refine kr_iload_n (pc := 55) dX8_add_55 rfl ?_
        refine kr_v2 (pc := 56) dX8_add_56 rfl rfl (by assumption) (Nat.le_of_ble_eq_true rfl) rfl rfl (m_manyI M1 (by omega) (by omega) (H1.sec (by omega) (by omega)) ?_)
        show amT _ _ _ _ _ _
        refine kr_bipush (pc := 59) dX8_add_59 (by decide) ?_
        refine kr_icmp_ne (pc := 61) dX8_add_61 rfl (fun h61 => ?_) (fun h61 => ?_)
        · refine kr_iload (pc := 70) dX8_add_70 rfl ?_
          refine kr_iconst (pc := 72) dX8_add_72 (by decide) ?_
          refine kr_aload_n (pc := 73) dX8_add_73 rfl ?_
          refine kr_iload_n (pc := 74) dX8_add_74 rfl ?_
          refine kr_iload_n (pc := 75) dX8_add_75 rfl ?_
          refine kr_v2 (pc := 76) dX8_add_76 rfl rfl (by assumption) (Nat.le_of_ble_eq_true rfl) rfl rfl (m_manyI M1 (by omega) (by omega) (H1.sec (by omega) (by omega)) ?_)
          show amT _ _ _ _ _ _
          refine kr_s3 (pc := 79) dX8_add_79 rfl rfl (Nat.le_of_ble_eq_true rfl) rfl rfl rfl (m_in2 (fun c79 => ?_) (fun c79 => ?_))
          · show amT _ _ _ _ _ _
            refine kr_if_ne (pc := 82) dX8_add_82 rfl (fun _ => ?_) (fun h => absurd h (by decide))
            refine kr_aload_n (pc := 91) dX8_add_91 rfl ?_
            refine kr_iload_n (pc := 92) dX8_add_92 rfl ?_
            refine kr_iload_n (pc := 93) dX8_add_93 rfl ?_
            refine kr_iload (pc := 94) dX8_add_94 rfl ?_
            refine kr_iload_n (pc := 96) dX8_add_96 rfl ?_
            rw [show y = pk (y, -1, -1, -1) by unfold pk; dsimp only; omega]
            refine kr_v4 (pc := 97) dX8_add_97 rfl rfl (by assumption) (Nat.le_of_ble_eq_true rfl) rfl rfl rfl rfl (m_putsI (e0 := (y, -1, -1, -1)) M1 (by omega) (by omega) (H1.sec (by omega) (by omega)) (by omega) (by omega) (by unfold okE; dsimp only; omega) fun R' H2 hf => ?_)
            show amT _ _ _ _ _ _
            have M2 : MS (sa (hwi h m 17 0) (m + 1) R') m := M
            have e6 : ((sec S c s).insertIdx p.toNat (y, -1, -1, -1)).length = (sec S c s).length + 1 := List.length_insertIdx_of_le_length (by omega) _
            have H2' : SecM (hiv (sa (hwi h m 17 0) (m + 1) R') (m + 1)) c.toNat s.toNat ((sec S c s).insertIdx p.toNat (y, -1, -1, -1)) := by (rw [hiv_sa]; exact H2)
            refine kr_aload_n (pc := 100) dX8_add_100 rfl ?_
            refine kr_iload_n (pc := 101) dX8_add_101 rfl ?_
            refine kr_iload_n (pc := 102) dX8_add_102 rfl ?_
            refine kr_v2 (pc := 103) dX8_add_103 rfl rfl (by assumption) (Nat.le_of_ble_eq_true rfl) rfl rfl (m_manyI M2 (by omega) (by omega) H2' ?_)
            show amT _ _ _ _ _ _
            refine kr_ireturn (pc := 106) dX8_add_106 rfl ?_
            first | exact k _ _ (MO.secw H hc hs.1 H2 hf (by unfold sp_add; rw [if_neg (by omega), if_neg (by omega), if_neg (by omega), e6]; rfl)) | exact k _ _ (MO.errw2 (t := 2) H (by unfold sp_add; rw [if_neg (by omega), if_pos (by omega)]) (by decide)) | exact k _ _ (MO.errw2 (t := 3) H (by unfold sp_add; rw [if_neg (by omega), if_neg (by omega), if_pos (by omega)]) (by decide))
          · show amT _ _ _ _ _ _
            refine kr_if_ne (pc := 82) dX8_add_82 rfl (fun h => absurd h (by decide)) (fun _ => ?_)
            refine kr_aload_n (pc := 85) dX8_add_85 rfl ?_
            refine kr_iconst (pc := 86) dX8_add_86 (by decide) ?_
            refine kr_v1 (pc := 87) dX8_add_87 rfl rfl (by assumption) (Nat.le_of_ble_eq_true rfl) rfl (m_fails M1 ?_)
            show amT _ _ _ _ _ _
            refine kr_ireturn (pc := 90) dX8_add_90 rfl ?_
            first | exact k _ _ (MO.secw H hc hs.1 H2 hf (by unfold sp_add; rw [if_neg (by omega), if_neg (by omega), if_neg (by omega), e6]; rfl)) | exact k _ _ (MO.errw2 (t := 2) H (by unfold sp_add; rw [if_neg (by omega), if_pos (by omega)]) (by decide)) | exact k _ _ (MO.errw2 (t := 3) H (by unfold sp_add; rw [if_neg (by omega), if_neg (by omega), if_pos (by omega)]) (by decide))
        · refine kr_aload_n (pc := 64) dX8_add_64 rfl ?_
          refine kr_iconst (pc := 65) dX8_add_65 (by decide) ?_
          refine kr_v1 (pc := 66) dX8_add_66 rfl rfl (by assumption) (Nat.le_of_ble_eq_true rfl) rfl (m_fails M1 ?_)
          show amT _ _ _ _ _ _
          refine kr_ireturn (pc := 69) dX8_add_69 rfl ?_
          first | exact k _ _ (MO.secw H hc hs.1 H2 hf (by unfold sp_add; rw [if_neg (by omega), if_neg (by omega), if_neg (by omega), e6]; rfl)) | exact k _ _ (MO.errw2 (t := 2) H (by unfold sp_add; rw [if_neg (by omega), if_pos (by omega)]) (by decide)) | exact k _ _ (MO.errw2 (t := 3) H (by unfold sp_add; rw [if_neg (by omega), if_neg (by omega), if_pos (by omega)]) (by decide))
  refine kr_aload_n (pc := 0) dX8_add_0 rfl ?_
  refine kr_iload_n (pc := 1) dX8_add_1 rfl ?_
  refine kr_s1 (pc := 2) dX8_add_2 rfl rfl (Nat.le_of_ble_eq_true rfl) rfl (m_isC (fun c2 => ?_) (fun c2 => ?_))
  · show amT _ _ _ _ _ _
    refine kr_if_eq (pc := 5) dX8_add_5 rfl (fun h => absurd h (by decide)) (fun _ => ?_)
    refine kr_iload_n (pc := 8) dX8_add_8 rfl ?_
    refine kr_iload_n (pc := 9) dX8_add_9 rfl ?_
    refine kr_s2 (pc := 10) dX8_add_10 rfl rfl (Nat.le_of_ble_eq_true rfl) rfl rfl (m_isK (fun c10 => ?_) (fun c10 => ?_))
    · show amT _ _ _ _ _ _
      refine kr_if_eq (pc := 13) dX8_add_13 rfl (fun h => absurd h (by decide)) (fun _ => ?_)
      refine kr_iconst (pc := 16) dX8_add_16 (by decide) ?_
      refine kr_goto (pc := 17) dX8_add_17 rfl ?_
      refine kr_puti (pc := 21) dX8_add_21 rfl (Or.inl rfl) (by decide) (by assumption) ?_
      refine kr_aload_n (pc := 24) dX8_add_24 rfl ?_
      refine kr_geti (pc := 25) dX8_add_25 rfl (by decide) (by assumption) (by first | exact hiv_wi_same | assumption) ?_
      refine kr_if_le (pc := 28) dX8_add_28 rfl (fun _ => ?_) (fun h => absurd h (by decide))
      exact act c2 c10
    · show amT _ _ _ _ _ _
      refine kr_if_eq (pc := 13) dX8_add_13 rfl (fun _ => ?_) (fun h => absurd h (by decide))
      refine kr_iconst (pc := 20) dX8_add_20 (by decide) ?_
      refine kr_puti (pc := 21) dX8_add_21 rfl (Or.inl rfl) (by decide) (by assumption) ?_
      refine kr_aload_n (pc := 24) dX8_add_24 rfl ?_
      refine kr_geti (pc := 25) dX8_add_25 rfl (by decide) (by assumption) (by first | exact hiv_wi_same | assumption) ?_
      refine kr_if_le (pc := 28) dX8_add_28 rfl (fun h => absurd h (by decide)) (fun _ => ?_)
      refine kr_iconst (pc := 31) dX8_add_31 (by decide) ?_
      refine kr_ireturn (pc := 32) dX8_add_32 rfl ?_
      exact k _ _ (MO.errw (t := 1) H (by unfold sp_add; rw [if_pos (by omega)]) (by decide))
  · show amT _ _ _ _ _ _
    refine kr_if_eq (pc := 5) dX8_add_5 rfl (fun _ => ?_) (fun h => absurd h (by decide))
    refine kr_iconst (pc := 20) dX8_add_20 (by decide) ?_
    refine kr_puti (pc := 21) dX8_add_21 rfl (Or.inl rfl) (by decide) (by assumption) ?_
    refine kr_aload_n (pc := 24) dX8_add_24 rfl ?_
    refine kr_geti (pc := 25) dX8_add_25 rfl (by decide) (by assumption) (by first | exact hiv_wi_same | assumption) ?_
    refine kr_if_le (pc := 28) dX8_add_28 rfl (fun h => absurd h (by decide)) (fun _ => ?_)
    refine kr_iconst (pc := 31) dX8_add_31 (by decide) ?_
    refine kr_ireturn (pc := 32) dX8_add_32 rfl ?_
    exact k _ _ (MO.errw (t := 1) H (by unfold sp_add; rw [if_pos (by omega)]) (by decide))
theorem m_entry {c s y t : Int} (M : MS h m) (H : ModR (hiv h) m S) (HS : okS S) (k1 : ¬ ((0 ≤ c ∧ c ≤ 2) ∧ (0 ≤ s ∧ s ≤ 2) ∧ 0 ≤ y ∧ y ≤ 9) → Q (.inl (some (vI (-1))), hwi h m 17 1))
    (k2 : ((0 ≤ c ∧ c ≤ 2) ∧ (0 ≤ s ∧ s ≤ 2) ∧ 0 ≤ y ∧ y ≤ 9) → (S.2.1 c.toNat = 0 ∨ kix (sec S c s) y = -1) → Q (.inl (some (vI (-1))), hwi h m 17 t))
    (k3 : ((0 ≤ c ∧ c ≤ 2) ∧ (0 ≤ s ∧ s ≤ 2) ∧ 0 ≤ y ∧ y ≤ 9) → ¬ (S.2.1 c.toNat = 0 ∨ kix (sec S c s) y = -1) → Q (.inl (some (vI (kix (sec S c s) y))), hwi h m 17 0)) : amT mX8_entry 0 [vR m, vI c, vI s, vI y, vI t] [] h Q := by
  have h0 := M.o
  have g1 := M.2.2.2.1
  have g2 := M.2.2.2.2.1
  have M1 : MS (hwi h m 17 0) m := M
  have H1 : ModR (hiv (hwi h m 17 0)) m S := H.th
  refine kr_aload_n (pc := 0) dX8_entry_0 rfl ?_
  refine kr_iload_n (pc := 1) dX8_entry_1 rfl ?_
  refine kr_s1 (pc := 2) dX8_entry_2 rfl rfl (Nat.le_of_ble_eq_true rfl) rfl (m_isC (fun c2 => ?_) (fun c2 => ?_))
  · show amT _ _ _ _ _ _
    refine kr_if_eq (pc := 5) dX8_entry_5 rfl (fun h => absurd h (by decide)) (fun _ => ?_)
    refine kr_iload_n (pc := 8) dX8_entry_8 rfl ?_
    refine kr_iload_n (pc := 9) dX8_entry_9 rfl ?_
    refine kr_s2 (pc := 10) dX8_entry_10 rfl rfl (Nat.le_of_ble_eq_true rfl) rfl rfl (m_isK (fun c10 => ?_) (fun c10 => ?_))
    · show amT _ _ _ _ _ _
      refine kr_if_eq (pc := 13) dX8_entry_13 rfl (fun h => absurd h (by decide)) (fun _ => ?_)
      refine kr_iconst (pc := 16) dX8_entry_16 (by decide) ?_
      refine kr_goto (pc := 17) dX8_entry_17 rfl ?_
      refine kr_puti (pc := 21) dX8_entry_21 rfl (Or.inl rfl) (by decide) (by assumption) ?_
      refine kr_aload_n (pc := 24) dX8_entry_24 rfl ?_
      refine kr_geti (pc := 25) dX8_entry_25 rfl (by decide) (by assumption) (by first | exact hiv_wi_same | assumption) ?_
      refine kr_if_ne (pc := 28) dX8_entry_28 rfl (fun h => absurd h (by decide)) (fun _ => ?_)
      refine kr_aload_n (pc := 31) dX8_entry_31 rfl ?_
      refine kr_getr (pc := 32) dX8_entry_32 rfl rfl (by assumption) (by assumption) ?_
      refine kr_iload_n (pc := 35) dX8_entry_35 rfl ?_
      refine kr_iald (pc := 36) dX8_entry_36 (by assumption) (by omega) (by omega) rfl ?_
      refine kr_iconst (pc := 37) dX8_entry_37 (by decide) ?_
      obtain ⟨q1, q2⟩ := H1.op HS c2
      rw [q1]
      refine kr_icmp_ne (pc := 38) dX8_entry_38 rfl (fun h38 => ?_) (fun h38 => ?_)
      · refine kr_iconst (pc := 51) dX8_entry_51 (by decide) ?_
        refine kr_istore (pc := 52) dX8_entry_52 (show 5 ≤ _ from by simp) (by decide) ?_
        simp only [stl, List.tail_cons, List.tail_nil]
        refine kr_aload_n (pc := 54) dX8_entry_54 rfl ?_
        refine kr_aload_n (pc := 55) dX8_entry_55 rfl ?_
        refine kr_geti (pc := 56) dX8_entry_56 rfl (by decide) (by assumption) (by first | exact hiv_wi_same | assumption) ?_
        refine kr_if_ne (pc := 59) dX8_entry_59 rfl (fun h => absurd h (by decide)) (fun _ => ?_)
        refine kr_iload (pc := 62) dX8_entry_62 rfl ?_
        refine kr_iconst (pc := 64) dX8_entry_64 (by decide) ?_
        refine kr_icmp_ne (pc := 65) dX8_entry_65 rfl (fun h => absurd h (by decide)) (fun _ => ?_)
        refine kr_iload (pc := 68) dX8_entry_68 rfl ?_
        refine kr_goto (pc := 70) dX8_entry_70 rfl ?_
        refine kr_puti (pc := 77) dX8_entry_77 rfl (Or.inl rfl) (by decide) (by assumption) ?_
        refine kr_iload (pc := 80) dX8_entry_80 rfl ?_
        rw [hwi_hwi]
        refine kr_ireturn (pc := 82) dX8_entry_82 rfl ?_
        first | exact k1 (by omega) | exact k2 (by omega) (by omega) | exact k3 (by omega) (by omega) | (rw [h65]; exact k2 (by omega) (by omega))
      · refine kr_aload_n (pc := 41) dX8_entry_41 rfl ?_
        refine kr_iload_n (pc := 42) dX8_entry_42 rfl ?_
        refine kr_iload_n (pc := 43) dX8_entry_43 rfl ?_
        refine kr_iload_n (pc := 44) dX8_entry_44 rfl ?_
        refine kr_v3 (pc := 45) dX8_entry_45 rfl rfl (by assumption) (Nat.le_of_ble_eq_true rfl) rfl rfl rfl (m_findI M1 (by omega) (by omega) (H1.sec (by omega) (by omega)) ?_)
        show amT _ _ _ _ _ _
        refine kr_goto (pc := 48) dX8_entry_48 rfl ?_
        refine kr_istore (pc := 52) dX8_entry_52 (show 5 ≤ _ from by simp) (by decide) ?_
        simp only [stl, List.tail_cons, List.tail_nil]
        refine kr_aload_n (pc := 54) dX8_entry_54 rfl ?_
        refine kr_aload_n (pc := 55) dX8_entry_55 rfl ?_
        refine kr_geti (pc := 56) dX8_entry_56 rfl (by decide) (by assumption) (by first | exact hiv_wi_same | assumption) ?_
        refine kr_if_ne (pc := 59) dX8_entry_59 rfl (fun h => absurd h (by decide)) (fun _ => ?_)
        refine kr_iload (pc := 62) dX8_entry_62 rfl ?_
        refine kr_iconst (pc := 64) dX8_entry_64 (by decide) ?_
        refine kr_icmp_ne (pc := 65) dX8_entry_65 rfl (fun h65 => ?_) (fun h65 => ?_)
        · refine kr_aload_n (pc := 73) dX8_entry_73 rfl ?_
          refine kr_geti (pc := 74) dX8_entry_74 rfl (by decide) (by assumption) (by first | exact hiv_wi_same | assumption) ?_
          refine kr_puti (pc := 77) dX8_entry_77 rfl (Or.inl rfl) (by decide) (by assumption) ?_
          refine kr_iload (pc := 80) dX8_entry_80 rfl ?_
          rw [hwi_hwi]
          refine kr_ireturn (pc := 82) dX8_entry_82 rfl ?_
          first | exact k1 (by omega) | exact k2 (by omega) (by omega) | exact k3 (by omega) (by omega) | (rw [h65]; exact k2 (by omega) (by omega))
        · refine kr_iload (pc := 68) dX8_entry_68 rfl ?_
          refine kr_goto (pc := 70) dX8_entry_70 rfl ?_
          refine kr_puti (pc := 77) dX8_entry_77 rfl (Or.inl rfl) (by decide) (by assumption) ?_
          refine kr_iload (pc := 80) dX8_entry_80 rfl ?_
          rw [hwi_hwi]
          refine kr_ireturn (pc := 82) dX8_entry_82 rfl ?_
          first | exact k1 (by omega) | exact k2 (by omega) (by omega) | exact k3 (by omega) (by omega) | (rw [h65]; exact k2 (by omega) (by omega))
    · show amT _ _ _ _ _ _
      refine kr_if_eq (pc := 13) dX8_entry_13 rfl (fun _ => ?_) (fun h => absurd h (by decide))
      refine kr_iconst (pc := 20) dX8_entry_20 (by decide) ?_
      refine kr_puti (pc := 21) dX8_entry_21 rfl (Or.inl rfl) (by decide) (by assumption) ?_
      refine kr_aload_n (pc := 24) dX8_entry_24 rfl ?_
      refine kr_geti (pc := 25) dX8_entry_25 rfl (by decide) (by assumption) (by first | exact hiv_wi_same | assumption) ?_
      refine kr_if_ne (pc := 28) dX8_entry_28 rfl (fun _ => ?_) (fun h => absurd h (by decide))
      refine kr_iconst (pc := 51) dX8_entry_51 (by decide) ?_
      refine kr_istore (pc := 52) dX8_entry_52 (show 5 ≤ _ from by simp) (by decide) ?_
      simp only [stl, List.tail_cons, List.tail_nil]
      refine kr_aload_n (pc := 54) dX8_entry_54 rfl ?_
      refine kr_aload_n (pc := 55) dX8_entry_55 rfl ?_
      refine kr_geti (pc := 56) dX8_entry_56 rfl (by decide) (by assumption) (by first | exact hiv_wi_same | assumption) ?_
      refine kr_if_ne (pc := 59) dX8_entry_59 rfl (fun _ => ?_) (fun h => absurd h (by decide))
      refine kr_aload_n (pc := 73) dX8_entry_73 rfl ?_
      refine kr_geti (pc := 74) dX8_entry_74 rfl (by decide) (by assumption) (by first | exact hiv_wi_same | assumption) ?_
      refine kr_puti (pc := 77) dX8_entry_77 rfl (Or.inl rfl) (by decide) (by assumption) ?_
      refine kr_iload (pc := 80) dX8_entry_80 rfl ?_
      rw [hwi_hwi]
      refine kr_ireturn (pc := 82) dX8_entry_82 rfl ?_
      first | exact k1 (by omega) | exact k2 (by omega) (by omega) | exact k3 (by omega) (by omega) | (rw [h65]; exact k2 (by omega) (by omega))
  · show amT _ _ _ _ _ _
    refine kr_if_eq (pc := 5) dX8_entry_5 rfl (fun _ => ?_) (fun h => absurd h (by decide))
    refine kr_iconst (pc := 20) dX8_entry_20 (by decide) ?_
    refine kr_puti (pc := 21) dX8_entry_21 rfl (Or.inl rfl) (by decide) (by assumption) ?_
    refine kr_aload_n (pc := 24) dX8_entry_24 rfl ?_
    refine kr_geti (pc := 25) dX8_entry_25 rfl (by decide) (by assumption) (by first | exact hiv_wi_same | assumption) ?_
    refine kr_if_ne (pc := 28) dX8_entry_28 rfl (fun _ => ?_) (fun h => absurd h (by decide))
    refine kr_iconst (pc := 51) dX8_entry_51 (by decide) ?_
    refine kr_istore (pc := 52) dX8_entry_52 (show 5 ≤ _ from by simp) (by decide) ?_
    simp only [stl, List.tail_cons, List.tail_nil]
    refine kr_aload_n (pc := 54) dX8_entry_54 rfl ?_
    refine kr_aload_n (pc := 55) dX8_entry_55 rfl ?_
    refine kr_geti (pc := 56) dX8_entry_56 rfl (by decide) (by assumption) (by first | exact hiv_wi_same | assumption) ?_
    refine kr_if_ne (pc := 59) dX8_entry_59 rfl (fun _ => ?_) (fun h => absurd h (by decide))
    refine kr_aload_n (pc := 73) dX8_entry_73 rfl ?_
    refine kr_geti (pc := 74) dX8_entry_74 rfl (by decide) (by assumption) (by first | exact hiv_wi_same | assumption) ?_
    refine kr_puti (pc := 77) dX8_entry_77 rfl (Or.inl rfl) (by decide) (by assumption) ?_
    refine kr_iload (pc := 80) dX8_entry_80 rfl ?_
    rw [hwi_hwi]
    refine kr_ireturn (pc := 82) dX8_entry_82 rfl ?_
    first | exact k1 (by omega) | exact k2 (by omega) (by omega) | exact k3 (by omega) (by omega) | (rw [h65]; exact k2 (by omega) (by omega))
theorem mc_remove {c s y : Int} (M : MS h m) (H : ModR (hiv h) m S) (HS : okS S) (k : ∀ I' b, MO (sp_remove S c s y) (hiv h) I' m b → Q (.inl (some (vI b)), hI h I')) : amT mX8_remove 0 [vR m, vI c, vI s, vI y] [] h Q := by
  have h0 := M.o
  have M1 : MS (hwi h m 17 0) m := M
  have H1 : ModR (hiv (hwi h m 17 0)) m S := H.th
  have hr := kix_rng (sec S c s) y
  refine kr_aload_n (pc := 0) dX8_remove_0 rfl ?_
  refine kr_iload_n (pc := 1) dX8_remove_1 rfl ?_
  refine kr_iload_n (pc := 2) dX8_remove_2 rfl ?_
  refine kr_iload_n (pc := 3) dX8_remove_3 rfl ?_
  refine kr_iconst (pc := 4) dX8_remove_4 (by decide) ?_
  refine kr_v4 (pc := 5) dX8_remove_5 rfl rfl (by assumption) (Nat.le_of_ble_eq_true rfl) rfl rfl rfl rfl (m_entry M H HS (fun c5 => ?_) (fun c5 d5 => ?_) (fun c5 d5 => ?_))
  · show amT _ _ _ _ _ _
    refine kr_istore (pc := 8) dX8_remove_8 (show 4 ≤ _ from by simp) (by decide) ?_
    simp only [stl, List.tail_cons, List.tail_nil]
    refine kr_aload_n (pc := 10) dX8_remove_10 rfl ?_
    refine kr_geti (pc := 11) dX8_remove_11 rfl (by decide) (by assumption) (by first | exact hiv_wi_same | assumption) ?_
    refine kr_if_le (pc := 14) dX8_remove_14 rfl (fun h => absurd h (by decide)) (fun _ => ?_)
    refine kr_iconst (pc := 17) dX8_remove_17 (by decide) ?_
    refine kr_ireturn (pc := 18) dX8_remove_18 rfl ?_
    first | exact k _ _ (MO.errw (t := 1) H (by unfold sp_remove; rw [if_pos (by omega)]) (by decide)) | exact k _ _ (MO.errw (t := 2) H (by unfold sp_remove; rw [if_neg (by omega), if_pos (by omega)]) (by decide)) | exact k _ _ (MO.secw H (by omega) (by omega) H2 hf (by unfold sp_remove; rw [if_neg (by omega), if_neg (by omega)]))
  · show amT _ _ _ _ _ _
    refine kr_istore (pc := 8) dX8_remove_8 (show 4 ≤ _ from by simp) (by decide) ?_
    simp only [stl, List.tail_cons, List.tail_nil]
    refine kr_aload_n (pc := 10) dX8_remove_10 rfl ?_
    refine kr_geti (pc := 11) dX8_remove_11 rfl (by decide) (by assumption) (by first | exact hiv_wi_same | assumption) ?_
    refine kr_if_le (pc := 14) dX8_remove_14 rfl (fun h => absurd h (by decide)) (fun _ => ?_)
    refine kr_iconst (pc := 17) dX8_remove_17 (by decide) ?_
    refine kr_ireturn (pc := 18) dX8_remove_18 rfl ?_
    first | exact k _ _ (MO.errw (t := 1) H (by unfold sp_remove; rw [if_pos (by omega)]) (by decide)) | exact k _ _ (MO.errw (t := 2) H (by unfold sp_remove; rw [if_neg (by omega), if_pos (by omega)]) (by decide)) | exact k _ _ (MO.secw H (by omega) (by omega) H2 hf (by unfold sp_remove; rw [if_neg (by omega), if_neg (by omega)]))
  · show amT _ _ _ _ _ _
    refine kr_istore (pc := 8) dX8_remove_8 (show 4 ≤ _ from by simp) (by decide) ?_
    simp only [stl, List.tail_cons, List.tail_nil]
    refine kr_aload_n (pc := 10) dX8_remove_10 rfl ?_
    refine kr_geti (pc := 11) dX8_remove_11 rfl (by decide) (by assumption) (by first | exact hiv_wi_same | assumption) ?_
    refine kr_if_le (pc := 14) dX8_remove_14 rfl (fun _ => ?_) (fun h => absurd h (by decide))
    refine kr_aload_n (pc := 19) dX8_remove_19 rfl ?_
    refine kr_iload_n (pc := 20) dX8_remove_20 rfl ?_
    refine kr_iload_n (pc := 21) dX8_remove_21 rfl ?_
    refine kr_iload (pc := 22) dX8_remove_22 rfl ?_
    refine kr_v3 (pc := 24) dX8_remove_24 rfl rfl (by assumption) (Nat.le_of_ble_eq_true rfl) rfl rfl rfl (m_takesI M1 (by omega) (by omega) (H1.sec (by omega) (by omega)) (by omega) fun R' H2 hf => ?_)
    show amT _ _ _ _ _ _
    refine kr_iload (pc := 27) dX8_remove_27 rfl ?_
    refine kr_ireturn (pc := 29) dX8_remove_29 rfl ?_
    first | exact k _ _ (MO.errw (t := 1) H (by unfold sp_remove; rw [if_pos (by omega)]) (by decide)) | exact k _ _ (MO.errw (t := 2) H (by unfold sp_remove; rw [if_neg (by omega), if_pos (by omega)]) (by decide)) | exact k _ _ (MO.secw H (by omega) (by omega) H2 hf (by unfold sp_remove; rw [if_neg (by omega), if_neg (by omega)]))
theorem mc_move {c s y p : Int} (M : MS h m) (H : ModR (hiv h) m S) (HS : okS S) (k : ∀ I' b, MO (sp_move S c s y p) (hiv h) I' m b → Q (.inl (some (vI b)), hI h I')) : amT mX8_move 0 [vR m, vI c, vI s, vI y, vI p] [] h Q := by
  have h0 := M.o
  have M1 : MS (hwi h m 17 0) m := M
  have H1 : ModR (hiv (hwi h m 17 0)) m S := H.th
  have hr := kix_rng (sec S c s) y
  refine kr_aload_n (pc := 0) dX8_move_0 rfl ?_
  refine kr_iload_n (pc := 1) dX8_move_1 rfl ?_
  refine kr_iload_n (pc := 2) dX8_move_2 rfl ?_
  refine kr_iload_n (pc := 3) dX8_move_3 rfl ?_
  refine kr_iconst (pc := 4) dX8_move_4 (by decide) ?_
  refine kr_v4 (pc := 5) dX8_move_5 rfl rfl (by assumption) (Nat.le_of_ble_eq_true rfl) rfl rfl rfl rfl (m_entry M H HS (fun c5 => ?_) (fun c5 d5 => ?_) (fun c5 d5 => ?_))
  · show amT _ _ _ _ _ _
    refine kr_istore (pc := 8) dX8_move_8 (show 5 ≤ _ from by simp) (by decide) ?_
    simp only [stl, List.tail_cons, List.tail_nil]
    refine kr_aload_n (pc := 10) dX8_move_10 rfl ?_
    refine kr_geti (pc := 11) dX8_move_11 rfl (by decide) (by assumption) (by first | exact hiv_wi_same | assumption) ?_
    refine kr_if_le (pc := 14) dX8_move_14 rfl (fun h => absurd h (by decide)) (fun _ => ?_)
    refine kr_iconst (pc := 17) dX8_move_17 (by decide) ?_
    refine kr_ireturn (pc := 18) dX8_move_18 rfl ?_
    first | exact k _ _ (MO.errw (t := 1) H (by unfold sp_move; rw [if_pos (by omega)]) (by decide)) | exact k _ _ (MO.errw (t := 2) H (by unfold sp_move; rw [if_neg (by omega), if_pos (by omega)]) (by decide)) | exact k _ _ (MO.errw2 (t := 3) H (by unfold sp_move; rw [if_neg (by omega), if_neg (by omega), if_pos (by omega)]) (by decide)) | exact k _ _ (MO.secw H (by omega) (by omega) H2 hf (by unfold sp_move; rw [if_neg (by omega), if_neg (by omega), if_neg (by omega)]))
  · show amT _ _ _ _ _ _
    refine kr_istore (pc := 8) dX8_move_8 (show 5 ≤ _ from by simp) (by decide) ?_
    simp only [stl, List.tail_cons, List.tail_nil]
    refine kr_aload_n (pc := 10) dX8_move_10 rfl ?_
    refine kr_geti (pc := 11) dX8_move_11 rfl (by decide) (by assumption) (by first | exact hiv_wi_same | assumption) ?_
    refine kr_if_le (pc := 14) dX8_move_14 rfl (fun h => absurd h (by decide)) (fun _ => ?_)
    refine kr_iconst (pc := 17) dX8_move_17 (by decide) ?_
    refine kr_ireturn (pc := 18) dX8_move_18 rfl ?_
    first | exact k _ _ (MO.errw (t := 1) H (by unfold sp_move; rw [if_pos (by omega)]) (by decide)) | exact k _ _ (MO.errw (t := 2) H (by unfold sp_move; rw [if_neg (by omega), if_pos (by omega)]) (by decide)) | exact k _ _ (MO.errw2 (t := 3) H (by unfold sp_move; rw [if_neg (by omega), if_neg (by omega), if_pos (by omega)]) (by decide)) | exact k _ _ (MO.secw H (by omega) (by omega) H2 hf (by unfold sp_move; rw [if_neg (by omega), if_neg (by omega), if_neg (by omega)]))
  · show amT _ _ _ _ _ _
    refine kr_istore (pc := 8) dX8_move_8 (show 5 ≤ _ from by simp) (by decide) ?_
    simp only [stl, List.tail_cons, List.tail_nil]
    refine kr_aload_n (pc := 10) dX8_move_10 rfl ?_
    refine kr_geti (pc := 11) dX8_move_11 rfl (by decide) (by assumption) (by first | exact hiv_wi_same | assumption) ?_
    refine kr_if_le (pc := 14) dX8_move_14 rfl (fun _ => ?_) (fun h => absurd h (by decide))
    refine kr_iload (pc := 19) dX8_move_19 rfl ?_
    refine kr_iconst (pc := 21) dX8_move_21 (by decide) ?_
    refine kr_aload_n (pc := 22) dX8_move_22 rfl ?_
    refine kr_iload_n (pc := 23) dX8_move_23 rfl ?_
    refine kr_iload_n (pc := 24) dX8_move_24 rfl ?_
    have hl := (HS.scl (c := c) (s := s) (by omega) (by omega)).1
    refine kr_v2 (pc := 25) dX8_move_25 rfl rfl (by assumption) (Nat.le_of_ble_eq_true rfl) rfl rfl (m_manyI M1 (by omega) (by omega) (H1.sec (by omega) (by omega)) ?_)
    show amT _ _ _ _ _ _
    refine kr_iconst (pc := 28) dX8_move_28 (by decide) ?_
    refine kr_isub (pc := 29) dX8_move_29 ⟨by omega, by omega⟩ ?_
    refine kr_s3 (pc := 30) dX8_move_30 rfl rfl (Nat.le_of_ble_eq_true rfl) rfl rfl rfl (m_in2 (fun c30 => ?_) (fun c30 => ?_))
    · show amT _ _ _ _ _ _
      refine kr_if_ne (pc := 33) dX8_move_33 rfl (fun _ => ?_) (fun h => absurd h (by decide))
      refine kr_aload_n (pc := 42) dX8_move_42 rfl ?_
      refine kr_iload_n (pc := 43) dX8_move_43 rfl ?_
      refine kr_iload_n (pc := 44) dX8_move_44 rfl ?_
      refine kr_iload (pc := 45) dX8_move_45 rfl ?_
      refine kr_iload (pc := 47) dX8_move_47 rfl ?_
      refine kr_v4 (pc := 49) dX8_move_49 rfl rfl (by assumption) (Nat.le_of_ble_eq_true rfl) rfl rfl rfl rfl (m_shiftsI M1 (by omega) (by omega) (H1.sec (by omega) (by omega)) (by omega) (by omega) fun R' H2 hf => ?_)
      show amT _ _ _ _ _ _
      refine kr_iload (pc := 52) dX8_move_52 rfl ?_
      refine kr_ireturn (pc := 54) dX8_move_54 rfl ?_
      first | exact k _ _ (MO.errw (t := 1) H (by unfold sp_move; rw [if_pos (by omega)]) (by decide)) | exact k _ _ (MO.errw (t := 2) H (by unfold sp_move; rw [if_neg (by omega), if_pos (by omega)]) (by decide)) | exact k _ _ (MO.errw2 (t := 3) H (by unfold sp_move; rw [if_neg (by omega), if_neg (by omega), if_pos (by omega)]) (by decide)) | exact k _ _ (MO.secw H (by omega) (by omega) H2 hf (by unfold sp_move; rw [if_neg (by omega), if_neg (by omega), if_neg (by omega)]))
    · show amT _ _ _ _ _ _
      refine kr_if_ne (pc := 33) dX8_move_33 rfl (fun h => absurd h (by decide)) (fun _ => ?_)
      refine kr_aload_n (pc := 36) dX8_move_36 rfl ?_
      refine kr_iconst (pc := 37) dX8_move_37 (by decide) ?_
      refine kr_v1 (pc := 38) dX8_move_38 rfl rfl (by assumption) (Nat.le_of_ble_eq_true rfl) rfl (m_fails M1 ?_)
      show amT _ _ _ _ _ _
      refine kr_ireturn (pc := 41) dX8_move_41 rfl ?_
      first | exact k _ _ (MO.errw (t := 1) H (by unfold sp_move; rw [if_pos (by omega)]) (by decide)) | exact k _ _ (MO.errw (t := 2) H (by unfold sp_move; rw [if_neg (by omega), if_pos (by omega)]) (by decide)) | exact k _ _ (MO.errw2 (t := 3) H (by unfold sp_move; rw [if_neg (by omega), if_neg (by omega), if_pos (by omega)]) (by decide)) | exact k _ _ (MO.secw H (by omega) (by omega) H2 hf (by unfold sp_move; rw [if_neg (by omega), if_neg (by omega), if_neg (by omega)]))
theorem MO.setw {r : Res} {c s y j v : Int} (H : ModR (hiv h) m S) (HS : okS S) (hc : 0 ≤ c ∧ c ≤ 2) (hs : 0 ≤ s ∧ s ≤ 2) (hk : kix (sec S c s) y ≠ -1) (hj : 0 ≤ j ∧ j ≤ 2) (hv : -1 ≤ v ∧ v ≤ 99) (hg : j = 2 → v ≤ 2)
    (hr : r = xch S c s y j v) : MO r (hiv h) (hiv (hwi (hwi h m 17 0) (m + 1) (27 * c + 3 + 6 * s + kix (sec S c s) y).toNat (pk (ws (gt (sec S c s) y) j v)))) m (sg (gt (sec S c s) y) j) := by
  have hl := HS.scl hc hs
  obtain ⟨h1, h2⟩ := gt_at hk
  obtain ⟨h3, h4⟩ := okE_ws (hl.2.2 _ _ h1) hj hv hg
  have H1 : ModR (hiv (hwi h m 17 0)) m S := H.th
  have H2 := (H1.sec hc hs).st h1 h3
  have hrn := kix_rng (sec S c s) y
  have hll := hl.1
  have e : (27 * c + 3 + 6 * s + kix (sec S c s) y).toNat = 27 * c.toNat + 3 + 6 * s.toNat + (kix (sec S c s) y).toNat := by omega
  rw [e, hwi_of]
  refine MO.secw H hc hs H2 (fun q hq => ?_) hr
  unfold offS at hq
  exact if_neg (by omega)
theorem mc_set {c s y f v : Int} (M : MS h m) (H : ModR (hiv h) m S) (HS : okS S) (k : ∀ I' b, MO (sp_set S c s y f v) (hiv h) I' m b → Q (.inl (some (vI b)), hI h I')) : amT mX8_set 0 [vR m, vI c, vI s, vI y, vI f, vI v] [] h Q := by
  have h0 := M.o
  have g1 := M.2.1
  have g2 := M.2.2.1
  have M1 : MS (hwi h m 17 0) m := M
  have H1 : ModR (hiv (hwi h m 17 0)) m S := H.th
  have hrn := kix_rng (sec S c s) y
  have act : (0 ≤ c ∧ c ≤ 2) → (0 ≤ s ∧ s ≤ 2) → kix (sec S c s) y ≠ -1 → 0 ≤ f ∧ f ≤ 1 → -1 ≤ v ∧ v ≤ 99 → sp_set S c s y f v = xch S c s y f v → amT mX8_set 70 [vR m, vI c, vI s, vI y, vI f, vI v, vI (kix (sec S c s) y)] [] (hwi h m 17 0) Q := by
    intro hc hs hk hf hv hsp
    have hl := HS.scl hc hs
    have hll := hl.1
    obtain ⟨g3, g4⟩ := gt_at hk
    have hE := hl.2.2 _ _ g3
    obtain ⟨_, _, _, _, g5⟩ := H1.sec hc hs
    have g6 := (g5 _ _ g3).1
    have e : (27 * c + 3 + 6 * s + kix (sec S c s) y).toNat = 27 * c.toNat + 3 + 6 * s.toNat + (kix (sec S c s) y).toNat := by omega
    rw [← e] at g6
    have hfe : fieldE (gt (sec S c s) y) f = sg (gt (sec S c s) y) f := by
      unfold fieldE sg
      by_cases q : f = 0
      · rw [if_pos q, if_pos q]
      · rw [if_neg q, if_neg q, if_pos (by omega)]
    have hwe : withFE (gt (sec S c s) y) f v = ws (gt (sec S c s) y) f v := by
      unfold withFE ws
      by_cases q : f = 0
      · rw [if_pos q, if_pos q]
      · rw [if_neg q, if_neg q, if_pos (by omega)]
    refine kr_iload_n (pc := 70) dX8_set_70 rfl ?_
    refine kr_iload_n (pc := 71) dX8_set_71 rfl ?_
    refine kr_iload (pc := 72) dX8_set_72 rfl ?_
    refine kr_s3 (pc := 74) dX8_set_74 rfl rfl (Nat.le_of_ble_eq_true rfl) rfl rfl rfl (m_at ⟨by omega, by omega⟩ ⟨by omega, by omega⟩ ⟨by omega, by omega⟩ ?_)
    show amT _ _ _ _ _ _
    refine kr_istore (pc := 77) dX8_set_77 (show 7 ≤ _ from by simp) (by decide) ?_
    simp only [stl, List.tail_cons, List.tail_nil]
    refine kr_aload_n (pc := 79) dX8_set_79 rfl ?_
    refine kr_getr (pc := 80) dX8_set_80 rfl rfl (by assumption) (by assumption) ?_
    refine kr_iload (pc := 83) dX8_set_83 rfl ?_
    refine kr_iald (pc := 85) dX8_set_85 (by assumption) (by omega) (by omega) rfl ?_
    rw [g6]
    refine kr_iload (pc := 86) dX8_set_86 rfl ?_
    refine kr_s2 (pc := 88) dX8_set_88 rfl rfl (Nat.le_of_ble_eq_true rfl) rfl rfl (m_field hE (by omega) ?_)
    show amT _ _ _ _ _ _
    refine kr_iconst (pc := 91) dX8_set_91 (by decide) ?_
    have hE2 := hE
    unfold okE at hE2
    have hfr : -1 ≤ fieldE (gt (sec S c s) y) f ∧ fieldE (gt (sec S c s) y) f ≤ 99 := by (unfold fieldE; split <;> omega)
    refine kr_isub (pc := 92) dX8_set_92 ⟨by omega, by omega⟩ ?_
    refine kr_istore (pc := 93) dX8_set_93 (show 8 ≤ _ from by simp) (by decide) ?_
    simp only [stl, List.tail_cons, List.tail_nil]
    refine kr_aload_n (pc := 95) dX8_set_95 rfl ?_
    refine kr_getr (pc := 96) dX8_set_96 rfl rfl (by assumption) (by assumption) ?_
    refine kr_iload (pc := 99) dX8_set_99 rfl ?_
    refine kr_aload_n (pc := 101) dX8_set_101 rfl ?_
    refine kr_getr (pc := 102) dX8_set_102 rfl rfl (by assumption) (by assumption) ?_
    refine kr_iload (pc := 105) dX8_set_105 rfl ?_
    refine kr_iald (pc := 107) dX8_set_107 (by assumption) (by omega) (by omega) rfl ?_
    rw [g6]
    refine kr_iload (pc := 108) dX8_set_108 rfl ?_
    refine kr_iload (pc := 110) dX8_set_110 rfl ?_
    refine kr_iconst (pc := 112) dX8_set_112 (by decide) ?_
    refine kr_iadd (pc := 113) dX8_set_113 ⟨by omega, by omega⟩ ?_
    refine kr_s3 (pc := 114) dX8_set_114 rfl rfl (Nat.le_of_ble_eq_true rfl) rfl rfl rfl (m_withField hE (by omega) hv ?_)
    show amT _ _ _ _ _ _
    refine kr_iast (pc := 117) dX8_set_117 (by assumption) (by omega) (by omega) ?_
    refine kr_iload (pc := 118) dX8_set_118 rfl ?_
    rw [hwe, hfe, show sg (gt (sec S c s) y) f + 1 - 1 = sg (gt (sec S c s) y) f by omega]
    refine kr_ireturn (pc := 120) dX8_set_120 rfl ?_
    exact k _ _ (MO.setw H HS hc hs hk (by omega) hv (by omega) hsp)
  refine kr_aload_n (pc := 0) dX8_set_0 rfl ?_
  refine kr_iload_n (pc := 1) dX8_set_1 rfl ?_
  refine kr_iload_n (pc := 2) dX8_set_2 rfl ?_
  refine kr_iload_n (pc := 3) dX8_set_3 rfl ?_
  refine kr_iconst (pc := 4) dX8_set_4 (by decide) ?_
  refine kr_v4 (pc := 5) dX8_set_5 rfl rfl (by assumption) (Nat.le_of_ble_eq_true rfl) rfl rfl rfl rfl (m_entry M H HS (fun c5 => ?_) (fun c5 d5 => ?_) (fun c5 d5 => ?_))
  · show amT _ _ _ _ _ _
    refine kr_istore (pc := 8) dX8_set_8 (show 6 ≤ _ from by simp) (by decide) ?_
    simp only [stl, List.tail_cons, List.tail_nil]
    refine kr_aload_n (pc := 10) dX8_set_10 rfl ?_
    refine kr_iload (pc := 11) dX8_set_11 rfl ?_
    refine kr_s1 (pc := 13) dX8_set_13 rfl rfl (Nat.le_of_ble_eq_true rfl) rfl (m_isF (fun c13 => ?_) (fun c13 => ?_))
    · show amT _ _ _ _ _ _
      refine kr_if_ne (pc := 16) dX8_set_16 rfl (fun _ => ?_) (fun h => absurd h (by decide))
      refine kr_aload_n (pc := 23) dX8_set_23 rfl ?_
      refine kr_geti (pc := 24) dX8_set_24 rfl (by decide) (by assumption) (by first | exact hiv_wi_same | assumption) ?_
      refine kr_puti (pc := 27) dX8_set_27 rfl (Or.inl rfl) (by decide) (by assumption) ?_
      refine kr_aload_n (pc := 30) dX8_set_30 rfl ?_
      refine kr_aload_n (pc := 31) dX8_set_31 rfl ?_
      refine kr_geti (pc := 32) dX8_set_32 rfl (by decide) (by assumption) (by first | exact hiv_wi_same | assumption) ?_
      refine kr_iconst (pc := 35) dX8_set_35 (by decide) ?_
      refine kr_icmp_eq (pc := 36) dX8_set_36 rfl (fun _ => ?_) (fun h => absurd h (by decide))
      refine kr_aload_n (pc := 54) dX8_set_54 rfl ?_
      refine kr_geti (pc := 55) dX8_set_55 rfl (by decide) (by assumption) (by first | exact hiv_wi_same | assumption) ?_
      refine kr_puti (pc := 58) dX8_set_58 rfl (Or.inl rfl) (by decide) (by assumption) ?_
      refine kr_aload_n (pc := 61) dX8_set_61 rfl ?_
      refine kr_geti (pc := 62) dX8_set_62 rfl (by decide) (by assumption) (by first | exact hiv_wi_same | assumption) ?_
      refine kr_if_le (pc := 65) dX8_set_65 rfl (fun h => absurd h (by decide)) (fun _ => ?_)
      refine kr_iconst (pc := 68) dX8_set_68 (by decide) ?_
      simp only [hwi_hwi]
      refine kr_ireturn (pc := 69) dX8_set_69 rfl ?_
      first | exact k _ _ (MO.errw (t := 1) H (by unfold sp_set; rw [if_pos (by omega)]) (by decide)) | exact k _ _ (MO.errw (t := 2) H (by unfold sp_set; rw [if_neg (by omega), if_pos (by omega)]) (by decide)) | exact k _ _ (MO.errw (t := 3) H (by unfold sp_set; rw [if_neg (by omega), if_neg (by omega), if_pos (by omega)]) (by decide))
    · show amT _ _ _ _ _ _
      refine kr_if_ne (pc := 16) dX8_set_16 rfl (fun h => absurd h (by decide)) (fun _ => ?_)
      refine kr_iconst (pc := 19) dX8_set_19 (by decide) ?_
      refine kr_goto (pc := 20) dX8_set_20 rfl ?_
      refine kr_puti (pc := 27) dX8_set_27 rfl (Or.inl rfl) (by decide) (by assumption) ?_
      refine kr_aload_n (pc := 30) dX8_set_30 rfl ?_
      refine kr_aload_n (pc := 31) dX8_set_31 rfl ?_
      refine kr_geti (pc := 32) dX8_set_32 rfl (by decide) (by assumption) (by first | exact hiv_wi_same | assumption) ?_
      refine kr_iconst (pc := 35) dX8_set_35 (by decide) ?_
      refine kr_icmp_eq (pc := 36) dX8_set_36 rfl (fun _ => ?_) (fun h => absurd h (by decide))
      refine kr_aload_n (pc := 54) dX8_set_54 rfl ?_
      refine kr_geti (pc := 55) dX8_set_55 rfl (by decide) (by assumption) (by first | exact hiv_wi_same | assumption) ?_
      refine kr_puti (pc := 58) dX8_set_58 rfl (Or.inl rfl) (by decide) (by assumption) ?_
      refine kr_aload_n (pc := 61) dX8_set_61 rfl ?_
      refine kr_geti (pc := 62) dX8_set_62 rfl (by decide) (by assumption) (by first | exact hiv_wi_same | assumption) ?_
      refine kr_if_le (pc := 65) dX8_set_65 rfl (fun h => absurd h (by decide)) (fun _ => ?_)
      refine kr_iconst (pc := 68) dX8_set_68 (by decide) ?_
      simp only [hwi_hwi]
      refine kr_ireturn (pc := 69) dX8_set_69 rfl ?_
      first | exact k _ _ (MO.errw (t := 1) H (by unfold sp_set; rw [if_pos (by omega)]) (by decide)) | exact k _ _ (MO.errw (t := 2) H (by unfold sp_set; rw [if_neg (by omega), if_pos (by omega)]) (by decide)) | exact k _ _ (MO.errw (t := 3) H (by unfold sp_set; rw [if_neg (by omega), if_neg (by omega), if_pos (by omega)]) (by decide))
  · show amT _ _ _ _ _ _
    refine kr_istore (pc := 8) dX8_set_8 (show 6 ≤ _ from by simp) (by decide) ?_
    simp only [stl, List.tail_cons, List.tail_nil]
    refine kr_aload_n (pc := 10) dX8_set_10 rfl ?_
    refine kr_iload (pc := 11) dX8_set_11 rfl ?_
    refine kr_s1 (pc := 13) dX8_set_13 rfl rfl (Nat.le_of_ble_eq_true rfl) rfl (m_isF (fun c13 => ?_) (fun c13 => ?_))
    · show amT _ _ _ _ _ _
      refine kr_if_ne (pc := 16) dX8_set_16 rfl (fun _ => ?_) (fun h => absurd h (by decide))
      refine kr_aload_n (pc := 23) dX8_set_23 rfl ?_
      refine kr_geti (pc := 24) dX8_set_24 rfl (by decide) (by assumption) (by first | exact hiv_wi_same | assumption) ?_
      refine kr_puti (pc := 27) dX8_set_27 rfl (Or.inl rfl) (by decide) (by assumption) ?_
      refine kr_aload_n (pc := 30) dX8_set_30 rfl ?_
      refine kr_aload_n (pc := 31) dX8_set_31 rfl ?_
      refine kr_geti (pc := 32) dX8_set_32 rfl (by decide) (by assumption) (by first | exact hiv_wi_same | assumption) ?_
      refine kr_iconst (pc := 35) dX8_set_35 (by decide) ?_
      refine kr_icmp_eq (pc := 36) dX8_set_36 rfl (fun h => absurd h (by decide)) (fun _ => ?_)
      refine kr_iload (pc := 39) dX8_set_39 rfl ?_
      refine kr_iconst (pc := 41) dX8_set_41 (by decide) ?_
      refine kr_bipush (pc := 42) dX8_set_42 (by decide) ?_
      refine kr_s3 (pc := 44) dX8_set_44 rfl rfl (Nat.le_of_ble_eq_true rfl) rfl rfl rfl (m_in2 (fun c44 => ?_) (fun c44 => ?_))
      · show amT _ _ _ _ _ _
        refine kr_if_ne (pc := 47) dX8_set_47 rfl (fun _ => ?_) (fun h => absurd h (by decide))
        refine kr_aload_n (pc := 54) dX8_set_54 rfl ?_
        refine kr_geti (pc := 55) dX8_set_55 rfl (by decide) (by assumption) (by first | exact hiv_wi_same | assumption) ?_
        refine kr_puti (pc := 58) dX8_set_58 rfl (Or.inl rfl) (by decide) (by assumption) ?_
        refine kr_aload_n (pc := 61) dX8_set_61 rfl ?_
        refine kr_geti (pc := 62) dX8_set_62 rfl (by decide) (by assumption) (by first | exact hiv_wi_same | assumption) ?_
        refine kr_if_le (pc := 65) dX8_set_65 rfl (fun h => absurd h (by decide)) (fun _ => ?_)
        refine kr_iconst (pc := 68) dX8_set_68 (by decide) ?_
        simp only [hwi_hwi]
        refine kr_ireturn (pc := 69) dX8_set_69 rfl ?_
        first | exact k _ _ (MO.errw (t := 1) H (by unfold sp_set; rw [if_pos (by omega)]) (by decide)) | exact k _ _ (MO.errw (t := 2) H (by unfold sp_set; rw [if_neg (by omega), if_pos (by omega)]) (by decide)) | exact k _ _ (MO.errw (t := 3) H (by unfold sp_set; rw [if_neg (by omega), if_neg (by omega), if_pos (by omega)]) (by decide))
      · show amT _ _ _ _ _ _
        refine kr_if_ne (pc := 47) dX8_set_47 rfl (fun h => absurd h (by decide)) (fun _ => ?_)
        refine kr_iconst (pc := 50) dX8_set_50 (by decide) ?_
        refine kr_goto (pc := 51) dX8_set_51 rfl ?_
        refine kr_puti (pc := 58) dX8_set_58 rfl (Or.inl rfl) (by decide) (by assumption) ?_
        refine kr_aload_n (pc := 61) dX8_set_61 rfl ?_
        refine kr_geti (pc := 62) dX8_set_62 rfl (by decide) (by assumption) (by first | exact hiv_wi_same | assumption) ?_
        refine kr_if_le (pc := 65) dX8_set_65 rfl (fun h => absurd h (by decide)) (fun _ => ?_)
        refine kr_iconst (pc := 68) dX8_set_68 (by decide) ?_
        simp only [hwi_hwi]
        refine kr_ireturn (pc := 69) dX8_set_69 rfl ?_
        first | exact k _ _ (MO.errw (t := 1) H (by unfold sp_set; rw [if_pos (by omega)]) (by decide)) | exact k _ _ (MO.errw (t := 2) H (by unfold sp_set; rw [if_neg (by omega), if_pos (by omega)]) (by decide)) | exact k _ _ (MO.errw (t := 3) H (by unfold sp_set; rw [if_neg (by omega), if_neg (by omega), if_pos (by omega)]) (by decide))
    · show amT _ _ _ _ _ _
      refine kr_if_ne (pc := 16) dX8_set_16 rfl (fun h => absurd h (by decide)) (fun _ => ?_)
      refine kr_iconst (pc := 19) dX8_set_19 (by decide) ?_
      refine kr_goto (pc := 20) dX8_set_20 rfl ?_
      refine kr_puti (pc := 27) dX8_set_27 rfl (Or.inl rfl) (by decide) (by assumption) ?_
      refine kr_aload_n (pc := 30) dX8_set_30 rfl ?_
      refine kr_aload_n (pc := 31) dX8_set_31 rfl ?_
      refine kr_geti (pc := 32) dX8_set_32 rfl (by decide) (by assumption) (by first | exact hiv_wi_same | assumption) ?_
      refine kr_iconst (pc := 35) dX8_set_35 (by decide) ?_
      refine kr_icmp_eq (pc := 36) dX8_set_36 rfl (fun _ => ?_) (fun h => absurd h (by decide))
      refine kr_aload_n (pc := 54) dX8_set_54 rfl ?_
      refine kr_geti (pc := 55) dX8_set_55 rfl (by decide) (by assumption) (by first | exact hiv_wi_same | assumption) ?_
      refine kr_puti (pc := 58) dX8_set_58 rfl (Or.inl rfl) (by decide) (by assumption) ?_
      refine kr_aload_n (pc := 61) dX8_set_61 rfl ?_
      refine kr_geti (pc := 62) dX8_set_62 rfl (by decide) (by assumption) (by first | exact hiv_wi_same | assumption) ?_
      refine kr_if_le (pc := 65) dX8_set_65 rfl (fun h => absurd h (by decide)) (fun _ => ?_)
      refine kr_iconst (pc := 68) dX8_set_68 (by decide) ?_
      simp only [hwi_hwi]
      refine kr_ireturn (pc := 69) dX8_set_69 rfl ?_
      first | exact k _ _ (MO.errw (t := 1) H (by unfold sp_set; rw [if_pos (by omega)]) (by decide)) | exact k _ _ (MO.errw (t := 2) H (by unfold sp_set; rw [if_neg (by omega), if_pos (by omega)]) (by decide)) | exact k _ _ (MO.errw (t := 3) H (by unfold sp_set; rw [if_neg (by omega), if_neg (by omega), if_pos (by omega)]) (by decide))
  · show amT _ _ _ _ _ _
    refine kr_istore (pc := 8) dX8_set_8 (show 6 ≤ _ from by simp) (by decide) ?_
    simp only [stl, List.tail_cons, List.tail_nil]
    refine kr_aload_n (pc := 10) dX8_set_10 rfl ?_
    refine kr_iload (pc := 11) dX8_set_11 rfl ?_
    refine kr_s1 (pc := 13) dX8_set_13 rfl rfl (Nat.le_of_ble_eq_true rfl) rfl (m_isF (fun c13 => ?_) (fun c13 => ?_))
    · show amT _ _ _ _ _ _
      refine kr_if_ne (pc := 16) dX8_set_16 rfl (fun _ => ?_) (fun h => absurd h (by decide))
      refine kr_aload_n (pc := 23) dX8_set_23 rfl ?_
      refine kr_geti (pc := 24) dX8_set_24 rfl (by decide) (by assumption) (by first | exact hiv_wi_same | assumption) ?_
      refine kr_puti (pc := 27) dX8_set_27 rfl (Or.inl rfl) (by decide) (by assumption) ?_
      refine kr_aload_n (pc := 30) dX8_set_30 rfl ?_
      refine kr_aload_n (pc := 31) dX8_set_31 rfl ?_
      refine kr_geti (pc := 32) dX8_set_32 rfl (by decide) (by assumption) (by first | exact hiv_wi_same | assumption) ?_
      refine kr_iconst (pc := 35) dX8_set_35 (by decide) ?_
      refine kr_icmp_eq (pc := 36) dX8_set_36 rfl (fun h => absurd h (by decide)) (fun _ => ?_)
      refine kr_iload (pc := 39) dX8_set_39 rfl ?_
      refine kr_iconst (pc := 41) dX8_set_41 (by decide) ?_
      refine kr_bipush (pc := 42) dX8_set_42 (by decide) ?_
      refine kr_s3 (pc := 44) dX8_set_44 rfl rfl (Nat.le_of_ble_eq_true rfl) rfl rfl rfl (m_in2 (fun c44 => ?_) (fun c44 => ?_))
      · show amT _ _ _ _ _ _
        refine kr_if_ne (pc := 47) dX8_set_47 rfl (fun _ => ?_) (fun h => absurd h (by decide))
        refine kr_aload_n (pc := 54) dX8_set_54 rfl ?_
        refine kr_geti (pc := 55) dX8_set_55 rfl (by decide) (by assumption) (by first | exact hiv_wi_same | assumption) ?_
        refine kr_puti (pc := 58) dX8_set_58 rfl (Or.inl rfl) (by decide) (by assumption) ?_
        refine kr_aload_n (pc := 61) dX8_set_61 rfl ?_
        refine kr_geti (pc := 62) dX8_set_62 rfl (by decide) (by assumption) (by first | exact hiv_wi_same | assumption) ?_
        refine kr_if_le (pc := 65) dX8_set_65 rfl (fun _ => ?_) (fun h => absurd h (by decide))
        simp only [hwi_hwi]
        exact act (by omega) (by omega) (by omega) (by omega) (by omega) (by unfold sp_set; rw [if_neg (by omega), if_neg (by omega), if_neg (by omega)])
      · show amT _ _ _ _ _ _
        refine kr_if_ne (pc := 47) dX8_set_47 rfl (fun h => absurd h (by decide)) (fun _ => ?_)
        refine kr_iconst (pc := 50) dX8_set_50 (by decide) ?_
        refine kr_goto (pc := 51) dX8_set_51 rfl ?_
        refine kr_puti (pc := 58) dX8_set_58 rfl (Or.inl rfl) (by decide) (by assumption) ?_
        refine kr_aload_n (pc := 61) dX8_set_61 rfl ?_
        refine kr_geti (pc := 62) dX8_set_62 rfl (by decide) (by assumption) (by first | exact hiv_wi_same | assumption) ?_
        refine kr_if_le (pc := 65) dX8_set_65 rfl (fun h => absurd h (by decide)) (fun _ => ?_)
        refine kr_iconst (pc := 68) dX8_set_68 (by decide) ?_
        simp only [hwi_hwi]
        refine kr_ireturn (pc := 69) dX8_set_69 rfl ?_
        first | exact k _ _ (MO.errw (t := 1) H (by unfold sp_set; rw [if_pos (by omega)]) (by decide)) | exact k _ _ (MO.errw (t := 2) H (by unfold sp_set; rw [if_neg (by omega), if_pos (by omega)]) (by decide)) | exact k _ _ (MO.errw (t := 3) H (by unfold sp_set; rw [if_neg (by omega), if_neg (by omega), if_pos (by omega)]) (by decide))
    · show amT _ _ _ _ _ _
      refine kr_if_ne (pc := 16) dX8_set_16 rfl (fun h => absurd h (by decide)) (fun _ => ?_)
      refine kr_iconst (pc := 19) dX8_set_19 (by decide) ?_
      refine kr_goto (pc := 20) dX8_set_20 rfl ?_
      refine kr_puti (pc := 27) dX8_set_27 rfl (Or.inl rfl) (by decide) (by assumption) ?_
      refine kr_aload_n (pc := 30) dX8_set_30 rfl ?_
      refine kr_aload_n (pc := 31) dX8_set_31 rfl ?_
      refine kr_geti (pc := 32) dX8_set_32 rfl (by decide) (by assumption) (by first | exact hiv_wi_same | assumption) ?_
      refine kr_iconst (pc := 35) dX8_set_35 (by decide) ?_
      refine kr_icmp_eq (pc := 36) dX8_set_36 rfl (fun _ => ?_) (fun h => absurd h (by decide))
      refine kr_aload_n (pc := 54) dX8_set_54 rfl ?_
      refine kr_geti (pc := 55) dX8_set_55 rfl (by decide) (by assumption) (by first | exact hiv_wi_same | assumption) ?_
      refine kr_puti (pc := 58) dX8_set_58 rfl (Or.inl rfl) (by decide) (by assumption) ?_
      refine kr_aload_n (pc := 61) dX8_set_61 rfl ?_
      refine kr_geti (pc := 62) dX8_set_62 rfl (by decide) (by assumption) (by first | exact hiv_wi_same | assumption) ?_
      refine kr_if_le (pc := 65) dX8_set_65 rfl (fun h => absurd h (by decide)) (fun _ => ?_)
      refine kr_iconst (pc := 68) dX8_set_68 (by decide) ?_
      simp only [hwi_hwi]
      refine kr_ireturn (pc := 69) dX8_set_69 rfl ?_
      first | exact k _ _ (MO.errw (t := 1) H (by unfold sp_set; rw [if_pos (by omega)]) (by decide)) | exact k _ _ (MO.errw (t := 2) H (by unfold sp_set; rw [if_neg (by omega), if_pos (by omega)]) (by decide)) | exact k _ _ (MO.errw (t := 3) H (by unfold sp_set; rw [if_neg (by omega), if_neg (by omega), if_pos (by omega)]) (by decide))
theorem mc_join {c s y v : Int} (M : MS h m) (H : ModR (hiv h) m S) (HS : okS S) (k : ∀ I' b, MO (sp_join S c s y v) (hiv h) I' m b → Q (.inl (some (vI b)), hI h I')) : amT mX8_join 0 [vR m, vI c, vI s, vI y, vI v] [] h Q := by
  have h0 := M.o
  have g1 := M.2.1
  have g2 := M.2.2.1
  have M1 : MS (hwi h m 17 0) m := M
  have H1 : ModR (hiv (hwi h m 17 0)) m S := H.th
  have hrn := kix_rng (sec S c s) y
  have act : (0 ≤ c ∧ c ≤ 2) → (0 ≤ s ∧ s ≤ 2) → kix (sec S c s) y ≠ -1 → -1 ≤ v ∧ v ≤ 2 → sp_join S c s y v = xch S c s y 2 v → amT mX8_join 49 [vR m, vI c, vI s, vI y, vI v, vI (kix (sec S c s) y)] [] (hwi h m 17 0) Q := by
    intro hc hs hk hv hsp
    have hl := HS.scl hc hs
    have hll := hl.1
    obtain ⟨g3, g4⟩ := gt_at hk
    have hE := hl.2.2 _ _ g3
    obtain ⟨_, _, _, _, g5⟩ := H1.sec hc hs
    have g6 := (g5 _ _ g3).1
    have e : (27 * c + 3 + 6 * s + kix (sec S c s) y).toNat = 27 * c.toNat + 3 + 6 * s.toNat + (kix (sec S c s) y).toNat := by omega
    rw [← e] at g6
    refine kr_iload_n (pc := 49) dX8_join_49 rfl ?_
    refine kr_iload_n (pc := 50) dX8_join_50 rfl ?_
    refine kr_iload (pc := 51) dX8_join_51 rfl ?_
    refine kr_s3 (pc := 53) dX8_join_53 rfl rfl (Nat.le_of_ble_eq_true rfl) rfl rfl rfl (m_at ⟨by omega, by omega⟩ ⟨by omega, by omega⟩ ⟨by omega, by omega⟩ ?_)
    show amT _ _ _ _ _ _
    refine kr_istore (pc := 56) dX8_join_56 (show 6 ≤ _ from by simp) (by decide) ?_
    simp only [stl, List.tail_cons, List.tail_nil]
    refine kr_aload_n (pc := 58) dX8_join_58 rfl ?_
    refine kr_getr (pc := 59) dX8_join_59 rfl rfl (by assumption) (by assumption) ?_
    refine kr_iload (pc := 62) dX8_join_62 rfl ?_
    refine kr_iald (pc := 64) dX8_join_64 (by assumption) (by omega) (by omega) rfl ?_
    rw [g6]
    refine kr_s1 (pc := 65) dX8_join_65 rfl rfl (Nat.le_of_ble_eq_true rfl) rfl (m_group hE ?_)
    show amT _ _ _ _ _ _
    refine kr_iconst (pc := 68) dX8_join_68 (by decide) ?_
    have hE2 := hE
    unfold okE at hE2
    refine kr_isub (pc := 69) dX8_join_69 ⟨by omega, by omega⟩ ?_
    refine kr_istore (pc := 70) dX8_join_70 (show 7 ≤ _ from by simp) (by decide) ?_
    simp only [stl, List.tail_cons, List.tail_nil]
    refine kr_aload_n (pc := 72) dX8_join_72 rfl ?_
    refine kr_getr (pc := 73) dX8_join_73 rfl rfl (by assumption) (by assumption) ?_
    refine kr_iload (pc := 76) dX8_join_76 rfl ?_
    refine kr_aload_n (pc := 78) dX8_join_78 rfl ?_
    refine kr_getr (pc := 79) dX8_join_79 rfl rfl (by assumption) (by assumption) ?_
    refine kr_iload (pc := 82) dX8_join_82 rfl ?_
    refine kr_iald (pc := 84) dX8_join_84 (by assumption) (by omega) (by omega) rfl ?_
    rw [g6]
    refine kr_iload (pc := 85) dX8_join_85 rfl ?_
    refine kr_iconst (pc := 87) dX8_join_87 (by decide) ?_
    refine kr_iadd (pc := 88) dX8_join_88 ⟨by omega, by omega⟩ ?_
    refine kr_s2 (pc := 89) dX8_join_89 rfl rfl (Nat.le_of_ble_eq_true rfl) rfl rfl (m_withGroup hE hv ?_)
    show amT _ _ _ _ _ _
    refine kr_iast (pc := 92) dX8_join_92 (by assumption) (by omega) (by omega) ?_
    refine kr_iload (pc := 93) dX8_join_93 rfl ?_
    rw [show (gt (sec S c s) y).2.2.2 + 1 - 1 = sg (gt (sec S c s) y) 2 by (show _ = (gt (sec S c s) y).2.2.2; omega), show withGE (gt (sec S c s) y) v = ws (gt (sec S c s) y) 2 v from rfl]
    refine kr_ireturn (pc := 95) dX8_join_95 rfl ?_
    exact k _ _ (MO.setw H HS hc hs hk (by decide) (by omega) (by omega) hsp)
  refine kr_aload_n (pc := 0) dX8_join_0 rfl ?_
  refine kr_iload_n (pc := 1) dX8_join_1 rfl ?_
  refine kr_iload_n (pc := 2) dX8_join_2 rfl ?_
  refine kr_iload_n (pc := 3) dX8_join_3 rfl ?_
  refine kr_iconst (pc := 4) dX8_join_4 (by decide) ?_
  refine kr_v4 (pc := 5) dX8_join_5 rfl rfl (by assumption) (Nat.le_of_ble_eq_true rfl) rfl rfl rfl rfl (m_entry M H HS (fun c5 => ?_) (fun c5 d5 => ?_) (fun c5 d5 => ?_))
  · show amT _ _ _ _ _ _
    refine kr_istore (pc := 8) dX8_join_8 (show 5 ≤ _ from by simp) (by decide) ?_
    simp only [stl, List.tail_cons, List.tail_nil]
    refine kr_aload_n (pc := 10) dX8_join_10 rfl ?_
    refine kr_aload_n (pc := 11) dX8_join_11 rfl ?_
    refine kr_geti (pc := 12) dX8_join_12 rfl (by decide) (by assumption) (by first | exact hiv_wi_same | assumption) ?_
    refine kr_iconst (pc := 15) dX8_join_15 (by decide) ?_
    refine kr_icmp_eq (pc := 16) dX8_join_16 rfl (fun _ => ?_) (fun h => absurd h (by decide))
    refine kr_aload_n (pc := 33) dX8_join_33 rfl ?_
    refine kr_geti (pc := 34) dX8_join_34 rfl (by decide) (by assumption) (by first | exact hiv_wi_same | assumption) ?_
    refine kr_puti (pc := 37) dX8_join_37 rfl (Or.inl rfl) (by decide) (by assumption) ?_
    refine kr_aload_n (pc := 40) dX8_join_40 rfl ?_
    refine kr_geti (pc := 41) dX8_join_41 rfl (by decide) (by assumption) (by first | exact hiv_wi_same | assumption) ?_
    refine kr_if_le (pc := 44) dX8_join_44 rfl (fun h => absurd h (by decide)) (fun _ => ?_)
    refine kr_iconst (pc := 47) dX8_join_47 (by decide) ?_
    simp only [hwi_hwi]
    refine kr_ireturn (pc := 48) dX8_join_48 rfl ?_
    first | exact k _ _ (MO.errw (t := 1) H (by unfold sp_join; rw [if_pos (by omega)]) (by decide)) | exact k _ _ (MO.errw (t := 2) H (by unfold sp_join; rw [if_neg (by omega), if_pos (by omega)]) (by decide)) | exact k _ _ (MO.errw (t := 3) H (by unfold sp_join; rw [if_neg (by omega), if_neg (by omega), if_pos (by omega)]) (by decide))
  · show amT _ _ _ _ _ _
    refine kr_istore (pc := 8) dX8_join_8 (show 5 ≤ _ from by simp) (by decide) ?_
    simp only [stl, List.tail_cons, List.tail_nil]
    refine kr_aload_n (pc := 10) dX8_join_10 rfl ?_
    refine kr_aload_n (pc := 11) dX8_join_11 rfl ?_
    refine kr_geti (pc := 12) dX8_join_12 rfl (by decide) (by assumption) (by first | exact hiv_wi_same | assumption) ?_
    refine kr_iconst (pc := 15) dX8_join_15 (by decide) ?_
    refine kr_icmp_eq (pc := 16) dX8_join_16 rfl (fun h => absurd h (by decide)) (fun _ => ?_)
    refine kr_iload (pc := 19) dX8_join_19 rfl ?_
    refine kr_iconst (pc := 21) dX8_join_21 (by decide) ?_
    refine kr_iconst (pc := 22) dX8_join_22 (by decide) ?_
    refine kr_s3 (pc := 23) dX8_join_23 rfl rfl (Nat.le_of_ble_eq_true rfl) rfl rfl rfl (m_in2 (fun c23 => ?_) (fun c23 => ?_))
    · show amT _ _ _ _ _ _
      refine kr_if_ne (pc := 26) dX8_join_26 rfl (fun _ => ?_) (fun h => absurd h (by decide))
      refine kr_aload_n (pc := 33) dX8_join_33 rfl ?_
      refine kr_geti (pc := 34) dX8_join_34 rfl (by decide) (by assumption) (by first | exact hiv_wi_same | assumption) ?_
      refine kr_puti (pc := 37) dX8_join_37 rfl (Or.inl rfl) (by decide) (by assumption) ?_
      refine kr_aload_n (pc := 40) dX8_join_40 rfl ?_
      refine kr_geti (pc := 41) dX8_join_41 rfl (by decide) (by assumption) (by first | exact hiv_wi_same | assumption) ?_
      refine kr_if_le (pc := 44) dX8_join_44 rfl (fun h => absurd h (by decide)) (fun _ => ?_)
      refine kr_iconst (pc := 47) dX8_join_47 (by decide) ?_
      simp only [hwi_hwi]
      refine kr_ireturn (pc := 48) dX8_join_48 rfl ?_
      first | exact k _ _ (MO.errw (t := 1) H (by unfold sp_join; rw [if_pos (by omega)]) (by decide)) | exact k _ _ (MO.errw (t := 2) H (by unfold sp_join; rw [if_neg (by omega), if_pos (by omega)]) (by decide)) | exact k _ _ (MO.errw (t := 3) H (by unfold sp_join; rw [if_neg (by omega), if_neg (by omega), if_pos (by omega)]) (by decide))
    · show amT _ _ _ _ _ _
      refine kr_if_ne (pc := 26) dX8_join_26 rfl (fun h => absurd h (by decide)) (fun _ => ?_)
      refine kr_iconst (pc := 29) dX8_join_29 (by decide) ?_
      refine kr_goto (pc := 30) dX8_join_30 rfl ?_
      refine kr_puti (pc := 37) dX8_join_37 rfl (Or.inl rfl) (by decide) (by assumption) ?_
      refine kr_aload_n (pc := 40) dX8_join_40 rfl ?_
      refine kr_geti (pc := 41) dX8_join_41 rfl (by decide) (by assumption) (by first | exact hiv_wi_same | assumption) ?_
      refine kr_if_le (pc := 44) dX8_join_44 rfl (fun h => absurd h (by decide)) (fun _ => ?_)
      refine kr_iconst (pc := 47) dX8_join_47 (by decide) ?_
      simp only [hwi_hwi]
      refine kr_ireturn (pc := 48) dX8_join_48 rfl ?_
      first | exact k _ _ (MO.errw (t := 1) H (by unfold sp_join; rw [if_pos (by omega)]) (by decide)) | exact k _ _ (MO.errw (t := 2) H (by unfold sp_join; rw [if_neg (by omega), if_pos (by omega)]) (by decide)) | exact k _ _ (MO.errw (t := 3) H (by unfold sp_join; rw [if_neg (by omega), if_neg (by omega), if_pos (by omega)]) (by decide))
  · show amT _ _ _ _ _ _
    refine kr_istore (pc := 8) dX8_join_8 (show 5 ≤ _ from by simp) (by decide) ?_
    simp only [stl, List.tail_cons, List.tail_nil]
    refine kr_aload_n (pc := 10) dX8_join_10 rfl ?_
    refine kr_aload_n (pc := 11) dX8_join_11 rfl ?_
    refine kr_geti (pc := 12) dX8_join_12 rfl (by decide) (by assumption) (by first | exact hiv_wi_same | assumption) ?_
    refine kr_iconst (pc := 15) dX8_join_15 (by decide) ?_
    refine kr_icmp_eq (pc := 16) dX8_join_16 rfl (fun h => absurd h (by decide)) (fun _ => ?_)
    refine kr_iload (pc := 19) dX8_join_19 rfl ?_
    refine kr_iconst (pc := 21) dX8_join_21 (by decide) ?_
    refine kr_iconst (pc := 22) dX8_join_22 (by decide) ?_
    refine kr_s3 (pc := 23) dX8_join_23 rfl rfl (Nat.le_of_ble_eq_true rfl) rfl rfl rfl (m_in2 (fun c23 => ?_) (fun c23 => ?_))
    · show amT _ _ _ _ _ _
      refine kr_if_ne (pc := 26) dX8_join_26 rfl (fun _ => ?_) (fun h => absurd h (by decide))
      refine kr_aload_n (pc := 33) dX8_join_33 rfl ?_
      refine kr_geti (pc := 34) dX8_join_34 rfl (by decide) (by assumption) (by first | exact hiv_wi_same | assumption) ?_
      refine kr_puti (pc := 37) dX8_join_37 rfl (Or.inl rfl) (by decide) (by assumption) ?_
      refine kr_aload_n (pc := 40) dX8_join_40 rfl ?_
      refine kr_geti (pc := 41) dX8_join_41 rfl (by decide) (by assumption) (by first | exact hiv_wi_same | assumption) ?_
      refine kr_if_le (pc := 44) dX8_join_44 rfl (fun _ => ?_) (fun h => absurd h (by decide))
      simp only [hwi_hwi]
      exact act (by omega) (by omega) (by omega) (by omega) (by unfold sp_join; rw [if_neg (by omega), if_neg (by omega), if_neg (by omega)])
    · show amT _ _ _ _ _ _
      refine kr_if_ne (pc := 26) dX8_join_26 rfl (fun h => absurd h (by decide)) (fun _ => ?_)
      refine kr_iconst (pc := 29) dX8_join_29 (by decide) ?_
      refine kr_goto (pc := 30) dX8_join_30 rfl ?_
      refine kr_puti (pc := 37) dX8_join_37 rfl (Or.inl rfl) (by decide) (by assumption) ?_
      refine kr_aload_n (pc := 40) dX8_join_40 rfl ?_
      refine kr_geti (pc := 41) dX8_join_41 rfl (by decide) (by assumption) (by first | exact hiv_wi_same | assumption) ?_
      refine kr_if_le (pc := 44) dX8_join_44 rfl (fun h => absurd h (by decide)) (fun _ => ?_)
      refine kr_iconst (pc := 47) dX8_join_47 (by decide) ?_
      simp only [hwi_hwi]
      refine kr_ireturn (pc := 48) dX8_join_48 rfl ?_
      first | exact k _ _ (MO.errw (t := 1) H (by unfold sp_join; rw [if_pos (by omega)]) (by decide)) | exact k _ _ (MO.errw (t := 2) H (by unfold sp_join; rw [if_neg (by omega), if_pos (by omega)]) (by decide)) | exact k _ _ (MO.errw (t := 3) H (by unfold sp_join; rw [if_neg (by omega), if_neg (by omega), if_pos (by omega)]) (by decide))
end M6
