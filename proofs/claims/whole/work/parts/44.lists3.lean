theorem EdM.fr {I I' : Nat → Nat → Int} {m : Nat} {L : List Edt} (E : EdM I m L) (h5 : I' m 5 = I m 5) (h : ∀ a, m + 4 ≤ a → a ≤ m + 9 → I' a = I a) : EdM I' m L := by
  refine ⟨by rw [h5]; exact E.1, fun i e he => ?_⟩
  rw [h (m + 4) (by omega) (by omega), h (m + 5) (by omega) (by omega), h (m + 6) (by omega) (by omega), h (m + 7) (by omega) (by omega), h (m + 8) (by omega) (by omega), h (m + 9) (by omega) (by omega)]
  exact E.2 i e he
theorem SecM.off {R R' : Nat → Int} {s i j : Nat} {l : List Ent} (H : SecM R s j l) (hj : j ≠ i) (hi : i ≤ 2) (h : ∀ q, offS s i q → R' q = R q) : SecM R' s j l := by
  obtain ⟨h1, h2, h3, h4, h5⟩ := H
  refine ⟨h1, h2, h3, by rw [h _ (by unfold offS; omega)]; exact h4, fun p e he => ?_⟩
  have := (List.getElem?_eq_some_iff.mp he).1
  rw [h _ (by unfold offS; omega)]
  exact h5 p e he
def setR (I : Nat → Nat → Int) (m : Nat) (R : Nat → Int) : Nat → Nat → Int := fun b j => if b = m + 1 then R j else I b j
theorem sa_hI {h : aH} {I : Nat → Nat → Int} {m : Nat} {R : Nat → Int} : sa (hI h I) (m + 1) R = hI h (setR I m R) := rfl
theorem setR_ne {I : Nat → Nat → Int} {m a : Nat} {R : Nat → Int} (h : a ≠ m + 1) : setR I m R a = I a := funext fun j => if_neg h
theorem setR_at {I : Nat → Nat → Int} {m : Nat} {R : Nat → Int} : setR I m R (m + 1) = R := funext fun j => if_pos rfl
/-- edits and the work place alone are others -/
def frW (I I' : Nat → Nat → Int) (m : Nat) : Prop := (∀ a, a ≠ m → a ≠ m + 1 → ¬ (m + 4 ≤ a ∧ a ≤ m + 9) → I' a = I a) ∧ (∀ j, j ≠ 5 → I' m j = I m j) ∧ ∀ j, j < 891 ∨ 918 ≤ j → I' (m + 1) j = I (m + 1) j
theorem frW.tr {I I' J : Nat → Nat → Int} {m : Nat} (h : frW I I' m) (k : frW I' J m) : frW I J m :=
  ⟨fun a h1 h2 h3 => (k.1 a h1 h2 h3).trans (h.1 a h1 h2 h3), fun j hj => (k.2.1 j hj).trans (h.2.1 j hj), fun j hj => (k.2.2 j hj).trans (h.2.2 j hj)⟩
theorem frE.w {I I' : Nat → Nat → Int} {m : Nat} (h : frE I I' m) : frW I I' m := ⟨fun a h1 _ h3 => h.1 a h1 h3, h.2, fun j _ => by rw [h.1 (m + 1) (by omega) (by omega)]⟩
theorem frW.set {I : Nat → Nat → Int} {m : Nat} {R : Nat → Int} (h : ∀ j, j < 891 ∨ 918 ≤ j → R j = I (m + 1) j) : frW I (setR I m R) m :=
  ⟨fun a _ h2 _ => setR_ne h2, fun j _ => by rw [setR_ne (by omega)], fun j hj => by rw [setR_at]; exact h j hj⟩
theorem off33 {i j : Nat} (hi : i ≤ 2) (h : j < 891 ∨ 918 ≤ j) : offS 33 i j := by
  unfold offS
  omega
theorem EdM.set {I : Nat → Nat → Int} {m : Nat} {R : Nat → Int} {L : List Edt} (E : EdM I m L) : EdM (setR I m R) m L :=
  E.fr (by rw [setR_ne (by omega)]) fun a h1 h2 => setR_ne (by omega)
/-- the sections from i on wait in the work place -/
def wkS (R : Nat → Int) (f : Cfg) (i : Nat) : Prop := ∀ j, i < j → j < 3 → SecM R 33 j (f.1 j)
theorem wkS.off {R R' : Nat → Int} {f : Cfg} {i : Nat} (W : wkS R f i) (hi : i ≤ 2) (h : ∀ q, offS 33 i q → R' q = R q) : wkS R' f i := fun j h1 h2 => (W j h1 h2).off (by omega) hi h
def rsS (f t : Cfg) : Nat → List Edt
  | 0 => grpL f.2 t.2
  | d + 1 => secL ((2 - d : Nat) : Int) (f.1 (2 - d)) (t.1 (2 - d)) ++ rsS f t d
theorem ed1 {s y p : Int} {n : Ent} : (1 : Int) = kM (1, s, y, p, -1, n) ∧ s = sM (1, s, y, p, -1, n) ∧ y = yM (1, s, y, p, -1, n) ∧ p = bM (1, s, y, p, -1, n) ∧ p = hM (1, s, y, p, -1, n) := ⟨rfl, rfl, rfl, rfl, rfl⟩
theorem ed2 {s y p : Int} {n : Ent} : (2 : Int) = kM (2, s, y, -1, p, n) ∧ s = sM (2, s, y, -1, p, n) ∧ y = yM (2, s, y, -1, p, n) ∧ p = bM (2, s, y, -1, p, n) ∧ p = hM (2, s, y, -1, p, n) := ⟨rfl, rfl, rfl, rfl, rfl⟩
theorem ed3 {s y p q : Int} {n : Ent} : (3 : Int) = kM (3, s, y, p, q, n) ∧ s = sM (3, s, y, p, q, n) ∧ y = yM (3, s, y, p, q, n) ∧ p = bM (3, s, y, p, q, n) ∧ q = hM (3, s, y, p, q, n) := ⟨rfl, rfl, rfl, rfl, rfl⟩
theorem apl_len {L : List Edt} {k s key a b : Int} {I : Nat → Nat → Int} {m : Nat} (E : EdM I m (L ++ unl k s key a b)) : (L ++ unl k s key a b).length ≤ L.length + 1 := by
  have := unl_len (k := k) (s := s) (key := key) (a := a) (b := b)
  rw [List.length_append]
  omega
section M9
variable {h : aH} {m : Nat} {S : St} {Q : aR → Prop}
theorem m_lists {a b : Int} {ca cb : Cfg} (M : MS h m) (ha : 0 ≤ a ∧ a ≤ 32) (hb : 0 ≤ b ∧ b ≤ 32) (Ca : CfgM (hiv h (m + 1)) a.toNat ca) (Cb : CfgM (hiv h (m + 1)) b.toNat cb) (oa : okC ca) (ob : okC cb)
    (kk : ∀ I', EdM I' m (edL ca cb) → frW (hiv h) I' m → Q (.inl none, hI h I')) : amT mX8_lists 0 [vR m, vI a, vI b] [] h Q := by
  have h0 := M.o
  have h1 := M.2.1
  have h2 := M.2.2.1
  have rm : ∀ (i : Nat) (n : Nat) (tl : List aV) (I : Nat → Nat → Int) (l : List Ent) (L' : List Edt), i ≤ 2 → n ≤ l.length → SecM (I (m + 1)) 33 i l → EdM I m L' → frW (hiv h) I m → wkS (I (m + 1)) ca i → L'.length + n < 100 →
      (∀ (tl' : List aV) (p : Int) (I' : Nat → Nat → Int), SecM (I' (m + 1)) 33 i (rmv i (cb.1 i) n l).2 → EdM I' m (L' ++ (rmv i (cb.1 i) n l).1) → frW (hiv h) I' m → wkS (I' (m + 1)) ca i → amT mX8_lists 97 (vR m :: vI a :: vI b :: vI (i : Int) :: vI p :: tl') [] (hI h I') Q) →
      amT mX8_lists 30 (vR m :: vI a :: vI b :: vI (i : Int) :: vI ((n : Int) - 1) :: tl) [] (hI h I) Q := by
    intro i n
    induction n with
    | zero =>
      intro tl I l L' hi hn W E fr ws hl k
      refine kr_iload (pc := 30) dX8_lists_30 rfl ?_
      refine kr_if_lt (pc := 32) dX8_lists_32 rfl (fun h32 => ?_) (fun h32 => by exfalso; omega)
      exact k _ _ I W (by rw [show (rmv i (cb.1 i) 0 l).1 = [] from rfl, List.append_nil]; exact E) fr ws
    | succ n ih =>
      intro tl I l L' hi hn W E fr ws hl k
      have M1 : MS (hI h I) m := M
      obtain ⟨e, he⟩ : ∃ e, l[n]? = some e := ⟨_, List.getElem?_eq_getElem (by omega)⟩
      obtain ⟨x1, x2⟩ := W.2.2.2.2 n e he
      have x3 := pk_rng x2
      have hl6 := W.2.2.1
      rw [show 27 * 33 + 3 + 6 * i + n = (27 * (33 : Int) + 3 + 6 * (i : Int) + (((n + 1 : Nat) : Int) - 1)).toNat by omega] at x1
      have HT : SecM (hiv (hI h I) (m + 1)) b.toNat (i : Int).toNat (cb.1 i) := by
        refine (Cb.1 i (by omega)).fr fun j h1 h2 => ?_
        exact fr.2.2 j (by omega)
      have HW : SecM (hiv (hI h I) (m + 1)) (33 : Int).toNat (i : Int).toNat l := W
      have hk := x2
      unfold rmv at k
      rw [he] at k
      dsimp only at k
      have keep : ∀ tl : List aV, (∀ (tl' : List aV) (p : Int) (I' : Nat → Nat → Int), SecM (I' (m + 1)) 33 i (rmv i (cb.1 i) n l).2 → EdM I' m (L' ++ (rmv i (cb.1 i) n l).1) → frW (hiv h) I' m → wkS (I' (m + 1)) ca i → amT mX8_lists 97 (vR m :: vI a :: vI b :: vI (i : Int) :: vI p :: tl') [] (hI h I') Q) →
          amT mX8_lists 91 (vR m :: vI a :: vI b :: vI (i : Int) :: vI (((n + 1 : Nat) : Int) - 1) :: tl) [] (hI h I) Q := by
        intro tl k
        refine kr_iinc (pc := 91) dX8_lists_91 rfl ⟨⟨by omega, by omega⟩, by decide, by decide⟩ ?_
        simp only [stl, List.tail_cons, List.tail_nil]
        refine kr_goto (pc := 94) dX8_lists_94 rfl ?_
        rw [show ((n + 1 : Nat) : Int) - 1 + -1 = (n : Int) - 1 by omega]
        exact ih _ I l L' hi (by omega) W E fr ws (by omega) k
      have gone : ∀ (tl : List aV) (I1 : Nat → Nat → Int) (R' : Nat → Int), EdM I1 m (L' ++ [(1, (i : Int), e.1, (n : Int), -1, e)]) → frE I I1 m → SecM R' 33 i (l.eraseIdx (((n + 1 : Nat) : Int) - 1).toNat) → (∀ j, offS 33 i j → R' j = I1 (m + 1) j) →
          (∀ (tl' : List aV) (p : Int) (I' : Nat → Nat → Int), SecM (I' (m + 1)) 33 i (rmv i (cb.1 i) n (l.eraseIdx n)).2 → EdM I' m (L' ++ ((1, (i : Int), e.1, (n : Int), -1, e) :: (rmv i (cb.1 i) n (l.eraseIdx n)).1)) → frW (hiv h) I' m → wkS (I' (m + 1)) ca i → amT mX8_lists 97 (vR m :: vI a :: vI b :: vI (i : Int) :: vI p :: tl') [] (hI h I') Q) →
          amT mX8_lists 91 (vR m :: vI a :: vI b :: vI (i : Int) :: vI (((n + 1 : Nat) : Int) - 1) :: tl) [] (sa (hI h I1) (m + 1) R') Q := by
        intro tl I1 R' E1 fr1 W2 hf k
        rw [sa_hI]
        rw [show (((n + 1 : Nat) : Int) - 1).toNat = n by omega] at W2
        refine kr_iinc (pc := 91) dX8_lists_91 rfl ⟨⟨by omega, by omega⟩, by decide, by decide⟩ ?_
        simp only [stl, List.tail_cons, List.tail_nil]
        refine kr_goto (pc := 94) dX8_lists_94 rfl ?_
        rw [show ((n + 1 : Nat) : Int) - 1 + -1 = (n : Int) - 1 by omega]
        have hlen := List.length_eraseIdx_of_lt (show n < l.length by omega)
        refine ih _ (setR I1 m R') (l.eraseIdx n) _ hi (by omega) (by rw [setR_at]; exact W2) E1.set (fr.tr (fr1.w.tr (frW.set fun j hj => hf j (off33 hi hj)))) ?_ (by rw [List.length_append]; show _ + 1 + n < 100; omega) ?_
        · rw [setR_at]
          refine wkS.off (R := I1 (m + 1)) ?_ hi hf
          rw [fr1.1 (m + 1) (by omega) (by omega)]
          exact ws
        · intro tl' p I' g1 g2 g3 g4
          refine k tl' p I' g1 ?_ g3 g4
          rw [List.append_assoc] at g2
          exact g2
      refine kr_iload (pc := 30) dX8_lists_30 rfl ?_
      refine kr_if_lt (pc := 32) dX8_lists_32 rfl (fun h32 => by exfalso; omega) (fun h32 => ?_)
      refine kr_aload_n (pc := 35) dX8_lists_35 rfl ?_
      refine kr_getr (pc := 36) dX8_lists_36 rfl rfl (by assumption) (by assumption) ?_
      refine kr_bipush (pc := 39) dX8_lists_39 (by decide) ?_
      refine kr_iload_n (pc := 41) dX8_lists_41 rfl ?_
      refine kr_iload (pc := 42) dX8_lists_42 rfl ?_
      refine kr_s3 (pc := 44) dX8_lists_44 rfl rfl (Nat.le_of_ble_eq_true rfl) rfl rfl rfl (m_at ⟨by omega, by omega⟩ ⟨by omega, by omega⟩ ⟨by omega, by omega⟩ ?_)
      show amT _ _ _ _ _ _
      refine kr_iald (pc := 47) dX8_lists_47 (by assumption) (by omega) (by omega) rfl ?_
      rw [show hiv (hI h I) (m + 1) = I (m + 1) from rfl, x1]
      refine kr_istore (pc := 48) dX8_lists_48 (show 5 ≤ _ from by simp) (by decide) ?_
      simp only [stl, List.tail_cons, List.tail_nil]
      refine kr_aload_n (pc := 50) dX8_lists_50 rfl ?_
      refine kr_iload_n (pc := 51) dX8_lists_51 rfl ?_
      refine kr_iload_n (pc := 52) dX8_lists_52 rfl ?_
      refine kr_iload (pc := 53) dX8_lists_53 rfl ?_
      refine kr_s1 (pc := 55) dX8_lists_55 rfl rfl (Nat.le_of_ble_eq_true rfl) rfl (m_key x3.1 ?_)
      show amT _ _ _ _ _ _
      rw [pk_key x2]
      refine kr_v3 (pc := 58) dX8_lists_58 rfl rfl (by assumption) (Nat.le_of_ble_eq_true rfl) rfl rfl rfl (m_findI M1 (by omega) (by omega) HT ?_)
      show amT _ _ _ _ _ _
      refine kr_iconst (pc := 61) dX8_lists_61 (by decide) ?_
      refine kr_icmp_ne (pc := 62) dX8_lists_62 rfl (fun h62 => ?_) (fun h62 => ?_)
      · first | (rw [if_neg (by omega)] at k; exact keep _ k) | (rw [if_pos (by omega)] at k; exact gone _ I1 R' E1 fr1 W2 hf k)
      · refine kr_aload_n (pc := 65) dX8_lists_65 rfl ?_
        refine kr_iconst (pc := 66) dX8_lists_66 (by decide) ?_
        refine kr_iload_n (pc := 67) dX8_lists_67 rfl ?_
        refine kr_iload (pc := 68) dX8_lists_68 rfl ?_
        refine kr_s1 (pc := 70) dX8_lists_70 rfl rfl (Nat.le_of_ble_eq_true rfl) rfl (m_key x3.1 ?_)
        show amT _ _ _ _ _ _
        rw [pk_key x2]
        refine kr_iload (pc := 73) dX8_lists_73 rfl ?_
        refine kr_iload (pc := 75) dX8_lists_75 rfl ?_
        refine kr_iload (pc := 77) dX8_lists_77 rfl ?_
        refine kr_v6 (pc := 79) dX8_lists_79 rfl rfl (by assumption) (Nat.le_of_ble_eq_true rfl) rfl rfl rfl rfl rfl rfl (m_notes (1, (i : Int), e.1, (n : Int), -1, e) M1 E (by omega) rfl rfl rfl (by show _ = (n : Int); omega) (by show _ = (n : Int); omega) (fun _ => rfl) fun I1 E1 fr1 => ?_)
        show amT _ _ _ _ _ _
        have M2 : MS (hI h I1) m := M
        have HW1 : SecM (hiv (hI h I1) (m + 1)) (33 : Int).toNat (i : Int).toNat l := by (rw [show hiv (hI h I1) (m + 1) = I1 (m + 1) from rfl, fr1.1 (m + 1) (by omega) (by omega)]; exact HW)
        refine kr_aload_n (pc := 82) dX8_lists_82 rfl ?_
        refine kr_bipush (pc := 83) dX8_lists_83 (by decide) ?_
        refine kr_iload_n (pc := 85) dX8_lists_85 rfl ?_
        refine kr_iload (pc := 86) dX8_lists_86 rfl ?_
        refine kr_v3 (pc := 88) dX8_lists_88 rfl rfl (by assumption) (Nat.le_of_ble_eq_true rfl) rfl rfl rfl (m_takesI (l := l) M2 (by decide) (by omega) HW1 (by omega) fun R' W2 hf => ?_)
        show amT _ _ _ _ _ _
        first | (rw [if_neg (by omega)] at k; exact keep _ k) | (rw [if_pos (by omega)] at k; exact gone _ I1 R' E1 fr1 W2 hf k)
  have pl : ∀ (i : Nat) (d p : Nat) (tl : List aV) (I : Nat → Nat → Int) (l : List Ent) (L' : List Edt), i ≤ 2 → p + d = (cb.1 i).length → PI (cb.1 i) p l → SecM (I (m + 1)) 33 i l → EdM I m L' → frW (hiv h) I m → wkS (I (m + 1)) ca i → L'.length + d < 100 →
      (∀ (tl' : List aV) (q : Int) (I' : Nat → Nat → Int), EdM I' m (L' ++ (plc i (cb.1 i) d p l).1) → frW (hiv h) I' m → wkS (I' (m + 1)) ca i → amT mX8_lists 216 (vR m :: vI a :: vI b :: vI (i : Int) :: vI q :: tl') [] (hI h I') Q) →
      amT mX8_lists 100 (vR m :: vI a :: vI b :: vI (i : Int) :: vI (p : Int) :: tl) [] (hI h I) Q := by
    intro i d
    induction d with
    | zero =>
      intro p tl I l L' hi hp hPI W E fr ws hl k
      have M1 : MS (hI h I) m := M
      have HT : SecM (hiv (hI h I) (m + 1)) b.toNat (i : Int).toNat (cb.1 i) := by
        refine (Cb.1 i (by omega)).fr fun j h1 h2 => ?_
        exact fr.2.2 j (by omega)
      refine kr_iload (pc := 100) dX8_lists_100 rfl ?_
      refine kr_aload_n (pc := 102) dX8_lists_102 rfl ?_
      refine kr_iload_n (pc := 103) dX8_lists_103 rfl ?_
      refine kr_iload_n (pc := 104) dX8_lists_104 rfl ?_
      refine kr_v2 (pc := 105) dX8_lists_105 rfl rfl (by assumption) (Nat.le_of_ble_eq_true rfl) rfl rfl (m_manyI M1 (by omega) (by omega) HT ?_)
      show amT _ _ _ _ _ _
      refine kr_icmp_ge (pc := 108) dX8_lists_108 rfl (fun h108 => ?_) (fun h108 => by exfalso; omega)
      exact k _ _ I (by rw [show (plc i (cb.1 i) 0 p l).1 = [] from rfl, List.append_nil]; exact E) fr ws
    | succ d ih =>
      intro p tl I l L' hi hp hPI W E fr ws hl k
      have M1 : MS (hI h I) m := M
      have okT := ob.1 i (by omega)
      obtain ⟨e, he⟩ : ∃ e, (cb.1 i)[p]? = some e := ⟨_, List.getElem?_eq_getElem (by omega)⟩
      have HT : SecM (hiv (hI h I) (m + 1)) b.toNat (i : Int).toNat (cb.1 i) := by
        refine (Cb.1 i (by omega)).fr fun j h1 h2 => ?_
        exact fr.2.2 j (by omega)
      obtain ⟨x1, x2⟩ := HT.2.2.2.2 p e he
      have x3 := pk_rng x2
      have hT6 := okT.1
      have hle := hPI.le
      have hln := hPI.len
      have rk := kix_rng l e.1
      rw [show 27 * b.toNat + 3 + 6 * (i : Int).toNat + p = (27 * b + 3 + 6 * (i : Int) + (p : Int)).toNat by omega] at x1
      have HW : SecM (hiv (hI h I) (m + 1)) (33 : Int).toNat (i : Int).toNat l := W
      unfold plc at k
      rw [he] at k
      dsimp only at k
      have again : ∀ (tl : List aV) (I1 : Nat → Nat → Int) (l1 : List Ent) (L1 : List Edt), PI (cb.1 i) (p + 1) l1 → SecM (I1 (m + 1)) 33 i l1 → EdM I1 m L1 → frW I I1 m → wkS (I1 (m + 1)) ca i → L1.length ≤ L'.length + 1 →
          (∀ (tl' : List aV) (q : Int) (I' : Nat → Nat → Int), EdM I' m (L1 ++ (plc i (cb.1 i) d (p + 1) l1).1) → frW (hiv h) I' m → wkS (I' (m + 1)) ca i → amT mX8_lists 216 (vR m :: vI a :: vI b :: vI (i : Int) :: vI q :: tl') [] (hI h I') Q) →
          amT mX8_lists 210 (vR m :: vI a :: vI b :: vI (i : Int) :: vI (p : Int) :: tl) [] (hI h I1) Q := by
        intro tl I1 l1 L1 g1 g2 g3 g4 g5 g6 k
        refine kr_iinc (pc := 210) dX8_lists_210 rfl ⟨⟨by omega, by omega⟩, by decide, by decide⟩ ?_
        simp only [stl, List.tail_cons, List.tail_nil]
        refine kr_goto (pc := 213) dX8_lists_213 rfl ?_
        exact ih (p + 1) _ I1 l1 L1 hi (by omega) g1 g2 g3 (fr.tr g4) g5 (by omega) k
      have added : kix l e.1 = -1 → ∀ (tl : List aV) (I1 : Nat → Nat → Int) (R' : Nat → Int), EdM I1 m (L' ++ [(2, (i : Int), e.1, -1, (p : Int), e)]) → frE I I1 m → SecM R' 33 i (l.insertIdx ((p : Int)).toNat e) → (∀ j, offS 33 i j → R' j = I1 (m + 1) j) →
          amT mX8_lists 210 (vR m :: vI a :: vI b :: vI (i : Int) :: vI (p : Int) :: tl) [] (sa (hI h I1) (m + 1) R') Q := by
        intro hk tl I1 R' E1 fr1 W2 hf
        rw [if_pos hk] at k
        rw [sa_hI]
        refine again tl (setR I1 m R') _ _ (hPI.ins he hk) (by rw [setR_at]; exact W2) E1.set (fr1.w.tr (frW.set fun j hj => hf j (off33 hi hj))) ?_ (by rw [List.length_append]; exact Nat.le_refl _) ?_
        · rw [setR_at]
          refine wkS.off (R := I1 (m + 1)) ?_ hi hf
          rw [fr1.1 (m + 1) (by omega) (by omega)]
          exact ws
        · intro tl' q I' g2 g3 g4
          refine k tl' q I' ?_ g3 g4
          rw [List.append_assoc] at g2
          exact g2
      have moved : kix l e.1 ≠ -1 → kix l e.1 ≠ p → ∀ (tl : List aV) (I1 : Nat → Nat → Int) (R' : Nat → Int), EdM I1 m (L' ++ [(3, (i : Int), e.1, kix l e.1, (p : Int), E0)]) → frE I I1 m → SecM R' 33 i (mv l (kix l e.1).toNat ((p : Int)).toNat) → (∀ j, offS 33 i j → R' j = I1 (m + 1) j) →
          amT mX8_lists 210 (vR m :: vI a :: vI b :: vI (i : Int) :: vI (p : Int) :: tl) [] (sa (hI h I1) (m + 1) R') Q := by
        intro hk hk2 tl I1 R' E1 fr1 W2 hf
        rw [if_neg hk, if_neg hk2] at k
        rw [sa_hI]
        refine again tl (setR I1 m R') _ _ (hPI.mvd okT.2.1 he hk) (by rw [setR_at]; exact W2) E1.set (fr1.w.tr (frW.set fun j hj => hf j (off33 hi hj))) ?_ (by rw [List.length_append]; exact Nat.le_refl _) ?_
        · rw [setR_at]
          refine wkS.off (R := I1 (m + 1)) ?_ hi hf
          rw [fr1.1 (m + 1) (by omega) (by omega)]
          exact ws
        · intro tl' q I' g2 g3 g4
          refine k tl' q I' ?_ g3 g4
          rw [List.append_assoc] at g2
          exact g2
      refine kr_iload (pc := 100) dX8_lists_100 rfl ?_
      refine kr_aload_n (pc := 102) dX8_lists_102 rfl ?_
      refine kr_iload_n (pc := 103) dX8_lists_103 rfl ?_
      refine kr_iload_n (pc := 104) dX8_lists_104 rfl ?_
      refine kr_v2 (pc := 105) dX8_lists_105 rfl rfl (by assumption) (Nat.le_of_ble_eq_true rfl) rfl rfl (m_manyI M1 (by omega) (by omega) HT ?_)
      show amT _ _ _ _ _ _
      refine kr_icmp_ge (pc := 108) dX8_lists_108 rfl (fun h108 => by exfalso; omega) (fun h108 => ?_)
      refine kr_aload_n (pc := 111) dX8_lists_111 rfl ?_
      refine kr_getr (pc := 112) dX8_lists_112 rfl rfl (by assumption) (by assumption) ?_
      refine kr_iload_n (pc := 115) dX8_lists_115 rfl ?_
      refine kr_iload_n (pc := 116) dX8_lists_116 rfl ?_
      refine kr_iload (pc := 117) dX8_lists_117 rfl ?_
      refine kr_s3 (pc := 119) dX8_lists_119 rfl rfl (Nat.le_of_ble_eq_true rfl) rfl rfl rfl (m_at ⟨by omega, by omega⟩ ⟨by omega, by omega⟩ ⟨by omega, by omega⟩ ?_)
      show amT _ _ _ _ _ _
      refine kr_iald (pc := 122) dX8_lists_122 (by assumption) (by omega) (by omega) rfl ?_
      rw [show hiv (hI h I) (m + 1) = hiv (hI h I) (m + 1) from rfl, x1]
      refine kr_istore (pc := 123) dX8_lists_123 (show 5 ≤ _ from by simp) (by decide) ?_
      simp only [stl, List.tail_cons, List.tail_nil]
      refine kr_aload_n (pc := 125) dX8_lists_125 rfl ?_
      refine kr_bipush (pc := 126) dX8_lists_126 (by decide) ?_
      refine kr_iload_n (pc := 128) dX8_lists_128 rfl ?_
      refine kr_iload (pc := 129) dX8_lists_129 rfl ?_
      refine kr_s1 (pc := 131) dX8_lists_131 rfl rfl (Nat.le_of_ble_eq_true rfl) rfl (m_key x3.1 ?_)
      show amT _ _ _ _ _ _
      rw [pk_key x2]
      refine kr_v3 (pc := 134) dX8_lists_134 rfl rfl (by assumption) (Nat.le_of_ble_eq_true rfl) rfl rfl rfl (m_findI M1 (by omega) (by omega) HW ?_)
      show amT _ _ _ _ _ _
      refine kr_istore (pc := 137) dX8_lists_137 (show 6 ≤ _ from by simp) (by decide) ?_
      simp only [stl, List.tail_cons, List.tail_nil]
      refine kr_iload (pc := 139) dX8_lists_139 rfl ?_
      refine kr_iconst (pc := 141) dX8_lists_141 (by decide) ?_
      refine kr_icmp_ne (pc := 142) dX8_lists_142 rfl (fun h142 => ?_) (fun h142 => ?_)
      · refine kr_iload (pc := 176) dX8_lists_176 rfl ?_
        refine kr_iload (pc := 178) dX8_lists_178 rfl ?_
        refine kr_icmp_eq (pc := 180) dX8_lists_180 rfl (fun h180 => ?_) (fun h180 => ?_)
        · first | exact added h142 _ I1 R' E1 fr1 W2 hf | exact moved h142 h180 _ I1 R' E1 fr1 W2 hf | (rw [if_neg h142, if_pos h180] at k; exact again _ I l L' (hPI.eq he h180) W E (frE.rf (I := I)).w ws (by omega) k)
        · refine kr_aload_n (pc := 183) dX8_lists_183 rfl ?_
          refine kr_iconst (pc := 184) dX8_lists_184 (by decide) ?_
          refine kr_iload_n (pc := 185) dX8_lists_185 rfl ?_
          refine kr_iload (pc := 186) dX8_lists_186 rfl ?_
          refine kr_s1 (pc := 188) dX8_lists_188 rfl rfl (Nat.le_of_ble_eq_true rfl) rfl (m_key x3.1 ?_)
          show amT _ _ _ _ _ _
          rw [pk_key x2]
          refine kr_iload (pc := 191) dX8_lists_191 rfl ?_
          refine kr_iload (pc := 193) dX8_lists_193 rfl ?_
          refine kr_iconst (pc := 195) dX8_lists_195 (by decide) ?_
          refine kr_v6 (pc := 196) dX8_lists_196 rfl rfl (by assumption) (Nat.le_of_ble_eq_true rfl) rfl rfl rfl rfl rfl rfl (m_notes (3, (i : Int), e.1, kix l e.1, (p : Int), E0) M1 E (by omega) rfl rfl rfl rfl rfl (fun h => by dsimp only at h; omega) fun I1 E1 fr1 => ?_)
          show amT _ _ _ _ _ _
          have M2 : MS (hI h I1) m := M
          have HW1 : SecM (hiv (hI h I1) (m + 1)) (33 : Int).toNat (i : Int).toNat l := (by rw [show hiv (hI h I1) (m + 1) = I1 (m + 1) from rfl, fr1.1 (m + 1) (by omega) (by omega)]; exact HW)
          have hge := hPI.ge okT.2.1 he h142
          refine kr_aload_n (pc := 199) dX8_lists_199 rfl ?_
          refine kr_bipush (pc := 200) dX8_lists_200 (by decide) ?_
          refine kr_iload_n (pc := 202) dX8_lists_202 rfl ?_
          refine kr_iload (pc := 203) dX8_lists_203 rfl ?_
          refine kr_iload (pc := 205) dX8_lists_205 rfl ?_
          refine kr_v4 (pc := 207) dX8_lists_207 rfl rfl (by assumption) (Nat.le_of_ble_eq_true rfl) rfl rfl rfl rfl (m_shiftsI (l := l) M2 (by decide) (by omega) HW1 (by omega) (by omega) fun R' W2 hf => ?_)
          show amT _ _ _ _ _ _
          first | exact added h142 _ I1 R' E1 fr1 W2 hf | exact moved h142 h180 _ I1 R' E1 fr1 W2 hf | (rw [if_neg h142, if_pos h180] at k; exact again _ I l L' (hPI.eq he h180) W E (frE.rf (I := I)).w ws (by omega) k)
      · refine kr_aload_n (pc := 145) dX8_lists_145 rfl ?_
        refine kr_iconst (pc := 146) dX8_lists_146 (by decide) ?_
        refine kr_iload_n (pc := 147) dX8_lists_147 rfl ?_
        refine kr_iload (pc := 148) dX8_lists_148 rfl ?_
        refine kr_s1 (pc := 150) dX8_lists_150 rfl rfl (Nat.le_of_ble_eq_true rfl) rfl (m_key x3.1 ?_)
        show amT _ _ _ _ _ _
        rw [pk_key x2]
        refine kr_iload (pc := 153) dX8_lists_153 rfl ?_
        refine kr_iload (pc := 155) dX8_lists_155 rfl ?_
        refine kr_iload (pc := 157) dX8_lists_157 rfl ?_
        refine kr_v6 (pc := 159) dX8_lists_159 rfl rfl (by assumption) (Nat.le_of_ble_eq_true rfl) rfl rfl rfl rfl rfl rfl (m_notes (2, (i : Int), e.1, -1, (p : Int), e) M1 E (by omega) rfl rfl rfl rfl rfl (fun _ => rfl) fun I1 E1 fr1 => ?_)
        show amT _ _ _ _ _ _
        have M2 : MS (hI h I1) m := M
        have HW1 : SecM (hiv (hI h I1) (m + 1)) (33 : Int).toNat (i : Int).toNat l := (by rw [show hiv (hI h I1) (m + 1) = I1 (m + 1) from rfl, fr1.1 (m + 1) (by omega) (by omega)]; exact HW)
        have hlt := hPI.lt he h142
        refine kr_aload_n (pc := 162) dX8_lists_162 rfl ?_
        refine kr_bipush (pc := 163) dX8_lists_163 (by decide) ?_
        refine kr_iload_n (pc := 165) dX8_lists_165 rfl ?_
        refine kr_iload (pc := 166) dX8_lists_166 rfl ?_
        refine kr_iload (pc := 168) dX8_lists_168 rfl ?_
        refine kr_v4 (pc := 170) dX8_lists_170 rfl rfl (by assumption) (Nat.le_of_ble_eq_true rfl) rfl rfl rfl rfl (m_putsI (l := l) M2 (by decide) (by omega) HW1 (by omega) (by omega) x2 fun R' W2 hf => ?_)
        show amT _ _ _ _ _ _
        refine kr_goto (pc := 173) dX8_lists_173 rfl ?_
        first | exact added h142 _ I1 R' E1 fr1 W2 hf | exact moved h142 h180 _ I1 R' E1 fr1 W2 hf | (rw [if_neg h142, if_pos h180] at k; exact again _ I l L' (hPI.eq he h180) W E (frE.rf (I := I)).w ws (by omega) k)
  have gr : ∀ (g f : Int) (tl : List aV) (I : Nat → Nat → Int) (L' : List Edt), 0 ≤ g ∧ g ≤ 2 → 0 ≤ f ∧ f ≤ 1 → EdM I m L' → frW (hiv h) I m → L'.length < 100 →
      (∀ (tl' : List aV) (I' : Nat → Nat → Int), EdM I' m (L' ++ unl (7 + f) 0 g (ca.2 g.toNat f.toNat) (cb.2 g.toNat f.toNat)) → frW (hiv h) I' m → amT mX8_lists 294 (vR m :: vI a :: vI b :: vI g :: vI f :: tl') [] (hI h I') Q) →
      amT mX8_lists 245 (vR m :: vI a :: vI b :: vI g :: vI f :: tl) [] (hI h I) Q := by
    intro g f tl I L' hg hf E fr hl k
    have M1 : MS (hI h I) m := M
    have g1 : hiv (hI h I) (m + 1) (27 * a + 21 + 2 * g + f).toNat = ca.2 g.toNat f.toNat + 1 := by
      rw [show (27 * a + 21 + 2 * g + f).toNat = 27 * a.toNat + 21 + 2 * g.toNat + f.toNat by omega]
      refine Eq.trans ?_ (Ca.2 g.toNat f.toNat (by omega) (by omega))
      exact fr.2.2 _ (by omega)
    have g2 : hiv (hI h I) (m + 1) (27 * b + 21 + 2 * g + f).toNat = cb.2 g.toNat f.toNat + 1 := by
      rw [show (27 * b + 21 + 2 * g + f).toNat = 27 * b.toNat + 21 + 2 * g.toNat + f.toNat by omega]
      refine Eq.trans ?_ (Cb.2 g.toNat f.toNat (by omega) (by omega))
      exact fr.2.2 _ (by omega)
    obtain ⟨q1, q2, q3, q4, q5⟩ := ed7 (k := 7 + f) (s := 0) (y := g) (f := ca.2 g.toNat f.toNat) (t := cb.2 g.toNat f.toNat) (n := E0) (by omega)
    refine kr_aload_n (pc := 245) dX8_lists_245 rfl ?_
    refine kr_getr (pc := 246) dX8_lists_246 rfl rfl (by assumption) (by assumption) ?_
    refine kr_iload_n (pc := 249) dX8_lists_249 rfl ?_
    refine kr_iload_n (pc := 250) dX8_lists_250 rfl ?_
    refine kr_iload (pc := 251) dX8_lists_251 rfl ?_
    refine kr_s3 (pc := 253) dX8_lists_253 rfl rfl (Nat.le_of_ble_eq_true rfl) rfl rfl rfl (m_groupAt ⟨by omega, by omega⟩ ⟨by omega, by omega⟩ ⟨by omega, by omega⟩ ?_)
    show amT _ _ _ _ _ _
    refine kr_iald (pc := 256) dX8_lists_256 (by assumption) (by omega) (by omega) rfl ?_
    rw [g1]
    refine kr_istore (pc := 257) dX8_lists_257 (show 5 ≤ _ from by simp) (by decide) ?_
    simp only [stl, List.tail_cons, List.tail_nil]
    refine kr_aload_n (pc := 259) dX8_lists_259 rfl ?_
    refine kr_getr (pc := 260) dX8_lists_260 rfl rfl (by assumption) (by assumption) ?_
    refine kr_iload_n (pc := 263) dX8_lists_263 rfl ?_
    refine kr_iload_n (pc := 264) dX8_lists_264 rfl ?_
    refine kr_iload (pc := 265) dX8_lists_265 rfl ?_
    refine kr_s3 (pc := 267) dX8_lists_267 rfl rfl (Nat.le_of_ble_eq_true rfl) rfl rfl rfl (m_groupAt ⟨by omega, by omega⟩ ⟨by omega, by omega⟩ ⟨by omega, by omega⟩ ?_)
    show amT _ _ _ _ _ _
    refine kr_iald (pc := 270) dX8_lists_270 (by assumption) (by omega) (by omega) rfl ?_
    rw [g2]
    refine kr_istore (pc := 271) dX8_lists_271 (show 6 ≤ _ from by simp) (by decide) ?_
    simp only [stl, List.tail_cons, List.tail_nil]
    refine kr_iload (pc := 273) dX8_lists_273 rfl ?_
    refine kr_iload (pc := 275) dX8_lists_275 rfl ?_
    refine kr_icmp_eq (pc := 277) dX8_lists_277 rfl (fun h277 => ?_) (fun h277 => ?_)
    · first | exact k _ I (by unfold unl; rw [if_pos (by omega), List.append_nil]; exact E) fr | exact k _ I' (by unfold unl; rw [if_neg (by omega)]; exact E') (fr.tr fr'.w)
    · refine kr_aload_n (pc := 280) dX8_lists_280 rfl ?_
      refine kr_bipush (pc := 281) dX8_lists_281 (by decide) ?_
      refine kr_iload_n (pc := 283) dX8_lists_283 rfl ?_
      refine kr_iload (pc := 284) dX8_lists_284 rfl ?_
      refine kr_iload (pc := 286) dX8_lists_286 rfl ?_
      refine kr_iload (pc := 288) dX8_lists_288 rfl ?_
      refine kr_iconst (pc := 290) dX8_lists_290 (by decide) ?_
      refine kr_v6 (pc := 291) dX8_lists_291 rfl rfl (by assumption) (Nat.le_of_ble_eq_true rfl) rfl rfl rfl rfl rfl rfl (m_notes (7 + f, 0, g, ca.2 g.toNat f.toNat, cb.2 g.toNat f.toNat, E0) M1 E hl q1 q2 (by rw [← q3]; omega) q4 q5 (fun h => by dsimp only at h; omega) fun I' E' fr' => ?_)
      show amT _ _ _ _ _ _
      first | exact k _ I (by unfold unl; rw [if_pos (by omega), List.append_nil]; exact E) fr | exact k _ I' (by unfold unl; rw [if_neg (by omega)]; exact E') (fr.tr fr'.w)
  have groups : ∀ (tl : List aV) (I : Nat → Nat → Int) (L' : List Edt), EdM I m L' → frW (hiv h) I m → L'.length + 6 < 100 → L' ++ grpL ca.2 cb.2 = edL ca cb → amT mX8_lists 229 (vR m :: vI a :: vI b :: tl) [] (hI h I) Q := by
    intro tl I L' E fr hl hL
    refine kr_iconst (pc := 229) dX8_lists_229 (by decide) ?_
    refine kr_istore_n (pc := 230) dX8_lists_230 (show 3 ≤ _ from by simp) (by decide) ?_
    simp only [stl, List.tail_cons, List.tail_nil]
    refine kr_iload_n (pc := 231) dX8_lists_231 rfl ?_
    refine kr_iconst (pc := 232) dX8_lists_232 (by decide) ?_
    refine kr_icmp_ge (pc := 233) dX8_lists_233 rfl (fun h => absurd h (by decide)) (fun _ => ?_)
    refine kr_iconst (pc := 236) dX8_lists_236 (by decide) ?_
    refine kr_istore (pc := 237) dX8_lists_237 (show 4 ≤ _ from by simp) (by decide) ?_
    simp only [stl, List.tail_cons, List.tail_nil]
    refine kr_iload (pc := 239) dX8_lists_239 rfl ?_
    refine kr_iconst (pc := 241) dX8_lists_241 (by decide) ?_
    refine kr_icmp_ge (pc := 242) dX8_lists_242 rfl (fun h => absurd h (by decide)) (fun _ => ?_)
    refine gr _ _ _ I _ (by decide) (by decide) E fr (by omega) fun tl1 I1 E1 fr1 => ?_
    have l1 := Nat.le_trans (apl_len (L := _) (k := _) (s := _) (key := _) (a := _) (b := _) (E := E1)) (Nat.succ_le_succ (Nat.le_refl L'.length))
    refine kr_iinc (pc := 294) dX8_lists_294 rfl ⟨⟨by omega, by omega⟩, by decide, by decide⟩ ?_
    simp only [stl, List.tail_cons, List.tail_nil]
    refine kr_goto (pc := 297) dX8_lists_297 rfl ?_
    refine kr_iload (pc := 239) dX8_lists_239 rfl ?_
    refine kr_iconst (pc := 241) dX8_lists_241 (by decide) ?_
    refine kr_icmp_ge (pc := 242) dX8_lists_242 rfl (fun h => absurd h (by decide)) (fun _ => ?_)
    refine gr _ _ _ I1 _ (by decide) (by decide) E1 fr1 (by omega) fun tl2 I2 E2 fr2 => ?_
    have l2 := Nat.le_trans (apl_len (L := _) (k := _) (s := _) (key := _) (a := _) (b := _) (E := E2)) (Nat.succ_le_succ l1)
    refine kr_iinc (pc := 294) dX8_lists_294 rfl ⟨⟨by omega, by omega⟩, by decide, by decide⟩ ?_
    simp only [stl, List.tail_cons, List.tail_nil]
    refine kr_goto (pc := 297) dX8_lists_297 rfl ?_
    refine kr_iload (pc := 239) dX8_lists_239 rfl ?_
    refine kr_iconst (pc := 241) dX8_lists_241 (by decide) ?_
    refine kr_icmp_ge (pc := 242) dX8_lists_242 rfl (fun _ => ?_) (fun h => absurd h (by decide))
    refine kr_iinc (pc := 300) dX8_lists_300 rfl ⟨⟨by omega, by omega⟩, by decide, by decide⟩ ?_
    simp only [stl, List.tail_cons, List.tail_nil]
    refine kr_goto (pc := 303) dX8_lists_303 rfl ?_
    refine kr_iload_n (pc := 231) dX8_lists_231 rfl ?_
    refine kr_iconst (pc := 232) dX8_lists_232 (by decide) ?_
    refine kr_icmp_ge (pc := 233) dX8_lists_233 rfl (fun h => absurd h (by decide)) (fun _ => ?_)
    refine kr_iconst (pc := 236) dX8_lists_236 (by decide) ?_
    refine kr_istore (pc := 237) dX8_lists_237 (show 4 ≤ _ from by simp) (by decide) ?_
    simp only [stl, List.tail_cons, List.tail_nil]
    refine kr_iload (pc := 239) dX8_lists_239 rfl ?_
    refine kr_iconst (pc := 241) dX8_lists_241 (by decide) ?_
    refine kr_icmp_ge (pc := 242) dX8_lists_242 rfl (fun h => absurd h (by decide)) (fun _ => ?_)
    refine gr _ _ _ I2 _ (by decide) (by decide) E2 fr2 (by omega) fun tl3 I3 E3 fr3 => ?_
    have l3 := Nat.le_trans (apl_len (L := _) (k := _) (s := _) (key := _) (a := _) (b := _) (E := E3)) (Nat.succ_le_succ l2)
    refine kr_iinc (pc := 294) dX8_lists_294 rfl ⟨⟨by omega, by omega⟩, by decide, by decide⟩ ?_
    simp only [stl, List.tail_cons, List.tail_nil]
    refine kr_goto (pc := 297) dX8_lists_297 rfl ?_
    refine kr_iload (pc := 239) dX8_lists_239 rfl ?_
    refine kr_iconst (pc := 241) dX8_lists_241 (by decide) ?_
    refine kr_icmp_ge (pc := 242) dX8_lists_242 rfl (fun h => absurd h (by decide)) (fun _ => ?_)
    refine gr _ _ _ I3 _ (by decide) (by decide) E3 fr3 (by omega) fun tl4 I4 E4 fr4 => ?_
    have l4 := Nat.le_trans (apl_len (L := _) (k := _) (s := _) (key := _) (a := _) (b := _) (E := E4)) (Nat.succ_le_succ l3)
    refine kr_iinc (pc := 294) dX8_lists_294 rfl ⟨⟨by omega, by omega⟩, by decide, by decide⟩ ?_
    simp only [stl, List.tail_cons, List.tail_nil]
    refine kr_goto (pc := 297) dX8_lists_297 rfl ?_
    refine kr_iload (pc := 239) dX8_lists_239 rfl ?_
    refine kr_iconst (pc := 241) dX8_lists_241 (by decide) ?_
    refine kr_icmp_ge (pc := 242) dX8_lists_242 rfl (fun _ => ?_) (fun h => absurd h (by decide))
    refine kr_iinc (pc := 300) dX8_lists_300 rfl ⟨⟨by omega, by omega⟩, by decide, by decide⟩ ?_
    simp only [stl, List.tail_cons, List.tail_nil]
    refine kr_goto (pc := 303) dX8_lists_303 rfl ?_
    refine kr_iload_n (pc := 231) dX8_lists_231 rfl ?_
    refine kr_iconst (pc := 232) dX8_lists_232 (by decide) ?_
    refine kr_icmp_ge (pc := 233) dX8_lists_233 rfl (fun h => absurd h (by decide)) (fun _ => ?_)
    refine kr_iconst (pc := 236) dX8_lists_236 (by decide) ?_
    refine kr_istore (pc := 237) dX8_lists_237 (show 4 ≤ _ from by simp) (by decide) ?_
    simp only [stl, List.tail_cons, List.tail_nil]
    refine kr_iload (pc := 239) dX8_lists_239 rfl ?_
    refine kr_iconst (pc := 241) dX8_lists_241 (by decide) ?_
    refine kr_icmp_ge (pc := 242) dX8_lists_242 rfl (fun h => absurd h (by decide)) (fun _ => ?_)
    refine gr _ _ _ I4 _ (by decide) (by decide) E4 fr4 (by omega) fun tl5 I5 E5 fr5 => ?_
    have l5 := Nat.le_trans (apl_len (L := _) (k := _) (s := _) (key := _) (a := _) (b := _) (E := E5)) (Nat.succ_le_succ l4)
    refine kr_iinc (pc := 294) dX8_lists_294 rfl ⟨⟨by omega, by omega⟩, by decide, by decide⟩ ?_
    simp only [stl, List.tail_cons, List.tail_nil]
    refine kr_goto (pc := 297) dX8_lists_297 rfl ?_
    refine kr_iload (pc := 239) dX8_lists_239 rfl ?_
    refine kr_iconst (pc := 241) dX8_lists_241 (by decide) ?_
    refine kr_icmp_ge (pc := 242) dX8_lists_242 rfl (fun h => absurd h (by decide)) (fun _ => ?_)
    refine gr _ _ _ I5 _ (by decide) (by decide) E5 fr5 (by omega) fun tl6 I6 E6 fr6 => ?_
    have l6 := Nat.le_trans (apl_len (L := _) (k := _) (s := _) (key := _) (a := _) (b := _) (E := E6)) (Nat.succ_le_succ l5)
    refine kr_iinc (pc := 294) dX8_lists_294 rfl ⟨⟨by omega, by omega⟩, by decide, by decide⟩ ?_
    simp only [stl, List.tail_cons, List.tail_nil]
    refine kr_goto (pc := 297) dX8_lists_297 rfl ?_
    refine kr_iload (pc := 239) dX8_lists_239 rfl ?_
    refine kr_iconst (pc := 241) dX8_lists_241 (by decide) ?_
    refine kr_icmp_ge (pc := 242) dX8_lists_242 rfl (fun _ => ?_) (fun h => absurd h (by decide))
    refine kr_iinc (pc := 300) dX8_lists_300 rfl ⟨⟨by omega, by omega⟩, by decide, by decide⟩ ?_
    simp only [stl, List.tail_cons, List.tail_nil]
    refine kr_goto (pc := 303) dX8_lists_303 rfl ?_
    refine kr_iload_n (pc := 231) dX8_lists_231 rfl ?_
    refine kr_iconst (pc := 232) dX8_lists_232 (by decide) ?_
    refine kr_icmp_ge (pc := 233) dX8_lists_233 rfl (fun _ => ?_) (fun h => absurd h (by decide))
    refine kr_return (d0 := ()) (pc := 306) dX8_lists_306 rfl ?_
    refine kk I6 ?_ fr6
    rw [← hL]
    unfold grpL
    simp only [List.append_assoc] at E6
    exact E6
  have secs : ∀ (d : Nat) (tl : List aV) (I : Nat → Nat → Int) (L' : List Edt), d ≤ 3 → EdM I m L' → frW (hiv h) I m → (∀ j, 3 - d ≤ j → j < 3 → SecM (I (m + 1)) 33 j (ca.1 j)) → L'.length ≤ 24 * (3 - d) → L' ++ rsS ca cb d = edL ca cb →
      amT mX8_lists 14 (vR m :: vI a :: vI b :: vI ((3 - d : Nat) : Int) :: tl) [] (hI h I) Q := by
    intro d
    induction d with
    | zero =>
      intro tl I L' _ E fr _ hl hL
      refine kr_iload_n (pc := 14) dX8_lists_14 rfl ?_
      refine kr_iconst (pc := 15) dX8_lists_15 (by decide) ?_
      refine kr_icmp_ge (pc := 16) dX8_lists_16 rfl (fun _ => ?_) (fun h => by omega)
      exact groups _ I L' E fr (by omega) hL
    | succ d ih =>
      intro tl I L' hd E fr ws hl hL
      have M1 : MS (hI h I) m := M
      rw [show 3 - (d + 1) = 2 - d by omega] at *
      have hF := oa.1 (2 - d) (by omega)
      have hT := ob.1 (2 - d) (by omega)
      have hF6 := hF.1
      have hT6 := hT.1
      have HW : SecM (hiv (hI h I) (m + 1)) (33 : Int).toNat ((2 - d : Nat) : Int).toNat (ca.1 (2 - d)) := ws (2 - d) (Nat.le_refl _) (by omega)
      obtain ⟨r1, r2, r3, r4⟩ := rmv_spec (c := ((2 - d : Nat) : Int)) (T := cb.1 (2 - d)) (ca.1 (2 - d)).length (ca.1 (2 - d)) hF.2.1 (Nat.le_refl _) fun j e hj he => by
        have := (List.getElem?_eq_some_iff.mp he).1
        omega
      have hpl := plc_len (c := ((2 - d : Nat) : Int)) (T := cb.1 (2 - d)) (cb.1 (2 - d)).length 0 (rmv ((2 - d : Nat) : Int) (cb.1 (2 - d)) (ca.1 (2 - d)).length (ca.1 (2 - d))).2
      refine kr_iload_n (pc := 14) dX8_lists_14 rfl ?_
      refine kr_iconst (pc := 15) dX8_lists_15 (by decide) ?_
      refine kr_icmp_ge (pc := 16) dX8_lists_16 rfl (fun h => by omega) (fun _ => ?_)
      refine kr_aload_n (pc := 19) dX8_lists_19 rfl ?_
      refine kr_bipush (pc := 20) dX8_lists_20 (by decide) ?_
      refine kr_iload_n (pc := 22) dX8_lists_22 rfl ?_
      refine kr_v2 (pc := 23) dX8_lists_23 rfl rfl (by assumption) (Nat.le_of_ble_eq_true rfl) rfl rfl (m_manyI M1 (by decide) (by omega) HW ?_)
      show amT _ _ _ _ _ _
      refine kr_iconst (pc := 26) dX8_lists_26 (by decide) ?_
      refine kr_isub (pc := 27) dX8_lists_27 ⟨by omega, by omega⟩ ?_
      refine kr_istore (pc := 28) dX8_lists_28 (show 4 ≤ _ from by simp) (by decide) ?_
      simp only [stl, List.tail_cons, List.tail_nil]
      refine rm (2 - d) (ca.1 (2 - d)).length _ I _ L' (by omega) (Nat.le_refl _) HW E fr (fun j h1 h2 => ws j (by omega) h2) (by omega) fun tl1 p1 I1 W1 E1 fr1 ws1 => ?_
      refine kr_iconst (pc := 97) dX8_lists_97 (by decide) ?_
      refine kr_istore (pc := 98) dX8_lists_98 (show 4 ≤ _ from by simp) (by decide) ?_
      simp only [stl, List.tail_cons, List.tail_nil]
      refine pl (2 - d) (cb.1 (2 - d)).length 0 _ I1 _ _ (by omega) (by omega) (rmv_PI hF.2.1) W1 E1 fr1 ws1 (by rw [List.length_append]; omega) fun tl2 p2 I2 E2 fr2 ws2 => ?_
      have M2 : MS (hI h I2) m := M
      have HA : SecM (hiv (hI h I2) (m + 1)) a.toNat ((2 - d : Nat) : Int).toNat (ca.1 (2 - d)) := by
        refine (Ca.1 (2 - d) (by omega)).fr fun j h1 h2 => ?_
        exact fr2.2.2 j (by omega)
      have HB : SecM (hiv (hI h I2) (m + 1)) b.toNat ((2 - d : Nat) : Int).toNat (cb.1 (2 - d)) := by
        refine (Cb.1 (2 - d) (by omega)).fr fun j h1 h2 => ?_
        exact fr2.2.2 j (by omega)
      refine kr_aload_n (pc := 216) dX8_lists_216 rfl ?_
      refine kr_iload_n (pc := 217) dX8_lists_217 rfl ?_
      refine kr_iload_n (pc := 218) dX8_lists_218 rfl ?_
      refine kr_iload_n (pc := 219) dX8_lists_219 rfl ?_
      refine kr_v3 (pc := 220) dX8_lists_220 rfl rfl (by assumption) (Nat.le_of_ble_eq_true rfl) rfl rfl rfl (m_settles M2 (by omega) (by omega) (by omega) HA HB E2 (by rw [List.length_append, List.length_append]; omega) fun I3 E3 fr3 => ?_)
      show amT _ _ _ _ _ _
      have hsl := secL_len (c := ((2 - d : Nat) : Int)) hF hT
      have hsx : (L' ++ (rmv ((2 - d : Nat) : Int) (cb.1 (2 - d)) (ca.1 (2 - d)).length (ca.1 (2 - d))).1 ++ (plc ((2 - d : Nat) : Int) (cb.1 (2 - d)) (cb.1 (2 - d)).length 0 (rmv ((2 - d : Nat) : Int) (cb.1 (2 - d)) (ca.1 (2 - d)).length (ca.1 (2 - d))).2).1 ++ stA ((2 - d : Nat) : Int) (ca.1 (2 - d)) (cb.1 (2 - d)) 10) = L' ++ secL ((2 - d : Nat) : Int) (ca.1 (2 - d)) (cb.1 (2 - d)) := by
        unfold secL
        simp only [List.append_assoc]
      rw [hsx] at E3
      refine kr_iinc (pc := 223) dX8_lists_223 rfl ⟨⟨by omega, by omega⟩, by decide, by decide⟩ ?_
      simp only [stl, List.tail_cons, List.tail_nil]
      refine kr_goto (pc := 226) dX8_lists_226 rfl ?_
      rw [show ((2 - d : Nat) : Int) + 1 = ((3 - d : Nat) : Int) by omega]
      refine ih _ I3 _ (by omega) E3 (fr2.tr fr3.w) (fun j h1 h2 => ?_) (by rw [List.length_append]; omega) ?_
      · rw [fr3.1 (m + 1) (by omega) (by omega)]
        exact ws2 j (by omega) h2
      · rw [← hL, List.append_assoc]
        rfl
  refine kr_aload_n (pc := 0) dX8_lists_0 rfl ?_
  refine kr_iconst (pc := 1) dX8_lists_1 (by decide) ?_
  refine kr_puti (pc := 2) dX8_lists_2 rfl (Or.inl rfl) (by decide) (by assumption) ?_
  refine kr_aload_n (pc := 5) dX8_lists_5 rfl ?_
  refine kr_iload_n (pc := 6) dX8_lists_6 rfl ?_
  refine kr_bipush (pc := 7) dX8_lists_7 (by decide) ?_
  have C1 : MS (hwi h m 5 0) m := M
  refine kr_v2 (pc := 9) dX8_lists_9 rfl rfl (by assumption) (Nat.le_of_ble_eq_true rfl) rfl rfl (m_copiesI C1 (by omega) (by decide) ?_)
  show amT _ _ _ _ _ _
  refine kr_iconst (pc := 12) dX8_lists_12 (by decide) ?_
  refine kr_istore_n (pc := 13) dX8_lists_13 (show 3 ≤ _ from by simp) (by decide) ?_
  simp only [stl, List.tail_cons, List.tail_nil]
  have e0 : hiv (hwi h m 5 0) (m + 1) = hiv h (m + 1) := up2_ne (by omega)
  rw [e0]
  have fr0 : frW (hiv h) (setR (up2 (hiv h) m 5 0) m (cpF (hiv h (m + 1)) a.toNat (33 : Int).toNat)) m := by
    refine ⟨fun x h1 h2 h3 => ?_, fun j hj => ?_, fun j hj => ?_⟩
    · rw [setR_ne h2, up2_ne h1]
    · rw [setR_ne (by omega), up2_nj hj]
    · rw [setR_at]
      exact if_neg (by omega)
  refine secs 3 [] (setR (up2 (hiv h) m 5 0) m (cpF (hiv h (m + 1)) a.toNat (33 : Int).toNat)) [] (Nat.le_refl _) ⟨?_, fun i e he => by cases he⟩ fr0 (fun j h1 h2 => ?_) (Nat.zero_le _) rfl
  · rw [setR_ne (by omega), up2_at]
    rfl
  · rw [setR_at]
    exact (Ca.cp (b := 33) (by decide)).1 j h2
end M9
