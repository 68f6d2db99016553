/-! LISTS OF EDITS of the class -/
def LiB (h : aH) (a : Nat) (q : Nat → Nat) : Prop :=
  hsh h a = (4, 3) ∧ hrf h a 1 = some (a + 1) ∧ hsh h (a + 1) = (22 + 2, 78) ∧ hrf h a 2 = some (a + 2) ∧ (∀ i, i < 78 → hrf h (a + 1) i = some (a + 16 + 3 * q i) ∧ q i < 78) ∧ (∀ i j, i < 78 → j < 78 → q i = q j → i = j) ∧ ∀ i, i < 78 → EdB h (a + 16 + 3 * i)
def LiP (h : aH) (a : Nat) (L : List Edt) (q : Nat → Nat) : Prop := LiB h a q ∧ hiv h a 0 = L.length ∧ L.length ≤ 78 ∧ ∀ (i : Nat) (e : Edt), L[i]? = some e → EdC h (a + 16 + 3 * q i) e
theorem LiB.ag {h h' : aH} {a : Nat} {q : Nat → Nat} (H : LiB h a q) (f : agr h h' a (a + 2)) (g : agr h h' (a + 16) (a + 250)) : LiB h' a q := by
  obtain ⟨a1, a2, a3, a4, a5, a6, a7⟩ := H
  refine ⟨by rw [f.1]; exact a1, by rw [(f.2 a (by omega) (by omega)).2]; exact a2, by rw [f.1]; exact a3, by rw [(f.2 a (by omega) (by omega)).2]; exact a4, fun i hi => by rw [(f.2 (a + 1) (by omega) (by omega)).2]; exact a5 i hi, a6, fun i hi => (a7 i hi).ag (g.up (by omega) (by omega))⟩
theorem LiP.ag {h h' : aH} {a : Nat} {L : List Edt} {q : Nat → Nat} (H : LiP h a L q) (f : agr h h' a (a + 2)) (g : agr h h' (a + 16) (a + 250)) : LiP h' a L q := by
  obtain ⟨B, b1, b2, b3⟩ := H
  refine ⟨B.ag f g, by rw [(f.2 a (by omega) (by omega)).1]; exact b1, b2, fun i e he => ?_⟩
  have hi := (List.getElem?_eq_some_iff.mp he).1
  have := (B.2.2.2.2.1 i (by omega)).2
  exact (b3 i e he).ag (g.up (by omega) (by omega))
/-- the list's own count and its edits alone are others -/
def frL (h h' : aH) (a : Nat) : Prop := hsh h' = hsh h ∧ hnx h' = hnx h ∧ hks h' = hks h ∧ ∀ x, x ≠ a → ¬ (a + 16 ≤ x ∧ x < a + 250) → hiv h' x = hiv h x ∧ hrf h' x = hrf h x
theorem frL.fro {h h' : aH} {a : Nat} (f : frL h h' a) : fro h h' a (a + 250) := ⟨f.1, f.2.1, f.2.2.1, fun x hx => f.2.2.2 x (by omega) (by omega)⟩
theorem frL.ag {h h' : aH} {a c d : Nat} (f : frL h h' a) (hd : d ≤ a ∨ a + 250 ≤ c ∨ (a + 1 ≤ c ∧ d ≤ a + 16)) : agr h h' c d := ⟨f.1, fun x h1 h2 => f.2.2.2 x (by omega) (by omega)⟩
theorem frL.tr {h h' h'' : aH} {a : Nat} (f : frL h h' a) (g : frL h' h'' a) : frL h h'' a :=
  ⟨g.1.trans f.1, g.2.1.trans f.2.1, g.2.2.1.trans f.2.2.1, fun x h1 h2 => ⟨(g.2.2.2 x h1 h2).1.trans (f.2.2.2 x h1 h2).1, (g.2.2.2 x h1 h2).2.trans (f.2.2.2 x h1 h2).2⟩⟩
theorem frL.rf {h : aH} {a : Nat} : frL h h a := ⟨rfl, rfl, rfl, fun _ _ _ => ⟨rfl, rfl⟩⟩
section X9
variable {h : aH} {Q : aR → Prop} {a : Nat} {L : List Edt} {q : Nat → Nat}
theorem x_note {k s y f t : Int} {n : Ent} (H : LiP h a L q) (hl : L.length < 78) (hn : k ≤ 2 → EnC h (a + 16 + 3 * q L.length + 1) n) (kk : ∀ h', frL h h' a → LiP h' a (L ++ [(k, s, y, f, t, n)]) q → Q (.inl none, h')) : amT mX3_note 0 [vR a, vI k, vI s, vI y, vI f, vI t] [] h Q := by
  obtain ⟨B, b1, b2, b3⟩ := id H
  obtain ⟨a1, a2, a3, a4, a5, a6, a7⟩ := id B
  obtain ⟨x1, x2⟩ := a5 L.length (by omega)
  have x3 : hrf h (a + 1) ((L.length : Nat) : Int).toNat = some (a + 16 + 3 * q L.length) := x1
  have x4 := (a7 _ x2).1
  have rest : ∀ h', fro h h' (a + 16 + 3 * q L.length) (a + 16 + 3 * q L.length + 1) → EdC h' (a + 16 + 3 * q L.length) (k, s, y, f, t, n) → amT mX3_note 28 [vR a, vI k, vI s, vI y, vI f, vI t] [] h' Q := by
    intro h' fr' E'
    have c1 : hiv h' a 0 = L.length := by rw [(fr'.2.2.2 a (by omega)).1]; exact b1
    have s1 : hsh h' a = (4, 3) := by rw [fr'.1]; exact a1
    have fr : fro h' (hwi h' a 0 ((L.length : Int) + 1)) a (a + 1) := hwi_fro (by omega) (by omega)
    refine kr_aload_n (pc := 28) dX3_note_28 rfl ?_
    refine kr_dup (pc := 29) dX3_note_29 rfl ?_
    refine kr_geti (pc := 30) dX3_note_30 rfl (by decide) (by assumption) c1 ?_
    refine kr_iconst (pc := 33) dX3_note_33 (by decide) ?_
    refine kr_iadd (pc := 34) dX3_note_34 ⟨by omega, by omega⟩ ?_
    refine kr_puti (pc := 35) dX3_note_35 rfl (Or.inl rfl) (by decide) (by assumption) ?_
    refine kr_return (d0 := ()) (pc := 38) dX3_note_38 rfl ?_
    refine kk _ ⟨fr'.1, fr'.2.1, fr'.2.2.1, fun x h1 h2 => ⟨(fr.2.2.2 x (by omega)).1.trans (fr'.2.2.2 x (by omega)).1, (fr.2.2.2 x (by omega)).2.trans (fr'.2.2.2 x (by omega)).2⟩⟩ ⟨⟨s1, ?_, ?_, ?_, fun i hi => ⟨?_, (a5 i hi).2⟩, a6, fun i hi => ?_⟩, ?_, ?_, fun i e he => ?_⟩
    · show hrf h' a 1 = _
      rw [(fr'.2.2.2 a (by omega)).2]; exact a2
    · show hsh h' (a + 1) = _
      rw [fr'.1]; exact a3
    · show hrf h' a 2 = _
      rw [(fr'.2.2.2 a (by omega)).2]; exact a4
    · show hrf h' (a + 1) i = _
      rw [(fr'.2.2.2 (a + 1) (by omega)).2]; exact (a5 i hi).1
    · by_cases hi2 : i = q L.length
      · rw [hi2]
        exact E'.1.ag (fr.ag (by omega))
      · exact ((a7 i hi).ag (fr'.ag (by omega))).ag (fr.ag (by omega))
    · rw [List.length_append]
      exact up2_at
    · rw [List.length_append]
      show L.length + 1 ≤ 78
      omega
    · rw [List.getElem?_append] at he
      split at he
      · rename_i hi
        have hne : q i ≠ q L.length := fun hh => by have := a6 _ _ (by omega) (by omega) hh; omega
        exact ((b3 i e he).ag (fr'.ag (by omega))).ag (fr.ag (by omega))
      · by_cases hi : i = L.length
        · subst hi
          rw [Nat.sub_self] at he
          cases he
          exact E'.ag (fr.ag (by omega))
        · rw [List.getElem?_eq_none (by show 1 ≤ _; omega)] at he
          cases he
  refine kr_aload_n (pc := 0) dX3_note_0 rfl ?_
  refine kr_geti (pc := 1) dX3_note_1 rfl (by decide) (by assumption) b1 ?_
  refine kr_bipush (pc := 4) dX3_note_4 (by decide) ?_
  refine kr_icmp_ge (pc := 6) dX3_note_6 rfl (fun h6 => by exfalso; omega) (fun h6 => ?_)
  refine kr_aload_n (pc := 9) dX3_note_9 rfl ?_
  refine kr_getr (pc := 10) dX3_note_10 rfl rfl (by assumption) (by assumption) ?_
  refine kr_aload_n (pc := 13) dX3_note_13 rfl ?_
  refine kr_geti (pc := 14) dX3_note_14 rfl (by decide) (by assumption) b1 ?_
  refine kr_aald (pc := 17) dX3_note_17 (by assumption) (by decide) (by omega) (by omega) (by assumption) ?_
  refine kr_iload_n (pc := 18) dX3_note_18 rfl ?_
  refine kr_iload_n (pc := 19) dX3_note_19 rfl ?_
  refine kr_iload_n (pc := 20) dX3_note_20 rfl ?_
  refine kr_iload (pc := 21) dX3_note_21 rfl ?_
  refine kr_iload (pc := 23) dX3_note_23 rfl ?_
  refine kr_v5 (pc := 25) dX3_note_25 rfl rfl (by assumption) (Nat.le_of_ble_eq_true rfl) rfl rfl rfl rfl rfl (x_become (a7 _ x2) hn fun h' fr' E' => ?_)
  show amT _ _ _ _ _ _
  exact rest h' fr' E'
theorem x_noteIf {k s y f t : Int} (H : LiP h a L q) (hl : L.length < 78) (hk : 3 ≤ k) (kk : ∀ h', frL h h' a → LiP h' a (L ++ unl k s y f t) q → Q (.inl none, h')) : amT mX3_noteIfUnlike 0 [vR a, vI k, vI s, vI y, vI f, vI t] [] h Q := by
  have s1 := H.1.1
  unfold unl at kk
  refine kr_iload (pc := 0) dX3_noteIfUnlike_0 rfl ?_
  refine kr_iload (pc := 2) dX3_noteIfUnlike_2 rfl ?_
  refine kr_icmp_eq (pc := 4) dX3_noteIfUnlike_4 rfl (fun h4 => ?_) (fun h4 => ?_)
  · refine kr_return (d0 := ()) (pc := 18) dX3_noteIfUnlike_18 rfl ?_
    first | (rw [if_pos h4, List.append_nil] at kk; exact kk h frL.rf H) | (rw [if_neg h4] at kk; exact kk h' fr' H')
  · refine kr_aload_n (pc := 7) dX3_noteIfUnlike_7 rfl ?_
    refine kr_iload_n (pc := 8) dX3_noteIfUnlike_8 rfl ?_
    refine kr_iload_n (pc := 9) dX3_noteIfUnlike_9 rfl ?_
    refine kr_iload_n (pc := 10) dX3_noteIfUnlike_10 rfl ?_
    refine kr_iload (pc := 11) dX3_noteIfUnlike_11 rfl ?_
    refine kr_iload (pc := 13) dX3_noteIfUnlike_13 rfl ?_
    refine kr_v5 (pc := 15) dX3_noteIfUnlike_15 rfl rfl (by assumption) (Nat.le_of_ble_eq_true rfl) rfl rfl rfl rfl rfl (x_note (n := E0) H hl (fun hh => by omega) (fun h' fr' H' => ?_))
    show amT _ _ _ _ _ _
    refine kr_return (d0 := ()) (pc := 18) dX3_noteIfUnlike_18 rfl ?_
    first | (rw [if_pos h4, List.append_nil] at kk; exact kk h frL.rf H) | (rw [if_neg h4] at kk; exact kk h' fr' H')
theorem x_noteWhole {k s f t : Int} {n : Ent} {d : Nat} (H : LiP h a L q) (hl : L.length < 78) (D : EnC h d n) (hd : d + 2 ≤ a ∨ a + 250 ≤ d ∨ (a + 2 ≤ d ∧ d + 2 ≤ a + 16)) (kk : ∀ h', frL h h' a → LiP h' a (L ++ [(k, s, n.1, f, t, n)]) q → Q (.inl none, h')) : amT mX3_noteWhole 0 [vR a, vI k, vI s, vR d, vI f, vI t] [] h Q := by
  obtain ⟨B, b1, b2, b3⟩ := id H
  obtain ⟨a1, a2, a3, a4, a5, a6, a7⟩ := id B
  obtain ⟨x1, x2⟩ := a5 L.length (by omega)
  have x3 : hrf h (a + 1) ((L.length : Nat) : Int).toNat = some (a + 16 + 3 * q L.length) := x1
  obtain ⟨x4, x5, x6⟩ := a7 _ x2
  have x7 := x6.1
  have rest : ∀ h', fro h h' (a + 16 + 3 * q L.length + 1) (a + 16 + 3 * q L.length + 1 + 2) → EnC h' (a + 16 + 3 * q L.length + 1) n → amT mX3_noteWhole 25 [vR a, vI k, vI s, vR d, vI f, vI t] [] h' Q := by
    intro h' fr' E'
    have c1 : hiv h' a 0 = L.length := by rw [(fr'.2.2.2 a (by omega)).1]; exact b1
    have s1 : hsh h' a = (4, 3) := by rw [fr'.1]; exact a1
    have D' : EnC h' d n := D.ag (fr'.ag (by omega))
    have z1 := D'.1.1
    have z2 := D'.2.1
    have H' : LiP h' a L q := by
      refine ⟨⟨s1, by rw [(fr'.2.2.2 a (by omega)).2]; exact a2, by rw [fr'.1]; exact a3, by rw [(fr'.2.2.2 a (by omega)).2]; exact a4, fun i hi => by rw [(fr'.2.2.2 (a + 1) (by omega)).2]; exact a5 i hi, a6, fun i hi => ?_⟩, c1, b2, fun i e he => ?_⟩
      · by_cases hi2 : i = q L.length
        · rw [hi2]
          refine ⟨by rw [fr'.1]; exact x4, by rw [(fr'.2.2.2 _ (by omega)).2]; exact x5, E'.1⟩
        · exact (a7 i hi).ag (fr'.ag (by omega))
      · have hi := (List.getElem?_eq_some_iff.mp he).1
        have hne : q i ≠ q L.length := fun hh => by have := a6 _ _ (by omega) (by omega) hh; omega
        exact (b3 i e he).ag (fr'.ag (by omega))
    have fin : frL h h' a := ⟨fr'.1, fr'.2.1, fr'.2.2.1, fun x h1 h2 => fr'.2.2.2 x (by omega)⟩
    refine kr_aload_n (pc := 25) dX3_noteWhole_25 rfl ?_
    refine kr_iload_n (pc := 26) dX3_noteWhole_26 rfl ?_
    refine kr_iload_n (pc := 27) dX3_noteWhole_27 rfl ?_
    refine kr_aload_n (pc := 28) dX3_noteWhole_28 rfl ?_
    refine kr_geti (pc := 29) dX3_noteWhole_29 rfl (by decide) (by assumption) (by first | exact c1 | exact z2) ?_
    refine kr_iload (pc := 32) dX3_noteWhole_32 rfl ?_
    refine kr_iload (pc := 34) dX3_noteWhole_34 rfl ?_
    refine kr_v5 (pc := 36) dX3_noteWhole_36 rfl rfl (by assumption) (Nat.le_of_ble_eq_true rfl) rfl rfl rfl rfl rfl (x_note H' hl (fun _ => E') (fun h'' fr'' H'' => ?_))
    show amT _ _ _ _ _ _
    refine kr_return (d0 := ()) (pc := 39) dX3_noteWhole_39 rfl ?_
    exact kk h'' (fin.tr fr'') H''
  refine kr_aload_n (pc := 0) dX3_noteWhole_0 rfl ?_
  refine kr_geti (pc := 1) dX3_noteWhole_1 rfl (by decide) (by assumption) b1 ?_
  refine kr_bipush (pc := 4) dX3_noteWhole_4 (by decide) ?_
  refine kr_icmp_ge (pc := 6) dX3_noteWhole_6 rfl (fun h6 => by exfalso; omega) (fun h6 => ?_)
  refine kr_aload_n (pc := 9) dX3_noteWhole_9 rfl ?_
  refine kr_getr (pc := 10) dX3_noteWhole_10 rfl rfl (by assumption) (by assumption) ?_
  refine kr_aload_n (pc := 13) dX3_noteWhole_13 rfl ?_
  refine kr_geti (pc := 14) dX3_noteWhole_14 rfl (by decide) (by assumption) b1 ?_
  refine kr_aald (pc := 17) dX3_noteWhole_17 (by assumption) (by decide) (by omega) (by omega) (by assumption) ?_
  refine kr_getr (pc := 18) dX3_noteWhole_18 rfl rfl (by assumption) (by assumption) ?_
  refine kr_aload_n (pc := 21) dX3_noteWhole_21 rfl ?_
  refine kr_v1 (pc := 22) dX3_noteWhole_22 rfl rfl (by assumption) (Nat.le_of_ble_eq_true rfl) rfl (x_ecopy x6 D (by omega) fun h' fr' E' => ?_)
  show amT _ _ _ _ _ _
  exact rest h' fr' E'
end X9
