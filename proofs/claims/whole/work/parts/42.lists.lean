/-! THE REFERENCE'S LISTS OF EDITS -/
def kM (e : Edt) : Int := if 7 ≤ e.1 then 7 else e.1
def sM (e : Edt) : Int := if 7 ≤ e.1 then e.2.2.1 else e.2.1
def yM (e : Edt) : Int := if 7 ≤ e.1 then e.1 - 7 else e.2.2.1
def bM (e : Edt) : Int := if e.1 = 1 then e.2.2.2.1 else if e.1 = 2 then e.2.2.2.2.1 else if e.1 = 3 then e.2.2.2.1 else e.2.2.2.1 + 1
def hM (e : Edt) : Int := if e.1 = 1 then e.2.2.2.1 else if e.1 = 2 then e.2.2.2.2.1 else if e.1 = 3 then e.2.2.2.2.1 else e.2.2.2.2.1 + 1
def EdM (I : Nat → Nat → Int) (m : Nat) (L : List Edt) : Prop :=
  I m 5 = L.length ∧ ∀ (i : Nat) (e : Edt), L[i]? = some e → I (m + 4) i = kM e ∧ I (m + 5) i = sM e ∧ I (m + 6) i = yM e ∧ I (m + 7) i = bM e ∧ I (m + 8) i = hM e ∧ (e.1 ≤ 2 → I (m + 9) i = pk e.2.2.2.2.2)
/-- the edits alone are others -/
def frE (I I' : Nat → Nat → Int) (m : Nat) : Prop := (∀ a, a ≠ m → ¬ (m + 4 ≤ a ∧ a ≤ m + 9) → I' a = I a) ∧ ∀ j, j ≠ 5 → I' m j = I m j
theorem frE.tr {I I' J : Nat → Nat → Int} {m : Nat} (h : frE I I' m) (k : frE I' J m) : frE I J m :=
  ⟨fun a h1 h2 => (k.1 a h1 h2).trans (h.1 a h1 h2), fun j hj => (k.2 j hj).trans (h.2 j hj)⟩
theorem frE.rf {I : Nat → Nat → Int} {m : Nat} : frE I I m := ⟨fun _ _ _ => rfl, fun _ _ => rfl⟩
theorem up2_ne {I : Nat → Nat → Int} {a b k : Nat} {x : Int} (h : a ≠ b) : up2 I b k x a = I a := funext fun j => if_neg (by omega)
theorem up2_nj {I : Nat → Nat → Int} {a k j : Nat} {x : Int} (h : j ≠ k) : up2 I a k x a j = I a j := if_neg (by omega)
theorem up2_at {I : Nat → Nat → Int} {a k : Nat} {x : Int} : up2 I a k x a k = x := if_pos ⟨rfl, rfl⟩
def ntI (I : Nat → Nat → Int) (m n : Nat) (k s y b d x : Int) : Nat → Nat → Int :=
  up2 (up2 (up2 (up2 (up2 (up2 (up2 I (m + 4) n k) (m + 5) n s) (m + 6) n y) (m + 7) n b) (m + 8) n d) (m + 9) n x) m 5 ((n : Int) + 1)
theorem ntI_fr {I : Nat → Nat → Int} {m n : Nat} {k s y b d x : Int} : frE I (ntI I m n k s y b d x) m := by
  unfold ntI
  refine ⟨fun a h1 h2 => ?_, fun j hj => ?_⟩
  · rw [up2_ne h1, up2_ne (by omega), up2_ne (by omega), up2_ne (by omega), up2_ne (by omega), up2_ne (by omega), up2_ne (by omega)]
  · rw [up2_nj hj, up2_ne (by omega), up2_ne (by omega), up2_ne (by omega), up2_ne (by omega), up2_ne (by omega), up2_ne (by omega)]
theorem ntI_at {I : Nat → Nat → Int} {m n : Nat} {k s y b d x : Int} : ntI I m n k s y b d x m 5 = (n : Int) + 1 ∧ ntI I m n k s y b d x (m + 4) n = k ∧ ntI I m n k s y b d x (m + 5) n = s ∧ ntI I m n k s y b d x (m + 6) n = y ∧ ntI I m n k s y b d x (m + 7) n = b ∧ ntI I m n k s y b d x (m + 8) n = d ∧ ntI I m n k s y b d x (m + 9) n = x := by
  unfold ntI
  refine ⟨up2_at, ?_, ?_, ?_, ?_, ?_, ?_⟩
  · rw [up2_ne (by omega), up2_ne (by omega), up2_ne (by omega), up2_ne (by omega), up2_ne (by omega), up2_ne (by omega), up2_at]
  · rw [up2_ne (by omega), up2_ne (by omega), up2_ne (by omega), up2_ne (by omega), up2_ne (by omega), up2_at]
  · rw [up2_ne (by omega), up2_ne (by omega), up2_ne (by omega), up2_ne (by omega), up2_at]
  · rw [up2_ne (by omega), up2_ne (by omega), up2_ne (by omega), up2_at]
  · rw [up2_ne (by omega), up2_ne (by omega), up2_at]
  · rw [up2_ne (by omega), up2_at]
theorem ntI_nj {I : Nat → Nat → Int} {m n : Nat} {k s y b d x : Int} {j : Nat} (hj : j ≠ n) : ntI I m n k s y b d x (m + 4) j = I (m + 4) j ∧ ntI I m n k s y b d x (m + 5) j = I (m + 5) j ∧ ntI I m n k s y b d x (m + 6) j = I (m + 6) j ∧ ntI I m n k s y b d x (m + 7) j = I (m + 7) j ∧ ntI I m n k s y b d x (m + 8) j = I (m + 8) j ∧ ntI I m n k s y b d x (m + 9) j = I (m + 9) j := by
  unfold ntI
  refine ⟨?_, ?_, ?_, ?_, ?_, ?_⟩
  · rw [up2_ne (by omega), up2_ne (by omega), up2_ne (by omega), up2_ne (by omega), up2_ne (by omega), up2_ne (by omega), up2_nj hj]
  · rw [up2_ne (by omega), up2_ne (by omega), up2_ne (by omega), up2_ne (by omega), up2_ne (by omega), up2_nj hj, up2_ne (by omega)]
  · rw [up2_ne (by omega), up2_ne (by omega), up2_ne (by omega), up2_ne (by omega), up2_nj hj, up2_ne (by omega), up2_ne (by omega)]
  · rw [up2_ne (by omega), up2_ne (by omega), up2_ne (by omega), up2_nj hj, up2_ne (by omega), up2_ne (by omega), up2_ne (by omega)]
  · rw [up2_ne (by omega), up2_ne (by omega), up2_nj hj, up2_ne (by omega), up2_ne (by omega), up2_ne (by omega), up2_ne (by omega)]
  · rw [up2_ne (by omega), up2_nj hj, up2_ne (by omega), up2_ne (by omega), up2_ne (by omega), up2_ne (by omega), up2_ne (by omega)]
theorem ntI_ed {I : Nat → Nat → Int} {m : Nat} {L : List Edt} {e : Edt} {x : Int} (E : EdM I m L) (hx : e.1 ≤ 2 → x = pk e.2.2.2.2.2) : EdM (ntI I m L.length (kM e) (sM e) (yM e) (bM e) (hM e) x) m (L ++ [e]) := by
  obtain ⟨a0, a1, a2, a3, a4, a5, a6⟩ := ntI_at (I := I) (m := m) (n := L.length) (k := kM e) (s := sM e) (y := yM e) (b := bM e) (d := hM e) (x := x)
  refine ⟨by rw [a0, List.length_append]; rfl, fun i f hf => ?_⟩
  rw [List.getElem?_append] at hf
  split at hf
  · rename_i hi
    obtain ⟨b1, b2, b3, b4, b5, b6⟩ := ntI_nj (I := I) (m := m) (n := L.length) (k := kM e) (s := sM e) (y := yM e) (b := bM e) (d := hM e) (x := x) (j := i) (by omega)
    rw [b1, b2, b3, b4, b5, b6]
    exact E.2 i f hf
  · by_cases hi : i = L.length
    · subst hi
      rw [Nat.sub_self] at hf
      cases hf
      exact ⟨a1, a2, a3, a4, a5, fun h => by rw [a6]; exact hx h⟩
    · rw [List.getElem?_eq_none (by show 1 ≤ _; omega)] at hf
      cases hf
section M7
variable {h : aH} {m : Nat} {S : St} {Q : aR → Prop}
theorem MS.e (M : MS h m) : (hrf h m 6 = some (m + 4) ∧ hsh h (m + 4) = (20, 100)) ∧ (hrf h m 7 = some (m + 5) ∧ hsh h (m + 5) = (20, 100)) ∧ (hrf h m 8 = some (m + 6) ∧ hsh h (m + 6) = (20, 100)) ∧ (hrf h m 9 = some (m + 7) ∧ hsh h (m + 7) = (20, 100)) ∧ (hrf h m 10 = some (m + 8) ∧ hsh h (m + 8) = (20, 100)) ∧ (hrf h m 11 = some (m + 9) ∧ hsh h (m + 9) = (20, 100)) := by
  obtain ⟨a0, a1, a2, a3, a4, a5, a6, a7, a8, a9, b0, b1, b2, b3, b4, b5, b6, b7, b8, b9⟩ := M
  exact ⟨⟨a7, a8⟩, ⟨a9, b0⟩, ⟨b1, b2⟩, ⟨b3, b4⟩, ⟨b5, b6⟩, ⟨b7, b8⟩⟩
theorem m_notes {L : List Edt} (e : Edt) {k s y b d x : Int} (M : MS h m) (E : EdM (hiv h) m L) (hl : L.length < 100) (ek : k = kM e) (es : s = sM e) (ey : y = yM e) (eb : b = bM e) (ed : d = hM e) (hx : e.1 ≤ 2 → x = pk e.2.2.2.2.2)
    (kk : ∀ I', EdM I' m (L ++ [e]) → frE (hiv h) I' m → Q (.inl none, hI h I')) : amT mX8_notes 0 [vR m, vI k, vI s, vI y, vI b, vI d, vI x] [] h Q := by
  have h0 := M.o
  obtain ⟨⟨p1, p2⟩, ⟨p3, p4⟩, ⟨p5, p6⟩, ⟨p7, p8⟩, ⟨p9, q0⟩, ⟨q1, q2⟩⟩ := M.e
  have key := kk _ (ntI_ed E hx) ntI_fr
  have e5 : ∀ a j x, a ≠ m → hiv (hwi h a j x) m 5 = hiv h m 5 := fun a j x ha => if_neg (by omega)
  have g0 := E.1
  have g1 : hiv (hwi h (m + 4) L.length k) m 5 = L.length := (e5 _ _ _ (by omega)).trans g0
  have g2 : hiv (hwi (hwi h (m + 4) L.length k) (m + 5) L.length s) m 5 = L.length := (if_neg (by omega)).trans g1
  have g3 : hiv (hwi (hwi (hwi h (m + 4) L.length k) (m + 5) L.length s) (m + 6) L.length y) m 5 = L.length := (if_neg (by omega)).trans g2
  have g4 : hiv (hwi (hwi (hwi (hwi h (m + 4) L.length k) (m + 5) L.length s) (m + 6) L.length y) (m + 7) L.length b) m 5 = L.length := (if_neg (by omega)).trans g3
  have g5 : hiv (hwi (hwi (hwi (hwi (hwi h (m + 4) L.length k) (m + 5) L.length s) (m + 6) L.length y) (m + 7) L.length b) (m + 8) L.length d) m 5 = L.length := (if_neg (by omega)).trans g4
  have g6 : hiv (hwi (hwi (hwi (hwi (hwi (hwi h (m + 4) L.length k) (m + 5) L.length s) (m + 6) L.length y) (m + 7) L.length b) (m + 8) L.length d) (m + 9) L.length x) m 5 = L.length := (if_neg (by omega)).trans g5
  refine kr_aload_n (pc := 0) dX8_notes_0 rfl ?_
  refine kr_getr (pc := 1) dX8_notes_1 rfl rfl (by assumption) (by assumption) ?_
  refine kr_aload_n (pc := 4) dX8_notes_4 rfl ?_
  refine kr_geti (pc := 5) dX8_notes_5 rfl (by decide) (by assumption) (by first | exact g0 | exact g1 | exact g2 | exact g3 | exact g4 | exact g5 | exact g6) ?_
  refine kr_iload_n (pc := 8) dX8_notes_8 rfl ?_
  refine kr_iast (pc := 9) dX8_notes_9 (by assumption) (by omega) (by omega) ?_
  refine kr_aload_n (pc := 10) dX8_notes_10 rfl ?_
  refine kr_getr (pc := 11) dX8_notes_11 rfl rfl (by assumption) (by assumption) ?_
  refine kr_aload_n (pc := 14) dX8_notes_14 rfl ?_
  refine kr_geti (pc := 15) dX8_notes_15 rfl (by decide) (by assumption) (by first | exact g0 | exact g1 | exact g2 | exact g3 | exact g4 | exact g5 | exact g6) ?_
  refine kr_iload_n (pc := 18) dX8_notes_18 rfl ?_
  refine kr_iast (pc := 19) dX8_notes_19 (by assumption) (by omega) (by omega) ?_
  refine kr_aload_n (pc := 20) dX8_notes_20 rfl ?_
  refine kr_getr (pc := 21) dX8_notes_21 rfl rfl (by assumption) (by assumption) ?_
  refine kr_aload_n (pc := 24) dX8_notes_24 rfl ?_
  refine kr_geti (pc := 25) dX8_notes_25 rfl (by decide) (by assumption) (by first | exact g0 | exact g1 | exact g2 | exact g3 | exact g4 | exact g5 | exact g6) ?_
  refine kr_iload_n (pc := 28) dX8_notes_28 rfl ?_
  refine kr_iast (pc := 29) dX8_notes_29 (by assumption) (by omega) (by omega) ?_
  refine kr_aload_n (pc := 30) dX8_notes_30 rfl ?_
  refine kr_getr (pc := 31) dX8_notes_31 rfl rfl (by assumption) (by assumption) ?_
  refine kr_aload_n (pc := 34) dX8_notes_34 rfl ?_
  refine kr_geti (pc := 35) dX8_notes_35 rfl (by decide) (by assumption) (by first | exact g0 | exact g1 | exact g2 | exact g3 | exact g4 | exact g5 | exact g6) ?_
  refine kr_iload (pc := 38) dX8_notes_38 rfl ?_
  refine kr_iast (pc := 40) dX8_notes_40 (by assumption) (by omega) (by omega) ?_
  refine kr_aload_n (pc := 41) dX8_notes_41 rfl ?_
  refine kr_getr (pc := 42) dX8_notes_42 rfl rfl (by assumption) (by assumption) ?_
  refine kr_aload_n (pc := 45) dX8_notes_45 rfl ?_
  refine kr_geti (pc := 46) dX8_notes_46 rfl (by decide) (by assumption) (by first | exact g0 | exact g1 | exact g2 | exact g3 | exact g4 | exact g5 | exact g6) ?_
  refine kr_iload (pc := 49) dX8_notes_49 rfl ?_
  refine kr_iast (pc := 51) dX8_notes_51 (by assumption) (by omega) (by omega) ?_
  refine kr_aload_n (pc := 52) dX8_notes_52 rfl ?_
  refine kr_getr (pc := 53) dX8_notes_53 rfl rfl (by assumption) (by assumption) ?_
  refine kr_aload_n (pc := 56) dX8_notes_56 rfl ?_
  refine kr_geti (pc := 57) dX8_notes_57 rfl (by decide) (by assumption) (by first | exact g0 | exact g1 | exact g2 | exact g3 | exact g4 | exact g5 | exact g6) ?_
  refine kr_iload (pc := 60) dX8_notes_60 rfl ?_
  refine kr_iast (pc := 62) dX8_notes_62 (by assumption) (by omega) (by omega) ?_
  refine kr_aload_n (pc := 63) dX8_notes_63 rfl ?_
  refine kr_dup (pc := 64) dX8_notes_64 rfl ?_
  refine kr_geti (pc := 65) dX8_notes_65 rfl (by decide) (by assumption) (by first | exact g0 | exact g1 | exact g2 | exact g3 | exact g4 | exact g5 | exact g6) ?_
  refine kr_iconst (pc := 68) dX8_notes_68 (by decide) ?_
  refine kr_iadd (pc := 69) dX8_notes_69 ⟨by omega, by omega⟩ ?_
  refine kr_puti (pc := 70) dX8_notes_70 rfl (Or.inl rfl) (by decide) (by assumption) ?_
  refine kr_return (d0 := ()) (pc := 73) dX8_notes_73 rfl ?_
  subst ek es ey eb ed
  rw [show ((L.length : Nat) : Int).toNat = L.length by omega]
  exact key
end M7
