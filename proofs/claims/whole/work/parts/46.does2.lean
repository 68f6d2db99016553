section MB
variable {h : aH} {m : Nat} {S : St} {Q : aR → Prop}
theorem m_doesG {k inv lo d s y f t : Int} {n : Ent} {b : Bool} {c : Cfg} (M : MS h m) (hk : 0 ≤ k ∧ k < 100) (hd : 7 ≤ d ∧ d ≤ 8) (hyr : 0 ≤ y ∧ y ≤ 2) (C : CfgM (hiv h (m + 1)) 34 c) (hy : hiv h (m + 6) k.toNat = d - 7)
    (k1 : ∀ (c' : Cfg) (R' : Nat → Int), ap1 b (d, s, y, f, t, n) c = some c' → CfgM R' 34 c' → (∀ j, j < 918 → R' j = hiv h (m + 1) j) → Q (.inl (some (vI 1)), sa h (m + 1) R'))
    (k0 : ∀ R' : Nat → Int, ap1 b (d, s, y, f, t, n) c = none → (∀ j, j < 918 → R' j = hiv h (m + 1) j) → Q (.inl (some (vI 0)), sa h (m + 1) R')) :
    amT mX8_does 83 [vR m, vI 34, vI k, vI inv, vI lo, vI y, vI (f + 1), vI (t + 1), vI 7] [] h Q := by
  have h0 := M.o
  have h1 := M.2.1
  have h2 := M.2.2.1
  obtain ⟨⟨p1, p2⟩, ⟨p3, p4⟩, ⟨p5, p6⟩, ⟨p7, p8⟩, ⟨p9, q0⟩, ⟨q1, q2⟩⟩ := M.e
  have g1 : hiv h (m + 1) (27 * 34 + 21 + 2 * y + (d - 7)).toNat = c.2 y.toNat (d - 7).toNat + 1 := by
    rw [show (27 * 34 + 21 + 2 * y + (d - 7)).toNat = 27 * 34 + 21 + 2 * y.toNat + (d - 7).toNat by omega]
    exact C.2 y.toNat (d - 7).toNat (by omega) (by omega)
  have fin1 : c.2 y.toNat (d - 7).toNat = f → Q (.inl (some (vI 1)), hwi h (m + 1) (27 * 34 + 21 + 2 * y + (d - 7)).toNat (t + 1)) := by
    intro hc
    rw [hwi_of]
    refine k1 (upG c y.toNat (d - 7).toNat t) _ ?_ (C.grp (g := y.toNat) (f := (d - 7).toNat) (v := t) (by omega) (by omega) fun j => ?_) fun j hj => if_neg (by omega)
    · unfold ap1
      dsimp only
      rw [if_pos hd.1, if_neg (by omega)]
    · rw [show (27 * 34 + 21 + 2 * y + (d - 7)).toNat = 27 * 34 + 21 + 2 * y.toNat + (d - 7).toNat by omega]
  have fin0 : c.2 y.toNat (d - 7).toNat ≠ f → Q (.inl (some (vI 0)), hwi h (m + 1) (27 * 34 + 21 + 2 * y + (d - 7)).toNat (c.2 y.toNat (d - 7).toNat + 1)) := by
    intro hc
    rw [hwi_of]
    refine k0 _ ?_ fun j hj => if_neg (by omega)
    unfold ap1
    dsimp only
    rw [if_pos hd.1, if_pos hc]
  refine kr_iload (pc := 83) dX8_does_83 rfl ?_
  refine kr_bipush (pc := 85) dX8_does_85 (by decide) ?_
  refine kr_icmp_ne (pc := 87) dX8_does_87 rfl (fun h => absurd h (by decide)) (fun _ => ?_)
  refine kr_iload_n (pc := 90) dX8_does_90 rfl ?_
  refine kr_iload (pc := 91) dX8_does_91 rfl ?_
  refine kr_aload_n (pc := 93) dX8_does_93 rfl ?_
  refine kr_getr (pc := 94) dX8_does_94 rfl rfl (by assumption) (by assumption) ?_
  refine kr_iload_n (pc := 97) dX8_does_97 rfl ?_
  refine kr_iald (pc := 98) dX8_does_98 (by assumption) (by omega) (by omega) rfl ?_
  rw [hy]
  refine kr_s3 (pc := 99) dX8_does_99 rfl rfl (Nat.le_of_ble_eq_true rfl) rfl rfl rfl (m_groupAt ⟨by omega, by omega⟩ ⟨by omega, by omega⟩ ⟨by omega, by omega⟩ ?_)
  show amT _ _ _ _ _ _
  refine kr_istore (pc := 102) dX8_does_102 (show 9 ≤ _ from by simp) (by decide) ?_
  simp only [stl, List.tail_cons, List.tail_nil]
  refine kr_aload_n (pc := 104) dX8_does_104 rfl ?_
  refine kr_getr (pc := 105) dX8_does_105 rfl rfl (by assumption) (by assumption) ?_
  refine kr_iload (pc := 108) dX8_does_108 rfl ?_
  refine kr_iald (pc := 110) dX8_does_110 (by assumption) (by omega) (by omega) rfl ?_
  rw [g1]
  refine kr_iload (pc := 111) dX8_does_111 rfl ?_
  refine kr_icmp_ne (pc := 113) dX8_does_113 rfl (fun h113 => ?_) (fun h113 => ?_)
  · refine kr_iconst (pc := 120) dX8_does_120 (by decide) ?_
    refine kr_istore (pc := 121) dX8_does_121 (show 10 ≤ _ from by simp) (by decide) ?_
    simp only [stl, List.tail_cons, List.tail_nil]
    refine kr_aload_n (pc := 123) dX8_does_123 rfl ?_
    refine kr_getr (pc := 124) dX8_does_124 rfl rfl (by assumption) (by assumption) ?_
    refine kr_iload (pc := 127) dX8_does_127 rfl ?_
    refine kr_iload (pc := 129) dX8_does_129 rfl ?_
    refine kr_if_eq (pc := 131) dX8_does_131 rfl (fun _ => ?_) (fun h => absurd h (by decide))
    refine kr_aload_n (pc := 139) dX8_does_139 rfl ?_
    refine kr_getr (pc := 140) dX8_does_140 rfl rfl (by assumption) (by assumption) ?_
    refine kr_iload (pc := 143) dX8_does_143 rfl ?_
    refine kr_iald (pc := 145) dX8_does_145 (by assumption) (by omega) (by omega) rfl ?_
    try rw [g1]
    refine kr_iast (pc := 146) dX8_does_146 (by assumption) (by omega) (by omega) ?_
    refine kr_iload (pc := 147) dX8_does_147 rfl ?_
    refine kr_ireturn (pc := 149) dX8_does_149 rfl ?_
    first | exact fin1 (by omega) | exact fin0 (by omega)
  · refine kr_iconst (pc := 116) dX8_does_116 (by decide) ?_
    refine kr_goto (pc := 117) dX8_does_117 rfl ?_
    refine kr_istore (pc := 121) dX8_does_121 (show 10 ≤ _ from by simp) (by decide) ?_
    simp only [stl, List.tail_cons, List.tail_nil]
    refine kr_aload_n (pc := 123) dX8_does_123 rfl ?_
    refine kr_getr (pc := 124) dX8_does_124 rfl rfl (by assumption) (by assumption) ?_
    refine kr_iload (pc := 127) dX8_does_127 rfl ?_
    refine kr_iload (pc := 129) dX8_does_129 rfl ?_
    refine kr_if_eq (pc := 131) dX8_does_131 rfl (fun h => absurd h (by decide)) (fun _ => ?_)
    refine kr_iload (pc := 134) dX8_does_134 rfl ?_
    refine kr_goto (pc := 136) dX8_does_136 rfl ?_
    try rw [g1]
    refine kr_iast (pc := 146) dX8_does_146 (by assumption) (by omega) (by omega) ?_
    refine kr_iload (pc := 147) dX8_does_147 rfl ?_
    refine kr_ireturn (pc := 149) dX8_does_149 rfl ?_
    first | exact fin1 (by omega) | exact fin0 (by omega)
theorem m_doesA {k inv lo : Int} {b : Bool} {e : Edt} {c : Cfg} (M : MS h m) (hk : 0 ≤ k ∧ k < 100) (o : okEd e) (hb : lob lo b) (C : CfgM (hiv h (m + 1)) 34 c) (hy : hiv h (m + 6) k.toNat = yM e) (hn : e.1 ≤ 2 → hiv h (m + 9) k.toNat = pk e.2.2.2.2.2)
    (k1 : ∀ (c' : Cfg) (R' : Nat → Int), ap1 b e c = some c' → CfgM R' 34 c' → (∀ j, j < 918 → R' j = hiv h (m + 1) j) → Q (.inl (some (vI 1)), sa h (m + 1) R'))
    (k0 : ∀ R' : Nat → Int, ap1 b e c = none → (∀ j, j < 918 → R' j = hiv h (m + 1) j) → Q (.inl (some (vI 0)), sa h (m + 1) R')) :
    amT mX8_does 83 [vR m, vI 34, vI k, vI inv, vI lo, vI (sM e), vI (bM e), vI (hM e), vI (kM e)] [] h Q := by
  obtain ⟨d, s, y, f, t, n⟩ := e
  have k0' : ap1 b (d, s, y, f, t, n) c = none → Q (.inl (some (vI 0)), h) := fun hn => by
    have := k0 (hiv h (m + 1)) hn fun _ _ => rfl
    rw [sa_self] at this
    exact this
  unfold okEd at o
  dsimp only at o hn
  by_cases hd : 7 ≤ d
  · obtain ⟨r1, r2, r3, r4, r5⟩ := ed7 (k := d) (s := s) (y := y) (f := f) (t := t) (n := n) hd
    rw [← r1, ← r2, ← r4, ← r5]
    rw [← r3] at hy
    exact m_doesG M hk (by omega) (by omega) C hy k1 k0
  · have o : d ≤ 6 ∧ 1 ≤ d ∧ (0 ≤ s ∧ s ≤ 2) ∧ (d ≤ 2 → okE n) ∧ (d = 2 → 0 ≤ t) ∧ (d = 3 → 0 ≤ t) ∧ (4 ≤ d → -1 ≤ t ∧ t ≤ 99) ∧ (d = 6 → t ≤ 2) := by
      rcases o with o | o
      · refine ⟨by omega, by omega, by omega, fun h => (o.2.2.2.2.2.2.1 h).1, fun h => (o.2.2.2.2.2.2.2.2.1 h).1, fun h => (o.2.2.2.2.2.2.2.2.2.1 h).2.2.1, fun h => ⟨(o.2.2.2.2.2.2.2.2.2.2.1 h).2.2.1, (o.2.2.2.2.2.2.2.2.2.2.1 h).2.2.2⟩, fun h => (o.2.2.2.2.2.2.2.2.2.2.2 h).2⟩
      · omega
    obtain ⟨o1, o2, o3, o4, o5, o6, o7, o8⟩ := o
    have HS : SecM (hiv h (m + 1)) (34 : Int).toNat s.toNat (c.1 s.toNat) := C.1 s.toNat (by omega)
    have fin : ∀ (l' : List Ent) (R' : Nat → Int), apS b d y f t n (c.1 s.toNat) = some l' → SecM R' 34 s.toNat l' → (∀ j, offS 34 s.toNat j → R' j = hiv h (m + 1) j) → Q (.inl (some (vI 1)), sa h (m + 1) R') := by
      intro l' R' ha hs hf
      refine k1 (upS c s.toNat l') R' (ap1_some (by omega) ha) (C.sec (by omega) hs hf) fun j hj => hf j ?_
      unfold offS
      omega
    have fin0 : apS b d y f t n (c.1 s.toNat) = none → Q (.inl (some (vI 0)), h) := fun ha => k0' (ap1_none (by omega) ha)
    rcases (by omega : d = 1 ∨ d = 2 ∨ d = 3 ∨ d = 4 ∨ d = 5 ∨ d = 6) with hd | hd | hd | hd | hd | hd
    · subst hd
      exact m_does1 M hk hb o3 HS hy (hn (by decide)) (o4 (by decide)) fin fin0
    · subst hd
      exact m_does2 M hk hb o3 HS hy (hn (by decide)) (o4 (by decide)) (o5 rfl) fin fin0
    · subst hd
      exact m_does3 M hk hb o3 HS hy (o6 rfl) fin fin0
    · subst hd
      exact m_does4 M hk hb o3 HS hy (o7 (by decide)) fin fin0
    · subst hd
      exact m_does5 M hk hb o3 HS hy (o7 (by decide)) fin fin0
    · subst hd
      exact m_does6 M hk hb o3 HS hy ⟨(o7 (by decide)).1, o8 rfl⟩ fin fin0
theorem inv_M {e : Edt} (o : okEd e) : sM (inv1 e) = sM e ∧ yM (inv1 e) = yM e ∧ bM (inv1 e) = hM e ∧ hM (inv1 e) = bM e ∧ kM (inv1 e) = (if 2 < kM e then kM e else 3 - kM e) ∧ ((inv1 e).1 ≤ 2 → e.1 ≤ 2) ∧ (inv1 e).2.2.2.2.2 = e.2.2.2.2.2 := by
  obtain ⟨d, s, y, f, t, n⟩ := e
  unfold okEd at o
  dsimp only at o
  have hd : 1 ≤ d := by rcases o with o | o <;> omega
  unfold sM yM bM hM kM inv1
  dsimp only
  by_cases h1 : d = 1
  · subst h1
    exact ⟨rfl, rfl, rfl, rfl, rfl, fun _ => by decide, rfl⟩
  · by_cases h2 : d = 2
    · subst h2
      exact ⟨rfl, rfl, rfl, rfl, rfl, fun _ => by decide, rfl⟩
    · rw [if_neg h1, if_neg h2, if_neg h1, if_neg h2, if_neg h1, if_neg h2, if_neg h1, if_neg h2, if_neg h1, if_neg h2]
      refine ⟨rfl, rfl, rfl, rfl, ?_, fun h => h, rfl⟩
      by_cases h7 : 7 ≤ d
      · rw [if_pos h7]
        rfl
      · rw [if_neg h7, if_pos (by omega)]
theorem m_does {k inv lo : Int} {b : Bool} {L : List Edt} {e0 : Edt} {c : Cfg} (M : MS h m) (E : EdM (hiv h) m L) (hk : 0 ≤ k) (hL : L.length ≤ 100) (he : L[k.toNat]? = some e0) (o : okEd e0) (hinv : inv = 0 ∨ inv = 1) (hb : lob lo b) (C : CfgM (hiv h (m + 1)) 34 c)
    (k1 : ∀ (c' : Cfg) (R' : Nat → Int), ap1 b (if inv = 0 then e0 else inv1 e0) c = some c' → CfgM R' 34 c' → (∀ j, j < 918 → R' j = hiv h (m + 1) j) → Q (.inl (some (vI 1)), sa h (m + 1) R'))
    (k0 : ∀ R' : Nat → Int, ap1 b (if inv = 0 then e0 else inv1 e0) c = none → (∀ j, j < 918 → R' j = hiv h (m + 1) j) → Q (.inl (some (vI 0)), sa h (m + 1) R')) :
    amT mX8_does 0 [vR m, vI 34, vI k, vI inv, vI lo] [] h Q := by
  have h0 := M.o
  obtain ⟨⟨p1, p2⟩, ⟨p3, p4⟩, ⟨p5, p6⟩, ⟨p7, p8⟩, ⟨p9, q0⟩, ⟨q1, q2⟩⟩ := M.e
  have hkl := (List.getElem?_eq_some_iff.mp he).1
  obtain ⟨x1, x2, x3, x4, x5, x6⟩ := E.2 _ _ he
  obtain ⟨z1, z2, z3, z4, z5, z6, z7⟩ := inv_M o
  have main := fun e oe hy hn => m_doesA (inv := inv) (lo := lo) (b := b) (e := e) (Q := Q) M ⟨hk, by omega⟩ oe hb C hy hn
  rcases hinv with rfl | rfl
  · rw [if_pos rfl] at k1 k0
    have go := main e0 o x3 x6 k1 k0
    refine kr_aload_n (pc := 0) dX8_does_0 rfl ?_
    refine kr_getr (pc := 1) dX8_does_1 rfl rfl (by assumption) (by assumption) ?_
    refine kr_iload_n (pc := 4) dX8_does_4 rfl ?_
    refine kr_iald (pc := 5) dX8_does_5 (by assumption) (by omega) (by omega) rfl ?_
    rw [x2]
    refine kr_istore (pc := 6) dX8_does_6 (show 5 ≤ _ from by simp) (by decide) ?_
    simp only [stl, List.tail_cons, List.tail_nil]
    refine kr_iload_n (pc := 8) dX8_does_8 rfl ?_
    refine kr_if_eq (pc := 9) dX8_does_9 rfl (fun _ => ?_) (fun h => absurd rfl h)
    refine kr_aload_n (pc := 21) dX8_does_21 rfl ?_
    refine kr_getr (pc := 22) dX8_does_22 rfl rfl (by assumption) (by assumption) ?_
    refine kr_iload_n (pc := 25) dX8_does_25 rfl ?_
    refine kr_iald (pc := 26) dX8_does_26 (by assumption) (by omega) (by omega) rfl ?_
    rw [x4]
    refine kr_istore (pc := 27) dX8_does_27 (show 6 ≤ _ from by simp) (by decide) ?_
    simp only [stl, List.tail_cons, List.tail_nil]
    refine kr_iload_n (pc := 29) dX8_does_29 rfl ?_
    refine kr_if_eq (pc := 30) dX8_does_30 rfl (fun _ => ?_) (fun h => absurd rfl h)
    refine kr_aload_n (pc := 42) dX8_does_42 rfl ?_
    refine kr_getr (pc := 43) dX8_does_43 rfl rfl (by assumption) (by assumption) ?_
    refine kr_iload_n (pc := 46) dX8_does_46 rfl ?_
    refine kr_iald (pc := 47) dX8_does_47 (by assumption) (by omega) (by omega) rfl ?_
    rw [x5]
    refine kr_istore (pc := 48) dX8_does_48 (show 7 ≤ _ from by simp) (by decide) ?_
    simp only [stl, List.tail_cons, List.tail_nil]
    refine kr_iload_n (pc := 50) dX8_does_50 rfl ?_
    refine kr_if_eq (pc := 51) dX8_does_51 rfl (fun _ => ?_) (fun h => absurd rfl h)
    refine kr_aload_n (pc := 64) dX8_does_64 rfl ?_
    refine kr_getr (pc := 65) dX8_does_65 rfl rfl (by assumption) (by assumption) ?_
    refine kr_iload_n (pc := 68) dX8_does_68 rfl ?_
    refine kr_iald (pc := 69) dX8_does_69 (by assumption) (by omega) (by omega) rfl ?_
    rw [x1]
    refine kr_goto (pc := 70) dX8_does_70 rfl ?_
    refine kr_istore (pc := 81) dX8_does_81 (show 8 ≤ _ from by simp) (by decide) ?_
    simp only [stl, List.tail_cons, List.tail_nil]
    exact go
  · rw [if_neg (by decide)] at k1 k0
    have go := main (inv1 e0) (okEd_inv o) (by rw [z2]; exact x3) (fun hh => by rw [z7]; exact x6 (z6 hh)) k1 k0
    rw [z1, z3, z4, z5] at go
    refine kr_aload_n (pc := 0) dX8_does_0 rfl ?_
    refine kr_getr (pc := 1) dX8_does_1 rfl rfl (by assumption) (by assumption) ?_
    refine kr_iload_n (pc := 4) dX8_does_4 rfl ?_
    refine kr_iald (pc := 5) dX8_does_5 (by assumption) (by omega) (by omega) rfl ?_
    rw [x2]
    refine kr_istore (pc := 6) dX8_does_6 (show 5 ≤ _ from by simp) (by decide) ?_
    simp only [stl, List.tail_cons, List.tail_nil]
    refine kr_iload_n (pc := 8) dX8_does_8 rfl ?_
    refine kr_if_eq (pc := 9) dX8_does_9 rfl (fun h => absurd h (by decide)) (fun _ => ?_)
    refine kr_aload_n (pc := 12) dX8_does_12 rfl ?_
    refine kr_getr (pc := 13) dX8_does_13 rfl rfl (by assumption) (by assumption) ?_
    refine kr_iload_n (pc := 16) dX8_does_16 rfl ?_
    refine kr_iald (pc := 17) dX8_does_17 (by assumption) (by omega) (by omega) rfl ?_
    rw [x5]
    refine kr_goto (pc := 18) dX8_does_18 rfl ?_
    refine kr_istore (pc := 27) dX8_does_27 (show 6 ≤ _ from by simp) (by decide) ?_
    simp only [stl, List.tail_cons, List.tail_nil]
    refine kr_iload_n (pc := 29) dX8_does_29 rfl ?_
    refine kr_if_eq (pc := 30) dX8_does_30 rfl (fun h => absurd h (by decide)) (fun _ => ?_)
    refine kr_aload_n (pc := 33) dX8_does_33 rfl ?_
    refine kr_getr (pc := 34) dX8_does_34 rfl rfl (by assumption) (by assumption) ?_
    refine kr_iload_n (pc := 37) dX8_does_37 rfl ?_
    refine kr_iald (pc := 38) dX8_does_38 (by assumption) (by omega) (by omega) rfl ?_
    rw [x4]
    refine kr_goto (pc := 39) dX8_does_39 rfl ?_
    refine kr_istore (pc := 48) dX8_does_48 (show 7 ≤ _ from by simp) (by decide) ?_
    simp only [stl, List.tail_cons, List.tail_nil]
    refine kr_iload_n (pc := 50) dX8_does_50 rfl ?_
    refine kr_if_eq (pc := 51) dX8_does_51 rfl (fun h => absurd h (by decide)) (fun _ => ?_)
    refine kr_aload_n (pc := 54) dX8_does_54 rfl ?_
    refine kr_getr (pc := 55) dX8_does_55 rfl rfl (by assumption) (by assumption) ?_
    refine kr_iload_n (pc := 58) dX8_does_58 rfl ?_
    refine kr_iald (pc := 59) dX8_does_59 (by assumption) (by omega) (by omega) rfl ?_
    rw [x1]
    refine kr_iconst (pc := 60) dX8_does_60 (by decide) ?_
    have hk1 : 1 ≤ kM e0 := by
      unfold kM
      unfold okEd at o
      split <;> omega
    refine kr_icmp_le (pc := 61) dX8_does_61 rfl (fun h61 => ?_) (fun h61 => ?_)
    · refine kr_iconst (pc := 73) dX8_does_73 (by decide) ?_
      refine kr_aload_n (pc := 74) dX8_does_74 rfl ?_
      refine kr_getr (pc := 75) dX8_does_75 rfl rfl (by assumption) (by assumption) ?_
      refine kr_iload_n (pc := 78) dX8_does_78 rfl ?_
      refine kr_iald (pc := 79) dX8_does_79 (by assumption) (by omega) (by omega) rfl ?_
      rw [x1]
      refine kr_isub (pc := 80) dX8_does_80 ⟨by omega, by omega⟩ ?_
      refine kr_istore (pc := 81) dX8_does_81 (show 8 ≤ _ from by simp) (by decide) ?_
      simp only [stl, List.tail_cons, List.tail_nil]
      rw [if_neg (by omega)] at go
      exact go
    · refine kr_aload_n (pc := 64) dX8_does_64 rfl ?_
      refine kr_getr (pc := 65) dX8_does_65 rfl rfl (by assumption) (by assumption) ?_
      refine kr_iload_n (pc := 68) dX8_does_68 rfl ?_
      refine kr_iald (pc := 69) dX8_does_69 (by assumption) (by omega) (by omega) rfl ?_
      rw [x1]
      refine kr_goto (pc := 70) dX8_does_70 rfl ?_
      refine kr_istore (pc := 81) dX8_does_81 (show 8 ≤ _ from by simp) (by decide) ?_
      simp only [stl, List.tail_cons, List.tail_nil]
      rw [if_pos (by omega)] at go
      exact go
theorem invL_get {L : List Edt} {i : Nat} {e : Edt} (hi : i < L.length) (he : L[L.length - 1 - i]? = some e) : (invL L)[i]? = some (inv1 e) := by
  unfold invL
  rw [List.getElem?_map, List.getElem?_reverse hi, he]
  rfl
theorem apA_step {b : Bool} : ∀ {L : List Edt} {i : Nat} {e : Edt} {c : Cfg}, L[i]? = some e → apA b (L.drop i) c = (match ap1 b e c with | none => none | some c' => apA b (L.drop (i + 1)) c') := by
  intro L i e c h
  have h1 := (List.getElem?_eq_some_iff.mp h).1
  rw [List.drop_eq_getElem_cons h1, show L[i] = e from (List.getElem?_eq_some_iff.mp h).2]
  rfl
theorem m_doesAll {inv lo : Int} {b : Bool} {L : List Edt} {c : Cfg} (M : MS h m) (E : EdM (hiv h) m L) (hL : L.length ≤ 100) (o : ∀ e, e ∈ L → okEd e) (hinv : inv = 0 ∨ inv = 1) (hb : lob lo b) (C : CfgM (hiv h (m + 1)) 34 c)
    (k1 : ∀ (c' : Cfg) (R' : Nat → Int), apA b (if inv = 0 then L else invL L) c = some c' → CfgM R' 34 c' → (∀ j, j < 918 → R' j = hiv h (m + 1) j) → Q (.inl (some (vI 1)), sa h (m + 1) R'))
    (k0 : ∀ R' : Nat → Int, apA b (if inv = 0 then L else invL L) c = none → (∀ j, j < 918 → R' j = hiv h (m + 1) j) → Q (.inl (some (vI 0)), sa h (m + 1) R')) :
    amT mX8_doesAll 0 [vR m, vI inv, vI lo] [] h Q := by
  have h0 := M.o
  obtain ⟨LL, hLL⟩ : ∃ LL, LL = (if inv = 0 then L else invL L) := ⟨_, rfl⟩
  rw [← hLL] at k1 k0
  have hlen : LL.length = L.length := by
    rw [hLL]
    split
    · rfl
    · exact invL_len
  have loop : ∀ (d i : Nat) (R : Nat → Int) (c1 : Cfg), i + d = L.length → CfgM R 34 c1 → (∀ j, j < 918 → R j = hiv h (m + 1) j) → apA b (LL.drop i) c1 = apA b LL c → amT mX8_doesAll 5 [vR m, vI inv, vI lo, vI 1, vI (i : Int)] [] (sa h (m + 1) R) Q := by
    intro d
    induction d with
    | zero =>
      intro i R c1 hi C1 hf hap
      have e5 : hiv (sa h (m + 1) R) m 5 = L.length := (if_neg (by omega)).trans E.1
      refine kr_iload (pc := 5) dX8_doesAll_5 rfl ?_
      refine kr_aload_n (pc := 7) dX8_doesAll_7 rfl ?_
      refine kr_geti (pc := 8) dX8_doesAll_8 rfl (by decide) (by assumption) rfl ?_
      rw [e5]
      refine kr_icmp_ge (pc := 11) dX8_doesAll_11 rfl (fun _ => ?_) (fun h => by omega)
      refine kr_iload_n (pc := 51) dX8_doesAll_51 rfl ?_
      refine kr_ireturn (pc := 52) dX8_doesAll_52 rfl ?_
      rw [List.drop_eq_nil_of_le (by omega)] at hap
      exact k1 c1 R hap.symm C1 hf
    | succ d ih =>
      intro i R c1 hi C1 hf hap
      have e5 : hiv (sa h (m + 1) R) m 5 = L.length := (if_neg (by omega)).trans E.1
      have M1 : MS (sa h (m + 1) R) m := M
      have E1 : EdM (hiv (sa h (m + 1) R)) m L := E.set
      have C2 : CfgM (hiv (sa h (m + 1) R) (m + 1)) 34 c1 := by rw [hiv_sa]; exact C1
      have call : ∀ (k : Int) (e0 : Edt), 0 ≤ k → L[k.toNat]? = some e0 → LL[i]? = some (if inv = 0 then e0 else inv1 e0) → amT mX8_does 0 [vR m, vI 34, vI k, vI inv, vI lo] [] (sa h (m + 1) R) (kQ mX8_doesAll 41 [vR m, vI inv, vI lo, vI 1, vI (i : Int)] [] Q) := by
        intro k e0 hk he hl
        refine m_does M1 E1 hk hL he (o e0 (List.mem_of_getElem? he)) hinv hb C2 (fun c' R' ha hc hfr => ?_) (fun R' ha hfr => ?_)
        · show amT _ _ _ _ _ _
          rw [hiv_sa] at hfr
          rw [sa_sa]
          refine kr_istore_n (pc := 44) dX8_doesAll_44 (show 3 ≤ _ from by simp) (by decide) ?_
          simp only [stl, List.tail_cons, List.tail_nil]
          refine kr_iinc (pc := 45) dX8_doesAll_45 rfl ⟨⟨by omega, by omega⟩, by decide, by decide⟩ ?_
          simp only [stl, List.tail_cons, List.tail_nil]
          refine kr_goto (pc := 48) dX8_doesAll_48 rfl ?_
          refine ih (i + 1) R' c' (by omega) hc (fun j hj => (hfr j hj).trans (hf j hj)) ?_
          rw [← hap, apA_step hl, ha]
        · show amT _ _ _ _ _ _
          rw [hiv_sa] at hfr
          rw [sa_sa]
          have e6 : hiv (sa h (m + 1) R') m 5 = L.length := (if_neg (by omega)).trans E.1
          have hnone : apA b LL c = none := by rw [← hap, apA_step hl, ha]
          have fin := k0 R' hnone fun j hj => (hfr j hj).trans (hf j hj)
          refine kr_istore_n (pc := 44) dX8_doesAll_44 (show 3 ≤ _ from by simp) (by decide) ?_
          simp only [stl, List.tail_cons, List.tail_nil]
          refine kr_iinc (pc := 45) dX8_doesAll_45 rfl ⟨⟨by omega, by omega⟩, by decide, by decide⟩ ?_
          simp only [stl, List.tail_cons, List.tail_nil]
          refine kr_goto (pc := 48) dX8_doesAll_48 rfl ?_
          refine kr_iload (pc := 5) dX8_doesAll_5 rfl ?_
          refine kr_aload_n (pc := 7) dX8_doesAll_7 rfl ?_
          refine kr_geti (pc := 8) dX8_doesAll_8 rfl (by decide) (by assumption) rfl ?_
          rw [e6]
          refine kr_icmp_ge (pc := 11) dX8_doesAll_11 rfl (fun _ => ?_) (fun _ => ?_)
          · refine kr_iload_n (pc := 51) dX8_doesAll_51 rfl ?_
            refine kr_ireturn (pc := 52) dX8_doesAll_52 rfl ?_
            exact fin
          · refine kr_iload_n (pc := 14) dX8_doesAll_14 rfl ?_
            refine kr_if_eq (pc := 15) dX8_doesAll_15 rfl (fun _ => ?_) (fun h => absurd rfl h)
            refine kr_iload_n (pc := 51) dX8_doesAll_51 rfl ?_
            refine kr_ireturn (pc := 52) dX8_doesAll_52 rfl ?_
            exact fin
      refine kr_iload (pc := 5) dX8_doesAll_5 rfl ?_
      refine kr_aload_n (pc := 7) dX8_doesAll_7 rfl ?_
      refine kr_geti (pc := 8) dX8_doesAll_8 rfl (by decide) (by assumption) rfl ?_
      rw [e5]
      refine kr_icmp_ge (pc := 11) dX8_doesAll_11 rfl (fun h => by omega) (fun _ => ?_)
      refine kr_iload_n (pc := 14) dX8_doesAll_14 rfl ?_
      refine kr_if_eq (pc := 15) dX8_doesAll_15 rfl (fun h => absurd h (by decide)) (fun _ => ?_)
      refine kr_aload_n (pc := 18) dX8_doesAll_18 rfl ?_
      refine kr_bipush (pc := 19) dX8_doesAll_19 (by decide) ?_
      refine kr_iload_n (pc := 21) dX8_doesAll_21 rfl ?_
      refine kr_if_eq (pc := 22) dX8_doesAll_22 rfl (fun h22 => ?_) (fun h22 => ?_)
      · refine kr_iload (pc := 37) dX8_doesAll_37 rfl ?_
        refine kr_iload_n (pc := 39) dX8_doesAll_39 rfl ?_
        refine kr_iload_n (pc := 40) dX8_doesAll_40 rfl ?_
        obtain ⟨e0, he⟩ : ∃ e0, L[(i : Int).toNat]? = some e0 := ⟨_, List.getElem?_eq_getElem (by omega)⟩
        refine kr_v4 (pc := 41) dX8_doesAll_41 rfl rfl (by assumption) (Nat.le_of_ble_eq_true rfl) rfl rfl rfl rfl (call (i : Int) e0 (by omega) he (by rw [hLL, if_pos h22, if_pos h22]; exact he))
      · refine kr_aload_n (pc := 25) dX8_doesAll_25 rfl ?_
        refine kr_geti (pc := 26) dX8_doesAll_26 rfl (by decide) (by assumption) rfl ?_
        rw [e5]
        refine kr_iconst (pc := 29) dX8_doesAll_29 (by decide) ?_
        refine kr_isub (pc := 30) dX8_doesAll_30 ⟨by omega, by omega⟩ ?_
        refine kr_iload (pc := 31) dX8_doesAll_31 rfl ?_
        refine kr_isub (pc := 33) dX8_doesAll_33 ⟨by omega, by omega⟩ ?_
        refine kr_goto (pc := 34) dX8_doesAll_34 rfl ?_
        refine kr_iload_n (pc := 39) dX8_doesAll_39 rfl ?_
        refine kr_iload_n (pc := 40) dX8_doesAll_40 rfl ?_
        obtain ⟨e0, he⟩ : ∃ e0, L[((L.length : Int) - 1 - (i : Int)).toNat]? = some e0 := ⟨_, List.getElem?_eq_getElem (by omega)⟩
        refine kr_v4 (pc := 41) dX8_doesAll_41 rfl rfl (by assumption) (Nat.le_of_ble_eq_true rfl) rfl rfl rfl rfl (call ((L.length : Int) - 1 - (i : Int)) e0 (by omega) he (by rw [hLL, if_neg h22, if_neg h22]; exact invL_get (by omega) (by rw [← he]; congr 1; omega)))
  refine kr_iconst (pc := 0) dX8_doesAll_0 (by decide) ?_
  refine kr_istore_n (pc := 1) dX8_doesAll_1 (show 3 ≤ _ from by simp) (by decide) ?_
  simp only [stl, List.tail_cons, List.tail_nil]
  refine kr_iconst (pc := 2) dX8_doesAll_2 (by decide) ?_
  refine kr_istore (pc := 3) dX8_doesAll_3 (show 4 ≤ _ from by simp) (by decide) ?_
  simp only [stl, List.tail_cons, List.tail_nil]
  have e : h = sa h (m + 1) (hiv h (m + 1)) := sa_self.symm
  rw [e]
  exact loop L.length 0 (hiv h (m + 1)) c (by omega) C (fun _ _ => rfl) (by rw [List.drop_zero])
end MB
