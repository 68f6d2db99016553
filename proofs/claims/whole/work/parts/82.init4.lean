/-- a new array, kept at the place k of x -/
def arS (g g' : aH) (x t n k : Nat) : Prop :=
  hnx g' = hnx g + 1 ∧ hks g' = hks g + n ∧ (Fre g → Fre g') ∧ hiv g' = hiv g ∧ (∀ y, y ≠ hnx g → hsh g' y = hsh g y) ∧ hsh g' (hnx g) = (t, n) ∧ hrf g' x k = some (hnx g) ∧ ∀ y j, ¬ (y = x ∧ j = k) → hrf g' y j = hrf g y j
theorem arS_mk {g : aH} {x t n k : Nat} : arS g (hwr (hnw g t n) x k (some (hnx g))) x t n k :=
  ⟨rfl, rfl, fun F => F.nw (t := t) (n := n), rfl, fun y hy => hsh_nw_ne hy, hsh_nw_at, hwr_at, fun y j hn => hwr_ne hn⟩
/-- a new object with what its constructor makes, kept at the place k of x -/
def obS (g g' : aH) (x k m K : Nat) : Prop :=
  hnx g' = hnx g + m ∧ hks g' ≤ hks g + K ∧ Fre g' ∧ (∀ y, y < hnx g → hsh g' y = hsh g y ∧ hiv g' y = hiv g y ∧ ∀ j, ¬ (y = x ∧ j = k) → hrf g' y j = hrf g y j) ∧ hrf g' x k = some (hnx g)
theorem obS_mk {g g2 : aH} {x t n k m K : Nat} (f : con (hnw g t n) g2 (hnx g) m K) : obS g (hwr g2 x k (some (hnx g))) x k m (n + K) := by
  obtain ⟨f1, f2, f3, f4⟩ := f
  refine ⟨f1, ?_, f4, fun y hy => ⟨(f3 y hy).1.trans (hsh_nw_ne (by omega)), (f3 y hy).2.1, fun j hn => (hwr_ne hn).trans (congrFun (f3 y hy).2.2 j)⟩, hwr_at⟩
  show hks g2 ≤ hks g + (n + K)
  have : hks (hnw g t n) = hks g + n := rfl
  omega
theorem hwr_ax {g : aH} {x k a b : Nat} {v : Option Nat} (h : x < a ∨ b ≤ x) : agx g (hwr g x k v) a b := fun y h1 h2 => ⟨rfl, rfl, funext fun j => hwr_ne (by omega)⟩
def S0 : St := (fun _ => C0, fun _ => 0, fun _ => 0, 0, -1, [])
theorem okL_nil : okL [] := ⟨Nat.zero_le _, (fun i j e f he => by cases he), fun i e he => by cases he⟩
theorem okS0 : okS S0 := by
  refine ⟨fun i _ => ⟨fun s _ => okL_nil, fun g f _ _ => ⟨Int.le_refl _, (by decide : (-1 : Int) ≤ 99)⟩⟩, fun c _ => ⟨Or.inl rfl, Nat.le_refl _⟩, Nat.zero_le _, Or.inl rfl, Nat.zero_le _, fun i r hr => by cases hr⟩
/-- the reference while it is made: its arrays so far, their places and sizes -/
def ArL (g : aH) (m : Nat) (l : List (Nat × Nat)) : Prop := ∀ (i k n : Nat), l[i]? = some (k, n) → hrf g m k = some (m + 1 + i) ∧ hsh g (m + 1 + i) = (20, n)
def MoF (h g : aH) (m : Nat) (l : List (Nat × Nat)) (K : Nat) (V : Nat → Nat → Int) : Prop :=
  hnx g = m + 1 + l.length ∧ hks g = hks h + K ∧ Fre g ∧ (∀ y, y < m → hsh g y = hsh h y ∧ hrf g y = hrf h y) ∧ hsh g m = (9, 18) ∧ hiv g = V ∧ ArL g m l
theorem MoF.st {h g : aH} {m K k n : Nat} {l : List (Nat × Nat)} {V : Nat → Nat → Int} (H : MoF h g m l K V) (hk : ∀ q, q ∈ l → q.1 ≠ k) : MoF h (hwr (hnw g 20 n) m k (some (hnx g))) m (l ++ [(k, n)]) (K + n) V := by
  obtain ⟨a1, a2, a3, a4, a5, a6, a7⟩ := H
  refine ⟨?_, ?_, a3.nw (t := 20) (n := n), fun y hy => ⟨(hsh_nw_ne (by omega)).trans (a4 y hy).1, (funext fun j => hwr_ne (by omega)).trans (a4 y hy).2⟩, (hsh_nw_ne (by omega)).trans a5, a6, fun i k' n' hi => ?_⟩
  · show hnx g + 1 = _
    rw [List.length_append, a1]
    rfl
  · show hks g + n = _
    omega
  · by_cases hl : i < l.length
    · rw [List.getElem?_append_left hl] at hi
      obtain ⟨b1, b2⟩ := a7 i k' n' hi
      have hne : k' ≠ k := hk (k', n') (List.mem_of_getElem? hi)
      exact ⟨(hwr_ne (fun z => hne z.2)).trans b1, (hsh_nw_ne (by omega)).trans b2⟩
    · rw [List.getElem?_append_right (by omega)] at hi
      have h0 := (List.getElem?_eq_some_iff.mp hi).1
      have h1 : i = l.length := by
        have : i - l.length < 1 := h0
        omega
      subst h1
      rw [Nat.sub_self] at hi
      cases hi
      rw [← a1]
      exact ⟨hwr_at, hsh_nw_at⟩
theorem MoF.wi {h g : aH} {m K : Nat} {l : List (Nat × Nat)} {V : Nat → Nat → Int} {k : Nat} {x : Int} (H : MoF h g m l K V) : MoF h (hwi g m k x) m l K (up2 V m k x) := by
  obtain ⟨a1, a2, a3, a4, a5, a6, a7⟩ := H
  refine ⟨a1, a2, a3.wi (by omega), a4, a5, ?_, a7⟩
  rw [← a6]
  rfl
theorem MoF.ms {h g : aH} {m K : Nat} {V : Nat → Nat → Int} (H : MoF h g m [(0, 945), (1, 3), (2, 3), (6, 100), (7, 100), (8, 100), (9, 100), (10, 100), (11, 100), (13, 8), (14, 8), (15, 8), (16, 8)] K V) : MS g m := by
  obtain ⟨a1, a2, a3, a4, a5, a6, A⟩ := H
  have b0 := A 0 0 945 rfl
  have b1 := A 1 1 3 rfl
  have b2 := A 2 2 3 rfl
  have b3 := A 3 6 100 rfl
  have b4 := A 4 7 100 rfl
  have b5 := A 5 8 100 rfl
  have b6 := A 6 9 100 rfl
  have b7 := A 7 10 100 rfl
  have b8 := A 8 11 100 rfl
  have b9 := A 9 13 8 rfl
  have c0 := A 10 14 8 rfl
  have c1 := A 11 15 8 rfl
  have c2 := A 12 16 8 rfl
  exact ⟨a5, b0.1, b0.2, b1.1, b1.2, b2.1, b2.2, b3.1, b3.2, b4.1, b4.2, b5.1, b5.2, b6.1, b6.2, b7.1, b7.2, b8.1, b8.2, b9.1, b9.2, c0.1, c0.2, c1.1, c1.2, c2.1, c2.2⟩
theorem mod_new {h g : aH} {m : Nat} (F : Fre h) (hn : hnx h = m + 1) (h0 : ∀ j, hiv h m j = 0) (hv : hiv g = up2 (hiv h) m 4 (-1)) : ModR (hiv g) m S0 := by
  have e : ∀ y j, hiv g y j = if y = m ∧ j = 4 then -1 else hiv h y j := fun y j => by rw [hv]; rfl
  have z : ∀ i, 1 ≤ i → ∀ j, hiv g (m + i) j = 0 := fun i hi j => by
    rw [e, if_neg (by omega)]
    exact F _ (by omega) j
  have zm : ∀ j, j ≠ 4 → hiv g m j = 0 := fun j hj => by
    rw [e, if_neg (by omega)]
    exact h0 j
  exact ⟨fun s hs => ⟨fun i hi => ⟨by omega, by omega, Nat.zero_le _, z 1 (by decide) _, fun i e he => by cases he⟩, fun g f hg hf => z 1 (by decide) _⟩, fun c hc => ⟨z 2 (by decide) _, z 3 (by decide) _⟩, zm 3 (by decide), by rw [e, if_pos ⟨rfl, rfl⟩]; rfl, zm 12 (by decide), fun i r hr => by cases hr⟩
section XO
variable {h : aH} {Q : aR → Prop}
theorem i_model {m : Nat} (hs : hsh h m = (9, 18)) (hn : hnx h = m + 1) (F : Fre h) (h0 : ∀ j, hiv h m j = 0) (k : ∀ h', con h h' m 14 1583 → MS h' m → ModR (hiv h') m S0 → Q (.inl none, h')) : amT mX8_init 0 [vR m] [] h Q := by
  have N0 : MoF h h m [] 0 (hiv h) := ⟨hn, rfl, F, fun y hy => ⟨rfl, rfl⟩, hs, rfl, fun i k n hi => by cases hi⟩
  refine kr_aload_n (pc := 0) dX8_init_0 rfl ?_
  refine kr_obj (pc := 1) dX8_init_1 rfl (by decide) ?_
  refine kr_aload_n (pc := 4) dX8_init_4 rfl ?_
  refine kr_sipush (pc := 5) dX8_init_5 (by decide) ?_
  refine kr_newi (pc := 8) dX8_init_8 (by decide) ?_
  refine kr_putr (pc := 10) dX8_init_10 rfl rfl (by decide) (by first | assumption | exact (hsh_nw_ne (by omega)).trans (by assumption)) ?_
  have N1 := N0.st (k := 0) (n := (945 : Int).toNat) (by decide)
  obtain ⟨g1, hg1⟩ : ∃ g, g = hwr (hnw h 20 (945 : Int).toNat) m 0 (some (hnx h)) := ⟨_, rfl⟩
  rw [← hg1] at N1 ⊢
  clear hg1 N0
  have s1 : hsh g1 m = (9, 18) := N1.2.2.2.2.1
  have n1 : hnx g1 = m + 1 + 1 := N1.1
  refine kr_aload_n (pc := 13) dX8_init_13 rfl ?_
  refine kr_iconst (pc := 14) dX8_init_14 (by decide) ?_
  refine kr_newi (pc := 15) dX8_init_15 (by decide) ?_
  refine kr_putr (pc := 17) dX8_init_17 rfl rfl (by decide) (by first | assumption | exact (hsh_nw_ne (by omega)).trans (by assumption)) ?_
  have N2 := N1.st (k := 1) (n := (3 : Int).toNat) (by decide)
  obtain ⟨g2, hg2⟩ : ∃ g, g = hwr (hnw g1 20 (3 : Int).toNat) m 1 (some (hnx g1)) := ⟨_, rfl⟩
  rw [← hg2] at N2 ⊢
  clear hg2 N1
  have s2 : hsh g2 m = (9, 18) := N2.2.2.2.2.1
  have n2 : hnx g2 = m + 1 + 2 := N2.1
  clear s1 n1
  refine kr_aload_n (pc := 20) dX8_init_20 rfl ?_
  refine kr_iconst (pc := 21) dX8_init_21 (by decide) ?_
  refine kr_newi (pc := 22) dX8_init_22 (by decide) ?_
  refine kr_putr (pc := 24) dX8_init_24 rfl rfl (by decide) (by first | assumption | exact (hsh_nw_ne (by omega)).trans (by assumption)) ?_
  have N3 := N2.st (k := 2) (n := (3 : Int).toNat) (by decide)
  obtain ⟨g3, hg3⟩ : ∃ g, g = hwr (hnw g2 20 (3 : Int).toNat) m 2 (some (hnx g2)) := ⟨_, rfl⟩
  rw [← hg3] at N3 ⊢
  clear hg3 N2
  have s3 : hsh g3 m = (9, 18) := N3.2.2.2.2.1
  have n3 : hnx g3 = m + 1 + 3 := N3.1
  clear s2 n2
  refine kr_aload_n (pc := 27) dX8_init_27 rfl ?_
  refine kr_iconst (pc := 28) dX8_init_28 (by decide) ?_
  refine kr_puti (pc := 29) dX8_init_29 rfl (Or.inl rfl) (by decide) (by first | assumption | exact (hsh_nw_ne (by omega)).trans (by assumption)) ?_
  have N4 := N3.wi (k := 4) (x := -1)
  obtain ⟨g4, hg4⟩ : ∃ g, g = hwi g3 m 4 (-1) := ⟨_, rfl⟩
  rw [← hg4] at N4 ⊢
  clear hg4 N3
  have s4 : hsh g4 m = (9, 18) := N4.2.2.2.2.1
  have n4 : hnx g4 = m + 1 + 3 := N4.1
  clear s3 n3
  refine kr_aload_n (pc := 32) dX8_init_32 rfl ?_
  refine kr_bipush (pc := 33) dX8_init_33 (by decide) ?_
  refine kr_newi (pc := 35) dX8_init_35 (by decide) ?_
  refine kr_putr (pc := 37) dX8_init_37 rfl rfl (by decide) (by first | assumption | exact (hsh_nw_ne (by omega)).trans (by assumption)) ?_
  have N5 := N4.st (k := 6) (n := (100 : Int).toNat) (by decide)
  obtain ⟨g5, hg5⟩ : ∃ g, g = hwr (hnw g4 20 (100 : Int).toNat) m 6 (some (hnx g4)) := ⟨_, rfl⟩
  rw [← hg5] at N5 ⊢
  clear hg5 N4
  have s5 : hsh g5 m = (9, 18) := N5.2.2.2.2.1
  have n5 : hnx g5 = m + 1 + 4 := N5.1
  clear s4 n4
  refine kr_aload_n (pc := 40) dX8_init_40 rfl ?_
  refine kr_bipush (pc := 41) dX8_init_41 (by decide) ?_
  refine kr_newi (pc := 43) dX8_init_43 (by decide) ?_
  refine kr_putr (pc := 45) dX8_init_45 rfl rfl (by decide) (by first | assumption | exact (hsh_nw_ne (by omega)).trans (by assumption)) ?_
  have N6 := N5.st (k := 7) (n := (100 : Int).toNat) (by decide)
  obtain ⟨g6, hg6⟩ : ∃ g, g = hwr (hnw g5 20 (100 : Int).toNat) m 7 (some (hnx g5)) := ⟨_, rfl⟩
  rw [← hg6] at N6 ⊢
  clear hg6 N5
  have s6 : hsh g6 m = (9, 18) := N6.2.2.2.2.1
  have n6 : hnx g6 = m + 1 + 5 := N6.1
  clear s5 n5
  refine kr_aload_n (pc := 48) dX8_init_48 rfl ?_
  refine kr_bipush (pc := 49) dX8_init_49 (by decide) ?_
  refine kr_newi (pc := 51) dX8_init_51 (by decide) ?_
  refine kr_putr (pc := 53) dX8_init_53 rfl rfl (by decide) (by first | assumption | exact (hsh_nw_ne (by omega)).trans (by assumption)) ?_
  have N7 := N6.st (k := 8) (n := (100 : Int).toNat) (by decide)
  obtain ⟨g7, hg7⟩ : ∃ g, g = hwr (hnw g6 20 (100 : Int).toNat) m 8 (some (hnx g6)) := ⟨_, rfl⟩
  rw [← hg7] at N7 ⊢
  clear hg7 N6
  have s7 : hsh g7 m = (9, 18) := N7.2.2.2.2.1
  have n7 : hnx g7 = m + 1 + 6 := N7.1
  clear s6 n6
  refine kr_aload_n (pc := 56) dX8_init_56 rfl ?_
  refine kr_bipush (pc := 57) dX8_init_57 (by decide) ?_
  refine kr_newi (pc := 59) dX8_init_59 (by decide) ?_
  refine kr_putr (pc := 61) dX8_init_61 rfl rfl (by decide) (by first | assumption | exact (hsh_nw_ne (by omega)).trans (by assumption)) ?_
  have N8 := N7.st (k := 9) (n := (100 : Int).toNat) (by decide)
  obtain ⟨g8, hg8⟩ : ∃ g, g = hwr (hnw g7 20 (100 : Int).toNat) m 9 (some (hnx g7)) := ⟨_, rfl⟩
  rw [← hg8] at N8 ⊢
  clear hg8 N7
  have s8 : hsh g8 m = (9, 18) := N8.2.2.2.2.1
  have n8 : hnx g8 = m + 1 + 7 := N8.1
  clear s7 n7
  refine kr_aload_n (pc := 64) dX8_init_64 rfl ?_
  refine kr_bipush (pc := 65) dX8_init_65 (by decide) ?_
  refine kr_newi (pc := 67) dX8_init_67 (by decide) ?_
  refine kr_putr (pc := 69) dX8_init_69 rfl rfl (by decide) (by first | assumption | exact (hsh_nw_ne (by omega)).trans (by assumption)) ?_
  have N9 := N8.st (k := 10) (n := (100 : Int).toNat) (by decide)
  obtain ⟨g9, hg9⟩ : ∃ g, g = hwr (hnw g8 20 (100 : Int).toNat) m 10 (some (hnx g8)) := ⟨_, rfl⟩
  rw [← hg9] at N9 ⊢
  clear hg9 N8
  have s9 : hsh g9 m = (9, 18) := N9.2.2.2.2.1
  have n9 : hnx g9 = m + 1 + 8 := N9.1
  clear s8 n8
  refine kr_aload_n (pc := 72) dX8_init_72 rfl ?_
  refine kr_bipush (pc := 73) dX8_init_73 (by decide) ?_
  refine kr_newi (pc := 75) dX8_init_75 (by decide) ?_
  refine kr_putr (pc := 77) dX8_init_77 rfl rfl (by decide) (by first | assumption | exact (hsh_nw_ne (by omega)).trans (by assumption)) ?_
  have N10 := N9.st (k := 11) (n := (100 : Int).toNat) (by decide)
  obtain ⟨g10, hg10⟩ : ∃ g, g = hwr (hnw g9 20 (100 : Int).toNat) m 11 (some (hnx g9)) := ⟨_, rfl⟩
  rw [← hg10] at N10 ⊢
  clear hg10 N9
  have s10 : hsh g10 m = (9, 18) := N10.2.2.2.2.1
  have n10 : hnx g10 = m + 1 + 9 := N10.1
  clear s9 n9
  refine kr_aload_n (pc := 80) dX8_init_80 rfl ?_
  refine kr_bipush (pc := 81) dX8_init_81 (by decide) ?_
  refine kr_newi (pc := 83) dX8_init_83 (by decide) ?_
  refine kr_putr (pc := 85) dX8_init_85 rfl rfl (by decide) (by first | assumption | exact (hsh_nw_ne (by omega)).trans (by assumption)) ?_
  have N11 := N10.st (k := 13) (n := (8 : Int).toNat) (by decide)
  obtain ⟨g11, hg11⟩ : ∃ g, g = hwr (hnw g10 20 (8 : Int).toNat) m 13 (some (hnx g10)) := ⟨_, rfl⟩
  rw [← hg11] at N11 ⊢
  clear hg11 N10
  have s11 : hsh g11 m = (9, 18) := N11.2.2.2.2.1
  have n11 : hnx g11 = m + 1 + 10 := N11.1
  clear s10 n10
  refine kr_aload_n (pc := 88) dX8_init_88 rfl ?_
  refine kr_bipush (pc := 89) dX8_init_89 (by decide) ?_
  refine kr_newi (pc := 91) dX8_init_91 (by decide) ?_
  refine kr_putr (pc := 93) dX8_init_93 rfl rfl (by decide) (by first | assumption | exact (hsh_nw_ne (by omega)).trans (by assumption)) ?_
  have N12 := N11.st (k := 14) (n := (8 : Int).toNat) (by decide)
  obtain ⟨g12, hg12⟩ : ∃ g, g = hwr (hnw g11 20 (8 : Int).toNat) m 14 (some (hnx g11)) := ⟨_, rfl⟩
  rw [← hg12] at N12 ⊢
  clear hg12 N11
  have s12 : hsh g12 m = (9, 18) := N12.2.2.2.2.1
  have n12 : hnx g12 = m + 1 + 11 := N12.1
  clear s11 n11
  refine kr_aload_n (pc := 96) dX8_init_96 rfl ?_
  refine kr_bipush (pc := 97) dX8_init_97 (by decide) ?_
  refine kr_newi (pc := 99) dX8_init_99 (by decide) ?_
  refine kr_putr (pc := 101) dX8_init_101 rfl rfl (by decide) (by first | assumption | exact (hsh_nw_ne (by omega)).trans (by assumption)) ?_
  have N13 := N12.st (k := 15) (n := (8 : Int).toNat) (by decide)
  obtain ⟨g13, hg13⟩ : ∃ g, g = hwr (hnw g12 20 (8 : Int).toNat) m 15 (some (hnx g12)) := ⟨_, rfl⟩
  rw [← hg13] at N13 ⊢
  clear hg13 N12
  have s13 : hsh g13 m = (9, 18) := N13.2.2.2.2.1
  have n13 : hnx g13 = m + 1 + 12 := N13.1
  clear s12 n12
  refine kr_aload_n (pc := 104) dX8_init_104 rfl ?_
  refine kr_bipush (pc := 105) dX8_init_105 (by decide) ?_
  refine kr_newi (pc := 107) dX8_init_107 (by decide) ?_
  refine kr_putr (pc := 109) dX8_init_109 rfl rfl (by decide) (by first | assumption | exact (hsh_nw_ne (by omega)).trans (by assumption)) ?_
  have N14 := N13.st (k := 16) (n := (8 : Int).toNat) (by decide)
  obtain ⟨g14, hg14⟩ : ∃ g, g = hwr (hnw g13 20 (8 : Int).toNat) m 16 (some (hnx g13)) := ⟨_, rfl⟩
  rw [← hg14] at N14 ⊢
  clear hg14 N13
  have s14 : hsh g14 m = (9, 18) := N14.2.2.2.2.1
  clear s13 n13
  refine kr_return (d0 := ()) (pc := 112) dX8_init_112 rfl ?_
  have b1 : hnx g14 = m + 1 + 13 := N14.1
  have b2 : hks g14 = hks h + 1583 - 32 + 32 := N14.2.1
  have hv : hiv g14 = up2 (hiv h) m 4 (-1) := N14.2.2.2.2.2.1
  refine k _ ⟨by omega, by omega, fun y hy => ⟨(N14.2.2.2.1 y hy).1, ?_, (N14.2.2.2.1 y hy).2⟩, N14.2.2.1⟩ (MoF.ms N14) (mod_new F hn h0 hv)
  rw [hv]
  exact funext fun j => if_neg (by omega)
end XO
