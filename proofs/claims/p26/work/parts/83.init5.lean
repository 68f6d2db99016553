theorem obS.ax {g g' : aH} {z i m K a b : Nat} (O : obS g g' z i m K) (hb : b ≤ hnx g) (hz : z < a ∨ b ≤ z) : agx g g' a b := fun y h1 h2 =>
  ⟨(O.2.2.2.1 y (by omega)).1, (O.2.2.2.1 y (by omega)).2.1, funext fun j => (O.2.2.2.1 y (by omega)).2.2 j (by omega)⟩
/-- the desk's fixed front -/
def DsF (h g : aH) (x : Nat) : Prop :=
  (∀ y, y < x → hsh g y = hsh h y ∧ hiv g y = hiv h y ∧ hrf g y = hrf h y) ∧ hsh g x = (8, 10) ∧ hrf g x 0 = some (x + 1) ∧ hsh g (x + 1) = (22 + 0, 3) ∧ hrf g x 1 = some (x + 2) ∧ hsh g (x + 2) = (22 + 1, 30) ∧ hrf g x 3 = some (x + 3) ∧ hsh g (x + 3) = (22 + 5, 8) ∧
  hrf g x 7 = some (x + 4) ∧ hrf g x 8 = some (x + 254) ∧ hrf g x 9 = some (x + 302) ∧ LiB g (x + 4) (fun i => i) ∧ SeN g (x + 4 + 2) ∧ CfN g (x + 254) ∧ EnB g (x + 302) ∧ ∀ j, hiv g x j = 0
theorem DsF.ob {h g g' : aH} {x z i m K : Nat} (D : DsF h g x) (O : obS g g' z i m K) (hz : x + 1 ≤ z ∧ z ≤ x + 3) (hn : x + 304 ≤ hnx g) : DsF h g' x := by
  obtain ⟨a0, a1, a2, a3, a4, a5, a6, a7, a8, a9, b0, b1, b2, b3, b4, b5⟩ := D
  have e : ∀ y, y < x + 1 → hsh g' y = hsh g y ∧ hiv g' y = hiv g y ∧ hrf g' y = hrf g y := fun y hy => O.ax (a := 0) (b := x + 1) (by omega) (by omega) y (Nat.zero_le _) hy
  have s : ∀ y, y < x + 304 → hsh g' y = hsh g y := fun y hy => (O.2.2.2.1 y (by omega)).1
  obtain ⟨e1, e2, e3⟩ := e x (by omega)
  refine ⟨fun y hy => ⟨(e y (by omega)).1.trans (a0 y hy).1, (e y (by omega)).2.1.trans (a0 y hy).2.1, (e y (by omega)).2.2.trans (a0 y hy).2.2⟩, e1.trans a1, by rw [e3]; exact a2, (s _ (by omega)).trans a3, by rw [e3]; exact a4, (s _ (by omega)).trans a5, by rw [e3]; exact a6, (s _ (by omega)).trans a7, by rw [e3]; exact a8, by rw [e3]; exact a9, by rw [e3]; exact b0, b1.ax (O.ax (by omega) (by omega)), b2.ax (O.ax (by omega) (by omega)), b3.ax (O.ax (by omega) (by omega)), b4.ax (O.ax (by omega) (by omega)), fun j => by rw [e2]; exact b5 j⟩
def CaN (g : aH) (x j : Nat) : Prop :=
  hrf g (x + 1) j = some (x + 304 + 49 * j) ∧ hsh g (x + 304 + 49 * j) = (1, 3) ∧ hrf g (x + 304 + 49 * j) 2 = some (x + 304 + 49 * j + 1) ∧ CfN g (x + 304 + 49 * j + 1) ∧ ∀ q, hiv g (x + 304 + 49 * j) q = 0
def VeN (g : aH) (x j : Nat) : Prop := hrf g (x + 2) j = some (x + 451 + 48 * j) ∧ CfN g (x + 451 + 48 * j)
def RuN (g : aH) (x j : Nat) : Prop := hrf g (x + 3) j = some (x + 1891 + j) ∧ hsh g (x + 1891 + j) = (6, 4)
theorem CaN.ob {g g' : aH} {x z i m K j : Nat} (D : CaN g x j) (O : obS g g' z i m K) (hz : (z = x + 1 ∧ i ≠ j) ∨ (x + 1 < z ∧ z ≤ x + 3)) (hn : x + 304 + 49 * j + 49 ≤ hnx g) : CaN g' x j := by
  obtain ⟨a1, a2, a3, a4, a5⟩ := D
  have e := O.ax (a := x + 304 + 49 * j) (b := x + 304 + 49 * j + 1) (by omega) (by omega) _ (Nat.le_refl _) (by omega)
  exact ⟨((O.2.2.2.1 (x + 1) (by omega)).2.2 j (by omega)).trans a1, e.1.trans a2, by rw [e.2.2]; exact a3, a4.ax (O.ax (by omega) (by omega)), fun q => by rw [e.2.1]; exact a5 q⟩
theorem VeN.ob {g g' : aH} {x z i m K j : Nat} (D : VeN g x j) (O : obS g g' z i m K) (hz : (z = x + 2 ∧ i ≠ j) ∨ z = x + 3) (hn : x + 451 + 48 * j + 48 ≤ hnx g) : VeN g' x j :=
  ⟨((O.2.2.2.1 (x + 2) (by omega)).2.2 j (by omega)).trans D.1, D.2.ax (O.ax (by omega) (by omega))⟩
theorem RuN.ob {g g' : aH} {x z i m K j : Nat} (D : RuN g x j) (O : obS g g' z i m K) (hz : z = x + 3 ∧ i ≠ j) (hn : x + 1891 + j + 1 ≤ hnx g) : RuN g' x j :=
  ⟨((O.2.2.2.1 (x + 3) (by omega)).2.2 j (by omega)).trans D.1, ((O.2.2.2.1 (x + 1891 + j) (by omega)).1).trans D.2⟩
theorem DsF.st {h g : aH} {x : Nat} (D : DsF h g x) : hsh g x = (8, 10) ∧ hrf g x 0 = some (x + 1) ∧ hrf g x 1 = some (x + 2) ∧ hrf g x 3 = some (x + 3) ∧ hsh g (x + 1) = (22 + 0, 3) ∧ hsh g (x + 2) = (22 + 1, 30) ∧ hsh g (x + 3) = (22 + 5, 8) :=
  ⟨D.2.1, D.2.2.1, D.2.2.2.2.1, D.2.2.2.2.2.2.1, D.2.2.2.1, D.2.2.2.2.2.1, D.2.2.2.2.2.2.2.1⟩
theorem hwi_ax {g : aH} {x k a b : Nat} {v : Int} (h : x < a ∨ b ≤ x) : agx g (hwi g x k v) a b := fun y h1 h2 => ⟨rfl, funext fun j => if_neg (by omega), rfl⟩
/-- all that a new desk has -/
theorem de_new {h g : aH} {x : Nat} (D : DsF h g x) (C : ∀ j, j < 3 → CaN g x j) (V : ∀ j, j < 30 → VeN g x j) (R : ∀ j, j < 8 → RuN g x j) : DeR (hwi g x 2 1) x S0 := by
  obtain ⟨a0, a1, a2, a3, a4, a5, a6, a7, a8, a9, b0, b1, b2, b3, b4, b5⟩ := D
  have k1 : ∀ i, i < 3 → kp x i = x + 304 + 49 * i + 1 := fun i hi => by
    unfold kp
    rw [if_pos hi]
    omega
  have k2 : ∀ i, kp x (3 + i) = x + 451 + 48 * i := fun i => by
    unfold kp
    rw [if_neg (by omega)]
    omega
  refine ⟨⟨a1, a2, a3, a4, a5, a6, a7, a8, a9, b0, fun i hi => ⟨(C i hi).1, (C i hi).2.1, by rw [k1 i hi]; exact (C i hi).2.2.1⟩, fun i hi => by rw [k2]; exact (V i hi).1, fun i hi => R i hi⟩, fun s hs => ?_, fun c hc => ⟨?_, ?_⟩, ?_, ?_, ?_, fun hh => absurd rfl hh, (fun i r hr => by cases hr), ⟨_, b1.ax (hwi_ax (by omega))⟩, ⟨_, (b2.ax (hwi_ax (by omega))).1⟩, ?_, b4.ax (hwi_ax (by omega))⟩
  · show CfC _ (kp x s) C0
    by_cases h3 : s < 3
    · rw [k1 s h3]
      exact ((C s h3).2.2.2.1.ax (hwi_ax (by omega))).c
    · obtain ⟨t, rfl⟩ : ∃ t, s = 3 + t := ⟨s - 3, by omega⟩
      rw [k2]
      exact ((V t (by omega)).2.ax (hwi_ax (by omega))).c
  · exact (hiv_wi.trans (if_neg (by omega))).trans ((C c hc).2.2.2.2 0)
  · exact (hiv_wi.trans (if_neg (by omega))).trans ((C c hc).2.2.2.2 1)
  · exact hiv_wi_same
  · exact (hiv_wi.trans (if_neg (by omega))).trans (b5 4)
  · exact ((hiv_wi.trans (if_neg (by omega))).trans (b5 5)).trans (if_pos rfl).symm
  · have := b3.ax (hwi_ax (g := g) (x := x) (k := 2) (v := 1) (by omega))
    exact ⟨this.1, fun i hi => ⟨_, (this.2.1 i hi).1⟩⟩
section XP
variable {h : aH} {Q : aR → Prop}
theorem i_desk {x : Nat} (hs : hsh h x = (8, 10)) (hn : hnx h = x + 1) (F : Fre h) (h0 : ∀ j, hiv h x j = 0) (k : ∀ h', con h h' x 1899 5500 → DeR h' x S0 → Q (.inl none, h')) : amT mX7_init 0 [vR x] [] h Q := by
  have loop3 : ∀ (d i : Nat) (g : aH), i + d = 8 → hnx g = x + 1891 + i → hks g ≤ hks h + 5440 + 4 * i → Fre g → DsF h g x → (∀ j, j < 3 → CaN g x j) → (∀ j, j < 30 → VeN g x j) → (∀ j, j < i → RuN g x j) → amT mX7_init 118 [vR x, vI (i : Int)] [] g Q := by
    intro d
    induction d with
    | zero =>
      intro i g hi c1 c2 c3 D C V R
      obtain ⟨d1, d2, d3, d4, d5, d6, d7⟩ := D.st
      obtain rfl : i = 8 := by omega
      refine kr_iload_n (pc := 118) dX7_init_118 rfl ?_
      refine kr_bipush (pc := 119) dX7_init_119 (by decide) ?_
      refine kr_icmp_ge (pc := 121) dX7_init_121 rfl (fun _ => ?_) (fun h => absurd h (by decide))
      refine kr_aload_n (pc := 143) dX7_init_143 rfl ?_
      refine kr_iconst (pc := 144) dX7_init_144 (by decide) ?_
      refine kr_puti (pc := 145) dX7_init_145 rfl (Or.inl rfl) (by decide) (by first | assumption | exact (hsh_nw_ne (by omega)).trans (by assumption)) ?_
      refine kr_return (d0 := ()) (pc := 148) dX7_init_148 rfl ?_
      refine k _ ⟨?_, ?_, fun y hy => ⟨(D.1 y hy).1, (funext fun j => if_neg (by omega)).trans (D.1 y hy).2.1, (D.1 y hy).2.2⟩, c3.wi (by omega)⟩ (de_new D C V R)
      · show hnx g = _
        omega
      · show hks g ≤ _
        omega
    | succ d ih =>
      intro i g hi c1 c2 c3 D C V R
      obtain ⟨d1, d2, d3, d4, d5, d6, d7⟩ := D.st
      refine kr_iload_n (pc := 118) dX7_init_118 rfl ?_
      refine kr_bipush (pc := 119) dX7_init_119 (by decide) ?_
      refine kr_icmp_ge (pc := 121) dX7_init_121 rfl (fun h => by omega) (fun _ => ?_)
      refine kr_aload_n (pc := 124) dX7_init_124 rfl ?_
      refine kr_getr (pc := 125) dX7_init_125 rfl rfl (by first | assumption | exact (hsh_nw_ne (by omega)).trans (by assumption)) (by assumption) ?_
      refine kr_iload_n (pc := 128) dX7_init_128 rfl ?_
      refine kr_new (pc := 129) dX7_init_129 dX7_init_133 rfl ?_
      refine kr_dup (pc := 132) dX7_init_132 rfl ?_
      refine kr_i0 (pc := 133) dX7_init_133 rfl (by decide) rfl (Nat.le_of_ble_eq_true rfl) (i_rule ?_)
      show amT _ _ _ _ _ _
      have s1 : hsh (hnw g (5 + 1) (am_fN 5)) (x + 3) = (22 + 5, 8) := (hsh_nw_ne (by omega)).trans d7
      have s2 : hsh (hnw g (5 + 1) (am_fN 5)) (hnx g) = (6, 4) := hsh_nw_at
      have O := obS_mk (x := x + 3) (k := ((i : Nat) : Int).toNat) (show con (hnw g (5 + 1) (am_fN 5)) (hnw g (5 + 1) (am_fN 5)) (hnx g) 1 0 from ⟨rfl, Nat.le_refl _, fun y hy => ⟨rfl, rfl, rfl⟩, c3.nw⟩)
      refine kr_aast (pc := 136) dX7_init_136 (by first | assumption | exact (hsh_nw_ne (by omega)).trans (by assumption)) (by decide) (by first | assumption | exact (hsh_nw_ne (by omega)).trans (by assumption)) (by omega) (by omega) ?_
      refine kr_iinc (pc := 137) dX7_init_137 rfl ⟨⟨by omega, by omega⟩, by decide, by decide⟩ ?_
      simp only [stl, List.tail_cons, List.tail_nil]
      refine kr_goto (pc := 140) dX7_init_140 rfl ?_
      obtain ⟨g', hg'⟩ : ∃ g', g' = hwr (hnw g (5 + 1) (am_fN 5)) (x + 3) ((i : Nat) : Int).toNat (some (hnx g)) := ⟨_, rfl⟩
      rw [← hg'] at O ⊢
      have kO : hks g' ≤ hks g + 4 := O.2.1
      have sO : hsh g' (hnx g) = (6, 4) := by rw [hg']; exact hsh_nw_at
      rw [show ((i : Nat) : Int).toNat = i by omega] at O
      refine ih (i + 1) g' (by omega) (by have := O.1; omega) (by omega) O.2.2.1 (D.ob O (by omega) (by omega)) (fun j hj => (C j hj).ob O (by omega) (by omega)) (fun j hj => (V j hj).ob O (by omega) (by omega)) fun j hj => ?_
      by_cases hji : j = i
      · subst hji
        rw [c1] at sO
        have := O.2.2.2.2
        rw [c1] at this
        exact ⟨this, sO⟩
      · exact (R j (by omega)).ob O (by omega) (by omega)
  have loop2 : ∀ (d i : Nat) (g : aH), i + d = 30 → hnx g = x + 451 + 48 * i → hks g ≤ hks h + 1580 + 128 * i → Fre g → DsF h g x → (∀ j, j < 3 → CaN g x j) → (∀ j, j < i → VeN g x j) → amT mX7_init 91 [vR x, vI (i : Int)] [] g Q := by
    intro d
    induction d with
    | zero =>
      intro i g hi c1 c2 c3 D C V
      obtain rfl : i = 30 := by omega
      refine kr_iload_n (pc := 91) dX7_init_91 rfl ?_
      refine kr_bipush (pc := 92) dX7_init_92 (by decide) ?_
      refine kr_icmp_ge (pc := 94) dX7_init_94 rfl (fun _ => ?_) (fun h => absurd h (by decide))
      refine kr_iconst (pc := 116) dX7_init_116 (by decide) ?_
      refine kr_istore_n (pc := 117) dX7_init_117 (show 1 ≤ _ from by simp) (by decide) ?_
      simp only [stl, List.tail_cons, List.tail_nil]
      exact loop3 8 0 g rfl (by omega) (by omega) c3 D C V fun j hj => by omega
    | succ d ih =>
      intro i g hi c1 c2 c3 D C V
      obtain ⟨d1, d2, d3, d4, d5, d6, d7⟩ := D.st
      refine kr_iload_n (pc := 91) dX7_init_91 rfl ?_
      refine kr_bipush (pc := 92) dX7_init_92 (by decide) ?_
      refine kr_icmp_ge (pc := 94) dX7_init_94 rfl (fun h => by omega) (fun _ => ?_)
      refine kr_aload_n (pc := 97) dX7_init_97 rfl ?_
      refine kr_getr (pc := 98) dX7_init_98 rfl rfl (by first | assumption | exact (hsh_nw_ne (by omega)).trans (by assumption)) (by assumption) ?_
      refine kr_iload_n (pc := 101) dX7_init_101 rfl ?_
      refine kr_new (pc := 102) dX7_init_102 dX7_init_106 rfl ?_
      refine kr_dup (pc := 105) dX7_init_105 rfl ?_
      refine kr_i0 (pc := 106) dX7_init_106 rfl (by decide) rfl (Nat.le_of_ble_eq_true rfl) (i_config (κ := hnx g) hsh_nw_at rfl c3.nw (fun u f N => ?_))
      show amT _ _ _ _ _ _
      have s1 : hsh u (x + 2) = (22 + 1, 30) := ((f.2.2.1 _ (by omega)).1.trans (hsh_nw_ne (by omega))).trans d6
      have s2 := N.1.1
      have O := obS_mk (x := x + 2) (k := ((i : Nat) : Int).toNat) f
      refine kr_aast (pc := 109) dX7_init_109 (by first | assumption | exact (hsh_nw_ne (by omega)).trans (by assumption)) (by decide) (by first | assumption | exact (hsh_nw_ne (by omega)).trans (by assumption)) (by omega) (by omega) ?_
      refine kr_iinc (pc := 110) dX7_init_110 rfl ⟨⟨by omega, by omega⟩, by decide, by decide⟩ ?_
      simp only [stl, List.tail_cons, List.tail_nil]
      refine kr_goto (pc := 113) dX7_init_113 rfl ?_
      obtain ⟨g', hg'⟩ : ∃ g', g' = hwr u (x + 2) ((i : Nat) : Int).toNat (some (hnx g)) := ⟨_, rfl⟩
      have N' : CfN g' (hnx g) := by rw [hg']; exact N.ax (hwr_ax (by omega))
      rw [← hg'] at O ⊢
      have kO : hks g' ≤ hks g + 128 := O.2.1
      rw [show ((i : Nat) : Int).toNat = i by omega] at O
      refine ih (i + 1) g' (by omega) (by have := O.1; omega) (by omega) O.2.2.1 (D.ob O (by omega) (by omega)) (fun j hj => (C j hj).ob O (by omega) (by omega)) fun j hj => ?_
      by_cases hji : j = i
      · subst hji
        rw [c1] at N'
        have := O.2.2.2.2
        rw [c1] at this
        exact ⟨this, N'⟩
      · exact (V j (by omega)).ob O (by omega) (by omega)
  have loop1 : ∀ (d i : Nat) (g : aH), i + d = 3 → hnx g = x + 304 + 49 * i → hks g ≤ hks h + 1180 + 131 * i → Fre g → DsF h g x → (∀ j, j < i → CaN g x j) → amT mX7_init 65 [vR x, vI (i : Int)] [] g Q := by
    intro d
    induction d with
    | zero =>
      intro i g hi c1 c2 c3 D C
      obtain rfl : i = 3 := by omega
      refine kr_iload_n (pc := 65) dX7_init_65 rfl ?_
      refine kr_iconst (pc := 66) dX7_init_66 (by decide) ?_
      refine kr_icmp_ge (pc := 67) dX7_init_67 rfl (fun _ => ?_) (fun h => absurd h (by decide))
      refine kr_iconst (pc := 89) dX7_init_89 (by decide) ?_
      refine kr_istore_n (pc := 90) dX7_init_90 (show 1 ≤ _ from by simp) (by decide) ?_
      simp only [stl, List.tail_cons, List.tail_nil]
      exact loop2 30 0 g rfl (by omega) (by omega) c3 D C fun j hj => by omega
    | succ d ih =>
      intro i g hi c1 c2 c3 D C
      obtain ⟨d1, d2, d3, d4, d5, d6, d7⟩ := D.st
      refine kr_iload_n (pc := 65) dX7_init_65 rfl ?_
      refine kr_iconst (pc := 66) dX7_init_66 (by decide) ?_
      refine kr_icmp_ge (pc := 67) dX7_init_67 rfl (fun h => by omega) (fun _ => ?_)
      refine kr_aload_n (pc := 70) dX7_init_70 rfl ?_
      refine kr_getr (pc := 71) dX7_init_71 rfl rfl (by first | assumption | exact (hsh_nw_ne (by omega)).trans (by assumption)) (by assumption) ?_
      refine kr_iload_n (pc := 74) dX7_init_74 rfl ?_
      refine kr_new (pc := 75) dX7_init_75 dX7_init_79 rfl ?_
      refine kr_dup (pc := 78) dX7_init_78 rfl ?_
      refine kr_i0 (pc := 79) dX7_init_79 rfl (by decide) rfl (Nat.le_of_ble_eq_true rfl) (i_cand (o := hnx g) hsh_nw_at rfl c3.nw (fun u f N s2 r2 v2 => ?_))
      show amT _ _ _ _ _ _
      have s1 : hsh u (x + 1) = (22 + 0, 3) := ((f.2.2.1 _ (by omega)).1.trans (hsh_nw_ne (by omega))).trans d5
      have O := obS_mk (x := x + 1) (k := ((i : Nat) : Int).toNat) f
      refine kr_aast (pc := 82) dX7_init_82 (by first | assumption | exact (hsh_nw_ne (by omega)).trans (by assumption)) (by decide) (by first | assumption | exact (hsh_nw_ne (by omega)).trans (by assumption)) (by omega) (by omega) ?_
      refine kr_iinc (pc := 83) dX7_init_83 rfl ⟨⟨by omega, by omega⟩, by decide, by decide⟩ ?_
      simp only [stl, List.tail_cons, List.tail_nil]
      refine kr_goto (pc := 86) dX7_init_86 rfl ?_
      obtain ⟨g', hg'⟩ : ∃ g', g' = hwr u (x + 1) ((i : Nat) : Int).toNat (some (hnx g)) := ⟨_, rfl⟩
      have N' : CfN g' (hnx g + 1) := by rw [hg']; exact N.ax (hwr_ax (by omega))
      have s3 : hsh g' (hnx g) = (1, 3) := by rw [hg']; exact s2
      have r3 : hrf g' (hnx g) 2 = some (hnx g + 1) := by rw [hg']; exact (hwr_ne (by omega)).trans r2
      have v3 : ∀ q, hiv g' (hnx g) q = 0 := fun q => by rw [hg']; exact (v2 q).trans (c3 _ (Nat.le_refl _) q)
      rw [← hg'] at O ⊢
      have kO : hks g' ≤ hks g + 131 := O.2.1
      rw [show ((i : Nat) : Int).toNat = i by omega] at O
      refine ih (i + 1) g' (by omega) (by have := O.1; omega) (by omega) O.2.2.1 (D.ob O (by omega) (by omega)) fun j hj => ?_
      by_cases hji : j = i
      · subst hji
        have := O.2.2.2.2
        rw [c1] at this N' s3 r3 v3
        exact ⟨this, s3, r3, N', v3⟩
      · exact (C j (by omega)).ob O (by omega) (by omega)
  refine kr_aload_n (pc := 0) dX7_init_0 rfl ?_
  refine kr_obj (pc := 1) dX7_init_1 rfl (by decide) ?_
  refine kr_aload_n (pc := 4) dX7_init_4 rfl ?_
  refine kr_iconst (pc := 5) dX7_init_5 (by decide) ?_
  refine kr_newq (pc := 6) dX7_init_6 rfl (by decide) ?_
  refine kr_putr (pc := 9) dX7_init_9 rfl rfl (by decide) (by first | assumption | exact (hsh_nw_ne (by omega)).trans (by assumption)) ?_
  have A1 := arS_mk (g := h) (x := x) (t := 22 + 0) (n := (3 : Int).toNat) (k := 0)
  obtain ⟨g1, hg1⟩ : ∃ g, g = hwr (hnw h (22 + 0) (3 : Int).toNat) x 0 (some (hnx h)) := ⟨_, rfl⟩
  rw [← hg1] at A1 ⊢
  obtain ⟨n1, k1, F1, v1, sh1, sa1, ra1, rf1⟩ := A1
  rw [hn] at n1 sh1 sa1 ra1
  have hn1 : hnx g1 = x + 2 := n1
  have s1 : hsh g1 x = (8, 10) := (sh1 x (by omega)).trans hs
  refine kr_aload_n (pc := 12) dX7_init_12 rfl ?_
  refine kr_bipush (pc := 13) dX7_init_13 (by decide) ?_
  refine kr_newq (pc := 15) dX7_init_15 rfl (by decide) ?_
  refine kr_putr (pc := 18) dX7_init_18 rfl rfl (by decide) (by first | assumption | exact (hsh_nw_ne (by omega)).trans (by assumption)) ?_
  have A2 := arS_mk (g := g1) (x := x) (t := 22 + 1) (n := (30 : Int).toNat) (k := 1)
  obtain ⟨g2, hg2⟩ : ∃ g, g = hwr (hnw g1 (22 + 1) (30 : Int).toNat) x 1 (some (hnx g1)) := ⟨_, rfl⟩
  rw [← hg2] at A2 ⊢
  obtain ⟨n2, k2, F2, v2, sh2, sa2, ra2, rf2⟩ := A2
  rw [hn1] at n2 sh2 sa2 ra2
  have hn2 : hnx g2 = x + 3 := n2
  have s2 : hsh g2 x = (8, 10) := (sh2 x (by omega)).trans s1
  refine kr_aload_n (pc := 21) dX7_init_21 rfl ?_
  refine kr_bipush (pc := 22) dX7_init_22 (by decide) ?_
  refine kr_newq (pc := 24) dX7_init_24 rfl (by decide) ?_
  refine kr_putr (pc := 27) dX7_init_27 rfl rfl (by decide) (by first | assumption | exact (hsh_nw_ne (by omega)).trans (by assumption)) ?_
  have A3 := arS_mk (g := g2) (x := x) (t := 22 + 5) (n := (8 : Int).toNat) (k := 3)
  obtain ⟨g3, hg3⟩ : ∃ g, g = hwr (hnw g2 (22 + 5) (8 : Int).toNat) x 3 (some (hnx g2)) := ⟨_, rfl⟩
  rw [← hg3] at A3 ⊢
  obtain ⟨n3, k3, F3, v3, sh3, sa3, ra3, rf3⟩ := A3
  rw [hn2] at n3 sh3 sa3 ra3
  have hn3 : hnx g3 = x + 4 := n3
  have s3 : hsh g3 x = (8, 10) := (sh3 x (by omega)).trans s2
  have Fr3 : Fre g3 := F3 (F2 (F1 F))
  have z3 : hiv g3 = hiv h := v3.trans (v2.trans v1)
  have ks3 : hks g3 ≤ hks h + 41 := by
    rw [k3, k2, k1]
    simp only [show (3 : Int).toNat = 3 from rfl, show (30 : Int).toNat = 30 from rfl, show (8 : Int).toNat = 8 from rfl]
    omega
  have low3 : ∀ y, y < x → hsh g3 y = hsh h y ∧ hiv g3 y = hiv h y ∧ hrf g3 y = hrf h y := fun y hy =>
    ⟨((sh3 y (by omega)).trans (sh2 y (by omega))).trans (sh1 y (by omega)), by rw [z3], funext fun j => ((rf3 y j (by omega)).trans (rf2 y j (by omega))).trans (rf1 y j (by omega))⟩
  have p0 : hrf g3 x 0 = some (x + 1) := ((rf3 x 0 (by omega)).trans (rf2 x 0 (by omega))).trans ra1
  have p1 : hrf g3 x 1 = some (x + 2) := (rf3 x 1 (by omega)).trans ra2
  have q1 : hsh g3 (x + 1) = (22 + 0, 3) := ((sh3 _ (by omega)).trans (sh2 _ (by omega))).trans sa1
  have q2 : hsh g3 (x + 2) = (22 + 1, 30) := (sh3 _ (by omega)).trans sa2
  refine kr_aload_n (pc := 30) dX7_init_30 rfl ?_
  refine kr_new (pc := 31) dX7_init_31 dX7_init_35 rfl ?_
  refine kr_dup (pc := 34) dX7_init_34 rfl ?_
  refine kr_i0 (pc := 35) dX7_init_35 rfl (by decide) rfl (Nat.le_of_ble_eq_true rfl) (i_list (a := hnx g3) hsh_nw_at rfl Fr3.nw (fun u4 f4 B4 N4 => ?_))
  show amT _ _ _ _ _ _
  have t4 : hsh u4 x = (8, 10) := ((f4.2.2.1 x (by omega)).1.trans (hsh_nw_ne (by omega))).trans s3
  have O4 := obS_mk (x := x) (k := 7) f4
  refine kr_putr (pc := 38) dX7_init_38 rfl rfl (by decide) (by first | assumption | exact (hsh_nw_ne (by omega)).trans (by assumption)) ?_
  obtain ⟨g4, hg4⟩ : ∃ g, g = hwr u4 x 7 (some (hnx g3)) := ⟨_, rfl⟩
  have B4' : LiB g4 (hnx g3) (fun i => i) := by rw [hg4]; exact B4.ax (hwr_ax (by omega))
  have N4' : SeN g4 (hnx g3 + 2) := by rw [hg4]; exact N4.ax (hwr_ax (by omega))
  rw [← hg4] at O4 ⊢
  have n4 := O4.1
  have ks4 : hks g4 ≤ hks g3 + 977 := O4.2.1
  have Fr4 := O4.2.2.1
  have lo4 := O4.2.2.2.1
  have ra4 := O4.2.2.2.2
  rw [hn3] at n4 lo4 ra4 B4' N4'
  have hn4 : hnx g4 = x + 254 := n4
  have s4 : hsh g4 x = (8, 10) := ((lo4 x (by omega)).1).trans s3
  refine kr_aload_n (pc := 41) dX7_init_41 rfl ?_
  refine kr_new (pc := 42) dX7_init_42 dX7_init_46 rfl ?_
  refine kr_dup (pc := 45) dX7_init_45 rfl ?_
  refine kr_i0 (pc := 46) dX7_init_46 rfl (by decide) rfl (Nat.le_of_ble_eq_true rfl) (i_config (κ := hnx g4) hsh_nw_at rfl Fr4.nw (fun u5 f5 N5 => ?_))
  show amT _ _ _ _ _ _
  have t5 : hsh u5 x = (8, 10) := ((f5.2.2.1 x (by omega)).1.trans (hsh_nw_ne (by omega))).trans s4
  have O5 := obS_mk (x := x) (k := 8) f5
  refine kr_putr (pc := 49) dX7_init_49 rfl rfl (by decide) (by first | assumption | exact (hsh_nw_ne (by omega)).trans (by assumption)) ?_
  obtain ⟨g5, hg5⟩ : ∃ g, g = hwr u5 x 8 (some (hnx g4)) := ⟨_, rfl⟩
  have N5' : CfN g5 (hnx g4) := by rw [hg5]; exact N5.ax (hwr_ax (by omega))
  rw [← hg5] at O5 ⊢
  have n5 := O5.1
  have ks5 : hks g5 ≤ hks g4 + 128 := O5.2.1
  have Fr5 := O5.2.2.1
  have lo5 := O5.2.2.2.1
  have ra5 := O5.2.2.2.2
  rw [hn4] at n5 lo5 ra5 N5'
  have hn5 : hnx g5 = x + 302 := n5
  have s5 : hsh g5 x = (8, 10) := ((lo5 x (by omega)).1).trans s4
  refine kr_aload_n (pc := 52) dX7_init_52 rfl ?_
  refine kr_new (pc := 53) dX7_init_53 dX7_init_57 rfl ?_
  refine kr_dup (pc := 56) dX7_init_56 rfl ?_
  refine kr_i0 (pc := 57) dX7_init_57 rfl (by decide) rfl (Nat.le_of_ble_eq_true rfl) (i_entry (o := hnx g5) hsh_nw_at rfl Fr5.nw (fun u6 f6 N6 _ => ?_))
  show amT _ _ _ _ _ _
  have t6 : hsh u6 x = (8, 10) := ((f6.2.2.1 x (by omega)).1.trans (hsh_nw_ne (by omega))).trans s5
  have O6 := obS_mk (x := x) (k := 9) f6
  refine kr_putr (pc := 60) dX7_init_60 rfl rfl (by decide) (by first | assumption | exact (hsh_nw_ne (by omega)).trans (by assumption)) ?_
  refine kr_iconst (pc := 63) dX7_init_63 (by decide) ?_
  refine kr_istore_n (pc := 64) dX7_init_64 (show 1 ≤ _ from by simp) (by decide) ?_
  simp only [stl, List.tail_cons, List.tail_nil]
  obtain ⟨g6, hg6⟩ : ∃ g, g = hwr u6 x 9 (some (hnx g5)) := ⟨_, rfl⟩
  have N6' : EnB g6 (hnx g5) := by rw [hg6]; exact N6.ax (hwr_ax (by omega))
  rw [← hg6] at O6 ⊢
  have n6 := O6.1
  have ks6 : hks g6 ≤ hks g5 + 5 := O6.2.1
  have Fr6 := O6.2.2.1
  have lo6 := O6.2.2.2.1
  have ra6 := O6.2.2.2.2
  have hn4' : x + 254 ≤ hnx g4 := by omega
  have hn5' : x + 302 ≤ hnx g5 := by omega
  have B6 : LiB g6 (x + 4) (fun i => i) := (B4'.ax (O5.ax (by omega) (by omega))).ax (O6.ax (by omega) (by omega))
  have M6 : SeN g6 (x + 4 + 2) := (N4'.ax (O5.ax (by omega) (by omega))).ax (O6.ax (by omega) (by omega))
  have C6 : CfN g6 (x + 254) := N5'.ax (O6.ax (by omega) (by omega))
  rw [hn5] at n6 lo6 ra6 N6'
  have hn6 : hnx g6 = x + 304 := n6
  have lo : ∀ y, y < x + 4 → hsh g6 y = hsh g3 y ∧ hiv g6 y = hiv g3 y ∧ ∀ j, ¬ (y = x ∧ (j = 7 ∨ j = 8 ∨ j = 9)) → hrf g6 y j = hrf g3 y j := fun y hy =>
    ⟨((lo6 y (by omega)).1.trans (lo5 y (by omega)).1).trans (lo4 y (by omega)).1, ((lo6 y (by omega)).2.1.trans (lo5 y (by omega)).2.1).trans (lo4 y (by omega)).2.1, fun j hj => (((lo6 y (by omega)).2.2 j (by omega)).trans ((lo5 y (by omega)).2.2 j (by omega))).trans ((lo4 y (by omega)).2.2 j (by omega))⟩
  refine loop1 3 0 g6 rfl (by omega) (by omega) Fr6 ⟨fun y hy => ⟨(lo y (by omega)).1.trans (low3 y hy).1, (lo y (by omega)).2.1.trans (low3 y hy).2.1, (funext fun j => (lo y (by omega)).2.2 j (by omega)).trans (low3 y hy).2.2⟩, (lo x (by omega)).1.trans s3, ((lo x (by omega)).2.2 0 (by omega)).trans p0, (lo _ (by omega)).1.trans q1, ((lo x (by omega)).2.2 1 (by omega)).trans p1, (lo _ (by omega)).1.trans q2, ((lo x (by omega)).2.2 3 (by omega)).trans ra3, (lo _ (by omega)).1.trans sa3, ?_, ?_, ra6, B6, M6, C6, N6', fun j => ?_⟩ fun j hj => by omega
  · exact ((lo6 x (by omega)).2.2 7 (by omega)).trans (((lo5 x (by omega)).2.2 7 (by omega)).trans ra4)
  · exact ((lo6 x (by omega)).2.2 8 (by omega)).trans ra5
  · rw [(lo x (by omega)).2.1, z3]
    exact h0 j
end XP
