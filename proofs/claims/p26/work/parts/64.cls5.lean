/-! CONFIGURATIONS of the class -/
def CfB (h : aH) (κ : Nat) : Prop :=
  hsh h κ = (2, 2) ∧ hrf h κ 0 = some (κ + 1) ∧ hsh h (κ + 1) = (22 + 6, 3) ∧ hrf h κ 1 = some (κ + 2) ∧ hsh h (κ + 2) = (40, 3) ∧ (∀ i, i < 3 → hrf h (κ + 1) i = some (κ + 6 + 14 * i)) ∧ ∀ i, i < 3 → hrf h (κ + 2) i = some (κ + 3 + i) ∧ hsh h (κ + 3 + i) = (20, 2)
def CfX (h : aH) (κ : Nat) : Prop := CfB h κ ∧ ∀ i, i < 3 → ∃ p, SeB h (κ + 6 + 14 * i) p
def CfC (h : aH) (κ : Nat) (c : Cfg) : Prop := CfB h κ ∧ (∀ i, i < 3 → SeC h (κ + 6 + 14 * i) (c.1 i)) ∧ ∀ g f, g < 3 → f < 2 → hiv h (κ + 3 + g) f = c.2 g f
theorem CfB.ag {h h' : aH} {κ : Nat} (H : CfB h κ) (f : agr h h' κ (κ + 6)) : CfB h' κ := by
  unfold CfB at *
  rw [f.1, (f.2 κ (by omega) (by omega)).2, (f.2 (κ + 1) (by omega) (by omega)).2, (f.2 (κ + 2) (by omega) (by omega)).2]
  exact H
theorem CfX.ag {h h' : aH} {κ : Nat} (H : CfX h κ) (f : agr h h' κ (κ + 48)) : CfX h' κ := by
  refine ⟨H.1.ag (f.up (by omega) (by omega)), fun i hi => ?_⟩
  obtain ⟨p, B⟩ := H.2 i hi
  exact ⟨p, B.ag (f.up (by omega) (by omega))⟩
theorem CfC.ag {h h' : aH} {κ : Nat} {c : Cfg} (H : CfC h κ c) (f : agr h h' κ (κ + 48)) : CfC h' κ c :=
  ⟨H.1.ag (f.up (by omega) (by omega)), fun i hi => (H.2.1 i hi).ag (f.up (by omega) (by omega)), fun g j hg hj => by rw [(f.2 (κ + 3 + g) (by omega) (by omega)).1]; exact H.2.2 g j hg hj⟩
theorem CfC.x {h : aH} {κ : Nat} {c : Cfg} (H : CfC h κ c) : CfX h κ := ⟨H.1, fun i hi => by obtain ⟨p, B, _⟩ := H.2.1 i hi; exact ⟨p, B⟩⟩
theorem CfC.s {h : aH} {κ i : Nat} {c : Cfg} (H : CfC h κ c) (hi : i < 3) : hsh h (κ + 6 + 14 * i) = (7, 2) := by
  obtain ⟨p, B, _⟩ := H.2.1 i hi
  exact B.1
theorem CfX.s {h : aH} {κ i : Nat} (H : CfX h κ) (hi : i < 3) : hsh h (κ + 6 + 14 * i) = (7, 2) := by
  obtain ⟨p, B⟩ := H.2 i hi
  exact B.1
section X5
variable {h : aH} {Q : aR → Prop} {κ ρ e : Nat} {c c' : Cfg} {x : Ent}
theorem x_shown {f : Int} (H : CfC h κ c) (E : EnC h e x) (o : okE x) (hf : 0 ≤ f ∧ f ≤ 1) (k : Q (.inl (some (vI (shw c x f))), h)) : amT mX1_valueShown 0 [vR κ, vR e, vI f] [] h Q := by
  obtain ⟨a1, a2, a3, a4, a5, a6, a7⟩ := H.1
  obtain ⟨⟨s1, s2, r1⟩, v0, v1, v2, v3⟩ := id E
  have hv : hiv h (e + 1) f.toNat = fieldE x f := by
    unfold fieldE
    by_cases h0 : f = 0
    · rw [if_pos h0, h0]
      exact v1
    · rw [if_neg h0, show f = 1 by omega]
      exact v2
  unfold okE at o
  have gg : ¬ x.2.2.2 = -1 → hrf h (κ + 2) x.2.2.2.toNat = some (κ + 3 + x.2.2.2.toNat) ∧ hsh h (κ + 3 + x.2.2.2.toNat) = (20, 2) ∧ hiv h (κ + 3 + x.2.2.2.toNat) f.toNat = c.2 x.2.2.2.toNat f.toNat := fun hg =>
    ⟨(a7 _ (by omega)).1, (a7 _ (by omega)).2, H.2.2 _ _ (by omega) (by omega)⟩
  unfold shw at k
  refine kr_aload_n (pc := 0) dX1_valueShown_0 rfl ?_
  refine kr_getr (pc := 1) dX1_valueShown_1 rfl rfl (by assumption) (by assumption) ?_
  refine kr_iconst (pc := 4) dX1_valueShown_4 (by decide) ?_
  refine kr_iald (pc := 5) dX1_valueShown_5 (by assumption) (by omega) (by omega) rfl ?_
  rw [show hiv h (e + 1) (2 : Int).toNat = x.2.2.2 from v3]
  refine kr_istore_n (pc := 6) dX1_valueShown_6 (show 3 ≤ _ from by simp) (by decide) ?_
  simp only [stl, List.tail_cons, List.tail_nil]
  refine kr_aload_n (pc := 7) dX1_valueShown_7 rfl ?_
  refine kr_getr (pc := 8) dX1_valueShown_8 rfl rfl (by assumption) (by assumption) ?_
  refine kr_iload_n (pc := 11) dX1_valueShown_11 rfl ?_
  refine kr_iald (pc := 12) dX1_valueShown_12 (by assumption) (by omega) (by omega) rfl ?_
  rw [hv]
  refine kr_iconst (pc := 13) dX1_valueShown_13 (by decide) ?_
  refine kr_icmp_ne (pc := 14) dX1_valueShown_14 rfl (fun h14 => ?_) (fun h14 => ?_)
  · refine kr_aload_n (pc := 26) dX1_valueShown_26 rfl ?_
    refine kr_getr (pc := 27) dX1_valueShown_27 rfl rfl (by assumption) (by assumption) ?_
    refine kr_iload_n (pc := 30) dX1_valueShown_30 rfl ?_
    refine kr_iald (pc := 31) dX1_valueShown_31 (by assumption) (by omega) (by omega) rfl ?_
    rw [hv]
    refine kr_ireturn (pc := 32) dX1_valueShown_32 rfl ?_
    first | (rw [if_pos (by omega)] at k; exact k) | (rw [if_neg (by omega)] at k; exact k)
  · refine kr_iload_n (pc := 17) dX1_valueShown_17 rfl ?_
    refine kr_if_lt (pc := 18) dX1_valueShown_18 rfl (fun h18 => ?_) (fun h18 => ?_)
    · refine kr_aload_n (pc := 26) dX1_valueShown_26 rfl ?_
      refine kr_getr (pc := 27) dX1_valueShown_27 rfl rfl (by assumption) (by assumption) ?_
      refine kr_iload_n (pc := 30) dX1_valueShown_30 rfl ?_
      refine kr_iald (pc := 31) dX1_valueShown_31 (by assumption) (by omega) (by omega) rfl ?_
      rw [hv]
      refine kr_ireturn (pc := 32) dX1_valueShown_32 rfl ?_
      first | (rw [if_pos (by omega)] at k; exact k) | (rw [if_neg (by omega)] at k; exact k)
    · refine kr_iload_n (pc := 21) dX1_valueShown_21 rfl ?_
      refine kr_iconst (pc := 22) dX1_valueShown_22 (by decide) ?_
      refine kr_icmp_lt (pc := 23) dX1_valueShown_23 rfl (fun h23 => ?_) (fun h23 => ?_)
      · obtain ⟨b1, b2, b3⟩ := gg (by omega)
        refine kr_aload_n (pc := 33) dX1_valueShown_33 rfl ?_
        refine kr_getr (pc := 34) dX1_valueShown_34 rfl rfl (by assumption) (by assumption) ?_
        refine kr_iload_n (pc := 37) dX1_valueShown_37 rfl ?_
        refine kr_aald (pc := 38) dX1_valueShown_38 (by assumption) (by decide) (by omega) (by omega) (by assumption) ?_
        refine kr_iload_n (pc := 39) dX1_valueShown_39 rfl ?_
        refine kr_iald (pc := 40) dX1_valueShown_40 (by assumption) (by omega) (by omega) rfl ?_
        rw [b3]
        refine kr_ireturn (pc := 41) dX1_valueShown_41 rfl ?_
        first | (rw [if_pos (by omega)] at k; exact k) | (rw [if_neg (by omega)] at k; exact k)
      · refine kr_aload_n (pc := 26) dX1_valueShown_26 rfl ?_
        refine kr_getr (pc := 27) dX1_valueShown_27 rfl rfl (by assumption) (by assumption) ?_
        refine kr_iload_n (pc := 30) dX1_valueShown_30 rfl ?_
        refine kr_iald (pc := 31) dX1_valueShown_31 (by assumption) (by omega) (by omega) rfl ?_
        rw [hv]
        refine kr_ireturn (pc := 32) dX1_valueShown_32 rfl ?_
        first | (rw [if_pos (by omega)] at k; exact k) | (rw [if_neg (by omega)] at k; exact k)
/-- the first n cells of the groups are copied -/
def CpD (h g : aH) (κ : Nat) (c : Cfg) (n : Nat) : Prop := fro h g κ (κ + 48) ∧ CfB g κ ∧ (∀ i, i < 3 → SeC g (κ + 6 + 14 * i) (c.1 i)) ∧ ∀ a b, a < 3 → b < 2 → 2 * a + b < n → hiv g (κ + 3 + a) b = c.2 a b
theorem x_ccopy (H : CfX h κ) (D : CfC h ρ c) (hd : ρ + 48 ≤ κ ∨ κ + 48 ≤ ρ) (k : ∀ h', fro h h' κ (κ + 48) → CfC h' κ c → Q (.inl none, h')) : amT mX1_copyFrom 0 [vR κ, vR ρ] [] h Q := by
  have inner : ∀ (d i j : Nat) (g : aH), i < 3 → j + d = 2 → CpD h g κ c (2 * i + j) → (∀ (j : Int) (g' : aH), CpD h g' κ c (2 * (i + 1)) → amT mX1_copyFrom 64 [vR κ, vR ρ, vI (i : Int), vI j] [] g' Q) → amT mX1_copyFrom 37 [vR κ, vR ρ, vI (i : Int), vI (j : Int)] [] g Q := by
    intro d
    induction d with
    | zero =>
      intro i j g hi hj hD k
      refine kr_iload_n (pc := 37) dX1_copyFrom_37 rfl ?_
      refine kr_iconst (pc := 38) dX1_copyFrom_38 (by decide) ?_
      refine kr_icmp_ge (pc := 39) dX1_copyFrom_39 rfl (fun h39 => ?_) (fun h39 => by exfalso; omega)
      exact k _ g (by rw [show 2 * (i + 1) = 2 * i + j by omega]; exact hD)
    | succ d ih =>
      intro i j g hi hj hD k
      obtain ⟨fr, B, SS, cells⟩ := id hD
      obtain ⟨a1, a2, a3, a4, a5, a6, a7⟩ := id B
      have D1 := D.ag (fr.ag (by omega))
      obtain ⟨b1, b2, b3, b4, b5, b6, b7⟩ := D1.1
      obtain ⟨x1, x2⟩ := a7 i hi
      obtain ⟨y1, y2⟩ := b7 i hi
      have x3 : hrf g (κ + 2) (i : Int).toNat = some (κ + 3 + i) := x1
      have y3 : hrf g (ρ + 2) (i : Int).toNat = some (ρ + 3 + i) := y1
      have z : hiv g (ρ + 3 + i) (j : Int).toNat = c.2 i j := D1.2.2 i j hi (by omega)
      refine kr_iload_n (pc := 37) dX1_copyFrom_37 rfl ?_
      refine kr_iconst (pc := 38) dX1_copyFrom_38 (by decide) ?_
      refine kr_icmp_ge (pc := 39) dX1_copyFrom_39 rfl (fun h39 => by exfalso; omega) (fun h39 => ?_)
      refine kr_aload_n (pc := 42) dX1_copyFrom_42 rfl ?_
      refine kr_getr (pc := 43) dX1_copyFrom_43 rfl rfl (by assumption) (by assumption) ?_
      refine kr_iload_n (pc := 46) dX1_copyFrom_46 rfl ?_
      refine kr_aald (pc := 47) dX1_copyFrom_47 (by assumption) (by decide) (by omega) (by omega) (by assumption) ?_
      refine kr_iload_n (pc := 48) dX1_copyFrom_48 rfl ?_
      refine kr_aload_n (pc := 49) dX1_copyFrom_49 rfl ?_
      refine kr_getr (pc := 50) dX1_copyFrom_50 rfl rfl (by assumption) (by assumption) ?_
      refine kr_iload_n (pc := 53) dX1_copyFrom_53 rfl ?_
      refine kr_aald (pc := 54) dX1_copyFrom_54 (by assumption) (by decide) (by omega) (by omega) (by assumption) ?_
      refine kr_iload_n (pc := 55) dX1_copyFrom_55 rfl ?_
      refine kr_iald (pc := 56) dX1_copyFrom_56 (by assumption) (by omega) (by omega) rfl ?_
      rw [z]
      refine kr_iast (pc := 57) dX1_copyFrom_57 (by assumption) (by omega) (by omega) ?_
      refine kr_iinc (pc := 58) dX1_copyFrom_58 rfl ⟨⟨by omega, by omega⟩, by decide, by decide⟩ ?_
      simp only [stl, List.tail_cons, List.tail_nil]
      refine kr_goto (pc := 61) dX1_copyFrom_61 rfl ?_
      refine ih i (j + 1) _ hi (by omega) ⟨fr.tr (hwi_fro (by omega) (by omega)), ⟨a1, a2, a3, a4, a5, a6, a7⟩, fun q hq => (SS q hq).ag ((hwi_fro (a := κ + 3) (b := κ + 6) (by omega) (by omega)).ag (by omega)), fun a b ha hb hab => ?_⟩ k
      refine Eq.trans (b := if κ + 3 + a = κ + 3 + i ∧ b = (j : Int).toNat then c.2 i j else hiv g (κ + 3 + a) b) rfl ?_
      by_cases hh : a = i ∧ b = j
      · (rw [if_pos (by omega), hh.1, hh.2])
      · (rw [if_neg (by omega)]; exact cells a b ha hb (by omega))
  have outer : ∀ (d i : Nat) (tl : List aV) (g : aH), i + d = 3 → CpD h g κ c (2 * i) → tl.length ≤ 1 → amT mX1_copyFrom 30 (vR κ :: vR ρ :: vI (i : Int) :: tl) [] g Q := by
    intro d
    induction d with
    | zero =>
      intro i tl g hi hD htl
      obtain ⟨fr, B, SS, cells⟩ := hD
      refine kr_iload_n (pc := 30) dX1_copyFrom_30 rfl ?_
      refine kr_iconst (pc := 31) dX1_copyFrom_31 (by decide) ?_
      refine kr_icmp_ge (pc := 32) dX1_copyFrom_32 rfl (fun h32 => ?_) (fun h32 => by exfalso; omega)
      refine kr_return (d0 := ()) (pc := 70) dX1_copyFrom_70 rfl ?_
      exact k g fr ⟨B, SS, fun a b ha hb => cells a b ha hb (by omega)⟩
    | succ d ih =>
      intro i tl g hi hD htl
      have e : tl.tail = [] := by
        match tl, htl with
        | [], _ => rfl
        | [x], _ => rfl
      have next : ∀ (j : Int) (g' : aH), CpD h g' κ c (2 * (i + 1)) → amT mX1_copyFrom 64 [vR κ, vR ρ, vI (i : Int), vI j] [] g' Q := by
        intro j g' hD'
        refine kr_iinc (pc := 64) dX1_copyFrom_64 rfl ⟨⟨by omega, by omega⟩, by decide, by decide⟩ ?_
        simp only [stl, List.tail_cons, List.tail_nil]
        refine kr_goto (pc := 67) dX1_copyFrom_67 rfl ?_
        exact ih (i + 1) _ g' (by omega) hD' (Nat.le_refl _)
      refine kr_iload_n (pc := 30) dX1_copyFrom_30 rfl ?_
      refine kr_iconst (pc := 31) dX1_copyFrom_31 (by decide) ?_
      refine kr_icmp_ge (pc := 32) dX1_copyFrom_32 rfl (fun h32 => by exfalso; omega) (fun h32 => ?_)
      refine kr_iconst (pc := 35) dX1_copyFrom_35 (by decide) ?_
      refine kr_istore_n (pc := 36) dX1_copyFrom_36 (show 3 ≤ _ from by simp) (by decide) ?_
      simp only [stl, List.tail_cons, List.tail_nil]
      rw [e]
      exact inner 2 i 0 g (by omega) rfl hD (fun j g' hD' => next j g' hD')
  have secs : ∀ (d i : Nat) (g : aH), i + d = 3 → fro h g κ (κ + 48) → CfX g κ → (∀ j, j < i → SeC g (κ + 6 + 14 * j) (c.1 j)) → amT mX1_copyFrom 2 [vR κ, vR ρ, vI (i : Int)] [] g Q := by
    intro d
    induction d with
    | zero =>
      intro i g hi fr X hS
      refine kr_iload_n (pc := 2) dX1_copyFrom_2 rfl ?_
      refine kr_iconst (pc := 3) dX1_copyFrom_3 (by decide) ?_
      refine kr_icmp_ge (pc := 4) dX1_copyFrom_4 rfl (fun h4 => ?_) (fun h4 => by exfalso; omega)
      refine kr_iconst (pc := 28) dX1_copyFrom_28 (by decide) ?_
      refine kr_istore_n (pc := 29) dX1_copyFrom_29 (show 2 ≤ _ from by simp) (by decide) ?_
      simp only [stl, List.tail_cons, List.tail_nil]
      exact outer 3 0 _ g rfl ⟨fr, X.1, fun j hj => hS j (by omega), fun a b ha hb h => by omega⟩ (Nat.zero_le _)
    | succ d ih =>
      intro i g hi fr X hS
      obtain ⟨a1, a2, a3, a4, a5, a6, a7⟩ := X.1
      have D1 := D.ag (fr.ag (by omega))
      obtain ⟨b1, b2, b3, b4, b5, b6, b7⟩ := D1.1
      have x3 : hrf g (κ + 1) (i : Int).toNat = some (κ + 6 + 14 * i) := a6 i (by omega)
      have y3 : hrf g (ρ + 1) (i : Int).toNat = some (ρ + 6 + 14 * i) := b6 i (by omega)
      have z1 := X.s (i := i) (by omega)
      obtain ⟨p, P⟩ := X.2 i (by omega)
      have part : ∀ j, j < 3 → ∀ h', fro g h' (κ + 6 + 14 * i) (κ + 6 + 14 * i + 14) → SeC h' (κ + 6 + 14 * i) (c.1 i) → ∃ p, SeB h' (κ + 6 + 14 * j) p := by
        intro j hj h' fr' S'
        by_cases hji : j = i
        · rw [hji]
          obtain ⟨p, B, _⟩ := S'
          exact ⟨p, B⟩
        · obtain ⟨p, B⟩ := X.2 j hj
          exact ⟨p, B.ag (fr'.ag (by omega))⟩
      have full : ∀ j, j < i + 1 → ∀ h', fro g h' (κ + 6 + 14 * i) (κ + 6 + 14 * i + 14) → SeC h' (κ + 6 + 14 * i) (c.1 i) → SeC h' (κ + 6 + 14 * j) (c.1 j) := by
        intro j hj h' fr' S'
        by_cases hji : j = i
        · rw [hji]
          exact S'
        · exact (hS j (by omega)).ag (fr'.ag (by omega))
      refine kr_iload_n (pc := 2) dX1_copyFrom_2 rfl ?_
      refine kr_iconst (pc := 3) dX1_copyFrom_3 (by decide) ?_
      refine kr_icmp_ge (pc := 4) dX1_copyFrom_4 rfl (fun h4 => by exfalso; omega) (fun h4 => ?_)
      refine kr_aload_n (pc := 7) dX1_copyFrom_7 rfl ?_
      refine kr_getr (pc := 8) dX1_copyFrom_8 rfl rfl (by assumption) (by assumption) ?_
      refine kr_iload_n (pc := 11) dX1_copyFrom_11 rfl ?_
      refine kr_aald (pc := 12) dX1_copyFrom_12 (by assumption) (by decide) (by omega) (by omega) (by assumption) ?_
      refine kr_aload_n (pc := 13) dX1_copyFrom_13 rfl ?_
      refine kr_getr (pc := 14) dX1_copyFrom_14 rfl rfl (by assumption) (by assumption) ?_
      refine kr_iload_n (pc := 17) dX1_copyFrom_17 rfl ?_
      refine kr_aald (pc := 18) dX1_copyFrom_18 (by assumption) (by decide) (by omega) (by omega) (by assumption) ?_
      refine kr_v1 (pc := 19) dX1_copyFrom_19 rfl rfl (by assumption) (Nat.le_of_ble_eq_true rfl) rfl (x_scopy P (D1.2.1 i (by omega)) (by omega) fun h' fr' S' => ?_)
      show amT _ _ _ _ _ _
      refine kr_iinc (pc := 22) dX1_copyFrom_22 rfl ⟨⟨by omega, by omega⟩, by decide, by decide⟩ ?_
      simp only [stl, List.tail_cons, List.tail_nil]
      refine kr_goto (pc := 25) dX1_copyFrom_25 rfl ?_
      exact ih (i + 1) h' (by omega) (fr.tr (fr'.up (by omega) (by omega))) ⟨X.1.ag (fr'.ag (by omega)), fun j hj => part j hj h' fr' S'⟩ (fun j hj => full j hj h' fr' S')
  refine kr_iconst (pc := 0) dX1_copyFrom_0 (by decide) ?_
  refine kr_istore_n (pc := 1) dX1_copyFrom_1 (show 2 ≤ _ from by simp) (by decide) ?_
  simp only [stl, List.tail_cons, List.tail_nil]
  exact secs 3 0 h rfl fro.rf H (fun j hj => by omega)
theorem x_clike (H : CfC h κ c) (D : CfC h ρ c') (k1 : ((∀ s, s < 3 → c.1 s = c'.1 s) ∧ ∀ g j, g < 3 → j < 2 → c.2 g j = c'.2 g j) → Q (.inl (some (vI 1)), h)) (k0 : ¬ ((∀ s, s < 3 → c.1 s = c'.1 s) ∧ ∀ g j, g < 3 → j < 2 → c.2 g j = c'.2 g j) → Q (.inl (some (vI 0)), h)) : amT mX1_isLike 0 [vR κ, vR ρ] [] h Q := by
  obtain ⟨a1, a2, a3, a4, a5, a6, a7⟩ := H.1
  obtain ⟨b1, b2, b3, b4, b5, b6, b7⟩ := D.1
  have x0 := a6 0 (by decide)
  have x1 := a6 1 (by decide)
  have x2 := a6 2 (by decide)
  have y0 := b6 0 (by decide)
  have y1 := b6 1 (by decide)
  have y2 := b6 2 (by decide)
  obtain ⟨u0, v0⟩ := a7 0 (by decide)
  obtain ⟨u1, v1⟩ := a7 1 (by decide)
  obtain ⟨u2, v2⟩ := a7 2 (by decide)
  obtain ⟨w0, z0⟩ := b7 0 (by decide)
  obtain ⟨w1, z1⟩ := b7 1 (by decide)
  obtain ⟨w2, z2⟩ := b7 2 (by decide)
  have s0 := H.2.1 0 (by decide)
  have s1 := H.2.1 1 (by decide)
  have s2 := H.2.1 2 (by decide)
  have t0 := D.2.1 0 (by decide)
  have t1 := D.2.1 1 (by decide)
  have t2 := D.2.1 2 (by decide)
  have p0 := H.s (i := 0) (by decide)
  have p1 := H.s (i := 1) (by decide)
  have p2 := H.s (i := 2) (by decide)
  have g0 := H.2.2 0 0 (by decide) (by decide)
  have g1 := H.2.2 0 1 (by decide) (by decide)
  have g2 := H.2.2 1 0 (by decide) (by decide)
  have g3 := H.2.2 1 1 (by decide) (by decide)
  have g4 := H.2.2 2 0 (by decide) (by decide)
  have g5 := H.2.2 2 1 (by decide) (by decide)
  have f0 := D.2.2 0 0 (by decide) (by decide)
  have f1 := D.2.2 0 1 (by decide) (by decide)
  have f2 := D.2.2 1 0 (by decide) (by decide)
  have f3 := D.2.2 1 1 (by decide) (by decide)
  have f4 := D.2.2 2 0 (by decide) (by decide)
  have f5 := D.2.2 2 1 (by decide) (by decide)
  refine kr_iconst (pc := 0) dX1_isLike_0 (by decide) ?_
  refine kr_istore_n (pc := 1) dX1_isLike_1 (show 2 ≤ _ from by simp) (by decide) ?_
  simp only [stl, List.tail_cons, List.tail_nil]
  refine kr_iload_n (pc := 2) dX1_isLike_2 rfl ?_
  refine kr_iconst (pc := 3) dX1_isLike_3 (by decide) ?_
  refine kr_icmp_ge (pc := 4) dX1_isLike_4 rfl (fun h => absurd h (by decide)) (fun _ => ?_)
  refine kr_aload_n (pc := 7) dX1_isLike_7 rfl ?_
  refine kr_getr (pc := 8) dX1_isLike_8 rfl rfl (by assumption) (by assumption) ?_
  refine kr_iload_n (pc := 11) dX1_isLike_11 rfl ?_
  refine kr_aald (pc := 12) dX1_isLike_12 (by assumption) (by decide) (by omega) (by omega) (by assumption) ?_
  refine kr_aload_n (pc := 13) dX1_isLike_13 rfl ?_
  refine kr_getr (pc := 14) dX1_isLike_14 rfl rfl (by assumption) (by assumption) ?_
  refine kr_iload_n (pc := 17) dX1_isLike_17 rfl ?_
  refine kr_aald (pc := 18) dX1_isLike_18 (by assumption) (by decide) (by omega) (by omega) (by assumption) ?_
  refine kr_v1 (pc := 19) dX1_isLike_19 rfl rfl (by assumption) (Nat.le_of_ble_eq_true rfl) rfl (x_slike (by first | exact s0 | exact s1 | exact s2) (by first | exact t0 | exact t1 | exact t2) (fun c19 => ?_) (fun c19 => ?_))
  · show amT _ _ _ _ _ _
    refine kr_if_ne (pc := 22) dX1_isLike_22 rfl (fun _ => ?_) (fun h => absurd h (by decide))
    refine kr_iinc (pc := 27) dX1_isLike_27 rfl ⟨⟨by omega, by omega⟩, by decide, by decide⟩ ?_
    simp only [stl, List.tail_cons, List.tail_nil]
    refine kr_goto (pc := 30) dX1_isLike_30 rfl ?_
    refine kr_iload_n (pc := 2) dX1_isLike_2 rfl ?_
    refine kr_iconst (pc := 3) dX1_isLike_3 (by decide) ?_
    refine kr_icmp_ge (pc := 4) dX1_isLike_4 rfl (fun h => absurd h (by decide)) (fun _ => ?_)
    refine kr_aload_n (pc := 7) dX1_isLike_7 rfl ?_
    refine kr_getr (pc := 8) dX1_isLike_8 rfl rfl (by assumption) (by assumption) ?_
    refine kr_iload_n (pc := 11) dX1_isLike_11 rfl ?_
    refine kr_aald (pc := 12) dX1_isLike_12 (by assumption) (by decide) (by omega) (by omega) (by assumption) ?_
    refine kr_aload_n (pc := 13) dX1_isLike_13 rfl ?_
    refine kr_getr (pc := 14) dX1_isLike_14 rfl rfl (by assumption) (by assumption) ?_
    refine kr_iload_n (pc := 17) dX1_isLike_17 rfl ?_
    refine kr_aald (pc := 18) dX1_isLike_18 (by assumption) (by decide) (by omega) (by omega) (by assumption) ?_
    refine kr_v1 (pc := 19) dX1_isLike_19 rfl rfl (by assumption) (Nat.le_of_ble_eq_true rfl) rfl (x_slike (by first | exact s0 | exact s1 | exact s2) (by first | exact t0 | exact t1 | exact t2) (fun c19 => ?_) (fun c19 => ?_))
    · show amT _ _ _ _ _ _
      refine kr_if_ne (pc := 22) dX1_isLike_22 rfl (fun _ => ?_) (fun h => absurd h (by decide))
      refine kr_iinc (pc := 27) dX1_isLike_27 rfl ⟨⟨by omega, by omega⟩, by decide, by decide⟩ ?_
      simp only [stl, List.tail_cons, List.tail_nil]
      refine kr_goto (pc := 30) dX1_isLike_30 rfl ?_
      refine kr_iload_n (pc := 2) dX1_isLike_2 rfl ?_
      refine kr_iconst (pc := 3) dX1_isLike_3 (by decide) ?_
      refine kr_icmp_ge (pc := 4) dX1_isLike_4 rfl (fun h => absurd h (by decide)) (fun _ => ?_)
      refine kr_aload_n (pc := 7) dX1_isLike_7 rfl ?_
      refine kr_getr (pc := 8) dX1_isLike_8 rfl rfl (by assumption) (by assumption) ?_
      refine kr_iload_n (pc := 11) dX1_isLike_11 rfl ?_
      refine kr_aald (pc := 12) dX1_isLike_12 (by assumption) (by decide) (by omega) (by omega) (by assumption) ?_
      refine kr_aload_n (pc := 13) dX1_isLike_13 rfl ?_
      refine kr_getr (pc := 14) dX1_isLike_14 rfl rfl (by assumption) (by assumption) ?_
      refine kr_iload_n (pc := 17) dX1_isLike_17 rfl ?_
      refine kr_aald (pc := 18) dX1_isLike_18 (by assumption) (by decide) (by omega) (by omega) (by assumption) ?_
      refine kr_v1 (pc := 19) dX1_isLike_19 rfl rfl (by assumption) (Nat.le_of_ble_eq_true rfl) rfl (x_slike (by first | exact s0 | exact s1 | exact s2) (by first | exact t0 | exact t1 | exact t2) (fun c19 => ?_) (fun c19 => ?_))
      · show amT _ _ _ _ _ _
        refine kr_if_ne (pc := 22) dX1_isLike_22 rfl (fun _ => ?_) (fun h => absurd h (by decide))
        refine kr_iinc (pc := 27) dX1_isLike_27 rfl ⟨⟨by omega, by omega⟩, by decide, by decide⟩ ?_
        simp only [stl, List.tail_cons, List.tail_nil]
        refine kr_goto (pc := 30) dX1_isLike_30 rfl ?_
        refine kr_iload_n (pc := 2) dX1_isLike_2 rfl ?_
        refine kr_iconst (pc := 3) dX1_isLike_3 (by decide) ?_
        refine kr_icmp_ge (pc := 4) dX1_isLike_4 rfl (fun _ => ?_) (fun h => absurd h (by decide))
        refine kr_iconst (pc := 33) dX1_isLike_33 (by decide) ?_
        refine kr_istore_n (pc := 34) dX1_isLike_34 (show 2 ≤ _ from by simp) (by decide) ?_
        simp only [stl, List.tail_cons, List.tail_nil]
        refine kr_iload_n (pc := 35) dX1_isLike_35 rfl ?_
        refine kr_iconst (pc := 36) dX1_isLike_36 (by decide) ?_
        refine kr_icmp_ge (pc := 37) dX1_isLike_37 rfl (fun h => absurd h (by decide)) (fun _ => ?_)
        refine kr_iconst (pc := 40) dX1_isLike_40 (by decide) ?_
        refine kr_istore_n (pc := 41) dX1_isLike_41 (show 3 ≤ _ from by simp) (by decide) ?_
        simp only [stl, List.tail_cons, List.tail_nil]
        refine kr_iload_n (pc := 42) dX1_isLike_42 rfl ?_
        refine kr_iconst (pc := 43) dX1_isLike_43 (by decide) ?_
        refine kr_icmp_ge (pc := 44) dX1_isLike_44 rfl (fun h => absurd h (by decide)) (fun _ => ?_)
        refine kr_aload_n (pc := 47) dX1_isLike_47 rfl ?_
        refine kr_getr (pc := 48) dX1_isLike_48 rfl rfl (by assumption) (by assumption) ?_
        refine kr_iload_n (pc := 51) dX1_isLike_51 rfl ?_
        refine kr_aald (pc := 52) dX1_isLike_52 (by assumption) (by decide) (by omega) (by omega) (by assumption) ?_
        refine kr_iload_n (pc := 53) dX1_isLike_53 rfl ?_
        refine kr_iald (pc := 54) dX1_isLike_54 (by assumption) (by omega) (by omega) (by first | exact g0 | exact g1 | exact g2 | exact g3 | exact g4 | exact g5 | exact f0 | exact f1 | exact f2 | exact f3 | exact f4 | exact f5) ?_
        refine kr_aload_n (pc := 55) dX1_isLike_55 rfl ?_
        refine kr_getr (pc := 56) dX1_isLike_56 rfl rfl (by assumption) (by assumption) ?_
        refine kr_iload_n (pc := 59) dX1_isLike_59 rfl ?_
        refine kr_aald (pc := 60) dX1_isLike_60 (by assumption) (by decide) (by omega) (by omega) (by assumption) ?_
        refine kr_iload_n (pc := 61) dX1_isLike_61 rfl ?_
        refine kr_iald (pc := 62) dX1_isLike_62 (by assumption) (by omega) (by omega) (by first | exact g0 | exact g1 | exact g2 | exact g3 | exact g4 | exact g5 | exact f0 | exact f1 | exact f2 | exact f3 | exact f4 | exact f5) ?_
        refine kr_icmp_eq (pc := 63) dX1_isLike_63 rfl (fun h63 => ?_) (fun h63 => ?_)
        · refine kr_iinc (pc := 68) dX1_isLike_68 rfl ⟨⟨by omega, by omega⟩, by decide, by decide⟩ ?_
          simp only [stl, List.tail_cons, List.tail_nil]
          refine kr_goto (pc := 71) dX1_isLike_71 rfl ?_
          refine kr_iload_n (pc := 42) dX1_isLike_42 rfl ?_
          refine kr_iconst (pc := 43) dX1_isLike_43 (by decide) ?_
          refine kr_icmp_ge (pc := 44) dX1_isLike_44 rfl (fun h => absurd h (by decide)) (fun _ => ?_)
          refine kr_aload_n (pc := 47) dX1_isLike_47 rfl ?_
          refine kr_getr (pc := 48) dX1_isLike_48 rfl rfl (by assumption) (by assumption) ?_
          refine kr_iload_n (pc := 51) dX1_isLike_51 rfl ?_
          refine kr_aald (pc := 52) dX1_isLike_52 (by assumption) (by decide) (by omega) (by omega) (by assumption) ?_
          refine kr_iload_n (pc := 53) dX1_isLike_53 rfl ?_
          refine kr_iald (pc := 54) dX1_isLike_54 (by assumption) (by omega) (by omega) (by first | exact g0 | exact g1 | exact g2 | exact g3 | exact g4 | exact g5 | exact f0 | exact f1 | exact f2 | exact f3 | exact f4 | exact f5) ?_
          refine kr_aload_n (pc := 55) dX1_isLike_55 rfl ?_
          refine kr_getr (pc := 56) dX1_isLike_56 rfl rfl (by assumption) (by assumption) ?_
          refine kr_iload_n (pc := 59) dX1_isLike_59 rfl ?_
          refine kr_aald (pc := 60) dX1_isLike_60 (by assumption) (by decide) (by omega) (by omega) (by assumption) ?_
          refine kr_iload_n (pc := 61) dX1_isLike_61 rfl ?_
          refine kr_iald (pc := 62) dX1_isLike_62 (by assumption) (by omega) (by omega) (by first | exact g0 | exact g1 | exact g2 | exact g3 | exact g4 | exact g5 | exact f0 | exact f1 | exact f2 | exact f3 | exact f4 | exact f5) ?_
          refine kr_icmp_eq (pc := 63) dX1_isLike_63 rfl (fun h63 => ?_) (fun h63 => ?_)
          · refine kr_iinc (pc := 68) dX1_isLike_68 rfl ⟨⟨by omega, by omega⟩, by decide, by decide⟩ ?_
            simp only [stl, List.tail_cons, List.tail_nil]
            refine kr_goto (pc := 71) dX1_isLike_71 rfl ?_
            refine kr_iload_n (pc := 42) dX1_isLike_42 rfl ?_
            refine kr_iconst (pc := 43) dX1_isLike_43 (by decide) ?_
            refine kr_icmp_ge (pc := 44) dX1_isLike_44 rfl (fun _ => ?_) (fun h => absurd h (by decide))
            refine kr_iinc (pc := 74) dX1_isLike_74 rfl ⟨⟨by omega, by omega⟩, by decide, by decide⟩ ?_
            simp only [stl, List.tail_cons, List.tail_nil]
            refine kr_goto (pc := 77) dX1_isLike_77 rfl ?_
            refine kr_iload_n (pc := 35) dX1_isLike_35 rfl ?_
            refine kr_iconst (pc := 36) dX1_isLike_36 (by decide) ?_
            refine kr_icmp_ge (pc := 37) dX1_isLike_37 rfl (fun h => absurd h (by decide)) (fun _ => ?_)
            refine kr_iconst (pc := 40) dX1_isLike_40 (by decide) ?_
            refine kr_istore_n (pc := 41) dX1_isLike_41 (show 3 ≤ _ from by simp) (by decide) ?_
            simp only [stl, List.tail_cons, List.tail_nil]
            refine kr_iload_n (pc := 42) dX1_isLike_42 rfl ?_
            refine kr_iconst (pc := 43) dX1_isLike_43 (by decide) ?_
            refine kr_icmp_ge (pc := 44) dX1_isLike_44 rfl (fun h => absurd h (by decide)) (fun _ => ?_)
            refine kr_aload_n (pc := 47) dX1_isLike_47 rfl ?_
            refine kr_getr (pc := 48) dX1_isLike_48 rfl rfl (by assumption) (by assumption) ?_
            refine kr_iload_n (pc := 51) dX1_isLike_51 rfl ?_
            refine kr_aald (pc := 52) dX1_isLike_52 (by assumption) (by decide) (by omega) (by omega) (by assumption) ?_
            refine kr_iload_n (pc := 53) dX1_isLike_53 rfl ?_
            refine kr_iald (pc := 54) dX1_isLike_54 (by assumption) (by omega) (by omega) (by first | exact g0 | exact g1 | exact g2 | exact g3 | exact g4 | exact g5 | exact f0 | exact f1 | exact f2 | exact f3 | exact f4 | exact f5) ?_
            refine kr_aload_n (pc := 55) dX1_isLike_55 rfl ?_
            refine kr_getr (pc := 56) dX1_isLike_56 rfl rfl (by assumption) (by assumption) ?_
            refine kr_iload_n (pc := 59) dX1_isLike_59 rfl ?_
            refine kr_aald (pc := 60) dX1_isLike_60 (by assumption) (by decide) (by omega) (by omega) (by assumption) ?_
            refine kr_iload_n (pc := 61) dX1_isLike_61 rfl ?_
            refine kr_iald (pc := 62) dX1_isLike_62 (by assumption) (by omega) (by omega) (by first | exact g0 | exact g1 | exact g2 | exact g3 | exact g4 | exact g5 | exact f0 | exact f1 | exact f2 | exact f3 | exact f4 | exact f5) ?_
            refine kr_icmp_eq (pc := 63) dX1_isLike_63 rfl (fun h63 => ?_) (fun h63 => ?_)
            · refine kr_iinc (pc := 68) dX1_isLike_68 rfl ⟨⟨by omega, by omega⟩, by decide, by decide⟩ ?_
              simp only [stl, List.tail_cons, List.tail_nil]
              refine kr_goto (pc := 71) dX1_isLike_71 rfl ?_
              refine kr_iload_n (pc := 42) dX1_isLike_42 rfl ?_
              refine kr_iconst (pc := 43) dX1_isLike_43 (by decide) ?_
              refine kr_icmp_ge (pc := 44) dX1_isLike_44 rfl (fun h => absurd h (by decide)) (fun _ => ?_)
              refine kr_aload_n (pc := 47) dX1_isLike_47 rfl ?_
              refine kr_getr (pc := 48) dX1_isLike_48 rfl rfl (by assumption) (by assumption) ?_
              refine kr_iload_n (pc := 51) dX1_isLike_51 rfl ?_
              refine kr_aald (pc := 52) dX1_isLike_52 (by assumption) (by decide) (by omega) (by omega) (by assumption) ?_
              refine kr_iload_n (pc := 53) dX1_isLike_53 rfl ?_
              refine kr_iald (pc := 54) dX1_isLike_54 (by assumption) (by omega) (by omega) (by first | exact g0 | exact g1 | exact g2 | exact g3 | exact g4 | exact g5 | exact f0 | exact f1 | exact f2 | exact f3 | exact f4 | exact f5) ?_
              refine kr_aload_n (pc := 55) dX1_isLike_55 rfl ?_
              refine kr_getr (pc := 56) dX1_isLike_56 rfl rfl (by assumption) (by assumption) ?_
              refine kr_iload_n (pc := 59) dX1_isLike_59 rfl ?_
              refine kr_aald (pc := 60) dX1_isLike_60 (by assumption) (by decide) (by omega) (by omega) (by assumption) ?_
              refine kr_iload_n (pc := 61) dX1_isLike_61 rfl ?_
              refine kr_iald (pc := 62) dX1_isLike_62 (by assumption) (by omega) (by omega) (by first | exact g0 | exact g1 | exact g2 | exact g3 | exact g4 | exact g5 | exact f0 | exact f1 | exact f2 | exact f3 | exact f4 | exact f5) ?_
              refine kr_icmp_eq (pc := 63) dX1_isLike_63 rfl (fun h63 => ?_) (fun h63 => ?_)
              · refine kr_iinc (pc := 68) dX1_isLike_68 rfl ⟨⟨by omega, by omega⟩, by decide, by decide⟩ ?_
                simp only [stl, List.tail_cons, List.tail_nil]
                refine kr_goto (pc := 71) dX1_isLike_71 rfl ?_
                refine kr_iload_n (pc := 42) dX1_isLike_42 rfl ?_
                refine kr_iconst (pc := 43) dX1_isLike_43 (by decide) ?_
                refine kr_icmp_ge (pc := 44) dX1_isLike_44 rfl (fun _ => ?_) (fun h => absurd h (by decide))
                refine kr_iinc (pc := 74) dX1_isLike_74 rfl ⟨⟨by omega, by omega⟩, by decide, by decide⟩ ?_
                simp only [stl, List.tail_cons, List.tail_nil]
                refine kr_goto (pc := 77) dX1_isLike_77 rfl ?_
                refine kr_iload_n (pc := 35) dX1_isLike_35 rfl ?_
                refine kr_iconst (pc := 36) dX1_isLike_36 (by decide) ?_
                refine kr_icmp_ge (pc := 37) dX1_isLike_37 rfl (fun h => absurd h (by decide)) (fun _ => ?_)
                refine kr_iconst (pc := 40) dX1_isLike_40 (by decide) ?_
                refine kr_istore_n (pc := 41) dX1_isLike_41 (show 3 ≤ _ from by simp) (by decide) ?_
                simp only [stl, List.tail_cons, List.tail_nil]
                refine kr_iload_n (pc := 42) dX1_isLike_42 rfl ?_
                refine kr_iconst (pc := 43) dX1_isLike_43 (by decide) ?_
                refine kr_icmp_ge (pc := 44) dX1_isLike_44 rfl (fun h => absurd h (by decide)) (fun _ => ?_)
                refine kr_aload_n (pc := 47) dX1_isLike_47 rfl ?_
                refine kr_getr (pc := 48) dX1_isLike_48 rfl rfl (by assumption) (by assumption) ?_
                refine kr_iload_n (pc := 51) dX1_isLike_51 rfl ?_
                refine kr_aald (pc := 52) dX1_isLike_52 (by assumption) (by decide) (by omega) (by omega) (by assumption) ?_
                refine kr_iload_n (pc := 53) dX1_isLike_53 rfl ?_
                refine kr_iald (pc := 54) dX1_isLike_54 (by assumption) (by omega) (by omega) (by first | exact g0 | exact g1 | exact g2 | exact g3 | exact g4 | exact g5 | exact f0 | exact f1 | exact f2 | exact f3 | exact f4 | exact f5) ?_
                refine kr_aload_n (pc := 55) dX1_isLike_55 rfl ?_
                refine kr_getr (pc := 56) dX1_isLike_56 rfl rfl (by assumption) (by assumption) ?_
                refine kr_iload_n (pc := 59) dX1_isLike_59 rfl ?_
                refine kr_aald (pc := 60) dX1_isLike_60 (by assumption) (by decide) (by omega) (by omega) (by assumption) ?_
                refine kr_iload_n (pc := 61) dX1_isLike_61 rfl ?_
                refine kr_iald (pc := 62) dX1_isLike_62 (by assumption) (by omega) (by omega) (by first | exact g0 | exact g1 | exact g2 | exact g3 | exact g4 | exact g5 | exact f0 | exact f1 | exact f2 | exact f3 | exact f4 | exact f5) ?_
                refine kr_icmp_eq (pc := 63) dX1_isLike_63 rfl (fun h63 => ?_) (fun h63 => ?_)
                · refine kr_iinc (pc := 68) dX1_isLike_68 rfl ⟨⟨by omega, by omega⟩, by decide, by decide⟩ ?_
                  simp only [stl, List.tail_cons, List.tail_nil]
                  refine kr_goto (pc := 71) dX1_isLike_71 rfl ?_
                  refine kr_iload_n (pc := 42) dX1_isLike_42 rfl ?_
                  refine kr_iconst (pc := 43) dX1_isLike_43 (by decide) ?_
                  refine kr_icmp_ge (pc := 44) dX1_isLike_44 rfl (fun h => absurd h (by decide)) (fun _ => ?_)
                  refine kr_aload_n (pc := 47) dX1_isLike_47 rfl ?_
                  refine kr_getr (pc := 48) dX1_isLike_48 rfl rfl (by assumption) (by assumption) ?_
                  refine kr_iload_n (pc := 51) dX1_isLike_51 rfl ?_
                  refine kr_aald (pc := 52) dX1_isLike_52 (by assumption) (by decide) (by omega) (by omega) (by assumption) ?_
                  refine kr_iload_n (pc := 53) dX1_isLike_53 rfl ?_
                  refine kr_iald (pc := 54) dX1_isLike_54 (by assumption) (by omega) (by omega) (by first | exact g0 | exact g1 | exact g2 | exact g3 | exact g4 | exact g5 | exact f0 | exact f1 | exact f2 | exact f3 | exact f4 | exact f5) ?_
                  refine kr_aload_n (pc := 55) dX1_isLike_55 rfl ?_
                  refine kr_getr (pc := 56) dX1_isLike_56 rfl rfl (by assumption) (by assumption) ?_
                  refine kr_iload_n (pc := 59) dX1_isLike_59 rfl ?_
                  refine kr_aald (pc := 60) dX1_isLike_60 (by assumption) (by decide) (by omega) (by omega) (by assumption) ?_
                  refine kr_iload_n (pc := 61) dX1_isLike_61 rfl ?_
                  refine kr_iald (pc := 62) dX1_isLike_62 (by assumption) (by omega) (by omega) (by first | exact g0 | exact g1 | exact g2 | exact g3 | exact g4 | exact g5 | exact f0 | exact f1 | exact f2 | exact f3 | exact f4 | exact f5) ?_
                  refine kr_icmp_eq (pc := 63) dX1_isLike_63 rfl (fun h63 => ?_) (fun h63 => ?_)
                  · refine kr_iinc (pc := 68) dX1_isLike_68 rfl ⟨⟨by omega, by omega⟩, by decide, by decide⟩ ?_
                    simp only [stl, List.tail_cons, List.tail_nil]
                    refine kr_goto (pc := 71) dX1_isLike_71 rfl ?_
                    refine kr_iload_n (pc := 42) dX1_isLike_42 rfl ?_
                    refine kr_iconst (pc := 43) dX1_isLike_43 (by decide) ?_
                    refine kr_icmp_ge (pc := 44) dX1_isLike_44 rfl (fun _ => ?_) (fun h => absurd h (by decide))
                    refine kr_iinc (pc := 74) dX1_isLike_74 rfl ⟨⟨by omega, by omega⟩, by decide, by decide⟩ ?_
                    simp only [stl, List.tail_cons, List.tail_nil]
                    refine kr_goto (pc := 77) dX1_isLike_77 rfl ?_
                    refine kr_iload_n (pc := 35) dX1_isLike_35 rfl ?_
                    refine kr_iconst (pc := 36) dX1_isLike_36 (by decide) ?_
                    refine kr_icmp_ge (pc := 37) dX1_isLike_37 rfl (fun _ => ?_) (fun h => absurd h (by decide))
                    refine kr_iconst (pc := 80) dX1_isLike_80 (by decide) ?_
                    refine kr_ireturn (pc := 81) dX1_isLike_81 rfl ?_
                    first | exact k1 ⟨fun s hs => (by rcases (by omega : s = 0 ∨ s = 1 ∨ s = 2) with rfl | rfl | rfl <;> assumption), fun g j hg hj => (by rcases (by omega : g = 0 ∨ g = 1 ∨ g = 2) with rfl | rfl | rfl <;> rcases (by omega : j = 0 ∨ j = 1) with rfl | rfl <;> assumption)⟩ | exact k0 (fun hh => c19 (hh.1 _ (by decide))) | exact k0 (fun hh => h63 (hh.2 _ _ (by decide) (by decide)))
                  · refine kr_iconst (pc := 66) dX1_isLike_66 (by decide) ?_
                    refine kr_ireturn (pc := 67) dX1_isLike_67 rfl ?_
                    first | exact k1 ⟨fun s hs => (by rcases (by omega : s = 0 ∨ s = 1 ∨ s = 2) with rfl | rfl | rfl <;> assumption), fun g j hg hj => (by rcases (by omega : g = 0 ∨ g = 1 ∨ g = 2) with rfl | rfl | rfl <;> rcases (by omega : j = 0 ∨ j = 1) with rfl | rfl <;> assumption)⟩ | exact k0 (fun hh => c19 (hh.1 _ (by decide))) | exact k0 (fun hh => h63 (hh.2 _ _ (by decide) (by decide)))
                · refine kr_iconst (pc := 66) dX1_isLike_66 (by decide) ?_
                  refine kr_ireturn (pc := 67) dX1_isLike_67 rfl ?_
                  first | exact k1 ⟨fun s hs => (by rcases (by omega : s = 0 ∨ s = 1 ∨ s = 2) with rfl | rfl | rfl <;> assumption), fun g j hg hj => (by rcases (by omega : g = 0 ∨ g = 1 ∨ g = 2) with rfl | rfl | rfl <;> rcases (by omega : j = 0 ∨ j = 1) with rfl | rfl <;> assumption)⟩ | exact k0 (fun hh => c19 (hh.1 _ (by decide))) | exact k0 (fun hh => h63 (hh.2 _ _ (by decide) (by decide)))
              · refine kr_iconst (pc := 66) dX1_isLike_66 (by decide) ?_
                refine kr_ireturn (pc := 67) dX1_isLike_67 rfl ?_
                first | exact k1 ⟨fun s hs => (by rcases (by omega : s = 0 ∨ s = 1 ∨ s = 2) with rfl | rfl | rfl <;> assumption), fun g j hg hj => (by rcases (by omega : g = 0 ∨ g = 1 ∨ g = 2) with rfl | rfl | rfl <;> rcases (by omega : j = 0 ∨ j = 1) with rfl | rfl <;> assumption)⟩ | exact k0 (fun hh => c19 (hh.1 _ (by decide))) | exact k0 (fun hh => h63 (hh.2 _ _ (by decide) (by decide)))
            · refine kr_iconst (pc := 66) dX1_isLike_66 (by decide) ?_
              refine kr_ireturn (pc := 67) dX1_isLike_67 rfl ?_
              first | exact k1 ⟨fun s hs => (by rcases (by omega : s = 0 ∨ s = 1 ∨ s = 2) with rfl | rfl | rfl <;> assumption), fun g j hg hj => (by rcases (by omega : g = 0 ∨ g = 1 ∨ g = 2) with rfl | rfl | rfl <;> rcases (by omega : j = 0 ∨ j = 1) with rfl | rfl <;> assumption)⟩ | exact k0 (fun hh => c19 (hh.1 _ (by decide))) | exact k0 (fun hh => h63 (hh.2 _ _ (by decide) (by decide)))
          · refine kr_iconst (pc := 66) dX1_isLike_66 (by decide) ?_
            refine kr_ireturn (pc := 67) dX1_isLike_67 rfl ?_
            first | exact k1 ⟨fun s hs => (by rcases (by omega : s = 0 ∨ s = 1 ∨ s = 2) with rfl | rfl | rfl <;> assumption), fun g j hg hj => (by rcases (by omega : g = 0 ∨ g = 1 ∨ g = 2) with rfl | rfl | rfl <;> rcases (by omega : j = 0 ∨ j = 1) with rfl | rfl <;> assumption)⟩ | exact k0 (fun hh => c19 (hh.1 _ (by decide))) | exact k0 (fun hh => h63 (hh.2 _ _ (by decide) (by decide)))
        · refine kr_iconst (pc := 66) dX1_isLike_66 (by decide) ?_
          refine kr_ireturn (pc := 67) dX1_isLike_67 rfl ?_
          first | exact k1 ⟨fun s hs => (by rcases (by omega : s = 0 ∨ s = 1 ∨ s = 2) with rfl | rfl | rfl <;> assumption), fun g j hg hj => (by rcases (by omega : g = 0 ∨ g = 1 ∨ g = 2) with rfl | rfl | rfl <;> rcases (by omega : j = 0 ∨ j = 1) with rfl | rfl <;> assumption)⟩ | exact k0 (fun hh => c19 (hh.1 _ (by decide))) | exact k0 (fun hh => h63 (hh.2 _ _ (by decide) (by decide)))
      · show amT _ _ _ _ _ _
        refine kr_if_ne (pc := 22) dX1_isLike_22 rfl (fun h => absurd h (by decide)) (fun _ => ?_)
        refine kr_iconst (pc := 25) dX1_isLike_25 (by decide) ?_
        refine kr_ireturn (pc := 26) dX1_isLike_26 rfl ?_
        first | exact k1 ⟨fun s hs => (by rcases (by omega : s = 0 ∨ s = 1 ∨ s = 2) with rfl | rfl | rfl <;> assumption), fun g j hg hj => (by rcases (by omega : g = 0 ∨ g = 1 ∨ g = 2) with rfl | rfl | rfl <;> rcases (by omega : j = 0 ∨ j = 1) with rfl | rfl <;> assumption)⟩ | exact k0 (fun hh => c19 (hh.1 _ (by decide))) | exact k0 (fun hh => h63 (hh.2 _ _ (by decide) (by decide)))
    · show amT _ _ _ _ _ _
      refine kr_if_ne (pc := 22) dX1_isLike_22 rfl (fun h => absurd h (by decide)) (fun _ => ?_)
      refine kr_iconst (pc := 25) dX1_isLike_25 (by decide) ?_
      refine kr_ireturn (pc := 26) dX1_isLike_26 rfl ?_
      first | exact k1 ⟨fun s hs => (by rcases (by omega : s = 0 ∨ s = 1 ∨ s = 2) with rfl | rfl | rfl <;> assumption), fun g j hg hj => (by rcases (by omega : g = 0 ∨ g = 1 ∨ g = 2) with rfl | rfl | rfl <;> rcases (by omega : j = 0 ∨ j = 1) with rfl | rfl <;> assumption)⟩ | exact k0 (fun hh => c19 (hh.1 _ (by decide))) | exact k0 (fun hh => h63 (hh.2 _ _ (by decide) (by decide)))
  · show amT _ _ _ _ _ _
    refine kr_if_ne (pc := 22) dX1_isLike_22 rfl (fun h => absurd h (by decide)) (fun _ => ?_)
    refine kr_iconst (pc := 25) dX1_isLike_25 (by decide) ?_
    refine kr_ireturn (pc := 26) dX1_isLike_26 rfl ?_
    first | exact k1 ⟨fun s hs => (by rcases (by omega : s = 0 ∨ s = 1 ∨ s = 2) with rfl | rfl | rfl <;> assumption), fun g j hg hj => (by rcases (by omega : g = 0 ∨ g = 1 ∨ g = 2) with rfl | rfl | rfl <;> rcases (by omega : j = 0 ∨ j = 1) with rfl | rfl <;> assumption)⟩ | exact k0 (fun hh => c19 (hh.1 _ (by decide))) | exact k0 (fun hh => h63 (hh.2 _ _ (by decide) (by decide)))
end X5
