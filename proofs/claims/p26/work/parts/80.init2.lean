/-- a configuration as it is made -/
def CfN (h : aH) (κ : Nat) : Prop := CfB h κ ∧ (∀ i, i < 3 → SeN h (κ + 6 + 14 * i)) ∧ ∀ g f, g < 3 → f < 2 → hiv h (κ + 3 + g) f = -1
theorem CfB.ax {h h' : aH} {κ : Nat} (H : CfB h κ) (f : agx h h' κ (κ + 6)) : CfB h' κ := by
  obtain ⟨a1, a2, a3, a4, a5, a6, a7⟩ := H
  exact ⟨by rw [(f κ (by omega) (by omega)).1]; exact a1, by rw [(f κ (by omega) (by omega)).2.2]; exact a2, by rw [(f (κ + 1) (by omega) (by omega)).1]; exact a3, by rw [(f κ (by omega) (by omega)).2.2]; exact a4, by rw [(f (κ + 2) (by omega) (by omega)).1]; exact a5, fun i hi => by rw [(f (κ + 1) (by omega) (by omega)).2.2]; exact a6 i hi, fun i hi => by rw [(f (κ + 2) (by omega) (by omega)).2.2, (f (κ + 3 + i) (by omega) (by omega)).1]; exact a7 i hi⟩
theorem CfN.ax {h h' : aH} {κ : Nat} (H : CfN h κ) (f : agx h h' κ (κ + 48)) : CfN h' κ :=
  ⟨H.1.ax (f.up (by omega) (by omega)), fun i hi => (H.2.1 i hi).ax (f.up (by omega) (by omega)), fun g j hg hj => by rw [(f (κ + 3 + g) (by omega) (by omega)).2.1]; exact H.2.2 g j hg hj⟩
def C0 : Cfg := (fun _ => [], fun _ _ => -1)
theorem CfN.c {h : aH} {κ : Nat} (H : CfN h κ) : CfC h κ C0 := ⟨H.1, fun i hi => (H.2.1 i hi).c, H.2.2⟩
section XM
variable {h : aH} {Q : aR → Prop}
theorem i_config {κ : Nat} (hs : hsh h κ = (2, 2)) (hn : hnx h = κ + 1) (F : Fre h) (k : ∀ h', con h h' κ 48 126 → CfN h' κ → Q (.inl none, h')) : amT mX1_init 0 [vR κ] [] h Q := by
  have grp : ∀ (tl : List aV) (g : aH), hnx g = κ + 48 → hks g ≤ hks h + 126 → (∀ y, y < κ → hsh g y = hsh h y ∧ hiv g y = hiv h y ∧ hrf g y = hrf h y) → Fre g → CfB g κ → (∀ i, i < 3 → SeN g (κ + 6 + 14 * i)) → tl.length ≤ 0 → amT mX1_init 48 (vR κ :: vI (3 : Int) :: tl) [] g Q := by
    intro tl g c1 c2 c3 c4 B SS htl
    obtain ⟨a1, a2, a3, a4, a5, a6, a7⟩ := id B
    obtain ⟨u0, v0⟩ := a7 0 (by decide)
    obtain ⟨u1, v1⟩ := a7 1 (by decide)
    obtain ⟨u2, v2⟩ := a7 2 (by decide)
    refine kr_iconst (pc := 48) dX1_init_48 (by decide) ?_
    refine kr_istore_n (pc := 49) dX1_init_49 (show 1 ≤ _ from by simp) (by decide) ?_
    simp only [stl, List.tail_cons, List.tail_nil]
    refine kr_iload_n (pc := 50) dX1_init_50 rfl ?_
    refine kr_iconst (pc := 51) dX1_init_51 (by decide) ?_
    refine kr_icmp_ge (pc := 52) dX1_init_52 rfl (fun h => absurd h (by decide)) (fun _ => ?_)
    refine kr_iconst (pc := 55) dX1_init_55 (by decide) ?_
    refine kr_istore_n (pc := 56) dX1_init_56 (show 2 ≤ _ from by simp) (by decide) ?_
    simp only [stl, List.tail_cons, List.tail_nil]
    refine kr_iload_n (pc := 57) dX1_init_57 rfl ?_
    refine kr_iconst (pc := 58) dX1_init_58 (by decide) ?_
    refine kr_icmp_ge (pc := 59) dX1_init_59 rfl (fun h => absurd h (by decide)) (fun _ => ?_)
    refine kr_aload_n (pc := 62) dX1_init_62 rfl ?_
    refine kr_getr (pc := 63) dX1_init_63 rfl rfl (by assumption) (by assumption) ?_
    refine kr_iload_n (pc := 66) dX1_init_66 rfl ?_
    refine kr_aald (pc := 67) dX1_init_67 (by assumption) (by decide) (by omega) (by omega) (by assumption) ?_
    refine kr_iload_n (pc := 68) dX1_init_68 rfl ?_
    refine kr_iconst (pc := 69) dX1_init_69 (by decide) ?_
    refine kr_iast (pc := 70) dX1_init_70 (by assumption) (by omega) (by omega) ?_
    refine kr_iinc (pc := 71) dX1_init_71 rfl ⟨⟨by omega, by omega⟩, by decide, by decide⟩ ?_
    simp only [stl, List.tail_cons, List.tail_nil]
    refine kr_goto (pc := 74) dX1_init_74 rfl ?_
    refine kr_iload_n (pc := 57) dX1_init_57 rfl ?_
    refine kr_iconst (pc := 58) dX1_init_58 (by decide) ?_
    refine kr_icmp_ge (pc := 59) dX1_init_59 rfl (fun h => absurd h (by decide)) (fun _ => ?_)
    refine kr_aload_n (pc := 62) dX1_init_62 rfl ?_
    refine kr_getr (pc := 63) dX1_init_63 rfl rfl (by assumption) (by assumption) ?_
    refine kr_iload_n (pc := 66) dX1_init_66 rfl ?_
    refine kr_aald (pc := 67) dX1_init_67 (by assumption) (by decide) (by omega) (by omega) (by assumption) ?_
    refine kr_iload_n (pc := 68) dX1_init_68 rfl ?_
    refine kr_iconst (pc := 69) dX1_init_69 (by decide) ?_
    refine kr_iast (pc := 70) dX1_init_70 (by assumption) (by omega) (by omega) ?_
    refine kr_iinc (pc := 71) dX1_init_71 rfl ⟨⟨by omega, by omega⟩, by decide, by decide⟩ ?_
    simp only [stl, List.tail_cons, List.tail_nil]
    refine kr_goto (pc := 74) dX1_init_74 rfl ?_
    refine kr_iload_n (pc := 57) dX1_init_57 rfl ?_
    refine kr_iconst (pc := 58) dX1_init_58 (by decide) ?_
    refine kr_icmp_ge (pc := 59) dX1_init_59 rfl (fun _ => ?_) (fun h => absurd h (by decide))
    refine kr_iinc (pc := 77) dX1_init_77 rfl ⟨⟨by omega, by omega⟩, by decide, by decide⟩ ?_
    simp only [stl, List.tail_cons, List.tail_nil]
    refine kr_goto (pc := 80) dX1_init_80 rfl ?_
    refine kr_iload_n (pc := 50) dX1_init_50 rfl ?_
    refine kr_iconst (pc := 51) dX1_init_51 (by decide) ?_
    refine kr_icmp_ge (pc := 52) dX1_init_52 rfl (fun h => absurd h (by decide)) (fun _ => ?_)
    refine kr_iconst (pc := 55) dX1_init_55 (by decide) ?_
    refine kr_istore_n (pc := 56) dX1_init_56 (show 2 ≤ _ from by simp) (by decide) ?_
    simp only [stl, List.tail_cons, List.tail_nil]
    refine kr_iload_n (pc := 57) dX1_init_57 rfl ?_
    refine kr_iconst (pc := 58) dX1_init_58 (by decide) ?_
    refine kr_icmp_ge (pc := 59) dX1_init_59 rfl (fun h => absurd h (by decide)) (fun _ => ?_)
    refine kr_aload_n (pc := 62) dX1_init_62 rfl ?_
    refine kr_getr (pc := 63) dX1_init_63 rfl rfl (by assumption) (by assumption) ?_
    refine kr_iload_n (pc := 66) dX1_init_66 rfl ?_
    refine kr_aald (pc := 67) dX1_init_67 (by assumption) (by decide) (by omega) (by omega) (by assumption) ?_
    refine kr_iload_n (pc := 68) dX1_init_68 rfl ?_
    refine kr_iconst (pc := 69) dX1_init_69 (by decide) ?_
    refine kr_iast (pc := 70) dX1_init_70 (by assumption) (by omega) (by omega) ?_
    refine kr_iinc (pc := 71) dX1_init_71 rfl ⟨⟨by omega, by omega⟩, by decide, by decide⟩ ?_
    simp only [stl, List.tail_cons, List.tail_nil]
    refine kr_goto (pc := 74) dX1_init_74 rfl ?_
    refine kr_iload_n (pc := 57) dX1_init_57 rfl ?_
    refine kr_iconst (pc := 58) dX1_init_58 (by decide) ?_
    refine kr_icmp_ge (pc := 59) dX1_init_59 rfl (fun h => absurd h (by decide)) (fun _ => ?_)
    refine kr_aload_n (pc := 62) dX1_init_62 rfl ?_
    refine kr_getr (pc := 63) dX1_init_63 rfl rfl (by assumption) (by assumption) ?_
    refine kr_iload_n (pc := 66) dX1_init_66 rfl ?_
    refine kr_aald (pc := 67) dX1_init_67 (by assumption) (by decide) (by omega) (by omega) (by assumption) ?_
    refine kr_iload_n (pc := 68) dX1_init_68 rfl ?_
    refine kr_iconst (pc := 69) dX1_init_69 (by decide) ?_
    refine kr_iast (pc := 70) dX1_init_70 (by assumption) (by omega) (by omega) ?_
    refine kr_iinc (pc := 71) dX1_init_71 rfl ⟨⟨by omega, by omega⟩, by decide, by decide⟩ ?_
    simp only [stl, List.tail_cons, List.tail_nil]
    refine kr_goto (pc := 74) dX1_init_74 rfl ?_
    refine kr_iload_n (pc := 57) dX1_init_57 rfl ?_
    refine kr_iconst (pc := 58) dX1_init_58 (by decide) ?_
    refine kr_icmp_ge (pc := 59) dX1_init_59 rfl (fun _ => ?_) (fun h => absurd h (by decide))
    refine kr_iinc (pc := 77) dX1_init_77 rfl ⟨⟨by omega, by omega⟩, by decide, by decide⟩ ?_
    simp only [stl, List.tail_cons, List.tail_nil]
    refine kr_goto (pc := 80) dX1_init_80 rfl ?_
    refine kr_iload_n (pc := 50) dX1_init_50 rfl ?_
    refine kr_iconst (pc := 51) dX1_init_51 (by decide) ?_
    refine kr_icmp_ge (pc := 52) dX1_init_52 rfl (fun h => absurd h (by decide)) (fun _ => ?_)
    refine kr_iconst (pc := 55) dX1_init_55 (by decide) ?_
    refine kr_istore_n (pc := 56) dX1_init_56 (show 2 ≤ _ from by simp) (by decide) ?_
    simp only [stl, List.tail_cons, List.tail_nil]
    refine kr_iload_n (pc := 57) dX1_init_57 rfl ?_
    refine kr_iconst (pc := 58) dX1_init_58 (by decide) ?_
    refine kr_icmp_ge (pc := 59) dX1_init_59 rfl (fun h => absurd h (by decide)) (fun _ => ?_)
    refine kr_aload_n (pc := 62) dX1_init_62 rfl ?_
    refine kr_getr (pc := 63) dX1_init_63 rfl rfl (by assumption) (by assumption) ?_
    refine kr_iload_n (pc := 66) dX1_init_66 rfl ?_
    refine kr_aald (pc := 67) dX1_init_67 (by assumption) (by decide) (by omega) (by omega) (by assumption) ?_
    refine kr_iload_n (pc := 68) dX1_init_68 rfl ?_
    refine kr_iconst (pc := 69) dX1_init_69 (by decide) ?_
    refine kr_iast (pc := 70) dX1_init_70 (by assumption) (by omega) (by omega) ?_
    refine kr_iinc (pc := 71) dX1_init_71 rfl ⟨⟨by omega, by omega⟩, by decide, by decide⟩ ?_
    simp only [stl, List.tail_cons, List.tail_nil]
    refine kr_goto (pc := 74) dX1_init_74 rfl ?_
    refine kr_iload_n (pc := 57) dX1_init_57 rfl ?_
    refine kr_iconst (pc := 58) dX1_init_58 (by decide) ?_
    refine kr_icmp_ge (pc := 59) dX1_init_59 rfl (fun h => absurd h (by decide)) (fun _ => ?_)
    refine kr_aload_n (pc := 62) dX1_init_62 rfl ?_
    refine kr_getr (pc := 63) dX1_init_63 rfl rfl (by assumption) (by assumption) ?_
    refine kr_iload_n (pc := 66) dX1_init_66 rfl ?_
    refine kr_aald (pc := 67) dX1_init_67 (by assumption) (by decide) (by omega) (by omega) (by assumption) ?_
    refine kr_iload_n (pc := 68) dX1_init_68 rfl ?_
    refine kr_iconst (pc := 69) dX1_init_69 (by decide) ?_
    refine kr_iast (pc := 70) dX1_init_70 (by assumption) (by omega) (by omega) ?_
    refine kr_iinc (pc := 71) dX1_init_71 rfl ⟨⟨by omega, by omega⟩, by decide, by decide⟩ ?_
    simp only [stl, List.tail_cons, List.tail_nil]
    refine kr_goto (pc := 74) dX1_init_74 rfl ?_
    refine kr_iload_n (pc := 57) dX1_init_57 rfl ?_
    refine kr_iconst (pc := 58) dX1_init_58 (by decide) ?_
    refine kr_icmp_ge (pc := 59) dX1_init_59 rfl (fun _ => ?_) (fun h => absurd h (by decide))
    refine kr_iinc (pc := 77) dX1_init_77 rfl ⟨⟨by omega, by omega⟩, by decide, by decide⟩ ?_
    simp only [stl, List.tail_cons, List.tail_nil]
    refine kr_goto (pc := 80) dX1_init_80 rfl ?_
    refine kr_iload_n (pc := 50) dX1_init_50 rfl ?_
    refine kr_iconst (pc := 51) dX1_init_51 (by decide) ?_
    refine kr_icmp_ge (pc := 52) dX1_init_52 rfl (fun _ => ?_) (fun h => absurd h (by decide))
    refine kr_return (d0 := ()) (pc := 83) dX1_init_83 rfl ?_
    refine k _ ⟨?_, ?_, fun y hy => ?_, ?_⟩ ⟨?_, fun i hi => ?_, fun a b ha hb => ?_⟩
    · exact c1
    · exact c2
    · have fr : fro g (hwi (hwi (hwi (hwi (hwi (hwi g (κ + 3 + 0) 0 (-1)) (κ + 3 + 0) 1 (-1)) (κ + 3 + 1) 0 (-1)) (κ + 3 + 1) 1 (-1)) (κ + 3 + 2) 0 (-1)) (κ + 3 + 2) 1 (-1)) (κ + 3) (κ + 6) := (hwi_fro (by omega) (by omega)).tr ((hwi_fro (by omega) (by omega)).tr ((hwi_fro (by omega) (by omega)).tr ((hwi_fro (by omega) (by omega)).tr ((hwi_fro (by omega) (by omega)).tr (hwi_fro (by omega) (by omega))))))
      exact ⟨(c3 y hy).1, (fr.2.2.2 y (by omega)).1.trans (c3 y hy).2.1, (fr.2.2.2 y (by omega)).2.trans (c3 y hy).2.2⟩
    · intro y hy j
      have fr : fro g (hwi (hwi (hwi (hwi (hwi (hwi g (κ + 3 + 0) 0 (-1)) (κ + 3 + 0) 1 (-1)) (κ + 3 + 1) 0 (-1)) (κ + 3 + 1) 1 (-1)) (κ + 3 + 2) 0 (-1)) (κ + 3 + 2) 1 (-1)) (κ + 3) (κ + 6) := (hwi_fro (by omega) (by omega)).tr ((hwi_fro (by omega) (by omega)).tr ((hwi_fro (by omega) (by omega)).tr ((hwi_fro (by omega) (by omega)).tr ((hwi_fro (by omega) (by omega)).tr (hwi_fro (by omega) (by omega))))))
      have hy2 : hnx g ≤ y := hy
      exact (congrFun (fr.2.2.2 y (by omega)).1 j).trans (c4 y hy2 j)
    · exact ⟨a1, a2, a3, a4, a5, a6, a7⟩
    · have fr : fro g (hwi (hwi (hwi (hwi (hwi (hwi g (κ + 3 + 0) 0 (-1)) (κ + 3 + 0) 1 (-1)) (κ + 3 + 1) 0 (-1)) (κ + 3 + 1) 1 (-1)) (κ + 3 + 2) 0 (-1)) (κ + 3 + 2) 1 (-1)) (κ + 3) (κ + 6) := (hwi_fro (by omega) (by omega)).tr ((hwi_fro (by omega) (by omega)).tr ((hwi_fro (by omega) (by omega)).tr ((hwi_fro (by omega) (by omega)).tr ((hwi_fro (by omega) (by omega)).tr (hwi_fro (by omega) (by omega))))))
      exact (SS i hi).ax fun y h1 h2 => ⟨rfl, (fr.2.2.2 y (by omega)).1, (fr.2.2.2 y (by omega)).2⟩
    · rcases (by omega : a = 0 ∨ a = 1 ∨ a = 2) with rfl | rfl | rfl
      · rcases (by omega : b = 0 ∨ b = 1) with rfl | rfl
        · exact (if_neg (by omega)).trans ((if_neg (by omega)).trans ((if_neg (by omega)).trans ((if_neg (by omega)).trans ((up2_nj (by decide)).trans up2_at))))
        · exact (if_neg (by omega)).trans ((if_neg (by omega)).trans ((if_neg (by omega)).trans ((if_neg (by omega)).trans up2_at)))
      · rcases (by omega : b = 0 ∨ b = 1) with rfl | rfl
        · exact (if_neg (by omega)).trans ((if_neg (by omega)).trans ((up2_nj (by decide)).trans up2_at))
        · exact (if_neg (by omega)).trans ((if_neg (by omega)).trans up2_at)
      · rcases (by omega : b = 0 ∨ b = 1) with rfl | rfl
        · exact (up2_nj (by decide)).trans up2_at
        · exact up2_at
  have loop : ∀ (d i : Nat) (g : aH), i + d = 3 → hnx g = κ + 6 + 14 * i → hks g ≤ hks h + 12 + 38 * i → (∀ y, y < κ → hsh g y = hsh h y ∧ hiv g y = hiv h y ∧ hrf g y = hrf h y) → Fre g → hsh g κ = (2, 2) → hrf g κ 0 = some (κ + 1) → hsh g (κ + 1) = (22 + 6, 3) → hrf g κ 1 = some (κ + 2) → hsh g (κ + 2) = (40, 3) →
      (∀ j, j < 3 → hrf g (κ + 2) j = some (κ + 3 + j) ∧ hsh g (κ + 3 + j) = (20, 2)) → (∀ j, j < i → SeN g (κ + 6 + 14 * j) ∧ hrf g (κ + 1) j = some (κ + 6 + 14 * j)) → amT mX1_init 24 [vR κ, vI (i : Int)] [] g Q := by
    intro d
    induction d with
    | zero =>
      intro i g hi c1 c2 c3 c4 c5 c6 c7 c8 c9 d1 d2
      have hi3 : i = 3 := by omega
      subst hi3
      refine kr_iload_n (pc := 24) dX1_init_24 rfl ?_
      refine kr_iconst (pc := 25) dX1_init_25 (by decide) ?_
      refine kr_icmp_ge (pc := 26) dX1_init_26 rfl (fun _ => ?_) (fun h => by omega)
      exact grp [] g (by omega) (by omega) c3 c4 ⟨c5, c6, c7, c8, c9, fun j hj => (d2 j hj).2, d1⟩ (fun j hj => (d2 j hj).1) (Nat.le_refl _)
    | succ d ih =>
      intro i g hi c1 c2 c3 c4 c5 c6 c7 c8 c9 d1 d2
      have hne : ∀ y, y < κ + 6 + 14 * i → hsh (hnw g (6 + 1) (am_fN 6)) y = hsh g y := fun y hy => hsh_nw_ne (by omega)
      refine kr_iload_n (pc := 24) dX1_init_24 rfl ?_
      refine kr_iconst (pc := 25) dX1_init_25 (by decide) ?_
      refine kr_icmp_ge (pc := 26) dX1_init_26 rfl (fun h => by omega) (fun _ => ?_)
      refine kr_aload_n (pc := 29) dX1_init_29 rfl ?_
      refine kr_getr (pc := 30) dX1_init_30 rfl rfl (by assumption) (by assumption) ?_
      refine kr_iload_n (pc := 33) dX1_init_33 rfl ?_
      refine kr_new (pc := 34) dX1_init_34 dX1_init_38 rfl ?_
      refine kr_dup (pc := 37) dX1_init_37 rfl ?_
      refine kr_i0 (pc := 38) dX1_init_38 rfl (by decide) rfl (Nat.le_of_ble_eq_true rfl) (i_section (σ := hnx g) hsh_nw_at rfl c4.nw (c4 _ (Nat.le_refl _) 0) (fun g2 f2 S2 => ?_))
      show amT _ _ _ _ _ _
      obtain ⟨f21, f22, f23, f24⟩ := f2
      have s1 : hsh g2 (κ + 1) = (22 + 6, 3) := by rw [(f23 (κ + 1) (by omega)).1, hne _ (by omega)]; exact c7
      have s2 := S2.1.1
      refine kr_aast (pc := 41) dX1_init_41 (by assumption) (by decide) (by assumption) (by omega) (by omega) ?_
      refine kr_iinc (pc := 42) dX1_init_42 rfl ⟨⟨by omega, by omega⟩, by decide, by decide⟩ ?_
      simp only [stl, List.tail_cons, List.tail_nil]
      refine kr_goto (pc := 45) dX1_init_45 rfl ?_
      rw [c1] at *
      have ks : hks (hnw g (6 + 1) (am_fN 6)) = hks g + 2 := rfl
      have rr : ∀ y j, y < κ + 6 + 14 * i → ¬ (y = κ + 1 ∧ j = ((i : Nat) : Int).toNat) → hrf (hwr g2 (κ + 1) ((i : Nat) : Int).toNat (some (κ + 6 + 14 * i))) y j = hrf g y j := fun y j hy hn => (hwr_ne hn).trans (congrFun (f23 y (by omega)).2.2 j)
      have sr' : ∀ y, y < κ + 6 + 14 * i → hsh g2 y = hsh g y := fun y hy => (f23 y (by omega)).1.trans (hne y hy)
      refine ih (i + 1) _ (by omega) ?_ ?_ (fun y hy => ⟨(sr' y (by omega)).trans (c3 y hy).1, (f23 y (by omega)).2.1.trans (c3 y hy).2.1, (funext fun j => rr y j (by omega) (by omega)).trans (c3 y hy).2.2⟩) f24 ((sr' _ (by omega)).trans c5) ((rr _ _ (by omega) (by omega)).trans c6) s1 ((rr _ _ (by omega) (by omega)).trans c8) ((sr' _ (by omega)).trans c9) (fun j hj => ⟨(rr _ _ (by omega) (by omega)).trans (d1 j hj).1, (sr' _ (by omega)).trans (d1 j hj).2⟩) fun j hj => ?_
      · show hnx g2 = _
        omega
      · show hks g2 ≤ _
        omega
      · by_cases hji : j = i
        · subst hji
          refine ⟨?_, by rw [show ((j : Nat) : Int).toNat = j by omega]; exact hwr_at⟩
          exact S2.ax fun y h1 h2 => ⟨rfl, rfl, funext fun q => hwr_ne (by omega)⟩
        · refine ⟨(d2 j (by omega)).1.ax fun y h1 h2 => ⟨sr' y (by omega), (f23 y (by omega)).2.1, funext fun q => rr y q (by omega) (by omega)⟩, (rr _ _ (by omega) (by omega)).trans (d2 j (by omega)).2⟩
  refine kr_aload_n (pc := 0) dX1_init_0 rfl ?_
  refine kr_obj (pc := 1) dX1_init_1 rfl (by decide) ?_
  refine kr_aload_n (pc := 4) dX1_init_4 rfl ?_
  refine kr_iconst (pc := 5) dX1_init_5 (by decide) ?_
  refine kr_newq (pc := 6) dX1_init_6 rfl (by decide) ?_
  have e1 : hsh (hnw h (22 + 6) (3 : Int).toNat) κ = (2, 2) := (hsh_nw_ne (by omega)).trans hs
  refine kr_putr (pc := 9) dX1_init_9 rfl rfl (by decide) (by assumption) ?_
  refine kr_aload_n (pc := 12) dX1_init_12 rfl ?_
  refine kr_iconst (pc := 13) dX1_init_13 (by decide) ?_
  refine kr_iconst (pc := 14) dX1_init_14 (by decide) ?_
  refine kr_newm (pc := 15) dX1_init_15 (by decide) ?_
  have n1 : hnx (hwr (hnw h (22 + 6) (3 : Int).toNat) κ 0 (some (hnx h))) = κ + 2 := by show hnx h + 1 = _; omega
  have e2 : hsh (hml (hwr (hnw h (22 + 6) (3 : Int).toNat) κ 0 (some (hnx h))) (3 : Int).toNat (2 : Int).toNat) κ = (2, 2) := by
    refine Eq.trans ?_ e1
    refine (if_neg ?_).trans (if_neg ?_)
    · show ¬ κ = hnx (hwr (hnw h (22 + 6) (3 : Int).toNat) κ 0 (some (hnx h)))
      omega
    · show ¬ (hnx (hwr (hnw h (22 + 6) (3 : Int).toNat) κ 0 (some (hnx h))) < κ ∧ _)
      omega
  refine kr_putr (pc := 19) dX1_init_19 rfl rfl (by decide) (by assumption) ?_
  refine kr_iconst (pc := 22) dX1_init_22 (by decide) ?_
  refine kr_istore_n (pc := 23) dX1_init_23 (show 1 ≤ _ from by simp) (by decide) ?_
  simp only [stl, List.tail_cons, List.tail_nil]
  rw [n1]
  have q1 : ∀ y, hsh (hml (hwr (hnw h (22 + 6) (3 : Int).toNat) κ 0 (some (hnx h))) (3 : Int).toNat (2 : Int).toNat) y = if y = κ + 2 then (40, 3) else if κ + 2 < y ∧ y ≤ κ + 2 + 3 then (20, 2) else hsh (hnw h (22 + 6) 3) y := fun y => by
    rw [← n1]
    rfl
  have q2 : ∀ y j, hrf (hml (hwr (hnw h (22 + 6) (3 : Int).toNat) κ 0 (some (hnx h))) (3 : Int).toNat (2 : Int).toNat) y j = if y = κ + 2 ∧ j < 3 then some (κ + 2 + 1 + j) else hrf (hwr (hnw h (22 + 6) 3) κ 0 (some (hnx h))) y j := fun y j => by
    rw [← n1]
    rfl
  have n2 : hnx (hml (hwr (hnw h (22 + 6) (3 : Int).toNat) κ 0 (some (hnx h))) (3 : Int).toNat (2 : Int).toNat) = κ + 6 := by
    show hnx (hwr (hnw h (22 + 6) (3 : Int).toNat) κ 0 (some (hnx h))) + 1 + 3 = _
    omega
  have fz : ∀ y, κ + 6 ≤ y → ∀ j, hiv h y j = 0 := fun y hy j => F y (by omega) j
  refine loop 3 0 _ rfl n2 ?_ (fun y hy => ⟨?_, rfl, funext fun j => ?_⟩) (fun y hy j => fz y (by rw [← n2]; exact hy) j) e2 ?_ ?_ ?_ ?_ (fun j hj => ⟨?_, ?_⟩) (fun j hj => by omega)
  · show hks h + 3 + 3 + 3 * 2 ≤ _
    omega
  · refine (q1 y).trans ?_
    rw [if_neg (by omega), if_neg (by omega)]
    exact hsh_nw_ne (by omega)
  · refine (hwr_ne (by omega)).trans ((q2 y j).trans ?_)
    rw [if_neg (by omega)]
    exact hwr_ne (by omega)
  · refine (hwr_ne (by omega)).trans ((q2 _ _).trans ?_)
    rw [if_neg (by omega), hn]
    exact hwr_at
  · refine (q1 _).trans ?_
    rw [if_neg (by omega), if_neg (by omega), ← hn]
    exact hsh_nw_at
  · exact hwr_at
  · refine (q1 _).trans ?_
    rw [if_pos rfl]
  · refine (hwr_ne (by omega)).trans ((q2 _ _).trans ?_)
    rw [if_pos ⟨rfl, hj⟩]
  · refine (q1 _).trans ?_
    rw [if_neg (by omega), if_pos (by omega)]
end XM
