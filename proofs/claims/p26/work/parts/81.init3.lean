theorem EdB.ax {h h' : aH} {e : Nat} (H : EdB h e) (f : agx h h' e (e + 3)) : EdB h' e :=
  ⟨by rw [(f e (by omega) (by omega)).1]; exact H.1, by rw [(f e (by omega) (by omega)).2.2]; exact H.2.1, H.2.2.ax (f.up (by omega) (by omega))⟩
theorem LiB.ax {h h' : aH} {a : Nat} {q : Nat → Nat} (H : LiB h a q) (f : agx h h' a (a + 250)) : LiB h' a q := by
  obtain ⟨a1, a2, a3, a4, a5, a6, a7⟩ := H
  exact ⟨by rw [(f a (by omega) (by omega)).1]; exact a1, by rw [(f a (by omega) (by omega)).2.2]; exact a2, by rw [(f (a + 1) (by omega) (by omega)).1]; exact a3, by rw [(f a (by omega) (by omega)).2.2]; exact a4, fun i hi => by rw [(f (a + 1) (by omega) (by omega)).2.2]; exact a5 i hi, a6, fun i hi => (a7 i hi).ax (f.up (by omega) (by omega))⟩
section XN
variable {h : aH} {Q : aR → Prop}
theorem i_cand {o : Nat} (hs : hsh h o = (1, 3)) (hn : hnx h = o + 1) (F : Fre h) (k : ∀ h', con h h' o 49 128 → CfN h' (o + 1) → hsh h' o = (1, 3) → hrf h' o 2 = some (o + 1) → (∀ j, hiv h' o j = hiv h o j) → Q (.inl none, h')) : amT mX0_init 0 [vR o] [] h Q := by
  refine kr_aload_n (pc := 0) dX0_init_0 rfl ?_
  refine kr_obj (pc := 1) dX0_init_1 rfl (by decide) ?_
  refine kr_aload_n (pc := 4) dX0_init_4 rfl ?_
  refine kr_new (pc := 5) dX0_init_5 dX0_init_9 rfl ?_
  refine kr_dup (pc := 8) dX0_init_8 rfl ?_
  refine kr_i0 (pc := 9) dX0_init_9 rfl (by decide) rfl (Nat.le_of_ble_eq_true rfl) (i_config (κ := hnx h) hsh_nw_at rfl F.nw (fun g2 f2 C2 => ?_))
  show amT _ _ _ _ _ _
  obtain ⟨f21, f22, f23, f24⟩ := f2
  have s1 : hsh g2 o = (1, 3) := ((f23 o (by omega)).1.trans (hsh_nw_ne (by omega))).trans hs
  have ks : hks (hnw h (1 + 1) (am_fN 1)) = hks h + 2 := rfl
  have low : ∀ y, y < o → hsh (hnw h (1 + 1) (am_fN 1)) y = hsh h y := fun y hy => hsh_nw_ne (by omega)
  refine kr_putr (pc := 12) dX0_init_12 rfl rfl (by decide) (by assumption) ?_
  refine kr_return (d0 := ()) (pc := 15) dX0_init_15 rfl ?_
  rw [hn] at *
  refine k _ ⟨?_, ?_, fun y hy => ⟨(f23 y (by omega)).1.trans (low y hy), (f23 y (by omega)).2.1, (funext fun j => hwr_ne (by omega)).trans (f23 y (by omega)).2.2⟩, f24⟩ ?_ s1 hwr_at fun j => congrFun (f23 o (by omega)).2.1 j
  · show hnx g2 = _
    omega
  · show hks g2 ≤ _
    omega
  · exact C2.ax fun y h1 h2 => ⟨rfl, rfl, funext fun j => hwr_ne (by omega)⟩
theorem i_edit {o : Nat} (hs : hsh h o = (3, 6)) (hn : hnx h = o + 1) (F : Fre h) (k : ∀ h', con h h' o 3 5 → EdB h' o → Q (.inl none, h')) : amT mX2_init 0 [vR o] [] h Q := by
  refine kr_aload_n (pc := 0) dX2_init_0 rfl ?_
  refine kr_obj (pc := 1) dX2_init_1 rfl (by decide) ?_
  refine kr_aload_n (pc := 4) dX2_init_4 rfl ?_
  refine kr_new (pc := 5) dX2_init_5 dX2_init_9 rfl ?_
  refine kr_dup (pc := 8) dX2_init_8 rfl ?_
  refine kr_i0 (pc := 9) dX2_init_9 rfl (by decide) rfl (Nat.le_of_ble_eq_true rfl) (i_entry (o := hnx h) hsh_nw_at rfl F.nw (fun g2 f2 E2 z2 => ?_))
  show amT _ _ _ _ _ _
  obtain ⟨f21, f22, f23, f24⟩ := f2
  have s1 : hsh g2 o = (3, 6) := ((f23 o (by omega)).1.trans (hsh_nw_ne (by omega))).trans hs
  have ks : hks (hnw h (4 + 1) (am_fN 4)) = hks h + 2 := rfl
  have low : ∀ y, y < o → hsh (hnw h (4 + 1) (am_fN 4)) y = hsh h y := fun y hy => hsh_nw_ne (by omega)
  refine kr_putr (pc := 12) dX2_init_12 rfl rfl (by decide) (by assumption) ?_
  refine kr_return (d0 := ()) (pc := 15) dX2_init_15 rfl ?_
  rw [hn] at *
  refine k _ ⟨?_, ?_, fun y hy => ⟨(f23 y (by omega)).1.trans (low y hy), (f23 y (by omega)).2.1, (funext fun j => hwr_ne (by omega)).trans (f23 y (by omega)).2.2⟩, f24⟩ ⟨s1, hwr_at, ?_⟩
  · show hnx g2 = _
    omega
  · show hks g2 ≤ _
    omega
  · exact E2.ax fun y h1 h2 => ⟨rfl, rfl, funext fun j => hwr_ne (by omega)⟩
theorem i_list {a : Nat} (hs : hsh h a = (4, 3)) (hn : hnx h = a + 1) (F : Fre h) (k : ∀ h', con h h' a 250 974 → LiB h' a (fun i => i) → SeN h' (a + 2) → Q (.inl none, h')) : amT mX3_init 0 [vR a] [] h Q := by
  have loop : ∀ (d i : Nat) (g : aH), i + d = 78 → hnx g = a + 16 + 3 * i → hks g ≤ hks h + 116 + 11 * i → (∀ y, y < a → hsh g y = hsh h y ∧ hiv g y = hiv h y ∧ hrf g y = hrf h y) → Fre g → hsh g a = (4, 3) → hrf g a 1 = some (a + 1) → hsh g (a + 1) = (22 + 2, 78) → hrf g a 2 = some (a + 2) → SeN g (a + 2) →
      (∀ j, j < i → EdB g (a + 16 + 3 * j) ∧ hrf g (a + 1) j = some (a + 16 + 3 * j)) → amT mX3_init 26 [vR a, vI (i : Int)] [] g Q := by
    intro d
    induction d with
    | zero =>
      intro i g hi c1 c2 c3 c4 c5 c6 c7 c8 c9 d1
      refine kr_iload_n (pc := 26) dX3_init_26 rfl ?_
      refine kr_bipush (pc := 27) dX3_init_27 (by decide) ?_
      refine kr_icmp_ge (pc := 29) dX3_init_29 rfl (fun h29 => ?_) (fun h29 => by exfalso; omega)
      refine kr_return (d0 := ()) (pc := 51) dX3_init_51 rfl ?_
      exact k g ⟨by omega, by omega, c3, c4⟩ ⟨c5, c6, c7, c8, fun j hj => ⟨(d1 j (by omega)).2, hj⟩, fun _ _ _ _ hab => hab, fun j hj => (d1 j (by omega)).1⟩ c9
    | succ d ih =>
      intro i g hi c1 c2 c3 c4 c5 c6 c7 c8 c9 d1
      have hne : ∀ y, y < a + 16 + 3 * i → hsh (hnw g (2 + 1) (am_fN 2)) y = hsh g y := fun y hy => hsh_nw_ne (by omega)
      refine kr_iload_n (pc := 26) dX3_init_26 rfl ?_
      refine kr_bipush (pc := 27) dX3_init_27 (by decide) ?_
      refine kr_icmp_ge (pc := 29) dX3_init_29 rfl (fun h => by omega) (fun _ => ?_)
      refine kr_aload_n (pc := 32) dX3_init_32 rfl ?_
      refine kr_getr (pc := 33) dX3_init_33 rfl rfl (by assumption) (by assumption) ?_
      refine kr_iload_n (pc := 36) dX3_init_36 rfl ?_
      refine kr_new (pc := 37) dX3_init_37 dX3_init_41 rfl ?_
      refine kr_dup (pc := 40) dX3_init_40 rfl ?_
      refine kr_i0 (pc := 41) dX3_init_41 rfl (by decide) rfl (Nat.le_of_ble_eq_true rfl) (i_edit (o := hnx g) hsh_nw_at rfl c4.nw (fun g2 f2 E2 => ?_))
      show amT _ _ _ _ _ _
      obtain ⟨f21, f22, f23, f24⟩ := f2
      have s1 : hsh g2 (a + 1) = (22 + 2, 78) := by rw [(f23 (a + 1) (by omega)).1, hne _ (by omega)]; exact c7
      have s2 := E2.1
      refine kr_aast (pc := 44) dX3_init_44 (by assumption) (by decide) (by assumption) (by omega) (by omega) ?_
      refine kr_iinc (pc := 45) dX3_init_45 rfl ⟨⟨by omega, by omega⟩, by decide, by decide⟩ ?_
      simp only [stl, List.tail_cons, List.tail_nil]
      refine kr_goto (pc := 48) dX3_init_48 rfl ?_
      rw [c1] at *
      have ks : hks (hnw g (2 + 1) (am_fN 2)) = hks g + 6 := rfl
      have rr : ∀ y j, y < a + 16 + 3 * i → ¬ (y = a + 1 ∧ j = ((i : Nat) : Int).toNat) → hrf (hwr g2 (a + 1) ((i : Nat) : Int).toNat (some (a + 16 + 3 * i))) y j = hrf g y j := fun y j hy hn => (hwr_ne hn).trans (congrFun (f23 y (by omega)).2.2 j)
      have sr' : ∀ y, y < a + 16 + 3 * i → hsh g2 y = hsh g y := fun y hy => (f23 y (by omega)).1.trans (hne y hy)
      refine ih (i + 1) _ (by omega) ?_ ?_ (fun y hy => ⟨(sr' y (by omega)).trans (c3 y hy).1, (f23 y (by omega)).2.1.trans (c3 y hy).2.1, (funext fun j => rr y j (by omega) (by omega)).trans (c3 y hy).2.2⟩) f24 ((sr' _ (by omega)).trans c5) ((rr _ _ (by omega) (by omega)).trans c6) s1 ((rr _ _ (by omega) (by omega)).trans c8) (c9.ax fun y h1 h2 => ⟨sr' y (by omega), (f23 y (by omega)).2.1, funext fun j => rr y j (by omega) (by omega)⟩) fun j hj => ?_
      · show hnx g2 = _
        omega
      · show hks g2 ≤ _
        omega
      · by_cases hji : j = i
        · subst hji
          refine ⟨?_, by rw [show ((j : Nat) : Int).toNat = j by omega]; exact hwr_at⟩
          exact E2.ax fun y h1 h2 => ⟨rfl, rfl, funext fun q => hwr_ne (by omega)⟩
        · exact ⟨(d1 j (by omega)).1.ax fun y h1 h2 => ⟨sr' y (by omega), (f23 y (by omega)).2.1, funext fun q => rr y q (by omega) (by omega)⟩, (rr _ _ (by omega) (by omega)).trans (d1 j (by omega)).2⟩
  refine kr_aload_n (pc := 0) dX3_init_0 rfl ?_
  refine kr_obj (pc := 1) dX3_init_1 rfl (by decide) ?_
  refine kr_aload_n (pc := 4) dX3_init_4 rfl ?_
  refine kr_bipush (pc := 5) dX3_init_5 (by decide) ?_
  refine kr_newq (pc := 7) dX3_init_7 rfl (by decide) ?_
  have e1 : hsh (hnw h (22 + 2) (78 : Int).toNat) a = (4, 3) := (hsh_nw_ne (by omega)).trans hs
  refine kr_putr (pc := 10) dX3_init_10 rfl rfl (by decide) (by assumption) ?_
  refine kr_aload_n (pc := 13) dX3_init_13 rfl ?_
  refine kr_new (pc := 14) dX3_init_14 dX3_init_18 rfl ?_
  refine kr_dup (pc := 17) dX3_init_17 rfl ?_
  obtain ⟨g, hg⟩ : ∃ g, g = hwr (hnw h (22 + 2) (78 : Int).toNat) a 1 (some (hnx h)) := ⟨_, rfl⟩
  have n1 : hnx g = a + 2 := by rw [hg]; show hnx h + 1 = _; omega
  have k1 : hks g = hks h + 78 := by rw [hg]; rfl
  have F1 : Fre g := by rw [hg]; exact F.nw (t := 22 + 2) (n := 78)
  have i1 : hiv g = hiv h := by rw [hg]; rfl
  have s0 : hsh g a = (4, 3) := by rw [hg]; exact e1
  have s1 : hsh g (a + 1) = (22 + 2, 78) := by
    rw [hg, ← hn]
    exact hsh_nw_at
  have r1 : hrf g a 1 = some (a + 1) := by
    rw [hg, hn]
    exact hwr_at
  have low : ∀ y, y < a → hsh g y = hsh h y ∧ hiv g y = hiv h y ∧ hrf g y = hrf h y := fun y hy => by
    rw [hg]
    exact ⟨hsh_nw_ne (by omega), rfl, funext fun j => hwr_ne (by omega)⟩
  rw [← hg]
  refine kr_i0 (pc := 18) dX3_init_18 rfl (by decide) rfl (Nat.le_of_ble_eq_true rfl) (i_section (σ := hnx g) hsh_nw_at rfl F1.nw (F1 _ (Nat.le_refl _) 0) (fun g2 f2 S2 => ?_))
  show amT _ _ _ _ _ _
  obtain ⟨f21, f22, f23, f24⟩ := f2
  have ks : hks (hnw g (6 + 1) (am_fN 6)) = hks g + 2 := rfl
  have sr' : ∀ y, y < a + 2 → hsh g2 y = hsh g y := fun y hy => (f23 y (by omega)).1.trans (hsh_nw_ne (by omega))
  have t0 : hsh g2 a = (4, 3) := (sr' a (by omega)).trans s0
  refine kr_putr (pc := 21) dX3_init_21 rfl rfl (by decide) (by assumption) ?_
  refine kr_iconst (pc := 24) dX3_init_24 (by decide) ?_
  refine kr_istore_n (pc := 25) dX3_init_25 (show 1 ≤ _ from by simp) (by decide) ?_
  simp only [stl, List.tail_cons, List.tail_nil]
  rw [n1] at *
  refine loop 78 0 _ rfl ?_ ?_ (fun y hy => ⟨(sr' y (by omega)).trans (low y hy).1, (f23 y (by omega)).2.1.trans (low y hy).2.1, ((funext fun j => hwr_ne (by omega)).trans (f23 y (by omega)).2.2).trans (low y hy).2.2⟩) f24 t0 ?_ ((sr' _ (by omega)).trans s1) hwr_at (S2.ax fun y h1 h2 => ⟨rfl, rfl, funext fun j => hwr_ne (by omega)⟩) (fun j hj => by omega)
  · show hnx g2 = _
    omega
  · show hks g2 ≤ _
    omega
  · exact ((hwr_ne (by rintro ⟨-, hh⟩; exact absurd hh (by decide))).trans (congrFun (f23 a (by omega)).2.2 1)).trans r1
theorem i_rule {o : Nat} (k : Q (.inl none, h)) : amT mX5_init 0 [vR o] [] h Q := by
  refine kr_aload_n (pc := 0) dX5_init_0 rfl ?_
  refine kr_obj (pc := 1) dX5_init_1 rfl (by decide) ?_
  refine kr_return (d0 := ()) (pc := 4) dX5_init_4 rfl ?_
  exact k
end XN
