/-! THE CONSTRUCTORS -/
def agx (h h' : aH) (a b : Nat) : Prop := ∀ y, a ≤ y → y < b → hsh h' y = hsh h y ∧ hiv h' y = hiv h y ∧ hrf h' y = hrf h y
/-- what isn't there yet holds zeros -/
def Fre (h : aH) : Prop := ∀ y, hnx h ≤ y → ∀ k, hiv h y k = 0
/-- h' goes on from h: n cells from o on, at most K slots more -/
def con (h h' : aH) (o n K : Nat) : Prop := hnx h' = o + n ∧ hks h' ≤ hks h + K ∧ (∀ y, y < o → hsh h' y = hsh h y ∧ hiv h' y = hiv h y ∧ hrf h' y = hrf h y) ∧ Fre h'
theorem con.ax {h h' : aH} {o n K a b : Nat} (H : con h h' o n K) (hb : b ≤ o) : agx h h' a b := fun y _ h2 => H.2.2.1 y (by omega)
theorem agx.up {h h' : aH} {a b c d : Nat} (f : agx h h' a b) (hc : a ≤ c) (hd : d ≤ b) : agx h h' c d := fun y h1 h2 => f y (by omega) (by omega)
theorem hsh_nw {h : aH} {t n y : Nat} : hsh (hnw h t n) y = if y = hnx h then (t, n) else hsh h y := rfl
theorem hsh_nw_at {h : aH} {t n : Nat} : hsh (hnw h t n) (hnx h) = (t, n) := if_pos rfl
theorem hsh_nw_ne {h : aH} {t n y : Nat} (hy : y ≠ hnx h) : hsh (hnw h t n) y = hsh h y := if_neg hy
theorem Fre.nw {h : aH} {t n : Nat} (H : Fre h) : Fre (hnw h t n) := fun y hy k => H y (Nat.le_trans (Nat.le_succ _) hy) k
theorem Fre.wr {h : aH} {a k : Nat} {x : Option Nat} (H : Fre h) : Fre (hwr h a k x) := H
theorem Fre.wi {h : aH} {a k : Nat} {x : Int} (H : Fre h) (ha : a < hnx h) : Fre (hwi h a k x) := fun y hy j => (if_neg (by have : hnx h ≤ y := hy; omega)).trans (H y hy j)
theorem hwr_at {h : aH} {a k : Nat} {x : Option Nat} : hrf (hwr h a k x) a k = x := if_pos ⟨rfl, rfl⟩
theorem hwr_ne {h : aH} {a b k j : Nat} {x : Option Nat} (hb : ¬ (b = a ∧ j = k)) : hrf (hwr h a k x) b j = hrf h b j := if_neg hb
theorem EnB.ax {h h' : aH} {e : Nat} (H : EnB h e) (f : agx h h' e (e + 2)) : EnB h' e := by
  unfold EnB at *
  rw [(f e (by omega) (by omega)).1, (f (e + 1) (by omega) (by omega)).1, (f e (by omega) (by omega)).2.2]
  exact H
section XK
variable {h : aH} {Q : aR → Prop}
theorem i_entry {o : Nat} (hs : hsh h o = (5, 2)) (hn : hnx h = o + 1) (F : Fre h) (k : ∀ h', con h h' o 2 3 → EnB h' o → (∀ j, hiv h' o j = hiv h o j) → Q (.inl none, h')) : amT mX4_init 0 [vR o] [] h Q := by
  refine kr_aload_n (pc := 0) dX4_init_0 rfl ?_
  refine kr_obj (pc := 1) dX4_init_1 rfl (by decide) ?_
  refine kr_aload_n (pc := 4) dX4_init_4 rfl ?_
  refine kr_iconst (pc := 5) dX4_init_5 (by decide) ?_
  refine kr_newi (pc := 6) dX4_init_6 (by decide) ?_
  have e1 : hsh (hnw h 20 (3 : Int).toNat) o = (5, 2) := (hsh_nw_ne (by omega)).trans hs
  refine kr_putr (pc := 8) dX4_init_8 rfl rfl (by decide) (by assumption) ?_
  refine kr_return (d0 := ()) (pc := 11) dX4_init_11 rfl ?_
  rw [hn]
  refine k _ ⟨?_, Nat.le_refl _, fun y hy => ⟨hsh_nw_ne (by omega), rfl, funext fun j => hwr_ne (by omega)⟩, F.nw (t := 20) (n := 3)⟩ ⟨e1, ?_, hwr_at⟩ fun j => rfl
  · show hnx h + 1 = o + 2
    omega
  · show hsh (hnw h 20 (3 : Int).toNat) (o + 1) = (20, 3)
    rw [← hn]
    exact hsh_nw_at
end XK
/-- a section as it is made -/
def SeN (h : aH) (σ : Nat) : Prop := SeB h σ (fun i => i) ∧ hiv h σ 0 = 0
theorem SeN.ax {h h' : aH} {σ : Nat} (H : SeN h σ) (f : agx h h' σ (σ + 14)) : SeN h' σ := by
  obtain ⟨⟨a1, a2, a3, a4, a5, a6⟩, b⟩ := H
  refine ⟨⟨by rw [(f σ (by omega) (by omega)).1]; exact a1, by rw [(f σ (by omega) (by omega)).2.2]; exact a2, by rw [(f (σ + 1) (by omega) (by omega)).1]; exact a3, fun i hi => (a4 i hi).ax (f.up (by omega) (by omega)), fun i hi => by rw [(f (σ + 1) (by omega) (by omega)).2.2]; exact a5 i hi, a6⟩, by rw [(f σ (by omega) (by omega)).2.1]; exact b⟩
theorem SeN.c {h : aH} {σ : Nat} (H : SeN h σ) : SeC h σ [] := ⟨fun i => i, H.1, H.2, Nat.zero_le _, fun i e he => by cases he⟩
section XL
variable {h : aH} {Q : aR → Prop}
theorem i_section {σ : Nat} (hs : hsh h σ = (7, 2)) (hn : hnx h = σ + 1) (F : Fre h) (h0 : hiv h σ 0 = 0) (k : ∀ h', con h h' σ 14 36 → SeN h' σ → Q (.inl none, h')) : amT mX6_init 0 [vR σ] [] h Q := by
  have loop : ∀ (d i : Nat) (g : aH), i + d = 6 → hnx g = σ + 2 + 2 * i → hks g ≤ hks h + 6 + 5 * i → (∀ y, y < σ → hsh g y = hsh h y ∧ hiv g y = hiv h y ∧ hrf g y = hrf h y) → Fre g → hsh g σ = (7, 2) → hrf g σ 1 = some (σ + 1) → hsh g (σ + 1) = (22 + 4, 6) → hiv g σ 0 = 0 →
      (∀ j, j < i → EnB g (σ + 2 + 2 * j) ∧ hrf g (σ + 1) j = some (σ + 2 + 2 * j)) → amT mX6_init 15 [vR σ, vI (i : Int)] [] g Q := by
    intro d
    induction d with
    | zero =>
      intro i g hi c1 c2 c3 c4 c5 c6 c7 c8 c9
      refine kr_iload_n (pc := 15) dX6_init_15 rfl ?_
      refine kr_bipush (pc := 16) dX6_init_16 (by decide) ?_
      refine kr_icmp_ge (pc := 18) dX6_init_18 rfl (fun h18 => ?_) (fun h18 => by exfalso; omega)
      refine kr_return (d0 := ()) (pc := 40) dX6_init_40 rfl ?_
      exact k g ⟨by omega, by omega, c3, c4⟩ ⟨⟨c5, c6, c7, fun j hj => (c9 j (by omega)).1, fun j hj => ⟨(c9 j (by omega)).2, hj⟩, fun a b _ _ hab => hab⟩, c8⟩
    | succ d ih =>
      intro i g hi c1 c2 c3 c4 c5 c6 c7 c8 c9
      have hne : ∀ y, y < σ + 2 + 2 * i → hsh (hnw g (4 + 1) (am_fN 4)) y = hsh g y := fun y hy => hsh_nw_ne (by omega)
      refine kr_iload_n (pc := 15) dX6_init_15 rfl ?_
      refine kr_bipush (pc := 16) dX6_init_16 (by decide) ?_
      refine kr_icmp_ge (pc := 18) dX6_init_18 rfl (fun h => by omega) (fun _ => ?_)
      refine kr_aload_n (pc := 21) dX6_init_21 rfl ?_
      refine kr_getr (pc := 22) dX6_init_22 rfl rfl (by assumption) (by assumption) ?_
      refine kr_iload_n (pc := 25) dX6_init_25 rfl ?_
      refine kr_new (pc := 26) dX6_init_26 dX6_init_30 rfl ?_
      refine kr_dup (pc := 29) dX6_init_29 rfl ?_
      refine kr_i0 (pc := 30) dX6_init_30 rfl (by decide) rfl (Nat.le_of_ble_eq_true rfl) (i_entry (o := hnx g) hsh_nw_at rfl c4.nw (fun g2 f2 E2 z2 => ?_))
      show amT _ _ _ _ _ _
      obtain ⟨f21, f22, f23, f24⟩ := f2
      have s1 : hsh g2 (σ + 1) = (22 + 4, 6) := by rw [(f23 (σ + 1) (by omega)).1, hne _ (by omega)]; exact c7
      have s2 := E2.1
      refine kr_aast (pc := 33) dX6_init_33 (by assumption) (by decide) (by assumption) (by omega) (by omega) ?_
      refine kr_iinc (pc := 34) dX6_init_34 rfl ⟨⟨by omega, by omega⟩, by decide, by decide⟩ ?_
      simp only [stl, List.tail_cons, List.tail_nil]
      refine kr_goto (pc := 37) dX6_init_37 rfl ?_
      rw [c1] at *
      refine ih (i + 1) _ (by omega) ?_ ?_ (fun y hy => ?_) f24 ?_ ?_ ?_ ?_ fun j hj => ?_
      · show hnx g2 = _
        omega
      · show hks g2 ≤ _
        have : hks (hnw g (4 + 1) (am_fN 4)) = hks g + 2 := rfl
        omega
      · refine ⟨((f23 y (by omega)).1.trans (hne y (by omega))).trans (c3 y hy).1, (f23 y (by omega)).2.1.trans (c3 y hy).2.1, ?_⟩
        refine Eq.trans (funext fun j => hwr_ne (by omega)) ((f23 y (by omega)).2.2.trans (c3 y hy).2.2)
      · exact ((f23 σ (by omega)).1.trans (hne _ (by omega))).trans c5
      · exact (hwr_ne (by omega)).trans ((congrFun (f23 σ (by omega)).2.2 1).trans c6)
      · exact s1
      · exact (congrFun (f23 σ (by omega)).2.1 0).trans c8
      · by_cases hji : j = i
        · subst hji
          exact ⟨⟨E2.1, E2.2.1, (hwr_ne (by omega)).trans E2.2.2⟩, by rw [show ((j : Nat) : Int).toNat = j by omega]; exact hwr_at⟩
        · obtain ⟨⟨e1, e2, e3⟩, e4⟩ := c9 j (by omega)
          refine ⟨⟨?_, ?_, ?_⟩, ?_⟩
          · exact ((f23 _ (by omega)).1.trans (hne _ (by omega))).trans e1
          · exact ((f23 _ (by omega)).1.trans (hne _ (by omega))).trans e2
          · exact (hwr_ne (by omega)).trans ((congrFun (f23 _ (by omega)).2.2 1).trans e3)
          · exact (hwr_ne (by omega)).trans ((congrFun (f23 (σ + 1) (by omega)).2.2 j).trans e4)
  refine kr_aload_n (pc := 0) dX6_init_0 rfl ?_
  refine kr_obj (pc := 1) dX6_init_1 rfl (by decide) ?_
  refine kr_aload_n (pc := 4) dX6_init_4 rfl ?_
  refine kr_bipush (pc := 5) dX6_init_5 (by decide) ?_
  refine kr_newq (pc := 7) dX6_init_7 rfl (by decide) ?_
  have e1 : hsh (hnw h (22 + 4) (6 : Int).toNat) σ = (7, 2) := (hsh_nw_ne (by omega)).trans hs
  refine kr_putr (pc := 10) dX6_init_10 rfl rfl (by decide) (by assumption) ?_
  refine kr_iconst (pc := 13) dX6_init_13 (by decide) ?_
  refine kr_istore_n (pc := 14) dX6_init_14 (show 1 ≤ _ from by simp) (by decide) ?_
  simp only [stl, List.tail_cons, List.tail_nil]
  refine loop 6 0 _ rfl ?_ ?_ (fun y hy => ⟨hsh_nw_ne (by omega), rfl, funext fun j => hwr_ne (by omega)⟩) (F.nw (t := 22 + 4) (n := 6)) e1 ?_ ?_ h0 (fun j hj => by omega)
  · show hnx h + 1 = _
    omega
  · show hks h + 6 ≤ _
    omega
  · rw [hn]
    exact hwr_at
  · show hsh (hnw h (22 + 4) (6 : Int).toNat) (σ + 1) = _
    rw [← hn]
    exact hsh_nw_at
end XL
