/-! THE CLASS'S OBJECTS: what lies where, entries -/
/-- nothing outside of [a, b) is another -/
def fro (h h' : aH) (a b : Nat) : Prop := hsh h' = hsh h ∧ hnx h' = hnx h ∧ hks h' = hks h ∧ ∀ x, x < a ∨ b ≤ x → hiv h' x = hiv h x ∧ hrf h' x = hrf h x
theorem fro.rf {h : aH} {a b : Nat} : fro h h a b := ⟨rfl, rfl, rfl, fun _ _ => ⟨rfl, rfl⟩⟩
theorem fro.tr {h h' h'' : aH} {a b : Nat} (f : fro h h' a b) (g : fro h' h'' a b) : fro h h'' a b :=
  ⟨g.1.trans f.1, g.2.1.trans f.2.1, g.2.2.1.trans f.2.2.1, fun x hx => ⟨(g.2.2.2 x hx).1.trans (f.2.2.2 x hx).1, (g.2.2.2 x hx).2.trans (f.2.2.2 x hx).2⟩⟩
theorem fro.up {h h' : aH} {a b a' b' : Nat} (f : fro h h' a b) (ha : a' ≤ a) (hb : b ≤ b') : fro h h' a' b' :=
  ⟨f.1, f.2.1, f.2.2.1, fun x hx => f.2.2.2 x (by omega)⟩
/-- the same in [a, b) -/
def agr (h h' : aH) (a b : Nat) : Prop := hsh h' = hsh h ∧ ∀ x, a ≤ x → x < b → hiv h' x = hiv h x ∧ hrf h' x = hrf h x
theorem fro.ag {h h' : aH} {a b c d : Nat} (f : fro h h' a b) (hd : d ≤ a ∨ b ≤ c) : agr h h' c d := ⟨f.1, fun x h1 h2 => f.2.2.2 x (by omega)⟩
theorem agr.up {h h' : aH} {a b c d : Nat} (f : agr h h' a b) (ha : a ≤ c) (hb : d ≤ b) : agr h h' c d := ⟨f.1, fun x h1 h2 => f.2 x (by omega) (by omega)⟩
theorem hwi_fro {h : aH} {a b x k : Nat} {v : Int} (h1 : a ≤ x) (h2 : x < b) : fro h (hwi h x k v) a b := ⟨rfl, rfl, rfl, fun y hy => ⟨up2_ne (by omega), rfl⟩⟩
/-- an entry at e, whatever it holds -/
def EnB (h : aH) (e : Nat) : Prop := hsh h e = (5, 2) ∧ hsh h (e + 1) = (20, 3) ∧ hrf h e 1 = some (e + 1)
/-- .. that holds x -/
def EnC (h : aH) (e : Nat) (x : Ent) : Prop := EnB h e ∧ hiv h e 0 = x.1 ∧ hiv h (e + 1) 0 = x.2.1 ∧ hiv h (e + 1) 1 = x.2.2.1 ∧ hiv h (e + 1) 2 = x.2.2.2
theorem EnB.ag {h h' : aH} {e : Nat} (H : EnB h e) (f : agr h h' e (e + 2)) : EnB h' e := by
  unfold EnB at *
  rw [f.1, (f.2 e (by omega) (by omega)).2]
  exact H
theorem EnC.ag {h h' : aH} {e : Nat} {x : Ent} (H : EnC h e x) (f : agr h h' e (e + 2)) : EnC h' e x := by
  refine ⟨H.1.ag f, ?_⟩
  rw [(f.2 e (by omega) (by omega)).1, (f.2 (e + 1) (by omega) (by omega)).1]
  exact H.2
section X1
variable {h : aH} {Q : aR → Prop} {e d : Nat} {x y : Ent}
theorem x_clear {n : Int} (H : EnB h e) (k : ∀ h', fro h h' e (e + 2) → EnC h' e (n, -1, -1, -1) → Q (.inl none, h')) : amT mX4_clear 0 [vR e, vI n] [] h Q := by
  obtain ⟨s1, s2, r1⟩ := id H
  refine kr_aload_n (pc := 0) dX4_clear_0 rfl ?_
  refine kr_iload_n (pc := 1) dX4_clear_1 rfl ?_
  refine kr_puti (pc := 2) dX4_clear_2 rfl (Or.inl rfl) (by decide) (by assumption) ?_
  refine kr_iconst (pc := 5) dX4_clear_5 (by decide) ?_
  refine kr_istore_n (pc := 6) dX4_clear_6 (show 2 ≤ _ from by simp) (by decide) ?_
  simp only [stl, List.tail_cons, List.tail_nil]
  refine kr_iload_n (pc := 7) dX4_clear_7 rfl ?_
  refine kr_iconst (pc := 8) dX4_clear_8 (by decide) ?_
  refine kr_icmp_ge (pc := 9) dX4_clear_9 rfl (fun h => absurd h (by decide)) (fun _ => ?_)
  refine kr_aload_n (pc := 12) dX4_clear_12 rfl ?_
  refine kr_getr (pc := 13) dX4_clear_13 rfl rfl (by assumption) (by assumption) ?_
  refine kr_iload_n (pc := 16) dX4_clear_16 rfl ?_
  refine kr_iconst (pc := 17) dX4_clear_17 (by decide) ?_
  refine kr_iast (pc := 18) dX4_clear_18 (by assumption) (by omega) (by omega) ?_
  refine kr_iinc (pc := 19) dX4_clear_19 rfl ⟨⟨by omega, by omega⟩, by decide, by decide⟩ ?_
  simp only [stl, List.tail_cons, List.tail_nil]
  refine kr_goto (pc := 22) dX4_clear_22 rfl ?_
  refine kr_iload_n (pc := 7) dX4_clear_7 rfl ?_
  refine kr_iconst (pc := 8) dX4_clear_8 (by decide) ?_
  refine kr_icmp_ge (pc := 9) dX4_clear_9 rfl (fun h => absurd h (by decide)) (fun _ => ?_)
  refine kr_aload_n (pc := 12) dX4_clear_12 rfl ?_
  refine kr_getr (pc := 13) dX4_clear_13 rfl rfl (by assumption) (by assumption) ?_
  refine kr_iload_n (pc := 16) dX4_clear_16 rfl ?_
  refine kr_iconst (pc := 17) dX4_clear_17 (by decide) ?_
  refine kr_iast (pc := 18) dX4_clear_18 (by assumption) (by omega) (by omega) ?_
  refine kr_iinc (pc := 19) dX4_clear_19 rfl ⟨⟨by omega, by omega⟩, by decide, by decide⟩ ?_
  simp only [stl, List.tail_cons, List.tail_nil]
  refine kr_goto (pc := 22) dX4_clear_22 rfl ?_
  refine kr_iload_n (pc := 7) dX4_clear_7 rfl ?_
  refine kr_iconst (pc := 8) dX4_clear_8 (by decide) ?_
  refine kr_icmp_ge (pc := 9) dX4_clear_9 rfl (fun h => absurd h (by decide)) (fun _ => ?_)
  refine kr_aload_n (pc := 12) dX4_clear_12 rfl ?_
  refine kr_getr (pc := 13) dX4_clear_13 rfl rfl (by assumption) (by assumption) ?_
  refine kr_iload_n (pc := 16) dX4_clear_16 rfl ?_
  refine kr_iconst (pc := 17) dX4_clear_17 (by decide) ?_
  refine kr_iast (pc := 18) dX4_clear_18 (by assumption) (by omega) (by omega) ?_
  refine kr_iinc (pc := 19) dX4_clear_19 rfl ⟨⟨by omega, by omega⟩, by decide, by decide⟩ ?_
  simp only [stl, List.tail_cons, List.tail_nil]
  refine kr_goto (pc := 22) dX4_clear_22 rfl ?_
  refine kr_iload_n (pc := 7) dX4_clear_7 rfl ?_
  refine kr_iconst (pc := 8) dX4_clear_8 (by decide) ?_
  refine kr_icmp_ge (pc := 9) dX4_clear_9 rfl (fun _ => ?_) (fun h => absurd h (by decide))
  refine kr_return (d0 := ()) (pc := 25) dX4_clear_25 rfl ?_
  refine k _ ((hwi_fro (by omega) (by omega)).tr ((hwi_fro (by omega) (by omega)).tr ((hwi_fro (by omega) (by omega)).tr (hwi_fro (by omega) (by omega))))) ⟨H, ?_, ?_, ?_, ?_⟩
  · exact (if_neg (by omega)).trans ((if_neg (by omega)).trans ((if_neg (by omega)).trans (if_pos ⟨rfl, rfl⟩)))
  · exact (if_neg (by rintro ⟨-, h⟩; exact absurd h (by decide))).trans ((if_neg (by rintro ⟨-, h⟩; exact absurd h (by decide))).trans (if_pos ⟨rfl, rfl⟩))
  · exact (if_neg (by rintro ⟨-, h⟩; exact absurd h (by decide))).trans (if_pos ⟨rfl, rfl⟩)
  · exact if_pos ⟨rfl, rfl⟩
theorem x_ecopy (H : EnB h e) (D : EnC h d x) (hd : d + 2 ≤ e ∨ e + 2 ≤ d) (k : ∀ h', fro h h' e (e + 2) → EnC h' e x → Q (.inl none, h')) : amT mX4_copyFrom 0 [vR e, vR d] [] h Q := by
  obtain ⟨s1, s2, r1⟩ := id H
  obtain ⟨⟨t1, t2, u1⟩, v0, v1, v2, v3⟩ := id D
  have w1 : hiv (hwi h e 0 x.1) (d + 1) 0 = x.2.1 := (if_neg (by omega)).trans v1
  have w2 : hiv (hwi (hwi h e 0 x.1) (e + 1) 0 x.2.1) (d + 1) 1 = x.2.2.1 := (if_neg (by omega)).trans ((if_neg (by omega)).trans v2)
  have w3 : hiv (hwi (hwi (hwi h e 0 x.1) (e + 1) 0 x.2.1) (e + 1) 1 x.2.2.1) (d + 1) 2 = x.2.2.2 := (if_neg (by omega)).trans ((if_neg (by omega)).trans ((if_neg (by omega)).trans v3))
  refine kr_aload_n (pc := 0) dX4_copyFrom_0 rfl ?_
  refine kr_aload_n (pc := 1) dX4_copyFrom_1 rfl ?_
  refine kr_geti (pc := 2) dX4_copyFrom_2 rfl (by decide) (by assumption) (by first | exact v0 | exact w1 | exact w2 | exact w3) ?_
  refine kr_puti (pc := 5) dX4_copyFrom_5 rfl (Or.inl rfl) (by decide) (by assumption) ?_
  refine kr_iconst (pc := 8) dX4_copyFrom_8 (by decide) ?_
  refine kr_istore_n (pc := 9) dX4_copyFrom_9 (show 2 ≤ _ from by simp) (by decide) ?_
  simp only [stl, List.tail_cons, List.tail_nil]
  refine kr_iload_n (pc := 10) dX4_copyFrom_10 rfl ?_
  refine kr_iconst (pc := 11) dX4_copyFrom_11 (by decide) ?_
  refine kr_icmp_ge (pc := 12) dX4_copyFrom_12 rfl (fun h => absurd h (by decide)) (fun _ => ?_)
  refine kr_aload_n (pc := 15) dX4_copyFrom_15 rfl ?_
  refine kr_getr (pc := 16) dX4_copyFrom_16 rfl rfl (by assumption) (by assumption) ?_
  refine kr_iload_n (pc := 19) dX4_copyFrom_19 rfl ?_
  refine kr_aload_n (pc := 20) dX4_copyFrom_20 rfl ?_
  refine kr_getr (pc := 21) dX4_copyFrom_21 rfl rfl (by assumption) (by assumption) ?_
  refine kr_iload_n (pc := 24) dX4_copyFrom_24 rfl ?_
  refine kr_iald (pc := 25) dX4_copyFrom_25 (by assumption) (by omega) (by omega) (by first | exact v0 | exact w1 | exact w2 | exact w3) ?_
  refine kr_iast (pc := 26) dX4_copyFrom_26 (by assumption) (by omega) (by omega) ?_
  refine kr_iinc (pc := 27) dX4_copyFrom_27 rfl ⟨⟨by omega, by omega⟩, by decide, by decide⟩ ?_
  simp only [stl, List.tail_cons, List.tail_nil]
  refine kr_goto (pc := 30) dX4_copyFrom_30 rfl ?_
  refine kr_iload_n (pc := 10) dX4_copyFrom_10 rfl ?_
  refine kr_iconst (pc := 11) dX4_copyFrom_11 (by decide) ?_
  refine kr_icmp_ge (pc := 12) dX4_copyFrom_12 rfl (fun h => absurd h (by decide)) (fun _ => ?_)
  refine kr_aload_n (pc := 15) dX4_copyFrom_15 rfl ?_
  refine kr_getr (pc := 16) dX4_copyFrom_16 rfl rfl (by assumption) (by assumption) ?_
  refine kr_iload_n (pc := 19) dX4_copyFrom_19 rfl ?_
  refine kr_aload_n (pc := 20) dX4_copyFrom_20 rfl ?_
  refine kr_getr (pc := 21) dX4_copyFrom_21 rfl rfl (by assumption) (by assumption) ?_
  refine kr_iload_n (pc := 24) dX4_copyFrom_24 rfl ?_
  refine kr_iald (pc := 25) dX4_copyFrom_25 (by assumption) (by omega) (by omega) (by first | exact v0 | exact w1 | exact w2 | exact w3) ?_
  refine kr_iast (pc := 26) dX4_copyFrom_26 (by assumption) (by omega) (by omega) ?_
  refine kr_iinc (pc := 27) dX4_copyFrom_27 rfl ⟨⟨by omega, by omega⟩, by decide, by decide⟩ ?_
  simp only [stl, List.tail_cons, List.tail_nil]
  refine kr_goto (pc := 30) dX4_copyFrom_30 rfl ?_
  refine kr_iload_n (pc := 10) dX4_copyFrom_10 rfl ?_
  refine kr_iconst (pc := 11) dX4_copyFrom_11 (by decide) ?_
  refine kr_icmp_ge (pc := 12) dX4_copyFrom_12 rfl (fun h => absurd h (by decide)) (fun _ => ?_)
  refine kr_aload_n (pc := 15) dX4_copyFrom_15 rfl ?_
  refine kr_getr (pc := 16) dX4_copyFrom_16 rfl rfl (by assumption) (by assumption) ?_
  refine kr_iload_n (pc := 19) dX4_copyFrom_19 rfl ?_
  refine kr_aload_n (pc := 20) dX4_copyFrom_20 rfl ?_
  refine kr_getr (pc := 21) dX4_copyFrom_21 rfl rfl (by assumption) (by assumption) ?_
  refine kr_iload_n (pc := 24) dX4_copyFrom_24 rfl ?_
  refine kr_iald (pc := 25) dX4_copyFrom_25 (by assumption) (by omega) (by omega) (by first | exact v0 | exact w1 | exact w2 | exact w3) ?_
  refine kr_iast (pc := 26) dX4_copyFrom_26 (by assumption) (by omega) (by omega) ?_
  refine kr_iinc (pc := 27) dX4_copyFrom_27 rfl ⟨⟨by omega, by omega⟩, by decide, by decide⟩ ?_
  simp only [stl, List.tail_cons, List.tail_nil]
  refine kr_goto (pc := 30) dX4_copyFrom_30 rfl ?_
  refine kr_iload_n (pc := 10) dX4_copyFrom_10 rfl ?_
  refine kr_iconst (pc := 11) dX4_copyFrom_11 (by decide) ?_
  refine kr_icmp_ge (pc := 12) dX4_copyFrom_12 rfl (fun _ => ?_) (fun h => absurd h (by decide))
  refine kr_return (d0 := ()) (pc := 33) dX4_copyFrom_33 rfl ?_
  refine k _ ((hwi_fro (by omega) (by omega)).tr ((hwi_fro (by omega) (by omega)).tr ((hwi_fro (by omega) (by omega)).tr (hwi_fro (by omega) (by omega))))) ⟨H, ?_, ?_, ?_, ?_⟩
  · exact (if_neg (by omega)).trans ((if_neg (by omega)).trans ((if_neg (by omega)).trans (if_pos ⟨rfl, rfl⟩)))
  · exact (if_neg (by rintro ⟨-, h⟩; exact absurd h (by decide))).trans ((if_neg (by rintro ⟨-, h⟩; exact absurd h (by decide))).trans (if_pos ⟨rfl, rfl⟩))
  · exact (if_neg (by rintro ⟨-, h⟩; exact absurd h (by decide))).trans (if_pos ⟨rfl, rfl⟩)
  · exact if_pos ⟨rfl, rfl⟩
theorem ent_ext {a b : Ent} (h0 : a.1 = b.1) (h1 : a.2.1 = b.2.1) (h2 : a.2.2.1 = b.2.2.1) (h3 : a.2.2.2 = b.2.2.2) : a = b := by
  obtain ⟨x1, x2, x3, x4⟩ := a
  obtain ⟨y1, y2, y3, y4⟩ := b
  dsimp only at h0 h1 h2 h3
  rw [h0, h1, h2, h3]
theorem x_elike (H : EnC h e x) (D : EnC h d y) (k1 : x = y → Q (.inl (some (vI 1)), h)) (k0 : x ≠ y → Q (.inl (some (vI 0)), h)) : amT mX4_isLike 0 [vR e, vR d] [] h Q := by
  obtain ⟨⟨s1, s2, r1⟩, a0, a1, a2, a3⟩ := id H
  obtain ⟨⟨t1, t2, u1⟩, v0, v1, v2, v3⟩ := id D
  refine kr_iconst (pc := 0) dX4_isLike_0 (by decide) ?_
  refine kr_istore_n (pc := 1) dX4_isLike_1 (show 2 ≤ _ from by simp) (by decide) ?_
  simp only [stl, List.tail_cons, List.tail_nil]
  refine kr_iload_n (pc := 2) dX4_isLike_2 rfl ?_
  refine kr_iconst (pc := 3) dX4_isLike_3 (by decide) ?_
  refine kr_icmp_ge (pc := 4) dX4_isLike_4 rfl (fun h => absurd h (by decide)) (fun _ => ?_)
  refine kr_aload_n (pc := 7) dX4_isLike_7 rfl ?_
  refine kr_getr (pc := 8) dX4_isLike_8 rfl rfl (by assumption) (by assumption) ?_
  refine kr_iload_n (pc := 11) dX4_isLike_11 rfl ?_
  refine kr_iald (pc := 12) dX4_isLike_12 (by assumption) (by omega) (by omega) (by first | exact a0 | exact a1 | exact a2 | exact a3 | exact v0 | exact v1 | exact v2 | exact v3) ?_
  refine kr_aload_n (pc := 13) dX4_isLike_13 rfl ?_
  refine kr_getr (pc := 14) dX4_isLike_14 rfl rfl (by assumption) (by assumption) ?_
  refine kr_iload_n (pc := 17) dX4_isLike_17 rfl ?_
  refine kr_iald (pc := 18) dX4_isLike_18 (by assumption) (by omega) (by omega) (by first | exact a0 | exact a1 | exact a2 | exact a3 | exact v0 | exact v1 | exact v2 | exact v3) ?_
  refine kr_icmp_eq (pc := 19) dX4_isLike_19 rfl (fun h19 => ?_) (fun h19 => ?_)
  · refine kr_iinc (pc := 24) dX4_isLike_24 rfl ⟨⟨by omega, by omega⟩, by decide, by decide⟩ ?_
    simp only [stl, List.tail_cons, List.tail_nil]
    refine kr_goto (pc := 27) dX4_isLike_27 rfl ?_
    refine kr_iload_n (pc := 2) dX4_isLike_2 rfl ?_
    refine kr_iconst (pc := 3) dX4_isLike_3 (by decide) ?_
    refine kr_icmp_ge (pc := 4) dX4_isLike_4 rfl (fun h => absurd h (by decide)) (fun _ => ?_)
    refine kr_aload_n (pc := 7) dX4_isLike_7 rfl ?_
    refine kr_getr (pc := 8) dX4_isLike_8 rfl rfl (by assumption) (by assumption) ?_
    refine kr_iload_n (pc := 11) dX4_isLike_11 rfl ?_
    refine kr_iald (pc := 12) dX4_isLike_12 (by assumption) (by omega) (by omega) (by first | exact a0 | exact a1 | exact a2 | exact a3 | exact v0 | exact v1 | exact v2 | exact v3) ?_
    refine kr_aload_n (pc := 13) dX4_isLike_13 rfl ?_
    refine kr_getr (pc := 14) dX4_isLike_14 rfl rfl (by assumption) (by assumption) ?_
    refine kr_iload_n (pc := 17) dX4_isLike_17 rfl ?_
    refine kr_iald (pc := 18) dX4_isLike_18 (by assumption) (by omega) (by omega) (by first | exact a0 | exact a1 | exact a2 | exact a3 | exact v0 | exact v1 | exact v2 | exact v3) ?_
    refine kr_icmp_eq (pc := 19) dX4_isLike_19 rfl (fun h19 => ?_) (fun h19 => ?_)
    · refine kr_iinc (pc := 24) dX4_isLike_24 rfl ⟨⟨by omega, by omega⟩, by decide, by decide⟩ ?_
      simp only [stl, List.tail_cons, List.tail_nil]
      refine kr_goto (pc := 27) dX4_isLike_27 rfl ?_
      refine kr_iload_n (pc := 2) dX4_isLike_2 rfl ?_
      refine kr_iconst (pc := 3) dX4_isLike_3 (by decide) ?_
      refine kr_icmp_ge (pc := 4) dX4_isLike_4 rfl (fun h => absurd h (by decide)) (fun _ => ?_)
      refine kr_aload_n (pc := 7) dX4_isLike_7 rfl ?_
      refine kr_getr (pc := 8) dX4_isLike_8 rfl rfl (by assumption) (by assumption) ?_
      refine kr_iload_n (pc := 11) dX4_isLike_11 rfl ?_
      refine kr_iald (pc := 12) dX4_isLike_12 (by assumption) (by omega) (by omega) (by first | exact a0 | exact a1 | exact a2 | exact a3 | exact v0 | exact v1 | exact v2 | exact v3) ?_
      refine kr_aload_n (pc := 13) dX4_isLike_13 rfl ?_
      refine kr_getr (pc := 14) dX4_isLike_14 rfl rfl (by assumption) (by assumption) ?_
      refine kr_iload_n (pc := 17) dX4_isLike_17 rfl ?_
      refine kr_iald (pc := 18) dX4_isLike_18 (by assumption) (by omega) (by omega) (by first | exact a0 | exact a1 | exact a2 | exact a3 | exact v0 | exact v1 | exact v2 | exact v3) ?_
      refine kr_icmp_eq (pc := 19) dX4_isLike_19 rfl (fun h19 => ?_) (fun h19 => ?_)
      · refine kr_iinc (pc := 24) dX4_isLike_24 rfl ⟨⟨by omega, by omega⟩, by decide, by decide⟩ ?_
        simp only [stl, List.tail_cons, List.tail_nil]
        refine kr_goto (pc := 27) dX4_isLike_27 rfl ?_
        refine kr_iload_n (pc := 2) dX4_isLike_2 rfl ?_
        refine kr_iconst (pc := 3) dX4_isLike_3 (by decide) ?_
        refine kr_icmp_ge (pc := 4) dX4_isLike_4 rfl (fun _ => ?_) (fun h => absurd h (by decide))
        refine kr_aload_n (pc := 30) dX4_isLike_30 rfl ?_
        refine kr_geti (pc := 31) dX4_isLike_31 rfl (by decide) (by assumption) (by first | exact a0 | exact a1 | exact a2 | exact a3 | exact v0 | exact v1 | exact v2 | exact v3) ?_
        refine kr_aload_n (pc := 34) dX4_isLike_34 rfl ?_
        refine kr_geti (pc := 35) dX4_isLike_35 rfl (by decide) (by assumption) (by first | exact a0 | exact a1 | exact a2 | exact a3 | exact v0 | exact v1 | exact v2 | exact v3) ?_
        refine kr_icmp_ne (pc := 38) dX4_isLike_38 rfl (fun h38 => ?_) (fun h38 => ?_)
        · refine kr_iconst (pc := 45) dX4_isLike_45 (by decide) ?_
          refine kr_ireturn (pc := 46) dX4_isLike_46 rfl ?_
          first | exact k1 (ent_ext (by omega) (by omega) (by omega) (by omega)) | exact k0 (fun hxy => by subst hxy; first | contradiction | omega)
        · refine kr_iconst (pc := 41) dX4_isLike_41 (by decide) ?_
          refine kr_goto (pc := 42) dX4_isLike_42 rfl ?_
          refine kr_ireturn (pc := 46) dX4_isLike_46 rfl ?_
          first | exact k1 (ent_ext (by omega) (by omega) (by omega) (by omega)) | exact k0 (fun hxy => by subst hxy; first | contradiction | omega)
      · refine kr_iconst (pc := 22) dX4_isLike_22 (by decide) ?_
        refine kr_ireturn (pc := 23) dX4_isLike_23 rfl ?_
        first | exact k1 (ent_ext (by omega) (by omega) (by omega) (by omega)) | exact k0 (fun hxy => by subst hxy; first | contradiction | omega)
    · refine kr_iconst (pc := 22) dX4_isLike_22 (by decide) ?_
      refine kr_ireturn (pc := 23) dX4_isLike_23 rfl ?_
      first | exact k1 (ent_ext (by omega) (by omega) (by omega) (by omega)) | exact k0 (fun hxy => by subst hxy; first | contradiction | omega)
  · refine kr_iconst (pc := 22) dX4_isLike_22 (by decide) ?_
    refine kr_ireturn (pc := 23) dX4_isLike_23 rfl ?_
    first | exact k1 (ent_ext (by omega) (by omega) (by omega) (by omega)) | exact k0 (fun hxy => by subst hxy; first | contradiction | omega)
end X1
