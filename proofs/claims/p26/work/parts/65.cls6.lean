/-! RULES of the class -/
def RuC (h : aH) (ρ : Nat) (r : Rul) : Prop := hsh h ρ = (6, 4) ∧ hiv h ρ 0 = r.1 ∧ hiv h ρ 1 = r.2.1 ∧ hiv h ρ 2 = r.2.2.1 ∧ hiv h ρ 3 = r.2.2.2
theorem RuC.ag {h h' : aH} {ρ : Nat} {r : Rul} (H : RuC h ρ r) (f : agr h h' ρ (ρ + 1)) : RuC h' ρ r := by
  unfold RuC at *
  rw [f.1, (f.2 ρ (by omega) (by omega)).1]
  exact H
section X6
variable {h : aH} {Q : aR → Prop} {κ ρ : Nat} {c : Cfg} {r : Rul}
theorem x_shownAt {p : Int} (R : RuC h ρ r) (o : okRl r) (H : CfC h κ c) (oc : okC c) (hp : 0 ≤ p ∧ p < (c.1 r.2.1.toNat).length) (k : Q (.inl (some (vI (shA c r.2.1.toNat r.2.2.1 p.toNat))), h)) : amT mX5_shownAt 0 [vR ρ, vR κ, vI p] [] h Q := by
  obtain ⟨s1, v0, v1, v2, v3⟩ := id R
  unfold okRl at o
  obtain ⟨a1, a2, a3, a4, a5, a6, a7⟩ := H.1
  have x3 := a6 r.2.1.toNat (by omega)
  obtain ⟨q, ⟨w0, w1, w2, w3, w4, w5⟩, c1, c2, c3⟩ := H.2.1 r.2.1.toNat (by omega)
  obtain ⟨e, he⟩ : ∃ e, (c.1 r.2.1.toNat)[p.toNat]? = some e := ⟨_, List.getElem?_eq_getElem (by omega)⟩
  have y3 := (w4 p.toNat (by omega)).1
  have ee := (oc.1 r.2.1.toNat (by omega)).2.2 _ _ he
  have sh : shA c r.2.1.toNat r.2.2.1 p.toNat = shw c e r.2.2.1 := by
    unfold shA
    rw [he]
    rfl
  rw [sh] at k
  refine kr_aload_n (pc := 0) dX5_shownAt_0 rfl ?_
  refine kr_aload_n (pc := 1) dX5_shownAt_1 rfl ?_
  refine kr_getr (pc := 2) dX5_shownAt_2 rfl rfl (by assumption) (by assumption) ?_
  refine kr_aload_n (pc := 5) dX5_shownAt_5 rfl ?_
  refine kr_geti (pc := 6) dX5_shownAt_6 rfl (by decide) (by assumption) (by first | exact v1 | exact v2) ?_
  refine kr_aald (pc := 9) dX5_shownAt_9 (by assumption) (by decide) (by omega) (by omega) (by assumption) ?_
  refine kr_getr (pc := 10) dX5_shownAt_10 rfl rfl (by assumption) (by assumption) ?_
  refine kr_iload_n (pc := 13) dX5_shownAt_13 rfl ?_
  refine kr_aald (pc := 14) dX5_shownAt_14 (by assumption) (by decide) (by omega) (by omega) (by assumption) ?_
  refine kr_aload_n (pc := 15) dX5_shownAt_15 rfl ?_
  refine kr_geti (pc := 16) dX5_shownAt_16 rfl (by decide) (by assumption) (by first | exact v1 | exact v2) ?_
  refine kr_v2 (pc := 19) dX5_shownAt_19 rfl rfl (by assumption) (Nat.le_of_ble_eq_true rfl) rfl rfl (x_shown H (c3 _ _ he) ee (by omega) ?_)
  show amT _ _ _ _ _ _
  refine kr_ireturn (pc := 22) dX5_shownAt_22 rfl ?_
  exact k
theorem x_ahead {p : Nat} {v : Int} (R : RuC h ρ r) (o : okRl r) (H : CfC h κ c) (oc : okC c) (hp : p ≤ (c.1 r.2.1.toNat).length) (k1 : ¬ (∀ i, i < p → shA c r.2.1.toNat r.2.2.1 i ≠ v) → Q (.inl (some (vI 1)), h)) (k0 : (∀ i, i < p → shA c r.2.1.toNat r.2.2.1 i ≠ v) → Q (.inl (some (vI 0)), h)) : amT mX5_isShownAhead 0 [vR ρ, vR κ, vI (p : Int), vI v] [] h Q := by
  obtain ⟨s1, v0, v1, v2, v3⟩ := id R
  have hl6 := (oc.1 r.2.1.toNat (by unfold okRl at o; omega)).1
  have loop : ∀ (d i : Nat), i + d = p → (∀ j, j < i → shA c r.2.1.toNat r.2.2.1 j ≠ v) → amT mX5_isShownAhead 3 [vR ρ, vR κ, vI (p : Int), vI v, vI (i : Int)] [] h Q := by
    intro d
    induction d with
    | zero =>
      intro i hi hj
      refine kr_iload (pc := 3) dX5_isShownAhead_3 rfl ?_
      refine kr_iload_n (pc := 5) dX5_isShownAhead_5 rfl ?_
      refine kr_icmp_ge (pc := 6) dX5_isShownAhead_6 rfl (fun h6 => ?_) (fun h6 => by exfalso; omega)
      refine kr_iconst (pc := 28) dX5_isShownAhead_28 (by decide) ?_
      refine kr_ireturn (pc := 29) dX5_isShownAhead_29 rfl ?_
      exact k0 (fun j hjp => hj j (by omega))
    | succ d ih =>
      intro i hi hj
      refine kr_iload (pc := 3) dX5_isShownAhead_3 rfl ?_
      refine kr_iload_n (pc := 5) dX5_isShownAhead_5 rfl ?_
      refine kr_icmp_ge (pc := 6) dX5_isShownAhead_6 rfl (fun h6 => by exfalso; omega) (fun h6 => ?_)
      refine kr_aload_n (pc := 9) dX5_isShownAhead_9 rfl ?_
      refine kr_aload_n (pc := 10) dX5_isShownAhead_10 rfl ?_
      refine kr_iload (pc := 11) dX5_isShownAhead_11 rfl ?_
      refine kr_v2 (pc := 13) dX5_isShownAhead_13 rfl rfl (by assumption) (Nat.le_of_ble_eq_true rfl) rfl rfl (x_shownAt R o H oc ⟨by omega, by omega⟩ ?_)
      show amT _ _ _ _ _ _
      rw [show ((i : Nat) : Int).toNat = i by omega]
      refine kr_iload_n (pc := 16) dX5_isShownAhead_16 rfl ?_
      refine kr_icmp_ne (pc := 17) dX5_isShownAhead_17 rfl (fun h17 => ?_) (fun h17 => ?_)
      · refine kr_iinc (pc := 22) dX5_isShownAhead_22 rfl ⟨⟨by omega, by omega⟩, by decide, by decide⟩ ?_
        simp only [stl, List.tail_cons, List.tail_nil]
        refine kr_goto (pc := 25) dX5_isShownAhead_25 rfl ?_
        refine ih (i + 1) (by omega) fun j hji => ?_
        by_cases hj2 : j = i
        · (rw [hj2]; exact h17)
        · exact hj j (by omega)
      · refine kr_iconst (pc := 20) dX5_isShownAhead_20 (by decide) ?_
        refine kr_ireturn (pc := 21) dX5_isShownAhead_21 rfl ?_
        exact k1 (fun hh => hh i (by omega) h17)
  refine kr_iconst (pc := 0) dX5_isShownAhead_0 (by decide) ?_
  refine kr_istore (pc := 1) dX5_isShownAhead_1 (show 4 ≤ _ from by simp) (by decide) ?_
  simp only [stl, List.tail_cons, List.tail_nil]
  exact loop p 0 (by omega) (fun j hj => by omega)
theorem x_keptAt {p : Nat} (R : RuC h ρ r) (o : okRl r) (H : CfC h κ c) (oc : okC c) (hp : p < (c.1 r.2.1.toNat).length) (k1 : kpA c r p → Q (.inl (some (vI 1)), h)) (k0 : ¬ kpA c r p → Q (.inl (some (vI 0)), h)) : amT mX5_isKeptAt 0 [vR ρ, vR κ, vI (p : Int)] [] h Q := by
  obtain ⟨s1, v0, v1, v2, v3⟩ := id R
  obtain ⟨a1, a2, a3, a4, a5, a6, a7⟩ := H.1
  have oo := o
  unfold okRl at oo
  have nn : r.2.2.2 < 3 → hrf h (κ + 1) r.2.2.2.toNat = some (κ + 6 + 14 * r.2.2.2.toNat) ∧ SeC h (κ + 6 + 14 * r.2.2.2.toNat) (c.1 r.2.2.2.toNat) ∧ hsh h (κ + 6 + 14 * r.2.2.2.toNat) = (7, 2) := fun hn => ⟨a6 _ (by omega), H.2.1 _ (by omega), H.s (by omega)⟩
  unfold kpA at k1 k0
  refine kr_aload_n (pc := 0) dX5_isKeptAt_0 rfl ?_
  refine kr_aload_n (pc := 1) dX5_isKeptAt_1 rfl ?_
  refine kr_iload_n (pc := 2) dX5_isKeptAt_2 rfl ?_
  refine kr_v2 (pc := 3) dX5_isKeptAt_3 rfl rfl (by assumption) (Nat.le_of_ble_eq_true rfl) rfl rfl (x_shownAt R o H oc ⟨by omega, by omega⟩ ?_)
  show amT _ _ _ _ _ _
  rw [show ((p : Nat) : Int).toNat = p by omega]
  refine kr_istore_n (pc := 6) dX5_isKeptAt_6 (show 3 ≤ _ from by simp) (by decide) ?_
  simp only [stl, List.tail_cons, List.tail_nil]
  refine kr_iload_n (pc := 7) dX5_isKeptAt_7 rfl ?_
  refine kr_iconst (pc := 8) dX5_isKeptAt_8 (by decide) ?_
  refine kr_icmp_ne (pc := 9) dX5_isKeptAt_9 rfl (fun h9 => ?_) (fun h9 => ?_)
  · refine kr_aload_n (pc := 25) dX5_isKeptAt_25 rfl ?_
    refine kr_geti (pc := 26) dX5_isKeptAt_26 rfl (by decide) (by assumption) (by first | exact v0 | exact v3) ?_
    refine kr_iconst (pc := 29) dX5_isKeptAt_29 (by decide) ?_
    refine kr_icmp_ne (pc := 30) dX5_isKeptAt_30 rfl (fun h30 => ?_) (fun h30 => ?_)
    · refine kr_aload_n (pc := 47) dX5_isKeptAt_47 rfl ?_
      refine kr_geti (pc := 48) dX5_isKeptAt_48 rfl (by decide) (by assumption) (by first | exact v0 | exact v3) ?_
      refine kr_iconst (pc := 51) dX5_isKeptAt_51 (by decide) ?_
      refine kr_icmp_ne (pc := 52) dX5_isKeptAt_52 rfl (fun h52 => ?_) (fun h52 => ?_)
      · refine kr_aload_n (pc := 86) dX5_isKeptAt_86 rfl ?_
        refine kr_geti (pc := 87) dX5_isKeptAt_87 rfl (by decide) (by assumption) (by first | exact v0 | exact v3) ?_
        refine kr_iconst (pc := 90) dX5_isKeptAt_90 (by decide) ?_
        refine kr_icmp_ne (pc := 91) dX5_isKeptAt_91 rfl (fun h91 => ?_) (fun h91 => ?_)
        · refine kr_iconst (pc := 104) dX5_isKeptAt_104 (by decide) ?_
          refine kr_goto (pc := 105) dX5_isKeptAt_105 rfl ?_
          refine kr_ireturn (pc := 109) dX5_isKeptAt_109 rfl ?_
          first | exact k1 ⟨fun _ => by omega, fun _ => by omega, fun _ => by omega, fun _ => by omega⟩ | exact k0 (fun ⟨z1, z2, z3, z4⟩ => by omega) | exact k0 (fun ⟨z1, z2, z3, z4⟩ => c98 ((z4 (by omega)).resolve_left (by omega))) | exact k1 ⟨fun _ => by omega, fun _ => by omega, fun _ => by omega, fun _ => Or.inr c98⟩
        · refine kr_aload_n (pc := 94) dX5_isKeptAt_94 rfl ?_
          refine kr_aload_n (pc := 95) dX5_isKeptAt_95 rfl ?_
          refine kr_iload_n (pc := 96) dX5_isKeptAt_96 rfl ?_
          refine kr_iload_n (pc := 97) dX5_isKeptAt_97 rfl ?_
          refine kr_v3 (pc := 98) dX5_isKeptAt_98 rfl rfl (by assumption) (Nat.le_of_ble_eq_true rfl) rfl rfl rfl (x_ahead R o H oc (by omega) (fun c98 => ?_) (fun c98 => ?_))
          · show amT _ _ _ _ _ _
            refine kr_if_ne (pc := 101) dX5_isKeptAt_101 rfl (fun _ => ?_) (fun h => absurd h (by decide))
            refine kr_iconst (pc := 108) dX5_isKeptAt_108 (by decide) ?_
            refine kr_ireturn (pc := 109) dX5_isKeptAt_109 rfl ?_
            first | exact k1 ⟨fun _ => by omega, fun _ => by omega, fun _ => by omega, fun _ => by omega⟩ | exact k0 (fun ⟨z1, z2, z3, z4⟩ => by omega) | exact k0 (fun ⟨z1, z2, z3, z4⟩ => c98 ((z4 (by omega)).resolve_left (by omega))) | exact k1 ⟨fun _ => by omega, fun _ => by omega, fun _ => by omega, fun _ => Or.inr c98⟩
          · show amT _ _ _ _ _ _
            refine kr_if_ne (pc := 101) dX5_isKeptAt_101 rfl (fun h => absurd h (by decide)) (fun _ => ?_)
            refine kr_iconst (pc := 104) dX5_isKeptAt_104 (by decide) ?_
            refine kr_goto (pc := 105) dX5_isKeptAt_105 rfl ?_
            refine kr_ireturn (pc := 109) dX5_isKeptAt_109 rfl ?_
            first | exact k1 ⟨fun _ => by omega, fun _ => by omega, fun _ => by omega, fun _ => by omega⟩ | exact k0 (fun ⟨z1, z2, z3, z4⟩ => by omega) | exact k0 (fun ⟨z1, z2, z3, z4⟩ => c98 ((z4 (by omega)).resolve_left (by omega))) | exact k1 ⟨fun _ => by omega, fun _ => by omega, fun _ => by omega, fun _ => Or.inr c98⟩
      · refine kr_aload_n (pc := 55) dX5_isKeptAt_55 rfl ?_
        refine kr_geti (pc := 56) dX5_isKeptAt_56 rfl (by decide) (by assumption) (by first | exact v0 | exact v3) ?_
        refine kr_iconst (pc := 59) dX5_isKeptAt_59 (by decide) ?_
        refine kr_icmp_ge (pc := 60) dX5_isKeptAt_60 rfl (fun h60 => ?_) (fun h60 => ?_)
        · refine kr_iconst (pc := 84) dX5_isKeptAt_84 (by decide) ?_
          refine kr_ireturn (pc := 85) dX5_isKeptAt_85 rfl ?_
          first | exact k1 ⟨fun _ => by omega, fun _ => by omega, fun _ => by omega, fun _ => by omega⟩ | exact k0 (fun ⟨z1, z2, z3, z4⟩ => by omega) | exact k0 (fun ⟨z1, z2, z3, z4⟩ => c98 ((z4 (by omega)).resolve_left (by omega))) | exact k1 ⟨fun _ => by omega, fun _ => by omega, fun _ => by omega, fun _ => Or.inr c98⟩
        · obtain ⟨b1, b2, b3⟩ := nn (by omega)
          refine kr_aload_n (pc := 63) dX5_isKeptAt_63 rfl ?_
          refine kr_getr (pc := 64) dX5_isKeptAt_64 rfl rfl (by assumption) (by assumption) ?_
          refine kr_aload_n (pc := 67) dX5_isKeptAt_67 rfl ?_
          refine kr_geti (pc := 68) dX5_isKeptAt_68 rfl (by decide) (by assumption) (by first | exact v0 | exact v3) ?_
          refine kr_aald (pc := 71) dX5_isKeptAt_71 (by assumption) (by decide) (by omega) (by omega) (by assumption) ?_
          refine kr_iload_n (pc := 72) dX5_isKeptAt_72 rfl ?_
          refine kr_v1 (pc := 73) dX5_isKeptAt_73 rfl rfl (by assumption) (Nat.le_of_ble_eq_true rfl) rfl (x_placeOf b2 ?_)
          show amT _ _ _ _ _ _
          refine kr_iconst (pc := 76) dX5_isKeptAt_76 (by decide) ?_
          refine kr_icmp_eq (pc := 77) dX5_isKeptAt_77 rfl (fun h77 => ?_) (fun h77 => ?_)
          · refine kr_iconst (pc := 84) dX5_isKeptAt_84 (by decide) ?_
            refine kr_ireturn (pc := 85) dX5_isKeptAt_85 rfl ?_
            first | exact k1 ⟨fun _ => by omega, fun _ => by omega, fun _ => by omega, fun _ => by omega⟩ | exact k0 (fun ⟨z1, z2, z3, z4⟩ => by omega) | exact k0 (fun ⟨z1, z2, z3, z4⟩ => c98 ((z4 (by omega)).resolve_left (by omega))) | exact k1 ⟨fun _ => by omega, fun _ => by omega, fun _ => by omega, fun _ => Or.inr c98⟩
          · refine kr_iconst (pc := 80) dX5_isKeptAt_80 (by decide) ?_
            refine kr_goto (pc := 81) dX5_isKeptAt_81 rfl ?_
            refine kr_ireturn (pc := 85) dX5_isKeptAt_85 rfl ?_
            first | exact k1 ⟨fun _ => by omega, fun _ => by omega, fun _ => by omega, fun _ => by omega⟩ | exact k0 (fun ⟨z1, z2, z3, z4⟩ => by omega) | exact k0 (fun ⟨z1, z2, z3, z4⟩ => c98 ((z4 (by omega)).resolve_left (by omega))) | exact k1 ⟨fun _ => by omega, fun _ => by omega, fun _ => by omega, fun _ => Or.inr c98⟩
    · refine kr_iload_n (pc := 33) dX5_isKeptAt_33 rfl ?_
      refine kr_aload_n (pc := 34) dX5_isKeptAt_34 rfl ?_
      refine kr_geti (pc := 35) dX5_isKeptAt_35 rfl (by decide) (by assumption) (by first | exact v0 | exact v3) ?_
      refine kr_icmp_gt (pc := 38) dX5_isKeptAt_38 rfl (fun h38 => ?_) (fun h38 => ?_)
      · refine kr_iconst (pc := 45) dX5_isKeptAt_45 (by decide) ?_
        refine kr_ireturn (pc := 46) dX5_isKeptAt_46 rfl ?_
        first | exact k1 ⟨fun _ => by omega, fun _ => by omega, fun _ => by omega, fun _ => by omega⟩ | exact k0 (fun ⟨z1, z2, z3, z4⟩ => by omega) | exact k0 (fun ⟨z1, z2, z3, z4⟩ => c98 ((z4 (by omega)).resolve_left (by omega))) | exact k1 ⟨fun _ => by omega, fun _ => by omega, fun _ => by omega, fun _ => Or.inr c98⟩
      · refine kr_iconst (pc := 41) dX5_isKeptAt_41 (by decide) ?_
        refine kr_goto (pc := 42) dX5_isKeptAt_42 rfl ?_
        refine kr_ireturn (pc := 46) dX5_isKeptAt_46 rfl ?_
        first | exact k1 ⟨fun _ => by omega, fun _ => by omega, fun _ => by omega, fun _ => by omega⟩ | exact k0 (fun ⟨z1, z2, z3, z4⟩ => by omega) | exact k0 (fun ⟨z1, z2, z3, z4⟩ => c98 ((z4 (by omega)).resolve_left (by omega))) | exact k1 ⟨fun _ => by omega, fun _ => by omega, fun _ => by omega, fun _ => Or.inr c98⟩
  · refine kr_aload_n (pc := 12) dX5_isKeptAt_12 rfl ?_
    refine kr_geti (pc := 13) dX5_isKeptAt_13 rfl (by decide) (by assumption) (by first | exact v0 | exact v3) ?_
    refine kr_if_eq (pc := 16) dX5_isKeptAt_16 rfl (fun h16 => ?_) (fun h16 => ?_)
    · refine kr_iconst (pc := 23) dX5_isKeptAt_23 (by decide) ?_
      refine kr_ireturn (pc := 24) dX5_isKeptAt_24 rfl ?_
      first | exact k1 ⟨fun _ => by omega, fun _ => by omega, fun _ => by omega, fun _ => by omega⟩ | exact k0 (fun ⟨z1, z2, z3, z4⟩ => by omega) | exact k0 (fun ⟨z1, z2, z3, z4⟩ => c98 ((z4 (by omega)).resolve_left (by omega))) | exact k1 ⟨fun _ => by omega, fun _ => by omega, fun _ => by omega, fun _ => Or.inr c98⟩
    · refine kr_iconst (pc := 19) dX5_isKeptAt_19 (by decide) ?_
      refine kr_goto (pc := 20) dX5_isKeptAt_20 rfl ?_
      refine kr_ireturn (pc := 24) dX5_isKeptAt_24 rfl ?_
      first | exact k1 ⟨fun _ => by omega, fun _ => by omega, fun _ => by omega, fun _ => by omega⟩ | exact k0 (fun ⟨z1, z2, z3, z4⟩ => by omega) | exact k0 (fun ⟨z1, z2, z3, z4⟩ => c98 ((z4 (by omega)).resolve_left (by omega))) | exact k1 ⟨fun _ => by omega, fun _ => by omega, fun _ => by omega, fun _ => Or.inr c98⟩
theorem x_kept (R : RuC h ρ r) (o : okRl r) (H : CfC h κ c) (oc : okC c) (k1 : kpt c r → Q (.inl (some (vI 1)), h)) (k0 : ¬ kpt c r → Q (.inl (some (vI 0)), h)) : amT mX5_isKeptBy 0 [vR ρ, vR κ] [] h Q := by
  obtain ⟨s1, v0, v1, v2, v3⟩ := id R
  obtain ⟨a1, a2, a3, a4, a5, a6, a7⟩ := H.1
  have oo := o
  unfold okRl at oo
  have hl6 := (oc.1 r.2.1.toNat (by omega)).1
  have x3 := a6 r.2.1.toNat (by omega)
  have x4 := H.s (i := r.2.1.toNat) (by omega)
  obtain ⟨q, Bq, c1, c2, c3⟩ := H.2.1 r.2.1.toNat (by omega)
  have loop : ∀ (d i : Nat), i + d = (c.1 r.2.1.toNat).length → (∀ j, j < i → kpA c r j) → amT mX5_isKeptBy 15 [vR ρ, vR κ, vI ((c.1 r.2.1.toNat).length : Int), vI (i : Int)] [] h Q := by
    intro d
    induction d with
    | zero =>
      intro i hi hj
      refine kr_iload_n (pc := 15) dX5_isKeptBy_15 rfl ?_
      refine kr_iload_n (pc := 16) dX5_isKeptBy_16 rfl ?_
      refine kr_icmp_ge (pc := 17) dX5_isKeptBy_17 rfl (fun h17 => ?_) (fun h17 => by exfalso; omega)
      refine kr_iconst (pc := 37) dX5_isKeptBy_37 (by decide) ?_
      refine kr_ireturn (pc := 38) dX5_isKeptBy_38 rfl ?_
      exact k1 (fun j hjp => hj j (by omega))
    | succ d ih =>
      intro i hi hj
      refine kr_iload_n (pc := 15) dX5_isKeptBy_15 rfl ?_
      refine kr_iload_n (pc := 16) dX5_isKeptBy_16 rfl ?_
      refine kr_icmp_ge (pc := 17) dX5_isKeptBy_17 rfl (fun h17 => by exfalso; omega) (fun h17 => ?_)
      refine kr_aload_n (pc := 20) dX5_isKeptBy_20 rfl ?_
      refine kr_aload_n (pc := 21) dX5_isKeptBy_21 rfl ?_
      refine kr_iload_n (pc := 22) dX5_isKeptBy_22 rfl ?_
      refine kr_v2 (pc := 23) dX5_isKeptBy_23 rfl rfl (by assumption) (Nat.le_of_ble_eq_true rfl) rfl rfl (x_keptAt R o H oc (by omega) (fun c23 => ?_) (fun c23 => ?_))
      · show amT _ _ _ _ _ _
        refine kr_if_ne (pc := 26) dX5_isKeptBy_26 rfl (fun _ => ?_) (fun h => absurd h (by decide))
        refine kr_iinc (pc := 31) dX5_isKeptBy_31 rfl ⟨⟨by omega, by omega⟩, by decide, by decide⟩ ?_
        simp only [stl, List.tail_cons, List.tail_nil]
        refine kr_goto (pc := 34) dX5_isKeptBy_34 rfl ?_
        refine ih (i + 1) (by omega) fun j hji => ?_
        by_cases hj2 : j = i
        · (rw [hj2]; exact c23)
        · exact hj j (by omega)
      · show amT _ _ _ _ _ _
        refine kr_if_ne (pc := 26) dX5_isKeptBy_26 rfl (fun h => absurd h (by decide)) (fun _ => ?_)
        refine kr_iconst (pc := 29) dX5_isKeptBy_29 (by decide) ?_
        refine kr_ireturn (pc := 30) dX5_isKeptBy_30 rfl ?_
        exact k0 (fun hh => c23 (hh i (by omega)))
  refine kr_aload_n (pc := 0) dX5_isKeptBy_0 rfl ?_
  refine kr_getr (pc := 1) dX5_isKeptBy_1 rfl rfl (by assumption) (by assumption) ?_
  refine kr_aload_n (pc := 4) dX5_isKeptBy_4 rfl ?_
  refine kr_geti (pc := 5) dX5_isKeptBy_5 rfl (by decide) (by assumption) (by first | exact v1 | exact c1) ?_
  refine kr_aald (pc := 8) dX5_isKeptBy_8 (by assumption) (by decide) (by omega) (by omega) (by assumption) ?_
  refine kr_geti (pc := 9) dX5_isKeptBy_9 rfl (by decide) (by assumption) (by first | exact v1 | exact c1) ?_
  refine kr_istore_n (pc := 12) dX5_isKeptBy_12 (show 2 ≤ _ from by simp) (by decide) ?_
  simp only [stl, List.tail_cons, List.tail_nil]
  refine kr_iconst (pc := 13) dX5_isKeptBy_13 (by decide) ?_
  refine kr_istore_n (pc := 14) dX5_isKeptBy_14 (show 3 ≤ _ from by simp) (by decide) ?_
  simp only [stl, List.tail_cons, List.tail_nil]
  exact loop (c.1 r.2.1.toNat).length 0 (by omega) (fun j hj => by omega)
end X6
