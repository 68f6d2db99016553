section X8
variable {h : aH} {Q : aR → Prop} {κ ε σ : Nat} {c : Cfg}
theorem EnC.sg {e : Nat} {x : Ent} {j : Int} (H : EnC h e x) (hj : 0 ≤ j ∧ j ≤ 2) : hiv h (e + 1) j.toNat = sg x j := by
  obtain ⟨_, v0, v1, v2, v3⟩ := H
  show _ = (if j = 0 then x.2.1 else if j = 1 then x.2.2.1 else x.2.2.2)
  by_cases h0 : j = 0
  · rw [if_pos h0, h0]
    exact v1
  · rw [if_neg h0]
    by_cases h1 : j = 1
    · rw [if_pos h1, h1]
      exact v2
    · rw [if_neg h1, show j = 2 by omega]
      exact v3
theorem x_applyTo {lo : Int} {b : Bool} {e : Edt} (E : EdC h ε e) (o : okEd e) (C : CfC h κ c) (oc : okC c) (hb : lob lo b) (hd : ε + 3 ≤ κ ∨ κ + 48 ≤ ε) (k1 : ∀ (c' : Cfg) (h' : aH), ap1 b e c = some c' → fro h h' κ (κ + 48) → CfC h' κ c' → Q (.inl (some (vI 1)), h'))
    (k0 : ap1 b e c = none → Q (.inl (some (vI 0)), h)) : amT mX2_applyTo 0 [vR ε, vR κ, vI lo] [] h Q := by
  obtain ⟨d, s, y, f, t, n⟩ := e
  obtain ⟨B, a1, a2, a3, a4, a5, a6⟩ := id E
  obtain ⟨s1, r1, b1⟩ := id B
  obtain ⟨w1, w2, w3, w4, w5, w6, w7⟩ := C.1
  dsimp only at a1 a2 a3 a4 a5 a6
  unfold okEd at o
  dsimp only at o
  have hG : Unit → 7 ≤ d → hrf h (κ + 2) y.toNat = some (κ + 3 + y.toNat) ∧ hsh h (κ + 3 + y.toNat) = (20, 2) ∧ hiv h (κ + 3 + y.toNat) (d - 7).toNat = c.2 y.toNat (d - 7).toNat := fun _ h7 => ⟨(w7 _ (by omega)).1, (w7 _ (by omega)).2, C.2.2 _ _ (by omega) (by omega)⟩
  have finG : Unit → 7 ≤ d → c.2 y.toNat (d - 7).toNat = f → Q (.inl (some (vI 1)), hwi h (κ + 3 + y.toNat) (d - 7).toNat t) := by
    intro _ h7 hf
    refine k1 (upG c y.toNat (d - 7).toNat t) _ ?_ (hwi_fro (by omega) (by omega)) (C.grp (by omega) (by omega))
    unfold ap1
    dsimp only
    rw [if_pos h7, if_neg (fun h => h hf)]
  have finG0 : Unit → 7 ≤ d → c.2 y.toNat (d - 7).toNat ≠ f → Q (.inl (some (vI 0)), h) := by
    intro _ h7 hf
    refine k0 ?_
    unfold ap1
    dsimp only
    rw [if_pos h7, if_pos hf]
  have o2 : Unit → d < 7 → (0 ≤ s ∧ s ≤ 2) ∧ 1 ≤ d ∧ (d = 2 → 0 ≤ t) ∧ (d = 3 → 0 ≤ t) := fun _ h7 => by
    rcases o with o | o
    · exact ⟨by omega, by omega, fun h => (o.2.2.2.2.2.2.2.2.1 h).1, fun h => (o.2.2.2.2.2.2.2.2.2.1 h).2.2.1⟩
    · omega
  have hS : Unit → d < 7 → SeC h (κ + 6 + 14 * s.toNat) (c.1 s.toNat) := fun _ h7 => C.2.1 _ (by have := o2 () h7; omega)
  have hR : Unit → d < 7 → hrf h (κ + 1) s.toNat = some (κ + 6 + 14 * s.toNat) ∧ hsh h (κ + 6 + 14 * s.toNat) = (7, 2) ∧ s.toNat < 3 := fun _ h7 => ⟨w6 _ (by have := o2 () h7; omega), C.s (by have := o2 () h7; omega), by have := o2 () h7; omega⟩
  have fin : Unit → d < 7 → ∀ (l' : List Ent) (h' : aH), apS b d y f t n (c.1 s.toNat) = some l' → fro h h' (κ + 6 + 14 * s.toNat) (κ + 6 + 14 * s.toNat + 14) → SeC h' (κ + 6 + 14 * s.toNat) l' → Q (.inl (some (vI 1)), h') := by
    intro _ h7 l' h' ha fr' S'
    have := (hR () h7).2.2
    exact k1 (upS c s.toNat l') h' (ap1_some h7 ha) (fr'.up (by omega) (by omega)) (C.sec this fr' S')
  have fin0 : Unit → d < 7 → apS b d y f t n (c.1 s.toNat) = none → Q (.inl (some (vI 0)), h) := fun _ h7 ha => k0 (ap1_none h7 ha)
  have hE : Unit → d < 7 → kix (c.1 s.toNat) y ≠ -1 → 4 ≤ d → ∃ p : Nat → Nat, hrf h (κ + 6 + 14 * s.toNat) 1 = some (κ + 6 + 14 * s.toNat + 1) ∧ hsh h (κ + 6 + 14 * s.toNat + 1) = (22 + 4, 6) ∧ hrf h (κ + 6 + 14 * s.toNat + 1) (kix (c.1 s.toNat) y).toNat = some (κ + 6 + 14 * s.toNat + 2 + 2 * p (kix (c.1 s.toNat) y).toNat) ∧ EnB h (κ + 6 + 14 * s.toNat + 2 + 2 * p (kix (c.1 s.toNat) y).toNat) ∧ (kix (c.1 s.toNat) y).toNat < 6 ∧ hiv h (κ + 6 + 14 * s.toNat + 2 + 2 * p (kix (c.1 s.toNat) y).toNat + 1) (d - 4).toNat = sg (gt (c.1 s.toNat) y) (d - 4) ∧
      (sg (gt (c.1 s.toNat) y) (d - 4) = f → Q (.inl (some (vI 1)), hwi h (κ + 6 + 14 * s.toNat + 2 + 2 * p (kix (c.1 s.toNat) y).toNat + 1) (d - 4).toNat t)) := by
    intro _ h7 hx h4
    obtain ⟨p, P⟩ := hS () h7
    obtain ⟨⟨z0, z1, z2, z3, z4, z5⟩, c1, c2, c3⟩ := id P
    have rk := kix_rng (c.1 s.toNat) y
    have hlt : (kix (c.1 s.toNat) y).toNat < 6 := by omega
    have en := c3 _ _ (gt_at hx).1
    have hp6 := (z4 _ hlt).2
    refine ⟨p, z1, z2, (z4 _ hlt).1, en.1, hlt, en.sg (by omega), fun hsg => ?_⟩
    have P2 := P.set (j := d - 4) (v := t) (gt_at hx).1 (by omega)
    exact fin () h7 _ _ (by rw [apS4 h4 hx, if_neg (fun h => h hsg)]) (hwi_fro (by omega) (by omega)) ⟨p, P2⟩
  have rk := kix_rng (c.1 s.toNat) y
  refine kr_aload_n (pc := 0) dX2_applyTo_0 rfl ?_
  refine kr_geti (pc := 1) dX2_applyTo_1 rfl (by decide) (by assumption) (by first | exact a1 | exact a2 | exact a3) ?_
  refine kr_bipush (pc := 4) dX2_applyTo_4 (by decide) ?_
  refine kr_icmp_lt (pc := 6) dX2_applyTo_6 rfl (fun h6 => ?_) (fun h6 => ?_)
  · obtain ⟨g1, g2, g3⟩ := hR () (by omega)
    obtain ⟨o3, o4, o5, o6⟩ := o2 () (by omega)
    refine kr_aload_n (pc := 30) dX2_applyTo_30 rfl ?_
    refine kr_getr (pc := 31) dX2_applyTo_31 rfl rfl (by assumption) (by assumption) ?_
    refine kr_aload_n (pc := 34) dX2_applyTo_34 rfl ?_
    refine kr_geti (pc := 35) dX2_applyTo_35 rfl (by decide) (by assumption) (by first | exact a1 | exact a2 | exact a3) ?_
    refine kr_aald (pc := 38) dX2_applyTo_38 (by assumption) (by decide) (by omega) (by omega) (by assumption) ?_
    refine kr_astore_n (pc := 39) dX2_applyTo_39 (show 3 ≤ _ from by simp) (by decide) ?_
    simp only [stl, List.tail_cons, List.tail_nil]
    refine kr_aload_n (pc := 40) dX2_applyTo_40 rfl ?_
    refine kr_aload_n (pc := 41) dX2_applyTo_41 rfl ?_
    refine kr_geti (pc := 42) dX2_applyTo_42 rfl (by decide) (by assumption) (by first | exact a1 | exact a2 | exact a3) ?_
    refine kr_v1 (pc := 45) dX2_applyTo_45 rfl rfl (by assumption) (Nat.le_of_ble_eq_true rfl) rfl (x_placeOf (hS () (by omega)) ?_)
    show amT _ _ _ _ _ _
    refine kr_istore (pc := 48) dX2_applyTo_48 (show 4 ≤ _ from by simp) (by decide) ?_
    simp only [stl, List.tail_cons, List.tail_nil]
    refine kr_aload_n (pc := 50) dX2_applyTo_50 rfl ?_
    refine kr_geti (pc := 51) dX2_applyTo_51 rfl (by decide) (by assumption) (by first | exact a1 | exact a2 | exact a3) ?_
    refine kr_iconst (pc := 54) dX2_applyTo_54 (by decide) ?_
    refine kr_icmp_ne (pc := 55) dX2_applyTo_55 rfl (fun h55 => ?_) (fun h55 => ?_)
    · refine kr_iload (pc := 79) dX2_applyTo_79 rfl ?_
      refine kr_iconst (pc := 81) dX2_applyTo_81 (by decide) ?_
      refine kr_icmp_ne (pc := 82) dX2_applyTo_82 rfl (fun h82 => ?_) (fun h82 => ?_)
      · refine kr_aload_n (pc := 87) dX2_applyTo_87 rfl ?_
        refine kr_geti (pc := 88) dX2_applyTo_88 rfl (by decide) (by assumption) (by first | exact a1 | exact a2 | exact a3) ?_
        refine kr_iconst (pc := 91) dX2_applyTo_91 (by decide) ?_
        refine kr_icmp_ne (pc := 92) dX2_applyTo_92 rfl (fun h92 => ?_) (fun h92 => ?_)
        · refine kr_aload_n (pc := 104) dX2_applyTo_104 rfl ?_
          refine kr_geti (pc := 105) dX2_applyTo_105 rfl (by decide) (by assumption) (by first | exact a1 | exact a2 | exact a3) ?_
          refine kr_iconst (pc := 108) dX2_applyTo_108 (by decide) ?_
          refine kr_icmp_ne (pc := 109) dX2_applyTo_109 rfl (fun h109 => ?_) (fun h109 => ?_)
          · obtain ⟨p, x1, x2, x3, x4, x5, x6, x7⟩ := hE () (by omega) (by omega) (by omega)
            obtain ⟨x8, x9, x10⟩ := id x4
            refine kr_aload_n (pc := 121) dX2_applyTo_121 rfl ?_
            refine kr_aload_n (pc := 122) dX2_applyTo_122 rfl ?_
            refine kr_getr (pc := 123) dX2_applyTo_123 rfl rfl (by assumption) (by assumption) ?_
            refine kr_iload (pc := 126) dX2_applyTo_126 rfl ?_
            refine kr_aald (pc := 128) dX2_applyTo_128 (by assumption) (by decide) (by omega) (by omega) (by assumption) ?_
            refine kr_getr (pc := 129) dX2_applyTo_129 rfl rfl (by assumption) (by assumption) ?_
            refine kr_aload_n (pc := 132) dX2_applyTo_132 rfl ?_
            refine kr_geti (pc := 133) dX2_applyTo_133 rfl (by decide) (by assumption) (by first | exact a1 | exact a2 | exact a3) ?_
            refine kr_iconst (pc := 136) dX2_applyTo_136 (by decide) ?_
            refine kr_isub (pc := 137) dX2_applyTo_137 ⟨by omega, by omega⟩ ?_
            refine kr_v2 (pc := 138) dX2_applyTo_138 rfl rfl (by assumption) (Nat.le_of_ble_eq_true rfl) rfl rfl (x_setIn s1 a4 a5 x9 (by omega) (by decide) x6 (fun q138 => ?_) (fun q138 => ?_))
            · show amT _ _ _ _ _ _
              refine kr_ireturn (pc := 141) dX2_applyTo_141 rfl ?_
              exact x7 q138
            · show amT _ _ _ _ _ _
              refine kr_ireturn (pc := 141) dX2_applyTo_141 rfl ?_
              exact fin0 () (by omega) (by rw [apS4 (by omega) (by omega), if_pos q138])
          · refine kr_aload_n (pc := 112) dX2_applyTo_112 rfl ?_
            refine kr_aload_n (pc := 113) dX2_applyTo_113 rfl ?_
            refine kr_iload (pc := 114) dX2_applyTo_114 rfl ?_
            refine kr_iload_n (pc := 116) dX2_applyTo_116 rfl ?_
            refine kr_v3 (pc := 117) dX2_applyTo_117 rfl rfl (by assumption) (Nat.le_of_ble_eq_true rfl) rfl rfl rfl (x_moveIn (lo := lo) E (hS () (by omega)) (by omega) (o6 (by omega)) (fun q117 h' fr' S' => ?_) (fun q117 => ?_))
            · show amT _ _ _ _ _ _
              refine kr_ireturn (pc := 120) dX2_applyTo_120 rfl ?_
              (have hd2 : d = 3 := by omega)
              subst hd2
              exact fin () (by omega) _ h' (by rw [apS3 hb (by omega), if_neg q117]) fr' S'
            · show amT _ _ _ _ _ _
              refine kr_ireturn (pc := 120) dX2_applyTo_120 rfl ?_
              (have hd2 : d = 3 := by omega)
              subst hd2
              exact fin0 () (by omega) (by rw [apS3 hb (by omega), if_pos q117])
        · refine kr_aload_n (pc := 95) dX2_applyTo_95 rfl ?_
          refine kr_aload_n (pc := 96) dX2_applyTo_96 rfl ?_
          refine kr_iload (pc := 97) dX2_applyTo_97 rfl ?_
          refine kr_iload_n (pc := 99) dX2_applyTo_99 rfl ?_
          refine kr_v3 (pc := 100) dX2_applyTo_100 rfl rfl (by assumption) (Nat.le_of_ble_eq_true rfl) rfl rfl rfl (x_removeFrom (lo := lo) E (by omega) (hS () (by omega)) (by omega) (fun q100 h' fr' S' => ?_) (fun q100 => ?_))
          · show amT _ _ _ _ _ _
            refine kr_ireturn (pc := 103) dX2_applyTo_103 rfl ?_
            (have hd2 : d = 1 := by omega)
            subst hd2
            exact fin () (by omega) _ h' (by rw [apS1 hb (by omega), if_neg q100]) fr' S'
          · show amT _ _ _ _ _ _
            refine kr_ireturn (pc := 103) dX2_applyTo_103 rfl ?_
            (have hd2 : d = 1 := by omega)
            subst hd2
            exact fin0 () (by omega) (by rw [apS1 hb (by omega), if_pos q100])
      · refine kr_iconst (pc := 85) dX2_applyTo_85 (by decide) ?_
        refine kr_ireturn (pc := 86) dX2_applyTo_86 rfl ?_
        exact fin0 () (by omega) (apSn (by omega) (by omega))
    · refine kr_iload (pc := 58) dX2_applyTo_58 rfl ?_
      refine kr_iconst (pc := 60) dX2_applyTo_60 (by decide) ?_
      refine kr_icmp_ne (pc := 61) dX2_applyTo_61 rfl (fun h61 => ?_) (fun h61 => ?_)
      · refine kr_iconst (pc := 77) dX2_applyTo_77 (by decide) ?_
        refine kr_ireturn (pc := 78) dX2_applyTo_78 rfl ?_
        (have hd2 : d = 2 := by omega)
        subst hd2
        exact fin0 () (by omega) (by rw [apS2 hb, if_pos (by omega)])
      · refine kr_aload_n (pc := 64) dX2_applyTo_64 rfl ?_
        refine kr_aload_n (pc := 65) dX2_applyTo_65 rfl ?_
        refine kr_iload_n (pc := 66) dX2_applyTo_66 rfl ?_
        refine kr_v2 (pc := 67) dX2_applyTo_67 rfl rfl (by assumption) (Nat.le_of_ble_eq_true rfl) rfl rfl (x_addTo (lo := lo) E (by omega) (hS () (by omega)) (by omega) (o5 (by omega)) (fun q67 h' fr' S' => ?_) (fun q67 => ?_))
        · show amT _ _ _ _ _ _
          refine kr_if_eq (pc := 70) dX2_applyTo_70 rfl (fun h => absurd h (by decide)) (fun _ => ?_)
          refine kr_iconst (pc := 73) dX2_applyTo_73 (by decide) ?_
          refine kr_goto (pc := 74) dX2_applyTo_74 rfl ?_
          refine kr_ireturn (pc := 78) dX2_applyTo_78 rfl ?_
          (have hd2 : d = 2 := by omega)
          subst hd2
          exact fin () (by omega) _ h' (by rw [apS2 hb, if_neg (by omega)]) fr' S'
        · show amT _ _ _ _ _ _
          refine kr_if_eq (pc := 70) dX2_applyTo_70 rfl (fun _ => ?_) (fun h => absurd h (by decide))
          refine kr_iconst (pc := 77) dX2_applyTo_77 (by decide) ?_
          refine kr_ireturn (pc := 78) dX2_applyTo_78 rfl ?_
          (have hd2 : d = 2 := by omega)
          subst hd2
          exact fin0 () (by omega) (by rw [apS2 hb, if_pos (by omega)])
  · obtain ⟨g1, g2, g3⟩ := hG () (by omega)
    refine kr_aload_n (pc := 9) dX2_applyTo_9 rfl ?_
    refine kr_aload_n (pc := 10) dX2_applyTo_10 rfl ?_
    refine kr_getr (pc := 11) dX2_applyTo_11 rfl rfl (by assumption) (by assumption) ?_
    refine kr_aload_n (pc := 14) dX2_applyTo_14 rfl ?_
    refine kr_geti (pc := 15) dX2_applyTo_15 rfl (by decide) (by assumption) (by first | exact a1 | exact a2 | exact a3) ?_
    refine kr_aald (pc := 18) dX2_applyTo_18 (by assumption) (by decide) (by omega) (by omega) (by assumption) ?_
    refine kr_aload_n (pc := 19) dX2_applyTo_19 rfl ?_
    refine kr_geti (pc := 20) dX2_applyTo_20 rfl (by decide) (by assumption) (by first | exact a1 | exact a2 | exact a3) ?_
    refine kr_bipush (pc := 23) dX2_applyTo_23 (by decide) ?_
    refine kr_isub (pc := 25) dX2_applyTo_25 ⟨by omega, by omega⟩ ?_
    refine kr_v2 (pc := 26) dX2_applyTo_26 rfl rfl (by assumption) (Nat.le_of_ble_eq_true rfl) rfl rfl (x_setIn s1 a4 a5 g2 (by omega) (by decide) g3 (fun q26 => ?_) (fun q26 => ?_))
    · show amT _ _ _ _ _ _
      refine kr_ireturn (pc := 29) dX2_applyTo_29 rfl ?_
      exact finG () (by omega) q26
    · show amT _ _ _ _ _ _
      refine kr_ireturn (pc := 29) dX2_applyTo_29 rfl ?_
      exact finG0 () (by omega) q26
end X8
