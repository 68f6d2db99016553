section X8
variable {h : aH} {Q : aR → Prop} {κ ε σ : Nat} {c : Cfg}
theorem EnC.sg {e : Nat} {x : Ent} {j : Int} (H : EnC h e x) (hj : 0 ≤ j ∧ j ≤ 2) : hiv h (e + 1) j.toNat = sg x j := by
  obtain ⟨_, v0, v1, v2, v3⟩ := H
  show _ = (if j = 0 then x.2.1 else if j = 1 then x.2.2.1 else x.2.2.2)
  by_cases h0 : j = 0
  · rw [if_pos h0, h0]
    exact v1
  · rw [if_neg h0]
    by_cases h1 : j = 1
    · rw [if_pos h1, h1]
      exact v2
    · rw [if_neg h1, show j = 2 by omega]
      exact v3
theorem x_applyTo {lo : Int} {b : Bool} {e : Edt} (E : EdC h ε e) (o : okEd e) (C : CfC h κ c) (oc : okC c) (hb : lob lo b) (hd : ε + 3 ≤ κ ∨ κ + 48 ≤ ε) (k1 : ∀ (c' : Cfg) (h' : aH), ap1 b e c = some c' → fro h h' κ (κ + 48) → CfC h' κ c' → Q (.inl (some (vI 1)), h'))
    (k0 : ap1 b e c = none → Q (.inl (some (vI 0)), h)) : amT mX2_applyTo 0 [vR ε, vR κ, vI lo] [] h Q := by
  obtain ⟨d, s, y, f, t, n⟩ := e
  obtain ⟨B, a1, a2, a3, a4, a5, a6⟩ := id E
  obtain ⟨s1, r1, b1⟩ := id B
  obtain ⟨w1, w2, w3, w4, w5, w6, w7⟩ := C.1
  dsimp only at a1 a2 a3 a4 a5 a6
  unfold okEd at o
  dsimp only at o
  have hG : Unit → 7 ≤ d → hrf h (κ + 2) y.toNat = some (κ + 3 + y.toNat) ∧ hsh h (κ + 3 + y.toNat) = (20, 2) ∧ hiv h (κ + 3 + y.toNat) (d - 7).toNat = c.2 y.toNat (d - 7).toNat := fun _ h7 => ⟨(w7 _ (by omega)).1, (w7 _ (by omega)).2, C.2.2 _ _ (by omega) (by omega)⟩
  have finG : Unit → 7 ≤ d → c.2 y.toNat (d - 7).toNat = f → Q (.inl (some (vI 1)), hwi h (κ + 3 + y.toNat) (d - 7).toNat t) := by
    intro _ h7 hf
    refine k1 (upG c y.toNat (d - 7).toNat t) _ ?_ (hwi_fro (by omega) (by omega)) (C.grp (by omega) (by omega))
    unfold ap1
    dsimp only
    rw [if_pos h7, if_neg (fun h => h hf)]
  have finG0 : Unit → 7 ≤ d → c.2 y.toNat (d - 7).toNat ≠ f → Q (.inl (some (vI 0)), h) := by
    intro _ h7 hf
    refine k0 ?_
    unfold ap1
    dsimp only
    rw [if_pos h7, if_pos hf]
  have o2 : Unit → d < 7 → (0 ≤ s ∧ s ≤ 2) ∧ 1 ≤ d ∧ (d = 2 → 0 ≤ t) ∧ (d = 3 → 0 ≤ t) := fun _ h7 => by
    rcases o with o | o
    · exact ⟨by omega, by omega, fun h => (o.2.2.2.2.2.2.2.2.1 h).1, fun h => (o.2.2.2.2.2.2.2.2.2.1 h).2.2.1⟩
    · omega
  have hS : Unit → d < 7 → SeC h (κ + 6 + 14 * s.toNat) (c.1 s.toNat) := fun _ h7 => C.2.1 _ (by have := o2 () h7; omega)
  have hR : Unit → d < 7 → hrf h (κ + 1) s.toNat = some (κ + 6 + 14 * s.toNat) ∧ hsh h (κ + 6 + 14 * s.toNat) = (7, 2) ∧ s.toNat < 3 := fun _ h7 => ⟨w6 _ (by have := o2 () h7; omega), C.s (by have := o2 () h7; omega), by have := o2 () h7; omega⟩
  have fin : Unit → d < 7 → ∀ (l' : List Ent) (h' : aH), apS b d y f t n (c.1 s.toNat) = some l' → fro h h' (κ + 6 + 14 * s.toNat) (κ + 6 + 14 * s.toNat + 14) → SeC h' (κ + 6 + 14 * s.toNat) l' → Q (.inl (some (vI 1)), h') := by
    intro _ h7 l' h' ha fr' S'
    have := (hR () h7).2.2
    exact k1 (upS c s.toNat l') h' (ap1_some h7 ha) (fr'.up (by omega) (by omega)) (C.sec this fr' S')
  have fin0 : Unit → d < 7 → apS b d y f t n (c.1 s.toNat) = none → Q (.inl (some (vI 0)), h) := fun _ h7 ha => k0 (ap1_none h7 ha)
  have hE : Unit → d < 7 → kix (c.1 s.toNat) y ≠ -1 → 4 ≤ d → ∃ p : Nat → Nat, hrf h (κ + 6 + 14 * s.toNat) 1 = some (κ + 6 + 14 * s.toNat + 1) ∧ hsh h (κ + 6 + 14 * s.toNat + 1) = (22 + 4, 6) ∧ hrf h (κ + 6 + 14 * s.toNat + 1) (kix (c.1 s.toNat) y).toNat = some (κ + 6 + 14 * s.toNat + 2 + 2 * p (kix (c.1 s.toNat) y).toNat) ∧ EnB h (κ + 6 + 14 * s.toNat + 2 + 2 * p (kix (c.1 s.toNat) y).toNat) ∧ (kix (c.1 s.toNat) y).toNat < 6 ∧ hiv h (κ + 6 + 14 * s.toNat + 2 + 2 * p (kix (c.1 s.toNat) y).toNat + 1) (d - 4).toNat = sg (gt (c.1 s.toNat) y) (d - 4) ∧
      (sg (gt (c.1 s.toNat) y) (d - 4) = f → Q (.inl (some (vI 1)), hwi h (κ + 6 + 14 * s.toNat + 2 + 2 * p (kix (c.1 s.toNat) y).toNat + 1) (d - 4).toNat t)) := by
    intro _ h7 hx h4
    obtain ⟨p, P⟩ := hS () h7
    obtain ⟨⟨z0, z1, z2, z3, z4, z5⟩, c1, c2, c3⟩ := id P
    have rk := kix_rng (c.1 s.toNat) y
    have hlt : (kix (c.1 s.toNat) y).toNat < 6 := by omega
    have en := c3 _ _ (gt_at hx).1
    have hp6 := (z4 _ hlt).2
    refine ⟨p, z1, z2, (z4 _ hlt).1, en.1, hlt, en.sg (by omega), fun hsg => ?_⟩
    have P2 := P.set (j := d - 4) (v := t) (gt_at hx).1 (by omega)
    exact fin () h7 _ _ (by rw [apS4 h4 hx, if_neg (fun h => h hsg)]) (hwi_fro (by omega) (by omega)) ⟨p, P2⟩
  have rk := kix_rng (c.1 s.toNat) y
  refine kr_aload_n (pc := 0) dX2_applyTo_0 rfl ?_
  refine kr_geti (pc := 1) dX2_applyTo_1 rfl (by decide) (by assumption) (by first | exact a1 | exact a2 | exact a3) ?_
  refine kr_bipush (pc := 4) dX2_applyTo_4 (by decide) ?_
  refine kr_icmp_lt (pc := 6) dX2_applyTo_6 rfl (fun h6 => ?_) (fun h6 => ?_)
  · obtain ⟨g1, g2, g3⟩ := hR () (by omega)
    obtain ⟨o3, o4, o5, o6⟩ := o2 () (by omega)
    refine kr_aload_n (pc := 46) dX2_applyTo_46 rfl ?_
    refine kr_getr (pc := 47) dX2_applyTo_47 rfl rfl (by assumption) (by assumption) ?_
    refine kr_aload_n (pc := 50) dX2_applyTo_50 rfl ?_
    refine kr_geti (pc := 51) dX2_applyTo_51 rfl (by decide) (by assumption) (by first | exact a1 | exact a2 | exact a3) ?_
    refine kr_aald (pc := 54) dX2_applyTo_54 (by assumption) (by decide) (by omega) (by omega) (by assumption) ?_
    refine kr_astore_n (pc := 55) dX2_applyTo_55 (show 3 ≤ _ from by simp) (by decide) ?_
    simp only [stl, List.tail_cons, List.tail_nil]
    refine kr_aload_n (pc := 56) dX2_applyTo_56 rfl ?_
    refine kr_aload_n (pc := 57) dX2_applyTo_57 rfl ?_
    refine kr_geti (pc := 58) dX2_applyTo_58 rfl (by decide) (by assumption) (by first | exact a1 | exact a2 | exact a3) ?_
    refine kr_v1 (pc := 61) dX2_applyTo_61 rfl rfl (by assumption) (Nat.le_of_ble_eq_true rfl) rfl (x_placeOf (hS () (by omega)) ?_)
    show amT _ _ _ _ _ _
    refine kr_istore (pc := 64) dX2_applyTo_64 (show 4 ≤ _ from by simp) (by decide) ?_
    simp only [stl, List.tail_cons, List.tail_nil]
    refine kr_aload_n (pc := 66) dX2_applyTo_66 rfl ?_
    refine kr_geti (pc := 67) dX2_applyTo_67 rfl (by decide) (by assumption) (by first | exact a1 | exact a2 | exact a3) ?_
    refine kr_iconst (pc := 70) dX2_applyTo_70 (by decide) ?_
    refine kr_icmp_ne (pc := 71) dX2_applyTo_71 rfl (fun h71 => ?_) (fun h71 => ?_)
    · refine kr_iload (pc := 95) dX2_applyTo_95 rfl ?_
      refine kr_iconst (pc := 97) dX2_applyTo_97 (by decide) ?_
      refine kr_icmp_ne (pc := 98) dX2_applyTo_98 rfl (fun h98 => ?_) (fun h98 => ?_)
      · refine kr_aload_n (pc := 103) dX2_applyTo_103 rfl ?_
        refine kr_geti (pc := 104) dX2_applyTo_104 rfl (by decide) (by assumption) (by first | exact a1 | exact a2 | exact a3) ?_
        refine kr_iconst (pc := 107) dX2_applyTo_107 (by decide) ?_
        refine kr_icmp_ne (pc := 108) dX2_applyTo_108 rfl (fun h108 => ?_) (fun h108 => ?_)
        · refine kr_aload_n (pc := 120) dX2_applyTo_120 rfl ?_
          refine kr_geti (pc := 121) dX2_applyTo_121 rfl (by decide) (by assumption) (by first | exact a1 | exact a2 | exact a3) ?_
          refine kr_iconst (pc := 124) dX2_applyTo_124 (by decide) ?_
          refine kr_icmp_ne (pc := 125) dX2_applyTo_125 rfl (fun h125 => ?_) (fun h125 => ?_)
          · obtain ⟨p, x1, x2, x3, x4, x5, x6, x7⟩ := hE () (by omega) (by omega) (by omega)
            obtain ⟨x8, x9, x10⟩ := id x4
            refine kr_aload_n (pc := 137) dX2_applyTo_137 rfl ?_
            refine kr_aload_n (pc := 138) dX2_applyTo_138 rfl ?_
            refine kr_getr (pc := 139) dX2_applyTo_139 rfl rfl (by assumption) (by assumption) ?_
            refine kr_iload (pc := 142) dX2_applyTo_142 rfl ?_
            refine kr_aald (pc := 144) dX2_applyTo_144 (by assumption) (by decide) (by omega) (by omega) (by assumption) ?_
            refine kr_getr (pc := 145) dX2_applyTo_145 rfl rfl (by assumption) (by assumption) ?_
            refine kr_aload_n (pc := 148) dX2_applyTo_148 rfl ?_
            refine kr_geti (pc := 149) dX2_applyTo_149 rfl (by decide) (by assumption) (by first | exact a1 | exact a2 | exact a3) ?_
            refine kr_iconst (pc := 152) dX2_applyTo_152 (by decide) ?_
            refine kr_isub (pc := 153) dX2_applyTo_153 ⟨by omega, by omega⟩ ?_
            refine kr_v2 (pc := 154) dX2_applyTo_154 rfl rfl (by assumption) (Nat.le_of_ble_eq_true rfl) rfl rfl (x_setIn s1 a4 a5 x9 (by omega) (by decide) x6 (fun q154 => ?_) (fun q154 => ?_))
            · show amT _ _ _ _ _ _
              refine kr_ireturn (pc := 157) dX2_applyTo_157 rfl ?_
              exact x7 q154
            · show amT _ _ _ _ _ _
              refine kr_ireturn (pc := 157) dX2_applyTo_157 rfl ?_
              exact fin0 () (by omega) (by rw [apS4 (by omega) (by omega), if_pos q154])
          · refine kr_aload_n (pc := 128) dX2_applyTo_128 rfl ?_
            refine kr_aload_n (pc := 129) dX2_applyTo_129 rfl ?_
            refine kr_iload (pc := 130) dX2_applyTo_130 rfl ?_
            refine kr_iload_n (pc := 132) dX2_applyTo_132 rfl ?_
            refine kr_v3 (pc := 133) dX2_applyTo_133 rfl rfl (by assumption) (Nat.le_of_ble_eq_true rfl) rfl rfl rfl (x_moveIn (lo := lo) E (hS () (by omega)) (by omega) (o6 (by omega)) (fun q133 h' fr' S' => ?_) (fun q133 => ?_))
            · show amT _ _ _ _ _ _
              refine kr_ireturn (pc := 136) dX2_applyTo_136 rfl ?_
              (have hd2 : d = 3 := by omega)
              subst hd2
              exact fin () (by omega) _ h' (by rw [apS3 hb (by omega), if_neg q133]) fr' S'
            · show amT _ _ _ _ _ _
              refine kr_ireturn (pc := 136) dX2_applyTo_136 rfl ?_
              (have hd2 : d = 3 := by omega)
              subst hd2
              exact fin0 () (by omega) (by rw [apS3 hb (by omega), if_pos q133])
        · refine kr_aload_n (pc := 111) dX2_applyTo_111 rfl ?_
          refine kr_aload_n (pc := 112) dX2_applyTo_112 rfl ?_
          refine kr_iload (pc := 113) dX2_applyTo_113 rfl ?_
          refine kr_iload_n (pc := 115) dX2_applyTo_115 rfl ?_
          refine kr_v3 (pc := 116) dX2_applyTo_116 rfl rfl (by assumption) (Nat.le_of_ble_eq_true rfl) rfl rfl rfl (x_removeFrom (lo := lo) E (by omega) (hS () (by omega)) (by omega) (fun q116 h' fr' S' => ?_) (fun q116 => ?_))
          · show amT _ _ _ _ _ _
            refine kr_ireturn (pc := 119) dX2_applyTo_119 rfl ?_
            (have hd2 : d = 1 := by omega)
            subst hd2
            exact fin () (by omega) _ h' (by rw [apS1 hb (by omega), if_neg q116]) fr' S'
          · show amT _ _ _ _ _ _
            refine kr_ireturn (pc := 119) dX2_applyTo_119 rfl ?_
            (have hd2 : d = 1 := by omega)
            subst hd2
            exact fin0 () (by omega) (by rw [apS1 hb (by omega), if_pos q116])
      · refine kr_iconst (pc := 101) dX2_applyTo_101 (by decide) ?_
        refine kr_ireturn (pc := 102) dX2_applyTo_102 rfl ?_
        exact fin0 () (by omega) (apSn (by omega) (by omega))
    · refine kr_iload (pc := 74) dX2_applyTo_74 rfl ?_
      refine kr_iconst (pc := 76) dX2_applyTo_76 (by decide) ?_
      refine kr_icmp_ne (pc := 77) dX2_applyTo_77 rfl (fun h77 => ?_) (fun h77 => ?_)
      · refine kr_iconst (pc := 93) dX2_applyTo_93 (by decide) ?_
        refine kr_ireturn (pc := 94) dX2_applyTo_94 rfl ?_
        (have hd2 : d = 2 := by omega)
        subst hd2
        exact fin0 () (by omega) (by rw [apS2 hb, if_pos (by omega)])
      · refine kr_aload_n (pc := 80) dX2_applyTo_80 rfl ?_
        refine kr_aload_n (pc := 81) dX2_applyTo_81 rfl ?_
        refine kr_iload_n (pc := 82) dX2_applyTo_82 rfl ?_
        refine kr_v2 (pc := 83) dX2_applyTo_83 rfl rfl (by assumption) (Nat.le_of_ble_eq_true rfl) rfl rfl (x_addTo (lo := lo) E (by omega) (hS () (by omega)) (by omega) (o5 (by omega)) (fun q83 h' fr' S' => ?_) (fun q83 => ?_))
        · show amT _ _ _ _ _ _
          refine kr_if_eq (pc := 86) dX2_applyTo_86 rfl (fun h => absurd h (by decide)) (fun _ => ?_)
          refine kr_iconst (pc := 89) dX2_applyTo_89 (by decide) ?_
          refine kr_goto (pc := 90) dX2_applyTo_90 rfl ?_
          refine kr_ireturn (pc := 94) dX2_applyTo_94 rfl ?_
          (have hd2 : d = 2 := by omega)
          subst hd2
          exact fin () (by omega) _ h' (by rw [apS2 hb, if_neg (by omega)]) fr' S'
        · show amT _ _ _ _ _ _
          refine kr_if_eq (pc := 86) dX2_applyTo_86 rfl (fun _ => ?_) (fun h => absurd h (by decide))
          refine kr_iconst (pc := 93) dX2_applyTo_93 (by decide) ?_
          refine kr_ireturn (pc := 94) dX2_applyTo_94 rfl ?_
          (have hd2 : d = 2 := by omega)
          subst hd2
          exact fin0 () (by omega) (by rw [apS2 hb, if_pos (by omega)])
  · refine kr_aload_n (pc := 9) dX2_applyTo_9 rfl ?_
    refine kr_geti (pc := 10) dX2_applyTo_10 rfl (by decide) (by assumption) (by first | exact a1 | exact a2 | exact a3) ?_
    refine kr_iconst (pc := 13) dX2_applyTo_13 (by decide) ?_
    refine kr_icmp_ge (pc := 14) dX2_applyTo_14 rfl (fun h14 => by exfalso; omega) (fun h14 => ?_)
    obtain ⟨g1, g2, g3⟩ := hG () (by omega)
    refine kr_aload_n (pc := 17) dX2_applyTo_17 rfl ?_
    refine kr_aload_n (pc := 18) dX2_applyTo_18 rfl ?_
    refine kr_getr (pc := 19) dX2_applyTo_19 rfl rfl (by assumption) (by assumption) ?_
    refine kr_aload_n (pc := 22) dX2_applyTo_22 rfl ?_
    refine kr_geti (pc := 23) dX2_applyTo_23 rfl (by decide) (by assumption) (by first | exact a1 | exact a2 | exact a3) ?_
    refine kr_aald (pc := 26) dX2_applyTo_26 (by assumption) (by decide) (by omega) (by omega) (by assumption) ?_
    refine kr_aload_n (pc := 27) dX2_applyTo_27 rfl ?_
    refine kr_geti (pc := 28) dX2_applyTo_28 rfl (by decide) (by assumption) (by first | exact a1 | exact a2 | exact a3) ?_
    refine kr_bipush (pc := 31) dX2_applyTo_31 (by decide) ?_
    refine kr_isub (pc := 33) dX2_applyTo_33 ⟨by omega, by omega⟩ ?_
    refine kr_v2 (pc := 34) dX2_applyTo_34 rfl rfl (by assumption) (Nat.le_of_ble_eq_true rfl) rfl rfl (x_setIn s1 a4 a5 g2 (by omega) (by decide) g3 (fun q34 => ?_) (fun q34 => ?_))
    · show amT _ _ _ _ _ _
      refine kr_if_eq (pc := 37) dX2_applyTo_37 rfl (fun h => absurd h (by decide)) (fun _ => ?_)
      refine kr_iconst (pc := 40) dX2_applyTo_40 (by decide) ?_
      refine kr_goto (pc := 41) dX2_applyTo_41 rfl ?_
      refine kr_ireturn (pc := 45) dX2_applyTo_45 rfl ?_
      exact finG () (by omega) q34
    · show amT _ _ _ _ _ _
      refine kr_if_eq (pc := 37) dX2_applyTo_37 rfl (fun _ => ?_) (fun h => absurd h (by decide))
      refine kr_iconst (pc := 44) dX2_applyTo_44 (by decide) ?_
      refine kr_ireturn (pc := 45) dX2_applyTo_45 rfl ?_
      exact finG0 () (by omega) q34
end X8
