theorem apl_len2 {L : List Edt} {k s key x y : Int} {h : aH} {a : Nat} {q : Nat → Nat} (E : LiP h a (L ++ unl k s key x y) q) : (L ++ unl k s key x y).length ≤ L.length + 1 := by
  have := unl_len (k := k) (s := s) (key := key) (a := x) (b := y)
  rw [List.length_append]
  omega
section XD
variable {h : aH} {Q : aR → Prop} {a κ ρ : Nat} {L : List Edt} {q : Nat → Nat} {ca cb : Cfg}
theorem x_fill (H : LiB h a q) (S : ∃ p, SeB h (a + 2) p) (Ca : CfC h κ ca) (Cb : CfC h ρ cb) (oa : okC ca) (ob : okC cb) (hκ : κ + 48 ≤ a ∨ a + 250 ≤ κ) (hρ : ρ + 48 ≤ a ∨ a + 250 ≤ ρ)
    (kk : ∀ h', fro h h' a (a + 250) → LiP h' a (edL ca cb) q → (∃ p, SeB h' (a + 2) p) → Q (.inl none, h')) : amT mX3_fill 0 [vR a, vR κ, vR ρ] [] h Q := by
  have cell : ∀ (i j : Int) (tl : List aV) (g : aH) (L' : List Edt), 0 ≤ i ∧ i ≤ 2 → 0 ≤ j ∧ j ≤ 1 → fro h g a (a + 250) → LiP g a L' q → (∃ p, SeB g (a + 2) p) → L'.length < 78 →
      (∀ (g' : aH), fro h g' a (a + 250) → LiP g' a (L' ++ unl (7 + j) 0 i (ca.2 i.toNat j.toNat) (cb.2 i.toNat j.toNat)) q → (∃ p, SeB g' (a + 2) p) → amT mX3_fill 115 (vR a :: vR κ :: vR ρ :: vI i :: vI j :: tl) [] g' Q) →
      amT mX3_fill 86 (vR a :: vR κ :: vR ρ :: vI i :: vI j :: tl) [] g Q := by
    intro i j tl g L' hi hj fr Hg Sg hl k
    have A := Ca.ag (fr.ag (by omega))
    have B := Cb.ag (fr.ag (by omega))
    obtain ⟨a1, a2, a3, a4, a5, a6, a7⟩ := A.1
    obtain ⟨b1, b2, b3, b4, b5, b6, b7⟩ := B.1
    obtain ⟨x1, x2⟩ := a7 i.toNat (by omega)
    obtain ⟨y1, y2⟩ := b7 i.toNat (by omega)
    have x3 := A.2.2 i.toNat j.toNat (by omega) (by omega)
    have y3 := B.2.2 i.toNat j.toNat (by omega) (by omega)
    have s1 := Hg.1.1
    refine kr_aload_n (pc := 86) dX3_fill_86 rfl ?_
    refine kr_bipush (pc := 87) dX3_fill_87 (by decide) ?_
    refine kr_iload (pc := 89) dX3_fill_89 rfl ?_
    refine kr_iadd (pc := 91) dX3_fill_91 ⟨by omega, by omega⟩ ?_
    refine kr_iconst (pc := 92) dX3_fill_92 (by decide) ?_
    refine kr_iload_n (pc := 93) dX3_fill_93 rfl ?_
    refine kr_aload_n (pc := 94) dX3_fill_94 rfl ?_
    refine kr_getr (pc := 95) dX3_fill_95 rfl rfl (by assumption) (by assumption) ?_
    refine kr_iload_n (pc := 98) dX3_fill_98 rfl ?_
    refine kr_aald (pc := 99) dX3_fill_99 (by assumption) (by decide) (by omega) (by omega) (by assumption) ?_
    refine kr_iload (pc := 100) dX3_fill_100 rfl ?_
    refine kr_iald (pc := 102) dX3_fill_102 (by assumption) (by omega) (by omega) (by first | exact x3 | exact y3) ?_
    refine kr_aload_n (pc := 103) dX3_fill_103 rfl ?_
    refine kr_getr (pc := 104) dX3_fill_104 rfl rfl (by assumption) (by assumption) ?_
    refine kr_iload_n (pc := 107) dX3_fill_107 rfl ?_
    refine kr_aald (pc := 108) dX3_fill_108 (by assumption) (by decide) (by omega) (by omega) (by assumption) ?_
    refine kr_iload (pc := 109) dX3_fill_109 rfl ?_
    refine kr_iald (pc := 111) dX3_fill_111 (by assumption) (by omega) (by omega) (by first | exact x3 | exact y3) ?_
    refine kr_v5 (pc := 112) dX3_fill_112 rfl rfl (by assumption) (Nat.le_of_ble_eq_true rfl) rfl rfl rfl rfl rfl (x_noteIf Hg hl (by omega) (fun g' fr' Hg' => ?_))
    show amT _ _ _ _ _ _
    obtain ⟨p, P⟩ := Sg
    exact k g' (fr.tr fr'.fro) Hg' ⟨p, P.ag (fr'.ag (by omega))⟩
  have groups : ∀ (tl : List aV) (g : aH) (L' : List Edt), fro h g a (a + 250) → LiP g a L' q → (∃ p, SeB g (a + 2) p) → L'.length ≤ 72 → L' ++ grpL ca.2 cb.2 = edL ca cb → amT mX3_fill 70 (vR a :: vR κ :: vR ρ :: tl) [] g Q := by
    intro tl g L' fr Hg Sg hl hL
    have l0 := hl
    refine kr_iconst (pc := 70) dX3_fill_70 (by decide) ?_
    refine kr_istore_n (pc := 71) dX3_fill_71 (show 3 ≤ _ from by simp) (by decide) ?_
    simp only [stl, List.tail_cons, List.tail_nil]
    refine kr_iload_n (pc := 72) dX3_fill_72 rfl ?_
    refine kr_iconst (pc := 73) dX3_fill_73 (by decide) ?_
    refine kr_icmp_ge (pc := 74) dX3_fill_74 rfl (fun h => absurd h (by decide)) (fun _ => ?_)
    refine kr_iconst (pc := 77) dX3_fill_77 (by decide) ?_
    refine kr_istore (pc := 78) dX3_fill_78 (show 4 ≤ _ from by simp) (by decide) ?_
    simp only [stl, List.tail_cons, List.tail_nil]
    refine kr_iload (pc := 80) dX3_fill_80 rfl ?_
    refine kr_iconst (pc := 82) dX3_fill_82 (by decide) ?_
    refine kr_icmp_ge (pc := 83) dX3_fill_83 rfl (fun h => absurd h (by decide)) (fun _ => ?_)
    refine cell _ _ _ g _ (by decide) (by decide) fr Hg Sg (by omega) fun g1 fr1 H1 S1 => ?_
    have l1 := Nat.le_trans (apl_len2 H1) (Nat.succ_le_succ l0)
    refine kr_iinc (pc := 115) dX3_fill_115 rfl ⟨⟨by omega, by omega⟩, by decide, by decide⟩ ?_
    simp only [stl, List.tail_cons, List.tail_nil]
    refine kr_goto (pc := 118) dX3_fill_118 rfl ?_
    refine kr_iload (pc := 80) dX3_fill_80 rfl ?_
    refine kr_iconst (pc := 82) dX3_fill_82 (by decide) ?_
    refine kr_icmp_ge (pc := 83) dX3_fill_83 rfl (fun h => absurd h (by decide)) (fun _ => ?_)
    refine cell _ _ _ g1 _ (by decide) (by decide) fr1 H1 S1 (by omega) fun g2 fr2 H2 S2 => ?_
    have l2 := Nat.le_trans (apl_len2 H2) (Nat.succ_le_succ l1)
    refine kr_iinc (pc := 115) dX3_fill_115 rfl ⟨⟨by omega, by omega⟩, by decide, by decide⟩ ?_
    simp only [stl, List.tail_cons, List.tail_nil]
    refine kr_goto (pc := 118) dX3_fill_118 rfl ?_
    refine kr_iload (pc := 80) dX3_fill_80 rfl ?_
    refine kr_iconst (pc := 82) dX3_fill_82 (by decide) ?_
    refine kr_icmp_ge (pc := 83) dX3_fill_83 rfl (fun _ => ?_) (fun h => absurd h (by decide))
    refine kr_iinc (pc := 121) dX3_fill_121 rfl ⟨⟨by omega, by omega⟩, by decide, by decide⟩ ?_
    simp only [stl, List.tail_cons, List.tail_nil]
    refine kr_goto (pc := 124) dX3_fill_124 rfl ?_
    refine kr_iload_n (pc := 72) dX3_fill_72 rfl ?_
    refine kr_iconst (pc := 73) dX3_fill_73 (by decide) ?_
    refine kr_icmp_ge (pc := 74) dX3_fill_74 rfl (fun h => absurd h (by decide)) (fun _ => ?_)
    refine kr_iconst (pc := 77) dX3_fill_77 (by decide) ?_
    refine kr_istore (pc := 78) dX3_fill_78 (show 4 ≤ _ from by simp) (by decide) ?_
    simp only [stl, List.tail_cons, List.tail_nil]
    refine kr_iload (pc := 80) dX3_fill_80 rfl ?_
    refine kr_iconst (pc := 82) dX3_fill_82 (by decide) ?_
    refine kr_icmp_ge (pc := 83) dX3_fill_83 rfl (fun h => absurd h (by decide)) (fun _ => ?_)
    refine cell _ _ _ g2 _ (by decide) (by decide) fr2 H2 S2 (by omega) fun g3 fr3 H3 S3 => ?_
    have l3 := Nat.le_trans (apl_len2 H3) (Nat.succ_le_succ l2)
    refine kr_iinc (pc := 115) dX3_fill_115 rfl ⟨⟨by omega, by omega⟩, by decide, by decide⟩ ?_
    simp only [stl, List.tail_cons, List.tail_nil]
    refine kr_goto (pc := 118) dX3_fill_118 rfl ?_
    refine kr_iload (pc := 80) dX3_fill_80 rfl ?_
    refine kr_iconst (pc := 82) dX3_fill_82 (by decide) ?_
    refine kr_icmp_ge (pc := 83) dX3_fill_83 rfl (fun h => absurd h (by decide)) (fun _ => ?_)
    refine cell _ _ _ g3 _ (by decide) (by decide) fr3 H3 S3 (by omega) fun g4 fr4 H4 S4 => ?_
    have l4 := Nat.le_trans (apl_len2 H4) (Nat.succ_le_succ l3)
    refine kr_iinc (pc := 115) dX3_fill_115 rfl ⟨⟨by omega, by omega⟩, by decide, by decide⟩ ?_
    simp only [stl, List.tail_cons, List.tail_nil]
    refine kr_goto (pc := 118) dX3_fill_118 rfl ?_
    refine kr_iload (pc := 80) dX3_fill_80 rfl ?_
    refine kr_iconst (pc := 82) dX3_fill_82 (by decide) ?_
    refine kr_icmp_ge (pc := 83) dX3_fill_83 rfl (fun _ => ?_) (fun h => absurd h (by decide))
    refine kr_iinc (pc := 121) dX3_fill_121 rfl ⟨⟨by omega, by omega⟩, by decide, by decide⟩ ?_
    simp only [stl, List.tail_cons, List.tail_nil]
    refine kr_goto (pc := 124) dX3_fill_124 rfl ?_
    refine kr_iload_n (pc := 72) dX3_fill_72 rfl ?_
    refine kr_iconst (pc := 73) dX3_fill_73 (by decide) ?_
    refine kr_icmp_ge (pc := 74) dX3_fill_74 rfl (fun h => absurd h (by decide)) (fun _ => ?_)
    refine kr_iconst (pc := 77) dX3_fill_77 (by decide) ?_
    refine kr_istore (pc := 78) dX3_fill_78 (show 4 ≤ _ from by simp) (by decide) ?_
    simp only [stl, List.tail_cons, List.tail_nil]
    refine kr_iload (pc := 80) dX3_fill_80 rfl ?_
    refine kr_iconst (pc := 82) dX3_fill_82 (by decide) ?_
    refine kr_icmp_ge (pc := 83) dX3_fill_83 rfl (fun h => absurd h (by decide)) (fun _ => ?_)
    refine cell _ _ _ g4 _ (by decide) (by decide) fr4 H4 S4 (by omega) fun g5 fr5 H5 S5 => ?_
    have l5 := Nat.le_trans (apl_len2 H5) (Nat.succ_le_succ l4)
    refine kr_iinc (pc := 115) dX3_fill_115 rfl ⟨⟨by omega, by omega⟩, by decide, by decide⟩ ?_
    simp only [stl, List.tail_cons, List.tail_nil]
    refine kr_goto (pc := 118) dX3_fill_118 rfl ?_
    refine kr_iload (pc := 80) dX3_fill_80 rfl ?_
    refine kr_iconst (pc := 82) dX3_fill_82 (by decide) ?_
    refine kr_icmp_ge (pc := 83) dX3_fill_83 rfl (fun h => absurd h (by decide)) (fun _ => ?_)
    refine cell _ _ _ g5 _ (by decide) (by decide) fr5 H5 S5 (by omega) fun g6 fr6 H6 S6 => ?_
    have l6 := Nat.le_trans (apl_len2 H6) (Nat.succ_le_succ l5)
    refine kr_iinc (pc := 115) dX3_fill_115 rfl ⟨⟨by omega, by omega⟩, by decide, by decide⟩ ?_
    simp only [stl, List.tail_cons, List.tail_nil]
    refine kr_goto (pc := 118) dX3_fill_118 rfl ?_
    refine kr_iload (pc := 80) dX3_fill_80 rfl ?_
    refine kr_iconst (pc := 82) dX3_fill_82 (by decide) ?_
    refine kr_icmp_ge (pc := 83) dX3_fill_83 rfl (fun _ => ?_) (fun h => absurd h (by decide))
    refine kr_iinc (pc := 121) dX3_fill_121 rfl ⟨⟨by omega, by omega⟩, by decide, by decide⟩ ?_
    simp only [stl, List.tail_cons, List.tail_nil]
    refine kr_goto (pc := 124) dX3_fill_124 rfl ?_
    refine kr_iload_n (pc := 72) dX3_fill_72 rfl ?_
    refine kr_iconst (pc := 73) dX3_fill_73 (by decide) ?_
    refine kr_icmp_ge (pc := 74) dX3_fill_74 rfl (fun _ => ?_) (fun h => absurd h (by decide))
    refine kr_return (d0 := ()) (pc := 127) dX3_fill_127 rfl ?_
    refine kk g6 fr6 ?_ S6
    rw [← hL]
    unfold grpL
    simp only [List.append_assoc] at H6
    exact H6
  have secs : ∀ (d : Nat) (tl : List aV) (g : aH) (L' : List Edt), d ≤ 3 → fro h g a (a + 250) → LiP g a L' q → (∃ p, SeB g (a + 2) p) → L'.length ≤ 24 * (3 - d) → L' ++ rsS ca cb d = edL ca cb →
      amT mX3_fill 7 (vR a :: vR κ :: vR ρ :: vI ((3 - d : Nat) : Int) :: tl) [] g Q := by
    intro d
    induction d with
    | zero =>
      intro tl g L' _ fr Hg Sg hl hL
      refine kr_iload_n (pc := 7) dX3_fill_7 rfl ?_
      refine kr_iconst (pc := 8) dX3_fill_8 (by decide) ?_
      refine kr_icmp_ge (pc := 9) dX3_fill_9 rfl (fun _ => ?_) (fun h => by omega)
      exact groups _ g L' fr Hg Sg (by omega) hL
    | succ d ih =>
      intro tl g L' hd fr Hg Sg hl hL
      rw [show 3 - (d + 1) = 2 - d by omega] at *
      have hF := oa.1 (2 - d) (by omega)
      have hT := ob.1 (2 - d) (by omega)
      have A := Ca.ag (fr.ag (by omega))
      obtain ⟨a1, a2, a3, a4, a5, a6, a7⟩ := A.1
      have x1 : hrf g (κ + 1) ((2 - d : Nat) : Int).toNat = some (κ + 6 + 14 * (2 - d)) := a6 (2 - d) (by omega)
      obtain ⟨p, P⟩ := Sg
      obtain ⟨s1, s2, s3, s4, s5, s6, s7⟩ := Hg.1
      have s8 := P.1
      have hsl := secL_len (c := ((2 - d : Nat) : Int)) hF hT
      unfold secL at hsl
      rw [List.length_append, List.length_append] at hsl
      refine kr_iload_n (pc := 7) dX3_fill_7 rfl ?_
      refine kr_iconst (pc := 8) dX3_fill_8 (by decide) ?_
      refine kr_icmp_ge (pc := 9) dX3_fill_9 rfl (fun h => by omega) (fun _ => ?_)
      refine kr_aload_n (pc := 12) dX3_fill_12 rfl ?_
      refine kr_getr (pc := 13) dX3_fill_13 rfl rfl (by assumption) (by assumption) ?_
      refine kr_aload_n (pc := 16) dX3_fill_16 rfl ?_
      refine kr_getr (pc := 17) dX3_fill_17 rfl rfl (by assumption) (by assumption) ?_
      refine kr_iload_n (pc := 20) dX3_fill_20 rfl ?_
      refine kr_aald (pc := 21) dX3_fill_21 (by assumption) (by decide) (by omega) (by omega) (by assumption) ?_
      refine kr_v1 (pc := 22) dX3_fill_22 rfl rfl (by assumption) (Nat.le_of_ble_eq_true rfl) rfl (x_scopy P (A.2.1 (2 - d) (by omega)) (by omega) fun g1 fr1 S1 => ?_)
      show amT _ _ _ _ _ _
      have f1 : fro h g1 a (a + 250) := fr.tr (fr1.up (by omega) (by omega))
      have H1 : LiP g1 a L' q := Hg.ag (fr1.ag (by omega)) (fr1.ag (by omega))
      have B1 := Cb.ag (f1.ag (by omega))
      obtain ⟨b1, b2, b3, b4, b5, b6, b7⟩ := B1.1
      have y1 : hrf g1 (ρ + 1) ((2 - d : Nat) : Int).toNat = some (ρ + 6 + 14 * (2 - d)) := b6 (2 - d) (by omega)
      have t1 := H1.1.1
      refine kr_aload_n (pc := 25) dX3_fill_25 rfl ?_
      refine kr_iload_n (pc := 26) dX3_fill_26 rfl ?_
      refine kr_aload_n (pc := 27) dX3_fill_27 rfl ?_
      refine kr_getr (pc := 28) dX3_fill_28 rfl rfl (by assumption) (by assumption) ?_
      refine kr_iload_n (pc := 31) dX3_fill_31 rfl ?_
      refine kr_aald (pc := 32) dX3_fill_32 (by assumption) (by decide) (by omega) (by omega) (by assumption) ?_
      refine kr_v2 (pc := 33) dX3_fill_33 rfl rfl (by assumption) (Nat.le_of_ble_eq_true rfl) rfl rfl (x_noteRemovals H1 S1 (B1.2.1 (2 - d) (by omega)) (by omega) (by omega) fun g2 fr2 H2 S2 => ?_)
      show amT _ _ _ _ _ _
      have f2 : fro h g2 a (a + 250) := f1.tr fr2
      have B2 := Cb.ag (f2.ag (by omega))
      obtain ⟨c1, c2, c3, c4, c5, c6, c7⟩ := B2.1
      have z1 : hrf g2 (ρ + 1) ((2 - d : Nat) : Int).toNat = some (ρ + 6 + 14 * (2 - d)) := c6 (2 - d) (by omega)
      have t2 := H2.1.1
      refine kr_aload_n (pc := 36) dX3_fill_36 rfl ?_
      refine kr_iload_n (pc := 37) dX3_fill_37 rfl ?_
      refine kr_aload_n (pc := 38) dX3_fill_38 rfl ?_
      refine kr_getr (pc := 39) dX3_fill_39 rfl rfl (by assumption) (by assumption) ?_
      refine kr_iload_n (pc := 42) dX3_fill_42 rfl ?_
      refine kr_aald (pc := 43) dX3_fill_43 (by assumption) (by decide) (by omega) (by omega) (by assumption) ?_
      refine kr_v2 (pc := 44) dX3_fill_44 rfl rfl (by assumption) (Nat.le_of_ble_eq_true rfl) rfl rfl (x_notePlaces H2 S2 (B2.2.1 (2 - d) (by omega)) hT (rmv_PI hF.2.1) (by omega) (by rw [List.length_append]; omega) fun g3 fr3 H3 S3 => ?_)
      show amT _ _ _ _ _ _
      have f3 : fro h g3 a (a + 250) := f2.tr fr3
      have A3 := Ca.ag (f3.ag (by omega))
      have B3 := Cb.ag (f3.ag (by omega))
      obtain ⟨d1, d2, d3, d4, d5, d6, d7⟩ := A3.1
      obtain ⟨e1, e2, e3, e4, e5, e6, e7⟩ := B3.1
      have u1 : hrf g3 (κ + 1) ((2 - d : Nat) : Int).toNat = some (κ + 6 + 14 * (2 - d)) := d6 (2 - d) (by omega)
      have u2 : hrf g3 (ρ + 1) ((2 - d : Nat) : Int).toNat = some (ρ + 6 + 14 * (2 - d)) := e6 (2 - d) (by omega)
      have t3 := H3.1.1
      refine kr_aload_n (pc := 47) dX3_fill_47 rfl ?_
      refine kr_iload_n (pc := 48) dX3_fill_48 rfl ?_
      refine kr_aload_n (pc := 49) dX3_fill_49 rfl ?_
      refine kr_getr (pc := 50) dX3_fill_50 rfl rfl (by assumption) (by assumption) ?_
      refine kr_iload_n (pc := 53) dX3_fill_53 rfl ?_
      refine kr_aald (pc := 54) dX3_fill_54 (by assumption) (by decide) (by omega) (by omega) (by assumption) ?_
      refine kr_aload_n (pc := 55) dX3_fill_55 rfl ?_
      refine kr_getr (pc := 56) dX3_fill_56 rfl rfl (by assumption) (by assumption) ?_
      refine kr_iload_n (pc := 59) dX3_fill_59 rfl ?_
      refine kr_aald (pc := 60) dX3_fill_60 (by assumption) (by decide) (by omega) (by omega) (by assumption) ?_
      refine kr_v3 (pc := 61) dX3_fill_61 rfl rfl (by assumption) (Nat.le_of_ble_eq_true rfl) rfl rfl rfl (x_noteSettings H3 (A3.2.1 (2 - d) (by omega)) (B3.2.1 (2 - d) (by omega)) (by omega) (by omega) (by rw [List.length_append, List.length_append]; omega) fun g4 fr4 H4 => ?_)
      show amT _ _ _ _ _ _
      have hsx : (L' ++ (rmv ((2 - d : Nat) : Int) (cb.1 (2 - d)) (ca.1 (2 - d)).length (ca.1 (2 - d))).1 ++ (plc ((2 - d : Nat) : Int) (cb.1 (2 - d)) (cb.1 (2 - d)).length 0 (rmv ((2 - d : Nat) : Int) (cb.1 (2 - d)) (ca.1 (2 - d)).length (ca.1 (2 - d))).2).1 ++ stA ((2 - d : Nat) : Int) (ca.1 (2 - d)) (cb.1 (2 - d)) 10) = L' ++ secL ((2 - d : Nat) : Int) (ca.1 (2 - d)) (cb.1 (2 - d)) := by
        unfold secL
        simp only [List.append_assoc]
      rw [hsx] at H4
      refine kr_iinc (pc := 64) dX3_fill_64 rfl ⟨⟨by omega, by omega⟩, by decide, by decide⟩ ?_
      simp only [stl, List.tail_cons, List.tail_nil]
      refine kr_goto (pc := 67) dX3_fill_67 rfl ?_
      rw [show ((2 - d : Nat) : Int) + 1 = ((3 - d : Nat) : Int) by omega]
      obtain ⟨l3, p3, P3, _⟩ := S3
      have hsl2 := secL_len (c := ((2 - d : Nat) : Int)) hF hT
      refine ih _ g4 _ (by omega) (f3.tr fr4.fro) H4 ⟨p3, P3.ag (fr4.ag (by omega))⟩ (by rw [List.length_append]; omega) ?_
      rw [← hL, List.append_assoc]
      rfl
  obtain ⟨a1, a2, a3, a4, a5, a6, a7⟩ := id H
  refine kr_aload_n (pc := 0) dX3_fill_0 rfl ?_
  refine kr_iconst (pc := 1) dX3_fill_1 (by decide) ?_
  refine kr_puti (pc := 2) dX3_fill_2 rfl (Or.inl rfl) (by decide) (by assumption) ?_
  refine kr_iconst (pc := 5) dX3_fill_5 (by decide) ?_
  refine kr_istore_n (pc := 6) dX3_fill_6 (show 3 ≤ _ from by simp) (by decide) ?_
  simp only [stl, List.tail_cons, List.tail_nil]
  obtain ⟨p, P⟩ := S
  refine secs 3 [] _ [] (Nat.le_refl _) (hwi_fro (b := a + 250) (by omega) (by omega)) ⟨⟨a1, a2, a3, a4, a5, a6, a7⟩, up2_at, Nat.zero_le _, fun i e he => by cases he⟩ ⟨p, P⟩ (Nat.zero_le _) rfl
theorem x_applyAll {lo : Int} {b : Bool} {c : Cfg} (H : LiP h a L q) (o : ∀ e, e ∈ L → okEd e) (C : CfC h κ c) (oc : okC c) (hb : lob lo b) (hκ : κ + 48 ≤ a ∨ a + 250 ≤ κ) (k1 : ∀ (c' : Cfg) (h' : aH), apA b L c = some c' → fro h h' κ (κ + 48) → CfC h' κ c' → Q (.inl (some (vI 1)), h'))
    (k0 : ∀ (c' : Cfg) (h' : aH), apA b L c = none → fro h h' κ (κ + 48) → CfC h' κ c' → Q (.inl (some (vI 0)), h')) : amT mX3_applyTo 0 [vR a, vR κ, vI lo] [] h Q := by
  have loop : ∀ (d i : Nat) (g : aH) (c1 : Cfg), i + d = L.length → fro h g κ (κ + 48) → CfC g κ c1 → okC c1 → apA b (L.drop i) c1 = apA b L c → amT mX3_applyTo 2 [vR a, vR κ, vI lo, vI (i : Int)] [] g Q := by
    intro d
    induction d with
    | zero =>
      intro i g c1 hi fr Cg og hap
      obtain ⟨⟨a1, a2, a3, a4, a5, a6, a7⟩, b1, b2, b3⟩ := H.ag (fr.ag (c := a) (d := a + 2) (by omega)) (fr.ag (c := a + 16) (d := a + 250) (by omega))
      rw [List.drop_eq_nil_of_le (by omega)] at hap
      refine kr_iload_n (pc := 2) dX3_applyTo_2 rfl ?_
      refine kr_aload_n (pc := 3) dX3_applyTo_3 rfl ?_
      refine kr_geti (pc := 4) dX3_applyTo_4 rfl (by decide) (by assumption) b1 ?_
      refine kr_icmp_ge (pc := 7) dX3_applyTo_7 rfl (fun h7 => ?_) (fun h7 => by exfalso; omega)
      refine kr_iconst (pc := 32) dX3_applyTo_32 (by decide) ?_
      refine kr_ireturn (pc := 33) dX3_applyTo_33 rfl ?_
      exact k1 c1 g hap.symm fr Cg
    | succ d ih =>
      intro i g c1 hi fr Cg og hap
      obtain ⟨⟨a1, a2, a3, a4, a5, a6, a7⟩, b1, b2, b3⟩ := H.ag (fr.ag (c := a) (d := a + 2) (by omega)) (fr.ag (c := a + 16) (d := a + 250) (by omega))
      obtain ⟨e, he⟩ : ∃ e, L[i]? = some e := ⟨_, List.getElem?_eq_getElem (by omega)⟩
      obtain ⟨x1, x2⟩ := a5 i (by omega)
      have x3 : hrf g (a + 1) ((i : Nat) : Int).toNat = some (a + 16 + 3 * q i) := x1
      have x4 := (a7 _ x2).1
      have oe := o e (List.mem_of_getElem? he)
      rw [apA_step he] at hap
      refine kr_iload_n (pc := 2) dX3_applyTo_2 rfl ?_
      refine kr_aload_n (pc := 3) dX3_applyTo_3 rfl ?_
      refine kr_geti (pc := 4) dX3_applyTo_4 rfl (by decide) (by assumption) b1 ?_
      refine kr_icmp_ge (pc := 7) dX3_applyTo_7 rfl (fun h7 => by exfalso; omega) (fun h7 => ?_)
      refine kr_aload_n (pc := 10) dX3_applyTo_10 rfl ?_
      refine kr_getr (pc := 11) dX3_applyTo_11 rfl rfl (by assumption) (by assumption) ?_
      refine kr_iload_n (pc := 14) dX3_applyTo_14 rfl ?_
      refine kr_aald (pc := 15) dX3_applyTo_15 (by assumption) (by decide) (by omega) (by omega) (by assumption) ?_
      refine kr_aload_n (pc := 16) dX3_applyTo_16 rfl ?_
      refine kr_iload_n (pc := 17) dX3_applyTo_17 rfl ?_
      refine kr_v2 (pc := 18) dX3_applyTo_18 rfl rfl (by assumption) (Nat.le_of_ble_eq_true rfl) rfl rfl (x_applyTo (b3 i e he) oe Cg og hb (by omega) (fun c2 g2 e2 fr2 C2 => ?_) (fun e2 => ?_))
      · show amT _ _ _ _ _ _
        refine kr_if_ne (pc := 21) dX3_applyTo_21 rfl (fun _ => ?_) (fun h => absurd h (by decide))
        refine kr_iinc (pc := 26) dX3_applyTo_26 rfl ⟨⟨by omega, by omega⟩, by decide, by decide⟩ ?_
        simp only [stl, List.tail_cons, List.tail_nil]
        refine kr_goto (pc := 29) dX3_applyTo_29 rfl ?_
        rw [e2] at hap
        exact ih (i + 1) g2 c2 (by omega) (fr.tr fr2) C2 (ap1_ok oe og e2) hap
      · show amT _ _ _ _ _ _
        refine kr_if_ne (pc := 21) dX3_applyTo_21 rfl (fun h => absurd h (by decide)) (fun _ => ?_)
        refine kr_iconst (pc := 24) dX3_applyTo_24 (by decide) ?_
        refine kr_ireturn (pc := 25) dX3_applyTo_25 rfl ?_
        rw [e2] at hap
        exact k0 c1 g hap.symm fr Cg
  refine kr_iconst (pc := 0) dX3_applyTo_0 (by decide) ?_
  refine kr_istore_n (pc := 1) dX3_applyTo_1 (show 3 ≤ _ from by simp) (by decide) ?_
  simp only [stl, List.tail_cons, List.tail_nil]
  exact loop L.length 0 h c (by omega) fro.rf C oc (by rw [List.drop_zero])
end XD
