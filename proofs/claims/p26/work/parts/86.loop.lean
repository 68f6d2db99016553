/-! THE LAW'S LOOP, and its run from its entry -/
section YH
variable {z b L : Nat} {Q : aR → Prop}
theorem lw_loop {T : Nat} (hT : T ≤ 59) (k : ∀ h, hnx h ≤ z + 2100 → hks h ≤ 9000 → Q (.inl (some (vI 1)), h)) : ∀ (d n : Nat) (S : St) (h : aH) (tl : List aV), n + d = T → LI z b L S n h → amT mL_law 66 (vR b :: vR z :: vI (S.2.1 0 + 2 * S.2.1 1) :: vI 1 :: vI (T : Int) :: vI (n : Int) :: tl) [] h Q := by
  intro d
  induction d with
  | zero =>
    intro n S h tl hn J
    obtain ⟨HS, H, sb, n1, n2, n3⟩ := id J
    have hx := H.1.1
    have hr := HS.2.2.1
    refine kr_iload (pc := 66) dL_law_66 rfl ?_
    refine kr_iload (pc := 68) dL_law_68 rfl ?_
    refine kr_icmp_ge (pc := 70) dL_law_70 rfl (fun h70 => ?_) (fun h70 => by exfalso; omega)
    refine kr_iload_n (pc := 669) dL_law_669 rfl ?_
    refine kr_if_eq (pc := 670) dL_law_670 rfl (fun h => absurd h (by decide)) (fun _ => ?_)
    refine kr_aload_n (pc := 673) dL_law_673 rfl ?_
    refine kr_bipush (pc := 674) dL_law_674 (by decide) ?_
    refine kr_aload_n (pc := 676) dL_law_676 rfl ?_
    refine kr_v0 (pc := 677) dL_law_677 rfl rfl (by assumption) (Nat.le_of_ble_eq_true rfl) (q_running H HS rfl ?_)
    show amT _ _ _ _ _ _
    refine kr_iadd (pc := 680) dL_law_680 ⟨by omega, by omega⟩ ?_
    refine kr_s2 (pc := 681) dL_law_681 rfl rfl (Nat.le_of_ble_eq_true rfl) rfl rfl (l_shape H HS (slt_v (Nat.le_refl _)) (by omega) (by omega) (fun h681 f681 D681 => ?_))
    show amT _ _ _ _ _ _
    have hx681 := D681.1.1
    refine kr_if_eq (pc := 684) dL_law_684 rfl (fun h => absurd h (by decide)) (fun _ => ?_)
    refine kr_aload_n (pc := 687) dL_law_687 rfl ?_
    refine kr_iconst (pc := 688) dL_law_688 (by decide) ?_
    refine kr_aload_n (pc := 689) dL_law_689 rfl ?_
    refine kr_v0 (pc := 690) dL_law_690 rfl rfl (by assumption) (Nat.le_of_ble_eq_true rfl) (q_running D681 HS rfl ?_)
    show amT _ _ _ _ _ _
    refine kr_s3 (pc := 693) dL_law_693 rfl rfl (Nat.le_of_ble_eq_true rfl) rfl rfl rfl (l_leads (a := 0) D681 HS (Nat.zero_le _) (Nat.le_refl _) (fun h693 S693 C693 o693 f693 D693 => ?_))
    show amT _ _ _ _ _ _
    refine kr_if_eq (pc := 696) dL_law_696 rfl (fun h => absurd h (by decide)) (fun _ => ?_)
    refine kr_iconst (pc := 699) dL_law_699 (by decide) ?_
    refine kr_goto (pc := 700) dL_law_700 rfl ?_
    refine kr_ireturn (pc := 704) dL_law_704 rfl ?_
    exact k h693 (by rw [(f681.tr f693).2.1]; omega) (by rw [(f681.tr f693).2.2.1]; omega)
  | succ d ih =>
    intro n S h tl hn J
    obtain ⟨HS, H, sb, n1, n2, n3⟩ := id J
    have hx := H.1.1
    have bk : ∀ h' S' tl', LI z b L S' (n + 1) h' → amT mL_law 663 (vR b :: vR z :: vI (S'.2.1 0 + 2 * S'.2.1 1) :: vI 1 :: vI (T : Int) :: vI (n : Int) :: tl') [] h' Q := fun h' S' tl' J' => by
      refine kr_iinc (pc := 663) dL_law_663 rfl ⟨⟨by omega, by omega⟩, by decide, by decide⟩ ?_
      simp only [stl, List.tail_cons, List.tail_nil]
      refine kr_goto (pc := 666) dL_law_666 rfl ?_
      exact ih (n + 1) S' h' tl' (by omega) J'
    refine kr_iload (pc := 66) dL_law_66 rfl ?_
    refine kr_iload (pc := 68) dL_law_68 rfl ?_
    refine kr_icmp_ge (pc := 70) dL_law_70 rfl (fun h70 => by exfalso; omega) (fun h70 => ?_)
    refine kr_iload_n (pc := 73) dL_law_73 rfl ?_
    refine kr_if_eq (pc := 74) dL_law_74 rfl (fun h => absurd h (by decide)) (fun _ => ?_)
    refine kr_aload_n (pc := 77) dL_law_77 rfl ?_
    refine kr_iconst (pc := 78) dL_law_78 (by decide) ?_
    refine kr_iload (pc := 79) dL_law_79 rfl ?_
    refine kr_iadd (pc := 81) dL_law_81 ⟨by omega, by omega⟩ ?_
    refine kr_s2 (pc := 82) dL_law_82 rfl rfl (Nat.le_of_ble_eq_true rfl) rfl rfl (l_cell sb (by omega) (fun v => ?_))
    show amT _ _ _ _ _ _
    refine kr_istore (pc := 85) dL_law_85 (show 6 ≤ _ from by simp) (by decide) ?_
    simp only [stl, List.tail_cons, List.tail_nil]
    refine kr_iload (pc := 87) dL_law_87 rfl ?_
    refine kr_iconst (pc := 89) dL_law_89 (by decide) ?_
    refine kr_s2 (pc := 90) dL_law_90 rfl rfl (Nat.le_of_ble_eq_true rfl) rfl rfl (l_low (by decide) ?_)
    show amT _ _ _ _ _ _
    obtain ⟨c, hc⟩ : ∃ c, c = lw v 2 := ⟨_, rfl⟩
    rw [← hc]
    have hc2 : 0 ≤ c ∧ c ≤ 1 := by have := lw_rng (x := v) (n := 2) (by decide); omega
    refine kr_istore (pc := 93) dL_law_93 (show 7 ≤ _ from by simp) (by decide) ?_
    simp only [stl, List.tail_cons, List.tail_nil]
    refine kr_iload (pc := 95) dL_law_95 rfl ?_
    refine kr_bipush (pc := 97) dL_law_97 (by decide) ?_
    refine kr_ishr (pc := 99) dL_law_99 ?_
    refine kr_bipush (pc := 100) dL_law_100 (by decide) ?_
    refine kr_s2 (pc := 102) dL_law_102 rfl rfl (Nat.le_of_ble_eq_true rfl) rfl rfl (l_low (by decide) ?_)
    show amT _ _ _ _ _ _
    refine kr_istore (pc := 105) dL_law_105 (show 8 ≤ _ from by simp) (by decide) ?_
    simp only [stl, List.tail_cons, List.tail_nil]
    refine kr_iload_n (pc := 107) dL_law_107 rfl ?_
    refine kr_iload (pc := 108) dL_law_108 rfl ?_
    refine kr_ishr (pc := 110) dL_law_110 ?_
    refine kr_iconst (pc := 111) dL_law_111 (by decide) ?_
    refine kr_iand (pc := 112) dL_law_112 ?_
    rw [op_at HS hc2]
    refine kr_if_eq (pc := 113) dL_law_113 rfl (fun h113 => ?_) (fun h113 => ?_)
    · exact lc_open J hc2 bk
    · refine kr_iload (pc := 116) dL_law_116 rfl ?_
      refine kr_iconst (pc := 118) dL_law_118 (by decide) ?_
      refine kr_icmp_ge (pc := 119) dL_law_119 rfl (fun h119 => ?_) (fun h119 => ?_)
      · refine kr_iload (pc := 167) dL_law_167 rfl ?_
        refine kr_bipush (pc := 169) dL_law_169 (by decide) ?_
        refine kr_icmp_ge (pc := 171) dL_law_171 rfl (fun h171 => ?_) (fun h171 => ?_)
        · refine kr_iload (pc := 205) dL_law_205 rfl ?_
          refine kr_bipush (pc := 207) dL_law_207 (by decide) ?_
          refine kr_icmp_ge (pc := 209) dL_law_209 rfl (fun h209 => ?_) (fun h209 => ?_)
          · refine kr_iload (pc := 357) dL_law_357 rfl ?_
            refine kr_bipush (pc := 359) dL_law_359 (by decide) ?_
            refine kr_icmp_ge (pc := 361) dL_law_361 rfl (fun h361 => ?_) (fun h361 => ?_)
            · refine kr_iload (pc := 404) dL_law_404 rfl ?_
              refine kr_bipush (pc := 406) dL_law_406 (by decide) ?_
              refine kr_icmp_ge (pc := 408) dL_law_408 rfl (fun h408 => ?_) (fun h408 => ?_)
              · refine kr_iload (pc := 552) dL_law_552 rfl ?_
                refine kr_bipush (pc := 554) dL_law_554 (by decide) ?_
                refine kr_icmp_ge (pc := 556) dL_law_556 rfl (fun h556 => ?_) (fun h556 => ?_)
                · exact lc_leads J bk
                · refine kr_iload (pc := 559) dL_law_559 rfl ?_
                  refine kr_iconst (pc := 561) dL_law_561 (by decide) ?_
                  refine kr_ishr (pc := 562) dL_law_562 ?_
                  refine kr_iconst (pc := 563) dL_law_563 (by decide) ?_
                  refine kr_s2 (pc := 564) dL_law_564 rfl rfl (Nat.le_of_ble_eq_true rfl) rfl rfl (l_low (by decide) ?_)
                  show amT _ _ _ _ _ _
                  refine kr_if_ne (pc := 567) dL_law_567 rfl (fun h567 => ?_) (fun h567 => ?_)
                  · exact lc_leads J bk
                  · refine kr_iload (pc := 570) dL_law_570 rfl ?_
                    refine kr_bipush (pc := 572) dL_law_572 (by decide) ?_
                    refine kr_icmp_ge (pc := 574) dL_law_574 rfl (fun h574 => ?_) (fun h574 => ?_)
                    · exact lc_leads J bk
                    · exact lc_rule J (by omega) bk
              · exact (if hw : S.2.2.2.2.1 = -1 then lc_adv1 J hw bk else if hm : S.2.2.2.2.1 ≤ 1 + lw (am_bw 4 v 3) 20 then lc_adv2 J hw hm bk else lc_adv3 J hw (by omega) bk)
            · refine kr_aload_n (pc := 364) dL_law_364 rfl ?_
              refine kr_v0 (pc := 365) dL_law_365 rfl rfl (by assumption) (Nat.le_of_ble_eq_true rfl) (q_waiting H HS rfl ?_)
              show amT _ _ _ _ _ _
              refine kr_iconst (pc := 368) dL_law_368 (by decide) ?_
              refine kr_icmp_eq (pc := 369) dL_law_369 rfl (fun h369 => ?_) (fun h369 => ?_)
              · refine kr_iload (pc := 404) dL_law_404 rfl ?_
                refine kr_bipush (pc := 406) dL_law_406 (by decide) ?_
                refine kr_icmp_ge (pc := 408) dL_law_408 rfl (fun h408 => ?_) (fun h408 => ?_)
                · refine kr_iload (pc := 552) dL_law_552 rfl ?_
                  refine kr_bipush (pc := 554) dL_law_554 (by decide) ?_
                  refine kr_icmp_ge (pc := 556) dL_law_556 rfl (fun h556 => ?_) (fun h556 => ?_)
                  · exact lc_leads J bk
                  · refine kr_iload (pc := 559) dL_law_559 rfl ?_
                    refine kr_iconst (pc := 561) dL_law_561 (by decide) ?_
                    refine kr_ishr (pc := 562) dL_law_562 ?_
                    refine kr_iconst (pc := 563) dL_law_563 (by decide) ?_
                    refine kr_s2 (pc := 564) dL_law_564 rfl rfl (Nat.le_of_ble_eq_true rfl) rfl rfl (l_low (by decide) ?_)
                    show amT _ _ _ _ _ _
                    refine kr_if_ne (pc := 567) dL_law_567 rfl (fun h567 => ?_) (fun h567 => ?_)
                    · exact lc_leads J bk
                    · refine kr_iload (pc := 570) dL_law_570 rfl ?_
                      refine kr_bipush (pc := 572) dL_law_572 (by decide) ?_
                      refine kr_icmp_ge (pc := 574) dL_law_574 rfl (fun h574 => ?_) (fun h574 => ?_)
                      · exact lc_leads J bk
                      · exact lc_rule J (by omega) bk
                · exact (if hw : S.2.2.2.2.1 = -1 then lc_adv1 J hw bk else if hm : S.2.2.2.2.1 ≤ 1 + lw (am_bw 4 v 3) 20 then lc_adv2 J hw hm bk else lc_adv3 J hw (by omega) bk)
              · exact lc_confirm J h369 bk
          · exact lc_commit J hc2 bk
        · exact lc_changes J hc2 (by have := (HS.2.1 c.toNat (by omega)).1; omega) bk
      · exact lc_open J hc2 bk
end YH
theorem lw_run {b L z : Nat} {xs : Nat → Int32} (hb : b < z) (hL : L ≤ 260) : amT mL_law 0 [vR b] [] (hstart b L z xs) (fun r => r.1 = .inl (some (vI 1)) ∧ hnx r.2 ≤ z + 864591 ∧ hks r.2 ≤ 6507926) := by
  have e1 : hnx (hstart b L z xs) = z := rfl
  have e2 : hks (hstart b L z xs) = 0 := rfl
  have e3 : hsh (hstart b L z xs) b = (50, L) := if_pos rfl
  have F : Fre (hstart b L z xs) := fun y hy k => if_neg (by have : z ≤ y := hy; omega)
  generalize hstart b L z xs = g at *
  refine kr_new (pc := 0) dL_law_0 dL_law_4 rfl ?_
  refine kr_dup (pc := 3) dL_law_3 rfl ?_
  refine kr_i0 (pc := 4) dL_law_4 rfl (by decide) rfl (Nat.le_of_ble_eq_true rfl) (i_desk (x := hnx g) hsh_nw_at rfl F.nw (fun j => F _ (Nat.le_refl _) j) (fun g1 f1 D1 => ?_))
  show amT _ _ _ _ _ _
  obtain ⟨f11, f12, f13, F1⟩ := f1
  have k1 : hks (hnw g (7 + 1) (am_fN 7)) = hks g + 10 := rfl
  rw [e1] at f11 f13 D1
  have sb : hsh g1 b = (50, L) := ((f13 b hb).1.trans (hsh_nw_ne (by omega))).trans e3
  have hx := D1.1.1
  rw [e1]
  refine kr_astore_n (pc := 7) dL_law_7 (show 1 ≤ _ from by simp) (by decide) ?_
  simp only [stl, List.tail_cons, List.tail_nil]
  refine kr_iconst (pc := 8) dL_law_8 (by decide) ?_
  refine kr_istore_n (pc := 9) dL_law_9 (show 2 ≤ _ from by simp) (by decide) ?_
  simp only [stl, List.tail_cons, List.tail_nil]
  refine kr_aload_n (pc := 10) dL_law_10 rfl ?_
  refine kr_v0 (pc := 11) dL_law_11 rfl rfl (by assumption) (Nat.le_of_ble_eq_true rfl) (q_running D1 okS0 (r := 0) rfl ?_)
  show amT _ _ _ _ _ _
  refine kr_if_ne (pc := 14) dL_law_14 rfl (fun h => absurd h (by decide)) (fun _ => ?_)
  refine kr_aload_n (pc := 17) dL_law_17 rfl ?_
  refine kr_v0 (pc := 18) dL_law_18 rfl rfl (by assumption) (Nat.le_of_ble_eq_true rfl) (q_waiting D1 okS0 (r := -1) rfl ?_)
  show amT _ _ _ _ _ _
  refine kr_iconst (pc := 21) dL_law_21 (by decide) ?_
  refine kr_icmp_ne (pc := 22) dL_law_22 rfl (fun h => absurd h (by decide)) (fun _ => ?_)
  refine kr_aload_n (pc := 25) dL_law_25 rfl ?_
  refine kr_bipush (pc := 26) dL_law_26 (by decide) ?_
  refine kr_s2 (pc := 28) dL_law_28 rfl rfl (Nat.le_of_ble_eq_true rfl) rfl rfl (l_shape D1 okS0 (n := 3) (slt_v (S := S0) (a := 0) (Nat.le_refl _)) (by decide) (by decide) (fun h28 f28 D28 => ?_))
  show amT _ _ _ _ _ _
  have hx28 := D28.1.1
  refine kr_if_eq (pc := 31) dL_law_31 rfl (fun h => absurd h (by decide)) (fun _ => ?_)
  refine kr_aload_n (pc := 34) dL_law_34 rfl ?_
  refine kr_iconst (pc := 35) dL_law_35 (by decide) ?_
  refine kr_iconst (pc := 36) dL_law_36 (by decide) ?_
  refine kr_s3 (pc := 37) dL_law_37 rfl rfl (Nat.le_of_ble_eq_true rfl) rfl rfl rfl (l_leads (a := 0) (b := 0) D28 okS0 (Nat.zero_le _) (Nat.zero_le _) (fun h37 S37 C37 o37 f37 D37 => ?_))
  show amT _ _ _ _ _ _
  have fx := f28.tr f37
  have sb2 : hsh h37 b = (50, L) := by rw [fx.1]; exact sb
  refine kr_if_eq (pc := 40) dL_law_40 rfl (fun h => absurd h (by decide)) (fun _ => ?_)
  refine kr_iconst (pc := 43) dL_law_43 (by decide) ?_
  refine kr_goto (pc := 44) dL_law_44 rfl ?_
  refine kr_istore_n (pc := 48) dL_law_48 (show 3 ≤ _ from by simp) (by decide) ?_
  simp only [stl, List.tail_cons, List.tail_nil]
  refine kr_iconst (pc := 49) dL_law_49 (by decide) ?_
  refine kr_aload_n (pc := 50) dL_law_50 rfl ?_
  refine kr_iconst (pc := 51) dL_law_51 (by decide) ?_
  refine kr_s2 (pc := 52) dL_law_52 rfl rfl (Nat.le_of_ble_eq_true rfl) rfl rfl (l_cell sb2 (by decide) (fun v => ?_))
  show amT _ _ _ _ _ _
  refine kr_bipush (pc := 55) dL_law_55 (by decide) ?_
  refine kr_s2 (pc := 57) dL_law_57 rfl rfl (Nat.le_of_ble_eq_true rfl) rfl rfl (l_low (by decide) ?_)
  show amT _ _ _ _ _ _
  have hT0 := lw_rng (x := v) (n := 55) (by decide)
  refine kr_iadd (pc := 60) dL_law_60 ⟨by omega, by omega⟩ ?_
  obtain ⟨T, hT⟩ : ∃ T : Nat, (T : Int) = 5 + lw v 55 := ⟨(5 + lw v 55).toNat, by omega⟩
  rw [← hT]
  refine kr_istore (pc := 61) dL_law_61 (show 4 ≤ _ from by simp) (by decide) ?_
  simp only [stl, List.tail_cons, List.tail_nil]
  refine kr_iconst (pc := 63) dL_law_63 (by decide) ?_
  refine kr_istore (pc := 64) dL_law_64 (show 5 ≤ _ from by simp) (by decide) ?_
  simp only [stl, List.tail_cons, List.tail_nil]
  have e0 : S37.2.1 0 + 2 * S37.2.1 1 = 0 := by rw [C37.2.1 0 (by decide), C37.2.1 1 (by decide)]; rfl
  have J : LI z b L S37 0 h37 := ⟨o37, D37, sb2, by rw [fx.2.1]; omega, by rw [fx.2.2.1]; omega, by rw [C37.2.2]; exact Nat.zero_le _⟩
  have t := lw_loop (z := z) (b := b) (L := L) (T := T) (by omega) (Q := fun r => r.1 = .inl (some (vI 1)) ∧ hnx r.2 ≤ z + 864591 ∧ hks r.2 ≤ 6507926) (fun h h1 h2 => ⟨rfl, by show hnx h ≤ _; omega, by show hks h ≤ _; omega⟩) T 0 S37 h37 [] (Nat.zero_add _) J
  rw [e0] at t
  exact t
