section XA
variable {h : aH} {Q : aR → Prop} {a τ υ : Nat} {L : List Edt} {q : Nat → Nat} {F T : List Ent}
theorem x_noteSettings {i : Nat} (H : LiP h a L q) (HF : SeC h τ F) (HT : SeC h υ T) (hτ : τ + 14 ≤ a ∨ a + 250 ≤ τ) (hυ : υ + 14 ≤ a ∨ a + 250 ≤ υ) (hl0 : L.length + (stA i F T 10).length ≤ 78)
    (kk : ∀ h', frL h h' a → LiP h' a (L ++ stA i F T 10) q → Q (.inl none, h')) : amT mX3_noteSettings 0 [vR a, vI (i : Int), vR τ, vR υ] [] h Q := by
  have cell : ∀ (j : Int) (key was is : Int) (A B : Nat) (tl : List aV) (g : aH) (L' : List Edt) (x y : Ent), 0 ≤ j ∧ j ≤ 2 → LiP g a L' q → EnC g A x → EnC g B y → A + 2 ≤ a ∨ a + 250 ≤ A → B + 2 ≤ a ∨ a + 250 ≤ B → (L' ++ unl (4 + j) i key (sg x j) (sg y j)).length ≤ 78 →
      (∀ g', frL g g' a → LiP g' a (L' ++ unl (4 + j) i key (sg x j) (sg y j)) q → amT mX3_noteSettings 92 (vR a :: vI (i : Int) :: vR τ :: vR υ :: vI key :: vI was :: vI is :: vR (A + 1) :: vR (B + 1) :: vI j :: tl) [] g' Q) →
      amT mX3_noteSettings 71 (vR a :: vI (i : Int) :: vR τ :: vR υ :: vI key :: vI was :: vI is :: vR (A + 1) :: vR (B + 1) :: vI j :: tl) [] g Q := by
    intro j key was is A B tl g L' x y hj H' EA EB hA hB hl k
    have s1 := H'.1.1
    have t1 := EA.1.2.1
    have t2 := EB.1.2.1
    have e1 := EA.sg hj
    have e2 := EB.sg hj
    by_cases hlt : L'.length < 78
    · refine kr_aload_n (pc := 71) dX3_noteSettings_71 rfl ?_
      refine kr_iconst (pc := 72) dX3_noteSettings_72 (by decide) ?_
      refine kr_iload (pc := 73) dX3_noteSettings_73 rfl ?_
      refine kr_iadd (pc := 75) dX3_noteSettings_75 ⟨by omega, by omega⟩ ?_
      refine kr_iload_n (pc := 76) dX3_noteSettings_76 rfl ?_
      refine kr_iload (pc := 77) dX3_noteSettings_77 rfl ?_
      refine kr_aload (pc := 79) dX3_noteSettings_79 rfl ?_
      refine kr_iload (pc := 81) dX3_noteSettings_81 rfl ?_
      refine kr_iald (pc := 83) dX3_noteSettings_83 (by assumption) (by omega) (by omega) (by first | exact e1 | exact e2) ?_
      refine kr_aload (pc := 84) dX3_noteSettings_84 rfl ?_
      refine kr_iload (pc := 86) dX3_noteSettings_86 rfl ?_
      refine kr_iald (pc := 88) dX3_noteSettings_88 (by assumption) (by omega) (by omega) (by first | exact e1 | exact e2) ?_
      refine kr_v5 (pc := 89) dX3_noteSettings_89 rfl rfl (by assumption) (Nat.le_of_ble_eq_true rfl) rfl rfl rfl rfl rfl (x_noteIf H' hlt (by omega) (fun g' fr' Hg => ?_))
      show amT _ _ _ _ _ _
      exact k g' fr' Hg
    · have hn : unl (4 + j) i key (sg x j) (sg y j) = [] := by
        rw [List.length_append] at hl
        exact List.length_eq_zero_iff.mp (by omega)
      have heq := unl_nil hn
      rw [hn, List.append_nil] at k
      refine kr_aload_n (pc := 71) dX3_noteSettings_71 rfl ?_
      refine kr_iconst (pc := 72) dX3_noteSettings_72 (by decide) ?_
      refine kr_iload (pc := 73) dX3_noteSettings_73 rfl ?_
      refine kr_iadd (pc := 75) dX3_noteSettings_75 ⟨by omega, by omega⟩ ?_
      refine kr_iload_n (pc := 76) dX3_noteSettings_76 rfl ?_
      refine kr_iload (pc := 77) dX3_noteSettings_77 rfl ?_
      refine kr_aload (pc := 79) dX3_noteSettings_79 rfl ?_
      refine kr_iload (pc := 81) dX3_noteSettings_81 rfl ?_
      refine kr_iald (pc := 83) dX3_noteSettings_83 (by assumption) (by omega) (by omega) (by first | exact e1 | exact e2) ?_
      refine kr_aload (pc := 84) dX3_noteSettings_84 rfl ?_
      refine kr_iload (pc := 86) dX3_noteSettings_86 rfl ?_
      refine kr_iald (pc := 88) dX3_noteSettings_88 (by assumption) (by omega) (by omega) (by first | exact e1 | exact e2) ?_
      refine kr_v5 (pc := 89) dX3_noteSettings_89 rfl rfl (by assumption) (Nat.le_of_ble_eq_true rfl) rfl rfl rfl rfl rfl ?_
      refine kr_iload (pc := 0) dX3_noteIfUnlike_0 rfl ?_
      refine kr_iload (pc := 2) dX3_noteIfUnlike_2 rfl ?_
      refine kr_icmp_eq (pc := 4) dX3_noteIfUnlike_4 rfl (fun _ => ?_) (fun h => absurd heq h)
      refine kr_return (d0 := ()) (pc := 18) dX3_noteIfUnlike_18 rfl ?_
      show amT _ _ _ _ _ _
      exact k g frL.rf H'
  have loop : ∀ (d : Nat) (tl : List aV) (g : aH) (L' : List Edt), d ≤ 10 → LiP g a L' q → frL h g a → L' ++ stA i F T d = L ++ stA i F T 10 →
      amT mX3_noteSettings 3 (vR a :: vI (i : Int) :: vR τ :: vR υ :: vI (10 - (d : Int)) :: tl) [] g Q := by
    intro d
    induction d with
    | zero =>
      intro tl g L' _ Hg fr hL
      refine kr_iload (pc := 3) dX3_noteSettings_3 rfl ?_
      refine kr_bipush (pc := 5) dX3_noteSettings_5 (by decide) ?_
      refine kr_icmp_ge (pc := 7) dX3_noteSettings_7 rfl (fun h7 => ?_) (fun h7 => by exfalso; omega)
      refine kr_return (d0 := ()) (pc := 104) dX3_noteSettings_104 rfl ?_
      exact kk g fr (by rw [← hL, show stA (i : Int) F T 0 = [] from rfl, List.append_nil]; exact Hg)
    | succ d ih =>
      intro tl g L' hd Hg fr hL
      have HFg := HF.ag (fr.ag (by omega))
      have HTg := HT.ag (fr.ag (by omega))
      have rF := kix_rng F (9 - (d : Int))
      have rT := kix_rng T (9 - (d : Int))
      have hst : stA (i : Int) F T (d + 1) = stK i F T (9 - (d : Int)) ++ stA i F T d := rfl
      have hlen : (L' ++ stK i F T (9 - (d : Int))).length + (stA i F T d).length ≤ 78 := by
        rw [hst, ← List.append_assoc] at hL
        rw [← List.length_append, hL, List.length_append]
        exact hl0
      have next : ∀ (x y : Int) (tl : List aV) (g' : aH), LiP g' a (L' ++ stK i F T (9 - (d : Int))) q → frL g g' a → amT mX3_noteSettings 98 (vR a :: vI (i : Int) :: vR τ :: vR υ :: vI (9 - (d : Int)) :: vI x :: vI y :: tl) [] g' Q := by
        intro x y tl g' H' fr'
        refine kr_iinc (pc := 98) dX3_noteSettings_98 rfl ⟨⟨by omega, by omega⟩, by decide, by decide⟩ ?_
        simp only [stl, List.tail_cons, List.tail_nil]
        refine kr_goto (pc := 101) dX3_noteSettings_101 rfl ?_
        rw [show 9 - (d : Int) + 1 = 10 - (d : Int) by omega]
        exact ih _ g' _ (by omega) H' (fr.tr fr') (by rw [← hL, hst, List.append_assoc])
      obtain ⟨pf, ⟨u0, u1, u2, u3, u4, u5⟩, c1, c2, c3⟩ := id HFg
      obtain ⟨pt, ⟨v0, v1, v2, v3, v4, v5⟩, d1, d2, d3⟩ := id HTg
      have big : kix F (9 - (d : Int)) ≠ -1 → kix T (9 - (d : Int)) ≠ -1 → ∀ tl : List aV, amT mX3_noteSettings 38 (vR a :: vI (i : Int) :: vR τ :: vR υ :: vI (9 - (d : Int)) :: vI (kix F (9 - (d : Int))) :: vI (kix T (9 - (d : Int))) :: tl) [] g Q := by
        intro k1 k2 tl
        have x1 := (u4 (kix F (9 - (d : Int))).toNat (by omega))
        have y1 := (v4 (kix T (9 - (d : Int))).toNat (by omega))
        obtain ⟨x2, x3⟩ := x1
        obtain ⟨y2, y3⟩ := y1
        have eF := c3 _ _ (gt_at k1).1
        have eT := d3 _ _ (gt_at k2).1
        obtain ⟨z1, z2, z3⟩ := eF.1
        obtain ⟨w1, w2, w3⟩ := eT.1
        have hsk : stK (i : Int) F T (9 - (d : Int)) = unl (4 + 0) i (9 - (d : Int)) (sg (gt F (9 - (d : Int))) 0) (sg (gt T (9 - (d : Int))) 0) ++ (unl (4 + (0 + 1)) i (9 - (d : Int)) (sg (gt F (9 - (d : Int))) (0 + 1)) (sg (gt T (9 - (d : Int))) (0 + 1)) ++ unl (4 + (0 + 1 + 1)) i (9 - (d : Int)) (sg (gt F (9 - (d : Int))) (0 + 1 + 1)) (sg (gt T (9 - (d : Int))) (0 + 1 + 1))) := by
          unfold stK
          rw [if_neg (by omega)]
          rfl
        rw [hsk] at hlen
        simp only [List.length_append] at hlen
        refine kr_aload_n (pc := 38) dX3_noteSettings_38 rfl ?_
        refine kr_getr (pc := 39) dX3_noteSettings_39 rfl rfl (by assumption) (by assumption) ?_
        refine kr_iload (pc := 42) dX3_noteSettings_42 rfl ?_
        refine kr_aald (pc := 44) dX3_noteSettings_44 (by assumption) (by decide) (by omega) (by omega) (by assumption) ?_
        refine kr_getr (pc := 45) dX3_noteSettings_45 rfl rfl (by assumption) (by assumption) ?_
        refine kr_astore (pc := 48) dX3_noteSettings_48 (show 7 ≤ _ from by simp) (by decide) ?_
        simp only [stl, List.tail_cons, List.tail_nil]
        refine kr_aload_n (pc := 50) dX3_noteSettings_50 rfl ?_
        refine kr_getr (pc := 51) dX3_noteSettings_51 rfl rfl (by assumption) (by assumption) ?_
        refine kr_iload (pc := 54) dX3_noteSettings_54 rfl ?_
        refine kr_aald (pc := 56) dX3_noteSettings_56 (by assumption) (by decide) (by omega) (by omega) (by assumption) ?_
        refine kr_getr (pc := 57) dX3_noteSettings_57 rfl rfl (by assumption) (by assumption) ?_
        refine kr_astore (pc := 60) dX3_noteSettings_60 (show 8 ≤ _ from by simp) (by decide) ?_
        simp only [stl, List.tail_cons, List.tail_nil]
        refine kr_iconst (pc := 62) dX3_noteSettings_62 (by decide) ?_
        refine kr_istore (pc := 63) dX3_noteSettings_63 (show 9 ≤ _ from by simp) (by decide) ?_
        simp only [stl, List.tail_cons, List.tail_nil]
        refine kr_iload (pc := 65) dX3_noteSettings_65 rfl ?_
        refine kr_iconst (pc := 67) dX3_noteSettings_67 (by decide) ?_
        refine kr_icmp_ge (pc := 68) dX3_noteSettings_68 rfl (fun h => absurd h (by decide)) (fun _ => ?_)
        refine cell 0 _ _ _ _ _ _ g L' _ _ (by decide) Hg eF eT (by omega) (by omega) (by rw [List.length_append]; omega) fun g1 fr1 H1 => ?_
        refine kr_iinc (pc := 92) dX3_noteSettings_92 rfl ⟨⟨by omega, by omega⟩, by decide, by decide⟩ ?_
        simp only [stl, List.tail_cons, List.tail_nil]
        refine kr_goto (pc := 95) dX3_noteSettings_95 rfl ?_
        refine kr_iload (pc := 65) dX3_noteSettings_65 rfl ?_
        refine kr_iconst (pc := 67) dX3_noteSettings_67 (by decide) ?_
        refine kr_icmp_ge (pc := 68) dX3_noteSettings_68 rfl (fun h => absurd h (by decide)) (fun _ => ?_)
        refine cell (0 + 1) _ _ _ _ _ _ g1 _ _ _ (by decide) H1 (eF.ag (fr1.ag (by omega))) (eT.ag (fr1.ag (by omega))) (by omega) (by omega) (by simp only [List.length_append]; omega) fun g2 fr2 H2 => ?_
        refine kr_iinc (pc := 92) dX3_noteSettings_92 rfl ⟨⟨by omega, by omega⟩, by decide, by decide⟩ ?_
        simp only [stl, List.tail_cons, List.tail_nil]
        refine kr_goto (pc := 95) dX3_noteSettings_95 rfl ?_
        refine kr_iload (pc := 65) dX3_noteSettings_65 rfl ?_
        refine kr_iconst (pc := 67) dX3_noteSettings_67 (by decide) ?_
        refine kr_icmp_ge (pc := 68) dX3_noteSettings_68 rfl (fun h => absurd h (by decide)) (fun _ => ?_)
        refine cell (0 + 1 + 1) _ _ _ _ _ _ g2 _ _ _ (by decide) H2 (eF.ag ((fr1.tr fr2).ag (by omega))) (eT.ag ((fr1.tr fr2).ag (by omega))) (by omega) (by omega) (by simp only [List.length_append]; omega) fun g3 fr3 H3 => ?_
        refine kr_iinc (pc := 92) dX3_noteSettings_92 rfl ⟨⟨by omega, by omega⟩, by decide, by decide⟩ ?_
        simp only [stl, List.tail_cons, List.tail_nil]
        refine kr_goto (pc := 95) dX3_noteSettings_95 rfl ?_
        refine kr_iload (pc := 65) dX3_noteSettings_65 rfl ?_
        refine kr_iconst (pc := 67) dX3_noteSettings_67 (by decide) ?_
        refine kr_icmp_ge (pc := 68) dX3_noteSettings_68 rfl (fun _ => ?_) (fun h => absurd h (by decide))
        refine next _ _ _ g3 ?_ (fr1.tr (fr2.tr fr3))
        rw [hsk, ← List.append_assoc, ← List.append_assoc]
        exact H3
      rw [show (10 : Int) - ((d + 1 : Nat) : Int) = 9 - (d : Int) by omega]
      refine kr_iload (pc := 3) dX3_noteSettings_3 rfl ?_
      refine kr_bipush (pc := 5) dX3_noteSettings_5 (by decide) ?_
      refine kr_icmp_ge (pc := 7) dX3_noteSettings_7 rfl (fun h7 => by exfalso; omega) (fun h7 => ?_)
      refine kr_aload_n (pc := 10) dX3_noteSettings_10 rfl ?_
      refine kr_iload (pc := 11) dX3_noteSettings_11 rfl ?_
      refine kr_v1 (pc := 13) dX3_noteSettings_13 rfl rfl (by assumption) (Nat.le_of_ble_eq_true rfl) rfl (x_placeOf HFg ?_)
      show amT _ _ _ _ _ _
      refine kr_istore (pc := 16) dX3_noteSettings_16 (show 5 ≤ _ from by simp) (by decide) ?_
      simp only [stl, List.tail_cons, List.tail_nil]
      refine kr_aload_n (pc := 18) dX3_noteSettings_18 rfl ?_
      refine kr_iload (pc := 19) dX3_noteSettings_19 rfl ?_
      refine kr_v1 (pc := 21) dX3_noteSettings_21 rfl rfl (by assumption) (Nat.le_of_ble_eq_true rfl) rfl (x_placeOf HTg ?_)
      show amT _ _ _ _ _ _
      refine kr_istore (pc := 24) dX3_noteSettings_24 (show 6 ≤ _ from by simp) (by decide) ?_
      simp only [stl, List.tail_cons, List.tail_nil]
      refine kr_iload (pc := 26) dX3_noteSettings_26 rfl ?_
      refine kr_iconst (pc := 28) dX3_noteSettings_28 (by decide) ?_
      refine kr_icmp_eq (pc := 29) dX3_noteSettings_29 rfl (fun h29 => ?_) (fun h29 => ?_)
      · exact next _ _ _ g (by unfold stK; rw [if_pos (by omega), List.append_nil]; exact Hg) frL.rf
      · refine kr_iload (pc := 32) dX3_noteSettings_32 rfl ?_
        refine kr_iconst (pc := 34) dX3_noteSettings_34 (by decide) ?_
        refine kr_icmp_eq (pc := 35) dX3_noteSettings_35 rfl (fun h35 => ?_) (fun h35 => ?_)
        · exact next _ _ _ g (by unfold stK; rw [if_pos (by omega), List.append_nil]; exact Hg) frL.rf
        · exact big (by omega) (by omega) _
  refine kr_iconst (pc := 0) dX3_noteSettings_0 (by decide) ?_
  refine kr_istore (pc := 1) dX3_noteSettings_1 (show 4 ≤ _ from by simp) (by decide) ?_
  simp only [stl, List.tail_cons, List.tail_nil]
  exact loop 10 [] h L (by omega) H frL.rf rfl
end XA
