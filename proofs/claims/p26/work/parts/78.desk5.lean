section XJ
variable {h : aH} {Q : aR → Prop} {x : Nat} {S : St}
theorem xc_rule {d s f n : Int} (H : DeR h x S) (HS : okS S) (k1 : ∀ v' S' h', sp_rule S d s f n = (0, v', S') → fro h h' x (x + 1899) → DeR h' x S' → Q (.inl (some (vI v')), h')) (kE1 : sp_rule S d s f n = sx S 1 → Q (.inr 1, hth h)) (kE2 : sp_rule S d s f n = sx S 2 → Q (.inr 3, hth h)) (kE3 : sp_rule S d s f n = sx S 3 → Q (.inr 2, hth h)) : amT mX7_rule 0 [vR x, vI d, vI s, vI f, vI n] [] h Q := by
  obtain ⟨⟨a1, a2, a3, a4, a5, a6, a7, a8, a9, b0, b1, b2, b3⟩, c1, c2, c3, c4, c5, c6, c7, c8⟩ := id H
  have h8 := HS.2.2.2.2.1
  have act : (0 ≤ s ∧ s ≤ 2) → (0 ≤ f ∧ f ≤ 1) → (0 ≤ d ∧ d ≤ 3) → (0 ≤ n ∧ n ≤ 99) → S.2.2.2.2.2.length < 8 → amT mX7_rule 43 [vR x, vI d, vI s, vI f, vI n] [] h Q := by
    intro hs hf hd hn hl
    obtain ⟨N, hN⟩ : ∃ N : Nat, N = S.2.2.2.2.2.length := ⟨_, rfl⟩
    rw [← hN] at c4 hl
    obtain ⟨x1, x2⟩ := b3 N hl
    have x3 : hrf h (x + 3) ((N : Nat) : Int).toNat = some (x + 1891 + N) := x1
    have g4 : hiv (hwi (hwi (hwi (hwi h (x + 1891 + N) 0 d) (x + 1891 + N) 1 s) (x + 1891 + N) 2 f) (x + 1891 + N) 3 n) x 4 = N := (if_neg (by omega)).trans ((if_neg (by omega)).trans ((if_neg (by omega)).trans ((if_neg (by omega)).trans c4)))
    have g5 : hiv (hwi (hwi (hwi (hwi (hwi h (x + 1891 + N) 0 d) (x + 1891 + N) 1 s) (x + 1891 + N) 2 f) (x + 1891 + N) 3 n) x 4 ((N : Int) + 1)) x 4 = (N : Int) + 1 := up2_at
    refine kr_aload_n (pc := 43) dX7_rule_43 rfl ?_
    refine kr_getr (pc := 44) dX7_rule_44 rfl rfl (by assumption) (by assumption) ?_
    refine kr_aload_n (pc := 47) dX7_rule_47 rfl ?_
    refine kr_geti (pc := 48) dX7_rule_48 rfl (by decide) (by assumption) (by first | exact c4 | exact g4 | exact g5) ?_
    refine kr_aald (pc := 51) dX7_rule_51 (by assumption) (by decide) (by omega) (by omega) (by assumption) ?_
    refine kr_astore (pc := 52) dX7_rule_52 (show 5 ≤ _ from by simp) (by decide) ?_
    simp only [stl, List.tail_cons, List.tail_nil]
    refine kr_aload (pc := 54) dX7_rule_54 rfl ?_
    refine kr_iload_n (pc := 56) dX7_rule_56 rfl ?_
    refine kr_puti (pc := 57) dX7_rule_57 rfl (Or.inl rfl) (by decide) (by assumption) ?_
    refine kr_aload (pc := 60) dX7_rule_60 rfl ?_
    refine kr_iload_n (pc := 62) dX7_rule_62 rfl ?_
    refine kr_puti (pc := 63) dX7_rule_63 rfl (Or.inl rfl) (by decide) (by assumption) ?_
    refine kr_aload (pc := 66) dX7_rule_66 rfl ?_
    refine kr_iload_n (pc := 68) dX7_rule_68 rfl ?_
    refine kr_puti (pc := 69) dX7_rule_69 rfl (Or.inl rfl) (by decide) (by assumption) ?_
    refine kr_aload (pc := 72) dX7_rule_72 rfl ?_
    refine kr_iload (pc := 74) dX7_rule_74 rfl ?_
    refine kr_puti (pc := 76) dX7_rule_76 rfl (Or.inl rfl) (by decide) (by assumption) ?_
    refine kr_aload_n (pc := 79) dX7_rule_79 rfl ?_
    refine kr_dup (pc := 80) dX7_rule_80 rfl ?_
    refine kr_geti (pc := 81) dX7_rule_81 rfl (by decide) (by assumption) (by first | exact c4 | exact g4 | exact g5) ?_
    refine kr_iconst (pc := 84) dX7_rule_84 (by decide) ?_
    refine kr_iadd (pc := 85) dX7_rule_85 ⟨by omega, by omega⟩ ?_
    refine kr_puti (pc := 86) dX7_rule_86 rfl (Or.inl rfl) (by decide) (by assumption) ?_
    refine kr_aload_n (pc := 89) dX7_rule_89 rfl ?_
    refine kr_geti (pc := 90) dX7_rule_90 rfl (by decide) (by assumption) (by first | exact c4 | exact g4 | exact g5) ?_
    refine kr_iconst (pc := 93) dX7_rule_93 (by decide) ?_
    refine kr_isub (pc := 94) dX7_rule_94 ⟨by omega, by omega⟩ ?_
    refine kr_ireturn (pc := 95) dX7_rule_95 rfl ?_
    rw [show (N : Int) + 1 - 1 = (N : Int) by omega]
    have fr1 : fro h (hwi (hwi (hwi (hwi h (x + 1891 + N) 0 d) (x + 1891 + N) 1 s) (x + 1891 + N) 2 f) (x + 1891 + N) 3 n) (x + 1891 + N) (x + 1891 + N + 1) := (hwi_fro (by omega) (by omega)).tr ((hwi_fro (by omega) (by omega)).tr ((hwi_fro (by omega) (by omega)).tr (hwi_fro (by omega) (by omega))))
    have R1 : RuC (hwi (hwi (hwi (hwi h (x + 1891 + N) 0 d) (x + 1891 + N) 1 s) (x + 1891 + N) 2 f) (x + 1891 + N) 3 n) (x + 1891 + N) (d, s, f, n) := ⟨x2, (up2_nj (by decide)).trans ((up2_nj (by decide)).trans ((up2_nj (by decide)).trans up2_at)), (up2_nj (by decide)).trans ((up2_nj (by decide)).trans up2_at), (up2_nj (by decide)).trans up2_at, up2_at⟩
    obtain ⟨g, hg⟩ : ∃ g, g = hwi (hwi (hwi (hwi h (x + 1891 + N) 0 d) (x + 1891 + N) 1 s) (x + 1891 + N) 2 f) (x + 1891 + N) 3 n := ⟨_, rfl⟩
    rw [← hg] at fr1 R1 ⊢
    have e : sp_rule S d s f n = (0, (N : Int), (S.1, S.2.1, S.2.2.1, S.2.2.2.1, S.2.2.2.2.1, S.2.2.2.2.2 ++ [(d, s, f, n)])) := by
      unfold sp_rule
      rw [if_neg (by omega), if_neg (by omega), if_neg (by omega), hN]
    have f4 : fro g (hwi g x 4 ((N : Int) + 1)) x (x + 1) := hwi_fro (by omega) (by omega)
    have gx : hiv g x = hiv h x := (fr1.2.2.2 x (by omega)).1
    have gj : ∀ j, j ≠ 4 → hiv (hwi g x 4 ((N : Int) + 1)) x j = hiv h x j := fun j hj => (up2_nj hj).trans (congrFun gx j)
    refine k1 _ _ (hwi g x 4 ((N : Int) + 1)) e ((fr1.up (by omega) (by omega)).tr (hwi_fro (by omega) (by omega))) ⟨?_, fun t ht => ?_, fun c hc => ?_, ?_, ?_, ?_, ?_, fun i r hr => ?_, ?_⟩
    · exact (show DeB g x from H.1.fro fr1 (by omega) (by omega))
    · have rr := kp_rng (x := x) ht
      exact ((c1 t ht).ag (fr1.ag (by omega))).ag (f4.ag (by omega))
    · rw [(f4.2.2.2 (x + 304 + 49 * c) (by omega)).1, (fr1.2.2.2 (x + 304 + 49 * c) (by omega)).1]
      exact c2 c hc
    · rw [gj 2 (by decide)]; exact c3
    · refine up2_at.trans ?_
      dsimp only
      rw [List.length_append, hN]
      rfl
    · rw [gj 5 (by decide)]; exact c5
    · intro hw
      rw [gj 6 (by decide)]; exact c6 hw
    · dsimp only at hr
      rw [List.getElem?_append, ← hN] at hr
      split at hr
      · rename_i hlt
        exact ⟨(c7 i r hr).1, ((c7 i r hr).2.ag (fr1.ag (by omega))).ag (f4.ag (by omega))⟩
      · by_cases hi : i = N
        · subst hi
          rw [Nat.sub_self] at hr
          cases hr
          exact ⟨hl, R1.ag (f4.ag (by omega))⟩
        · rw [List.getElem?_eq_none (by show 1 ≤ _; omega)] at hr
          cases hr
    · exact (c8.ag (fr1.ag (by omega))).ag (f4.ag (by omega))
  refine kr_iload_n (pc := 0) dX7_rule_0 rfl ?_
  refine kr_iconst (pc := 1) dX7_rule_1 (by decide) ?_
  refine kr_s2 (pc := 2) dX7_rule_2 rfl rfl (Nat.le_of_ble_eq_true rfl) rfl rfl (x_needIndex (fun c2 => ?_) (fun c2 => ?_))
  · show amT _ _ _ _ _ _
    refine kr_iload_n (pc := 5) dX7_rule_5 rfl ?_
    refine kr_iconst (pc := 6) dX7_rule_6 (by decide) ?_
    refine kr_s2 (pc := 7) dX7_rule_7 rfl rfl (Nat.le_of_ble_eq_true rfl) rfl rfl (x_needIndex (fun c7 => ?_) (fun c7 => ?_))
    · show amT _ _ _ _ _ _
      refine kr_iload_n (pc := 10) dX7_rule_10 rfl ?_
      refine kr_iconst (pc := 11) dX7_rule_11 (by decide) ?_
      refine kr_iconst (pc := 12) dX7_rule_12 (by decide) ?_
      refine kr_s3 (pc := 13) dX7_rule_13 rfl rfl (Nat.le_of_ble_eq_true rfl) rfl rfl rfl (x_needArg (fun c13 => ?_) (fun c13 => ?_))
      · show amT _ _ _ _ _ _
        refine kr_iload (pc := 16) dX7_rule_16 rfl ?_
        refine kr_iconst (pc := 18) dX7_rule_18 (by decide) ?_
        refine kr_bipush (pc := 19) dX7_rule_19 (by decide) ?_
        refine kr_s3 (pc := 21) dX7_rule_21 rfl rfl (Nat.le_of_ble_eq_true rfl) rfl rfl rfl (x_needArg (fun c21 => ?_) (fun c21 => ?_))
        · show amT _ _ _ _ _ _
          refine kr_aload_n (pc := 24) dX7_rule_24 rfl ?_
          refine kr_geti (pc := 25) dX7_rule_25 rfl (by decide) (by assumption) c4 ?_
          refine kr_bipush (pc := 28) dX7_rule_28 (by decide) ?_
          refine kr_icmp_lt (pc := 30) dX7_rule_30 rfl (fun h30 => ?_) (fun h30 => ?_)
          · exact act (by omega) (by omega) (by omega) (by omega) (by omega)
          · refine t_thr (pc := 33) dX7_rule_33 dX7_rule_36 dX7_rule_37 dX7_rule_39 dX7_rule_42 rfl (Nat.le_of_ble_eq_true rfl) (by decide) (by decide) rfl ?_
            exact kE3 (by unfold sp_rule; rw [if_neg (by omega), if_neg (by omega), if_pos (by omega)])
        · show Q (.inr _, _)
          exact kE2 (by unfold sp_rule; rw [if_neg (by omega), if_pos (by omega)])
      · show Q (.inr _, _)
        exact kE2 (by unfold sp_rule; rw [if_neg (by omega), if_pos (by omega)])
    · show Q (.inr _, _)
      exact kE1 (by unfold sp_rule; rw [if_pos (by omega)])
  · show Q (.inr _, _)
    exact kE1 (by unfold sp_rule; rw [if_pos (by omega)])
theorem xc_confirm (H : DeR h x S) (HS : okS S) (k1 : ∀ v' S' h', sp_confirm S = (0, v', S') → fro h h' x (x + 1899) → DeR h' x S' → Q (.inl (some (vI v')), h')) (kE1 : sp_confirm S = sx S 1 → Q (.inr 2, hth h)) : amT mX7_confirm 0 [vR x] [] h Q := by
  have a1 := H.1.1
  have c3 := H.2.2.2.1
  have c5 := H.2.2.2.2.2.1
  have hv := HS.2.2.2.1
  by_cases hn : S.2.2.2.2.1 = -1
  · rw [if_pos hn] at c5
    refine kr_aload_n (pc := 0) dX7_confirm_0 rfl ?_
    refine kr_geti (pc := 1) dX7_confirm_1 rfl (by decide) (by assumption) c5 ?_
    refine kr_if_gt (pc := 4) dX7_confirm_4 rfl (fun h4 => by exfalso; omega) (fun h4 => ?_)
    refine t_thr (pc := 7) dX7_confirm_7 dX7_confirm_10 dX7_confirm_11 dX7_confirm_13 dX7_confirm_16 rfl (Nat.le_of_ble_eq_true rfl) (by decide) (by decide) rfl ?_
    exact kE1 (by unfold sp_confirm; rw [if_pos hn])
  · rw [if_neg hn] at c5
    refine kr_aload_n (pc := 0) dX7_confirm_0 rfl ?_
    refine kr_geti (pc := 1) dX7_confirm_1 rfl (by decide) (by assumption) c5 ?_
    refine kr_if_gt (pc := 4) dX7_confirm_4 rfl (fun h4 => ?_) (fun h4 => by exfalso; omega)
    refine kr_aload_n (pc := 17) dX7_confirm_17 rfl ?_
    refine kr_geti (pc := 18) dX7_confirm_18 rfl (by decide) (by assumption) c5 ?_
    refine kr_istore_n (pc := 21) dX7_confirm_21 (show 1 ≤ _ from by simp) (by decide) ?_
    simp only [stl, List.tail_cons, List.tail_nil]
    refine kr_aload_n (pc := 22) dX7_confirm_22 rfl ?_
    refine kr_iconst (pc := 23) dX7_confirm_23 (by decide) ?_
    refine kr_puti (pc := 24) dX7_confirm_24 rfl (Or.inl rfl) (by decide) (by assumption) ?_
    refine kr_iload_n (pc := 27) dX7_confirm_27 rfl ?_
    refine kr_ireturn (pc := 28) dX7_confirm_28 rfl ?_
    refine k1 _ _ _ (by unfold sp_confirm; rw [if_neg hn]) (hwi_fro (by omega) (by omega)) (DeF.r (S := (S.1, S.2.1, S.2.2.1, S.2.2.2.1, -1, S.2.2.2.2.2)) ?_ ((up2_nj (by decide)).trans c3) ((show hiv (hwi h x 5 0) x 5 = (0 : Int) from up2_at).trans (if_pos rfl).symm) (fun h => absurd rfl h))
    exact (H.f.w (k := 5) (by decide))
theorem x_addV {κ n : Nat} {c : Cfg} {g : aH} {v : Int} (F : DeF g x S) (hv : hiv g x 2 = v) (hvn : v = n) (hn : n < 30) (C : CfC g κ c) (hκ : κ + 48 ≤ kp x (3 + n) ∨ kp x (3 + n) + 48 ≤ κ) (kk : ∀ h', fro g h' x (x + 1899) → DeF h' x (sCf S (3 + n) c) → hiv h' x 2 = (n : Int) + 1 → (∀ j, j ≠ 2 → hiv h' x j = hiv g x j) → Q (.inl none, h')) : amT mX7_addVersion 0 [vR x, vR κ] [] g Q := by
  subst hvn
  obtain ⟨⟨a1, a2, a3, a4, a5, a6, a7, a8, a9, b0, b1, b2, b3⟩, c1, _⟩ := id F
  have r1 := kp_rng (x := x) (show 3 + n < 33 by omega)
  have y1 : hrf g (x + 2) ((n : Nat) : Int).toNat = some (kp x (3 + n)) := b2 _ hn
  have s1 := (c1 (3 + n) (by omega)).1.1
  refine kr_aload_n (pc := 0) dX7_addVersion_0 rfl ?_
  refine kr_geti (pc := 1) dX7_addVersion_1 rfl (by decide) (by assumption) hv ?_
  refine kr_bipush (pc := 4) dX7_addVersion_4 (by decide) ?_
  refine kr_icmp_ge (pc := 6) dX7_addVersion_6 rfl (fun h => by omega) (fun _ => ?_)
  refine kr_aload_n (pc := 9) dX7_addVersion_9 rfl ?_
  refine kr_getr (pc := 10) dX7_addVersion_10 rfl rfl (by assumption) (by assumption) ?_
  refine kr_aload_n (pc := 13) dX7_addVersion_13 rfl ?_
  refine kr_geti (pc := 14) dX7_addVersion_14 rfl (by decide) (by assumption) hv ?_
  refine kr_aald (pc := 17) dX7_addVersion_17 (by assumption) (by decide) (by omega) (by omega) (by assumption) ?_
  refine kr_aload_n (pc := 18) dX7_addVersion_18 rfl ?_
  refine kr_v1 (pc := 19) dX7_addVersion_19 rfl rfl (by assumption) (Nat.le_of_ble_eq_true rfl) rfl (x_ccopy (c1 (3 + n) (by omega)).x C (by omega) (fun g2 f2 C2 => ?_))
  show amT _ _ _ _ _ _
  have F2 := F.cf (by omega) f2 C2
  have t1 : hsh g2 x = (8, 10) := F2.1.1
  have ex : hiv g2 x = hiv g x := (f2.2.2.2 x (by omega)).1
  have e2 : hiv g2 x 2 = n := (congrFun ex 2).trans hv
  refine kr_aload_n (pc := 22) dX7_addVersion_22 rfl ?_
  refine kr_dup (pc := 23) dX7_addVersion_23 rfl ?_
  refine kr_geti (pc := 24) dX7_addVersion_24 rfl (by decide) (by assumption) e2 ?_
  refine kr_iconst (pc := 27) dX7_addVersion_27 (by decide) ?_
  refine kr_iadd (pc := 28) dX7_addVersion_28 ⟨by omega, by omega⟩ ?_
  refine kr_puti (pc := 29) dX7_addVersion_29 rfl (Or.inl rfl) (by decide) (by assumption) ?_
  refine kr_return (d0 := ()) (pc := 32) dX7_addVersion_32 rfl ?_
  exact kk _ ((f2.up (by omega) (by omega)).tr (hwi_fro (by omega) (by omega))) (F2.w (by decide)) up2_at (fun j hj => (up2_nj hj).trans (congrFun ex j))
theorem xc_advance {n : Int} (H : DeR h x S) (HS : okS S) (k1 : ∀ v' S' h', sp_advance S n = (0, v', S') → fro h h' x (x + 1899) → DeR h' x S' → Q (.inl (some (vI v')), h')) (kE1 : sp_advance S n = sx S 1 → Q (.inr 3, hth h)) : amT mX7_advance 0 [vR x, vI n] [] h Q := by
  obtain ⟨⟨a1, a2, a3, a4, a5, a6, a7, a8, a9, b0, b1, b2, b3⟩, c1, c2, c3, c4, c5, c6, c7, c8⟩ := id H
  have hv := HS.2.2.2.1
  have hb := HS.2.2.1
  by_cases hw : S.2.2.2.2.1 = -1
  · rw [if_pos hw] at c5
    refine kr_iload_n (pc := 0) dX7_advance_0 rfl ?_
    refine kr_iconst (pc := 1) dX7_advance_1 (by decide) ?_
    refine kr_bipush (pc := 2) dX7_advance_2 (by decide) ?_
    refine kr_s3 (pc := 4) dX7_advance_4 rfl rfl (Nat.le_of_ble_eq_true rfl) rfl rfl rfl (x_needArg (fun c4 => ?_) (fun c4 => ?_))
    · show amT _ _ _ _ _ _
      refine kr_aload_n (pc := 7) dX7_advance_7 rfl ?_
      refine kr_geti (pc := 8) dX7_advance_8 rfl (by decide) (by assumption) (by first | exact c5 | exact c3) ?_
      refine kr_iload_n (pc := 11) dX7_advance_11 rfl ?_
      refine kr_icmp_le (pc := 12) dX7_advance_12 rfl (fun h12 => ?_) (fun h12 => by exfalso; omega)
      refine kr_aload_n (pc := 28) dX7_advance_28 rfl ?_
      refine kr_geti (pc := 29) dX7_advance_29 rfl (by decide) (by assumption) (by first | exact c5 | exact c3) ?_
      refine kr_if_le (pc := 32) dX7_advance_32 rfl (fun h32 => ?_) (fun h32 => by exfalso; omega)
      refine kr_aload_n (pc := 53) dX7_advance_53 rfl ?_
      refine kr_geti (pc := 54) dX7_advance_54 rfl (by decide) (by assumption) (by first | exact c5 | exact c3) ?_
      refine kr_iconst (pc := 57) dX7_advance_57 (by decide) ?_
      refine kr_isub (pc := 58) dX7_advance_58 ⟨by omega, by omega⟩ ?_
      rw [show (S.2.2.2.1 : Int) + 1 - 1 = S.2.2.2.1 by omega]
      refine kr_ireturn (pc := 59) dX7_advance_59 rfl ?_
      exact k1 _ _ h (by unfold sp_advance; rw [if_neg (by omega), if_pos hw]) fro.rf H
    · show Q (.inr _, _)
      exact kE1 (by unfold sp_advance; rw [if_pos (by omega)])
  · rw [if_neg hw] at c5
    have hw6 := c6 hw
    have w3 : hiv (hwi h x 5 (S.2.2.2.2.1 - n)) x 2 = (S.2.2.2.1 : Int) + 1 := (up2_nj (by decide)).trans c3
    have undo : 1 ≤ n ∧ n ≤ 100 → S.2.2.2.2.1 ≤ n → amT mX7_advance 35 [vR x, vI n] [] h Q := by
      intro hn hle
      have g6 : hiv (hwi h x 5 0) x 6 = (S.2.2.2.1 : Int) - 1 := (up2_nj (by decide)).trans hw6
      have g2 : hiv (hwi h x 5 0) x 2 = (S.2.2.2.1 : Int) + 1 := (up2_nj (by decide)).trans c3
      have y1 : hrf h (x + 2) ((S.2.2.2.1 : Int) - 1).toNat = some (kp x (3 + (S.2.2.2.1 - 1))) := by
        rw [show ((S.2.2.2.1 : Int) - 1).toNat = S.2.2.2.1 - 1 by omega]
        exact b2 _ (by omega)
      have F1 : DeF (hwi h x 5 0) x S := H.f.w (by decide)
      refine kr_aload_n (pc := 35) dX7_advance_35 rfl ?_
      refine kr_iconst (pc := 36) dX7_advance_36 (by decide) ?_
      refine kr_puti (pc := 37) dX7_advance_37 rfl (Or.inl rfl) (by decide) (by assumption) ?_
      refine kr_aload_n (pc := 40) dX7_advance_40 rfl ?_
      refine kr_aload_n (pc := 41) dX7_advance_41 rfl ?_
      refine kr_getr (pc := 42) dX7_advance_42 rfl rfl (by assumption) (by assumption) ?_
      refine kr_aload_n (pc := 45) dX7_advance_45 rfl ?_
      refine kr_geti (pc := 46) dX7_advance_46 rfl (by decide) (by assumption) g6 ?_
      refine kr_aald (pc := 49) dX7_advance_49 (by assumption) (by decide) (by omega) (by omega) (by assumption) ?_
      refine kr_v1 (pc := 50) dX7_advance_50 rfl rfl (by assumption) (Nat.le_of_ble_eq_true rfl) rfl (x_addV (n := S.2.2.2.1 + 1) F1 g2 (by omega) (by omega) (F1.2.1 (3 + (S.2.2.2.1 - 1)) (by omega)) (kp_ne (by omega) (by omega) (by omega)) (fun h' fr F2 e2 e3 => ?_))
      show amT _ _ _ _ _ _
      have t1 : hsh h' x = (8, 10) := F2.1.1
      refine kr_aload_n (pc := 53) dX7_advance_53 rfl ?_
      refine kr_geti (pc := 54) dX7_advance_54 rfl (by decide) (by assumption) e2 ?_
      refine kr_iconst (pc := 57) dX7_advance_57 (by decide) ?_
      refine kr_isub (pc := 58) dX7_advance_58 ⟨by omega, by omega⟩ ?_
      refine kr_ireturn (pc := 59) dX7_advance_59 rfl ?_
      have e : sp_advance S n = (0, ((S.2.2.2.1 + 1 : Nat) : Int) + 1 - 1, (fun j => if j = 3 + (S.2.2.2.1 + 1) then S.1 (3 + (S.2.2.2.1 - 1)) else S.1 j, S.2.1, S.2.2.1, S.2.2.2.1 + 1, -1, S.2.2.2.2.2)) := by
        unfold sp_advance
        rw [if_neg (by omega), if_neg hw, if_pos hle, show ((S.2.2.2.1 + 1 : Nat) : Int) + 1 - 1 = (S.2.2.2.1 : Int) + 1 by omega]
      refine k1 _ _ h' e ((hwi_fro (by omega) (by omega)).tr fr) (DeF.r ?_ e2 ?_ (fun h => absurd rfl h))
      · exact F2
      · rw [e3 5 (by decide)]
        exact (show hiv (hwi h x 5 0) x 5 = (0 : Int) from up2_at).trans (if_pos rfl).symm
    refine kr_iload_n (pc := 0) dX7_advance_0 rfl ?_
    refine kr_iconst (pc := 1) dX7_advance_1 (by decide) ?_
    refine kr_bipush (pc := 2) dX7_advance_2 (by decide) ?_
    refine kr_s3 (pc := 4) dX7_advance_4 rfl rfl (Nat.le_of_ble_eq_true rfl) rfl rfl rfl (x_needArg (fun c4 => ?_) (fun c4 => ?_))
    · show amT _ _ _ _ _ _
      refine kr_aload_n (pc := 7) dX7_advance_7 rfl ?_
      refine kr_geti (pc := 8) dX7_advance_8 rfl (by decide) (by assumption) (by first | exact c5 | exact w3 | exact c3) ?_
      refine kr_iload_n (pc := 11) dX7_advance_11 rfl ?_
      refine kr_icmp_le (pc := 12) dX7_advance_12 rfl (fun h12 => ?_) (fun h12 => ?_)
      · refine kr_aload_n (pc := 28) dX7_advance_28 rfl ?_
        refine kr_geti (pc := 29) dX7_advance_29 rfl (by decide) (by assumption) (by first | exact c5 | exact w3 | exact c3) ?_
        refine kr_if_le (pc := 32) dX7_advance_32 rfl (fun h32 => by exfalso; omega) (fun h32 => ?_)
        exact undo (by omega) (by omega)
      · refine kr_aload_n (pc := 15) dX7_advance_15 rfl ?_
        refine kr_dup (pc := 16) dX7_advance_16 rfl ?_
        refine kr_geti (pc := 17) dX7_advance_17 rfl (by decide) (by assumption) (by first | exact c5 | exact w3 | exact c3) ?_
        refine kr_iload_n (pc := 20) dX7_advance_20 rfl ?_
        refine kr_isub (pc := 21) dX7_advance_21 ⟨by omega, by omega⟩ ?_
        refine kr_puti (pc := 22) dX7_advance_22 rfl (Or.inl rfl) (by decide) (by assumption) ?_
        refine kr_goto (pc := 25) dX7_advance_25 rfl ?_
        refine kr_aload_n (pc := 53) dX7_advance_53 rfl ?_
        refine kr_geti (pc := 54) dX7_advance_54 rfl (by decide) (by assumption) (by first | exact c5 | exact w3 | exact c3) ?_
        refine kr_iconst (pc := 57) dX7_advance_57 (by decide) ?_
        refine kr_isub (pc := 58) dX7_advance_58 ⟨by omega, by omega⟩ ?_
        rw [show (S.2.2.2.1 : Int) + 1 - 1 = S.2.2.2.1 by omega]
        refine kr_ireturn (pc := 59) dX7_advance_59 rfl ?_
        refine k1 _ _ _ (by unfold sp_advance; rw [if_neg (by omega), if_neg hw, if_neg (by omega)]) (hwi_fro (by omega) (by omega)) (DeF.r (S := (S.1, S.2.1, S.2.2.1, S.2.2.2.1, S.2.2.2.2.1 - n, S.2.2.2.2.2)) ?_ w3 ?_ ?_)
        · exact (H.f.w (k := 5) (by decide))
        · refine up2_at.trans ?_; dsimp only; rw [if_neg (by omega)]
        · intro _; exact (up2_nj (by decide)).trans hw6
    · show Q (.inr _, _)
      exact kE1 (by unfold sp_advance; rw [if_pos (by omega)])
theorem xc_commit {c n : Int} (H : DeR h x S) (HS : okS S) (k1 : ∀ v S' h', sp_commit S c n = (0, v, S') → fro h h' x (x + 1899) → DeR h' x S' → Q (.inl (some (vI v)), h'))
    (kE1 : ∀ h', sp_commit S c n = sx S 1 → fro h h' x (x + 1899) → DeR h' x S → Q (.inr 1, hth h')) (kE2 : ∀ h', sp_commit S c n = sx S 2 → fro h h' x (x + 1899) → DeR h' x S → Q (.inr 3, hth h')) (kE3 : ∀ h', sp_commit S c n = sx S 3 → fro h h' x (x + 1899) → DeR h' x S → Q (.inr 2, hth h')) : amT mX7_commit 0 [vR x, vI c, vI n] [] h Q := by
  obtain ⟨⟨a1, a2, a3, a4, a5, a6, a7, a8, a9, b0, b1, b2, b3⟩, c1, c2, c3, c4, c5, c6, c7, c8⟩ := id H
  obtain ⟨t1, t2, t3, t4, t5⟩ := H.st (h' := h)
  have hv := HS.2.2.2.1
  have hbb := HS.2.2.1
  have act : 0 ≤ c ∧ c ≤ 2 → 0 ≤ n ∧ n ≤ 100 → ¬ (S.2.1 c.toNat = 0 ∨ S.2.2.2.2.1 ≠ -1 ∨ 28 ≤ S.2.2.2.1) → amT mX7_commit 44 [vR x, vI c, vI n, vR (kp x c.toNat)] [] h Q := by
    intro hc hn ho
    obtain ⟨L, hL⟩ : ∃ L, L = edL (S.1 (3 + S.2.2.1 c.toNat)) (S.1 c.toNat) := ⟨_, rfl⟩
    have hbs := (HS.2.1 c.toNat (by omega)).2
    have okb := HS.1 (3 + S.2.2.1 c.toNat) (by omega)
    have okc := HS.1 c.toNat (by omega)
    have okr := HS.1 (3 + S.2.2.2.1) (by omega)
    have okd := edL_okd okb okc
    rw [← hL] at okd
    have sp : sp_commit S c n = (match apA true L (S.1 (3 + S.2.2.2.1)) with
      | none => sx S 3
      | some c' => if 0 < brk c' S.2.2.2.2.2 then sx S 3
        else (0, S.2.2.2.1 + 1, (fun j => if j = 3 + (S.2.2.2.1 + 1) then c' else S.1 j, fun j => if j = c.toNat then 0 else S.2.1 j, S.2.2.1, S.2.2.2.1 + 1, (if n = 0 then -1 else n), S.2.2.2.2.2))) := by
      unfold sp_commit
      rw [if_neg (by omega), if_neg (by omega), if_neg ho, hL]
      rfl
    obtain ⟨x1, x2, x3⟩ := b1 c.toNat (by omega)
    have x4 := (c2 c.toNat (by omega)).2
    have y1 : hrf h (x + 2) ((S.2.2.1 c.toNat : Nat) : Int).toNat = some (kp x (3 + S.2.2.1 c.toNat)) := b2 _ (by omega)
    have r0 := kp_rng (x := x) (show c.toNat < 33 by omega)
    have r1 := kp_rng (x := x) (show 3 + S.2.2.1 c.toNat < 33 by omega)
    have r2 := kp_rng (x := x) (show 3 + S.2.2.2.1 < 33 by omega)
    obtain ⟨⟨q, LB⟩, PS, _, _⟩ := id c8
    refine kr_aload_n (pc := 44) dX7_commit_44 rfl ?_
    refine kr_getr (pc := 45) dX7_commit_45 rfl rfl (by assumption) (by assumption) ?_
    refine kr_iload_n (pc := 48) dX7_commit_48 rfl ?_
    refine kr_aald (pc := 49) dX7_commit_49 (by assumption) (by decide) (by omega) (by omega) (by assumption) ?_
    refine kr_astore (pc := 50) dX7_commit_50 (show 4 ≤ _ from by simp) (by decide) ?_
    simp only [stl, List.tail_cons, List.tail_nil]
    refine kr_aload_n (pc := 52) dX7_commit_52 rfl ?_
    refine kr_getr (pc := 53) dX7_commit_53 rfl rfl (by assumption) (by assumption) ?_
    refine kr_aload_n (pc := 56) dX7_commit_56 rfl ?_
    refine kr_getr (pc := 57) dX7_commit_57 rfl rfl (by assumption) (by assumption) ?_
    refine kr_aload (pc := 60) dX7_commit_60 rfl ?_
    refine kr_geti (pc := 62) dX7_commit_62 rfl (by decide) (by assumption) x4 ?_
    refine kr_aald (pc := 65) dX7_commit_65 (by assumption) (by decide) (by omega) (by omega) (by assumption) ?_
    refine kr_aload_n (pc := 66) dX7_commit_66 rfl ?_
    refine kr_v2 (pc := 67) dX7_commit_67 rfl rfl (by assumption) (Nat.le_of_ble_eq_true rfl) rfl rfl (x_fill LB PS (c1 _ (by omega)) (c1 _ (by omega)) okb okc (by omega) (by omega) (fun g1 f1 Hl S1 => ?_))
    show amT _ _ _ _ _ _
    have D1 : DeR g1 x S := fill_sc H f1 Hl S1
    rw [← hL] at Hl
    obtain ⟨u1, u2, u3, u4, u5⟩ := D1.st (h' := g1)
    have u6 := D1.1.2.2.2.1
    have u7 := D1.1.2.2.2.2.1
    have u8 : hrf g1 (x + 2) ((S.2.2.2.1 : Int) + 1 - 1).toNat = some (kp x (3 + S.2.2.2.1)) := by
      rw [show ((S.2.2.2.1 : Int) + 1 - 1).toNat = S.2.2.2.1 by omega]
      exact D1.1.2.2.2.2.2.2.2.2.2.2.2.1 _ (by omega)
    have u9 := D1.2.2.2.1
    refine kr_aload_n (pc := 70) dX7_commit_70 rfl ?_
    refine kr_getr (pc := 71) dX7_commit_71 rfl rfl (by assumption) (by assumption) ?_
    refine kr_aload_n (pc := 74) dX7_commit_74 rfl ?_
    refine kr_getr (pc := 75) dX7_commit_75 rfl rfl (by assumption) (by assumption) ?_
    refine kr_aload_n (pc := 78) dX7_commit_78 rfl ?_
    refine kr_geti (pc := 79) dX7_commit_79 rfl (by decide) (by assumption) u9 ?_
    refine kr_iconst (pc := 82) dX7_commit_82 (by decide) ?_
    refine kr_isub (pc := 83) dX7_commit_83 ⟨by omega, by omega⟩ ?_
    refine kr_aald (pc := 84) dX7_commit_84 (by assumption) (by decide) (by omega) (by omega) (by assumption) ?_
    refine kr_v1 (pc := 85) dX7_commit_85 rfl rfl (by assumption) (Nat.le_of_ble_eq_true rfl) rfl (x_ccopy D1.dx (D1.2.1 (3 + S.2.2.2.1) (by omega)) (by omega) (fun g2 f2 C2 => ?_))
    show amT _ _ _ _ _ _
    have D2 : DeR g2 x S := draft_sc D1 f2 C2
    have Hl2 : LiP g2 (x + 4) L q := Hl.ag (f2.ag (by omega)) (f2.ag (by omega))
    obtain ⟨v1, v2, v3, v4, v5⟩ := D2.st (h' := g2)
    have fr2 : fro h g2 x (x + 1899) := (f1.up (by omega) (by omega)).tr (f2.up (by omega) (by omega))
    refine kr_aload_n (pc := 88) dX7_commit_88 rfl ?_
    refine kr_getr (pc := 89) dX7_commit_89 rfl rfl (by assumption) (by assumption) ?_
    refine kr_aload_n (pc := 92) dX7_commit_92 rfl ?_
    refine kr_getr (pc := 93) dX7_commit_93 rfl rfl (by assumption) (by assumption) ?_
    refine kr_iconst (pc := 96) dX7_commit_96 (by decide) ?_
    refine kr_v2 (pc := 97) dX7_commit_97 rfl rfl (by assumption) (Nat.le_of_ble_eq_true rfl) rfl rfl (x_applyAll Hl2 okd C2 okr (Or.inr ⟨rfl, rfl⟩) (by omega) (fun c' g3 e3 f3 C3 => ?_) (fun c' g3 e3 f3 C3 => ?_))
    show amT _ _ _ _ _ _
    · have D3 : DeR g3 x S := draft_sc D2 f3 C3
      have fr3 : fro h g3 x (x + 1899) := fr2.tr (f3.up (by omega) (by omega))
      obtain ⟨w1, w2, w3, w4, w5⟩ := D3.st (h' := g3)
      have okc' : okC c' := apA_ok okd okr e3
      rw [e3] at sp
      dsimp only at sp
      refine kr_if_ne (pc := 100) dX7_commit_100 rfl (fun _ => ?_) (fun h => absurd h (by decide))
      refine kr_aload_n (pc := 113) dX7_commit_113 rfl ?_
      refine kr_aload_n (pc := 114) dX7_commit_114 rfl ?_
      refine kr_getr (pc := 115) dX7_commit_115 rfl rfl (by assumption) (by assumption) ?_
      refine kr_v1 (pc := 118) dX7_commit_118 rfl rfl (by assumption) (Nat.le_of_ble_eq_true rfl) rfl (x_broken D3 HS C3 okc' ?_)
      show amT _ _ _ _ _ _
      refine kr_if_le (pc := 121) dX7_commit_121 rfl (fun h121 => ?_) (fun h121 => ?_)
      · rw [if_neg (by omega)] at sp
        have z2 := D3.2.2.2.1
        have z5 := D3.2.2.2.2.2.1
        have z4 : hsh g3 (x + 304 + 49 * c.toNat) = (1, 3) := by
          rw [f3.1, f2.1, f1.1]
          exact x2
        have F5 : DeF (hwi (hwi (hwi g3 x 6 ((S.2.2.2.1 : Int) + 1 - 1)) x 5 n) (x + 304 + 49 * c.toNat) 0 0) x (S.1, fun j => if j = c.toNat then 0 else S.2.1 j, S.2.2) := ((D3.f.w (k := 6) (by decide)).w (k := 5) (by decide)).op (by omega)
        have fr5 : fro g3 (hwi (hwi (hwi g3 x 6 ((S.2.2.2.1 : Int) + 1 - 1)) x 5 n) (x + 304 + 49 * c.toNat) 0 0) x (x + 1899) := (hwi_fro (by omega) (by omega)).tr ((hwi_fro (by omega) (by omega)).tr (hwi_fro (by omega) (by omega)))
        have h2 : hiv (hwi (hwi (hwi g3 x 6 ((S.2.2.2.1 : Int) + 1 - 1)) x 5 n) (x + 304 + 49 * c.toNat) 0 0) x 2 = (S.2.2.2.1 : Int) + 1 := (if_neg (by omega)).trans ((up2_nj (by decide)).trans ((up2_nj (by decide)).trans z2))
        have C5 : CfC (hwi (hwi (hwi g3 x 6 ((S.2.2.2.1 : Int) + 1 - 1)) x 5 n) (x + 304 + 49 * c.toNat) 0 0) (x + 254) c' := by
          have fa : fro g3 (hwi (hwi g3 x 6 ((S.2.2.2.1 : Int) + 1 - 1)) x 5 n) x (x + 1) := (hwi_fro (by omega) (by omega)).tr (hwi_fro (by omega) (by omega))
          have fb : fro (hwi (hwi g3 x 6 ((S.2.2.2.1 : Int) + 1 - 1)) x 5 n) (hwi (hwi (hwi g3 x 6 ((S.2.2.2.1 : Int) + 1 - 1)) x 5 n) (x + 304 + 49 * c.toNat) 0 0) (x + 304 + 49 * c.toNat) (x + 304 + 49 * c.toNat + 1) := hwi_fro (by omega) (by omega)
          exact (C3.ag (fa.ag (by omega))).ag (fb.ag (by omega))
        have r5 := kp_rng (x := x) (show 3 + (S.2.2.2.1 + 1) < 33 by omega)
        refine kr_aload_n (pc := 134) dX7_commit_134 rfl ?_
        refine kr_aload_n (pc := 135) dX7_commit_135 rfl ?_
        refine kr_geti (pc := 136) dX7_commit_136 rfl (by decide) (by assumption) z2 ?_
        refine kr_iconst (pc := 139) dX7_commit_139 (by decide) ?_
        refine kr_isub (pc := 140) dX7_commit_140 ⟨by omega, by omega⟩ ?_
        refine kr_puti (pc := 141) dX7_commit_141 rfl (Or.inl rfl) (by decide) (by assumption) ?_
        refine kr_aload_n (pc := 144) dX7_commit_144 rfl ?_
        refine kr_iload_n (pc := 145) dX7_commit_145 rfl ?_
        refine kr_puti (pc := 146) dX7_commit_146 rfl (Or.inl rfl) (by decide) (by assumption) ?_
        refine kr_aload (pc := 149) dX7_commit_149 rfl ?_
        refine kr_iconst (pc := 151) dX7_commit_151 (by decide) ?_
        refine kr_puti (pc := 152) dX7_commit_152 rfl (Or.inr ⟨rfl, by decide⟩) (by decide) (by assumption) ?_
        refine kr_aload_n (pc := 155) dX7_commit_155 rfl ?_
        refine kr_aload_n (pc := 156) dX7_commit_156 rfl ?_
        refine kr_getr (pc := 157) dX7_commit_157 rfl rfl (by assumption) (by assumption) ?_
        refine kr_v1 (pc := 160) dX7_commit_160 rfl rfl (by assumption) (Nat.le_of_ble_eq_true rfl) rfl (x_addV (n := S.2.2.2.1 + 1) F5 h2 (by omega) (by omega) C5 (by omega) (fun h' fr6 F6 e2 e6 => ?_))
        show amT _ _ _ _ _ _
        have y7 : hsh h' x = (8, 10) := F6.1.1
        refine kr_aload_n (pc := 163) dX7_commit_163 rfl ?_
        refine kr_geti (pc := 164) dX7_commit_164 rfl (by decide) (by assumption) e2 ?_
        refine kr_iconst (pc := 167) dX7_commit_167 (by decide) ?_
        refine kr_isub (pc := 168) dX7_commit_168 ⟨by omega, by omega⟩ ?_
        refine kr_ireturn (pc := 169) dX7_commit_169 rfl ?_
        have spv : ((S.2.2.2.1 + 1 : Nat) : Int) + 1 - 1 = (S.2.2.2.1 : Int) + 1 := by omega
        rw [spv]
        refine k1 _ _ h' sp (fr3.tr (fr5.tr fr6)) (DeF.r ?_ e2 ?_ ?_)
        · exact F6
        · rw [e6 5 (by decide)]
          refine ((if_neg (by omega)).trans up2_at).trans ?_
          dsimp only
          by_cases h0 : n = 0
          · rw [if_pos h0, if_pos rfl, h0]
          · rw [if_neg h0, if_neg (by omega)]
        · intro _
          rw [e6 6 (by decide)]
          refine ((if_neg (by omega)).trans ((up2_nj (by decide)).trans up2_at)).trans ?_
          show (S.2.2.2.1 : Int) + 1 - 1 = ((S.2.2.2.1 + 1 : Nat) : Int) - 1
          omega
      · rw [if_pos (by omega)] at sp
        refine t_thr (pc := 124) dX7_commit_124 dX7_commit_127 dX7_commit_128 dX7_commit_130 dX7_commit_133 rfl (Nat.le_of_ble_eq_true rfl) (by decide) (by decide) rfl ?_
        exact kE3 g3 sp fr3 D3
    · have D3 : DeR g3 x S := draft_sc D2 f3 C3
      have fr3 : fro h g3 x (x + 1899) := fr2.tr (f3.up (by omega) (by omega))
      rw [e3] at sp
      refine kr_if_ne (pc := 100) dX7_commit_100 rfl (fun h => absurd rfl h) (fun _ => ?_)
      refine t_thr (pc := 103) dX7_commit_103 dX7_commit_106 dX7_commit_107 dX7_commit_109 dX7_commit_112 rfl (Nat.le_of_ble_eq_true rfl) (by decide) (by decide) rfl ?_
      exact kE3 g3 sp fr3 D3
  refine kr_iload_n (pc := 0) dX7_commit_0 rfl ?_
  refine kr_iconst (pc := 1) dX7_commit_1 (by decide) ?_
  refine kr_s2 (pc := 2) dX7_commit_2 rfl rfl (Nat.le_of_ble_eq_true rfl) rfl rfl (x_needIndex (fun c2 => ?_) (fun c2 => ?_))
  · show amT _ _ _ _ _ _
    refine kr_iload_n (pc := 5) dX7_commit_5 rfl ?_
    refine kr_iconst (pc := 6) dX7_commit_6 (by decide) ?_
    refine kr_bipush (pc := 7) dX7_commit_7 (by decide) ?_
    refine kr_s3 (pc := 9) dX7_commit_9 rfl rfl (Nat.le_of_ble_eq_true rfl) rfl rfl rfl (x_needArg (fun c9 => ?_) (fun c9 => ?_))
    · show amT _ _ _ _ _ _
      refine kr_aload_n (pc := 12) dX7_commit_12 rfl ?_
      refine kr_iload_n (pc := 13) dX7_commit_13 rfl ?_
      refine kr_v1 (pc := 14) dX7_commit_14 rfl rfl (by assumption) (Nat.le_of_ble_eq_true rfl) rfl (x_openC H (by omega) (fun c14 => ?_) (fun c14 => ?_))
      · show amT _ _ _ _ _ _
        refine kr_astore_n (pc := 17) dX7_commit_17 (show 3 ≤ _ from by simp) (by decide) ?_
        simp only [stl, List.tail_cons, List.tail_nil]
        refine kr_aload_n (pc := 18) dX7_commit_18 rfl ?_
        refine kr_geti (pc := 19) dX7_commit_19 rfl (by decide) (by assumption) (by first | exact c5 | exact c3) ?_
        refine kr_if_gt (pc := 22) dX7_commit_22 rfl (fun h22 => ?_) (fun h22 => ?_)
        · refine t_thr (pc := 34) dX7_commit_34 dX7_commit_37 dX7_commit_38 dX7_commit_40 dX7_commit_43 rfl (Nat.le_of_ble_eq_true rfl) (by decide) (by decide) rfl ?_
          exact kE3 h (by unfold sp_commit; rw [if_neg (by omega), if_neg (by omega), if_pos (by split at h22 <;> omega)]) fro.rf H
        · refine kr_aload_n (pc := 25) dX7_commit_25 rfl ?_
          refine kr_geti (pc := 26) dX7_commit_26 rfl (by decide) (by assumption) (by first | exact c5 | exact c3) ?_
          refine kr_bipush (pc := 29) dX7_commit_29 (by decide) ?_
          refine kr_icmp_lt (pc := 31) dX7_commit_31 rfl (fun h31 => ?_) (fun h31 => ?_)
          · exact act (by omega) (by omega) (by split at h22 <;> omega)
          · refine t_thr (pc := 34) dX7_commit_34 dX7_commit_37 dX7_commit_38 dX7_commit_40 dX7_commit_43 rfl (Nat.le_of_ble_eq_true rfl) (by decide) (by decide) rfl ?_
            exact kE3 h (by unfold sp_commit; rw [if_neg (by omega), if_neg (by omega), if_pos (by omega)]) fro.rf H
      · show Q (.inr _, _)
        exact kE3 h (by unfold sp_commit; rw [if_neg (by omega), if_neg (by omega), if_pos (by omega)]) fro.rf H
    · show Q (.inr _, _)
      exact kE2 h (by unfold sp_commit; rw [if_neg (by omega), if_pos (by omega)]) fro.rf H
  · show Q (.inr _, _)
    exact kE1 h (by unfold sp_commit; rw [if_pos (by omega)]) fro.rf H
end XJ
