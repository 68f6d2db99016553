section XC
variable {h : aH} {Q : aR → Prop} {a τ υ : Nat} {L : List Edt} {q : Nat → Nat} {F T l : List Ent}
theorem x_notePlaces {i : Nat} (H : LiP h a L q) (S : SeC h (a + 2) l) (HT : SeC h τ T) (oT : okL T) (hPI : PI T 0 l) (hτ : τ + 14 ≤ a ∨ a + 250 ≤ τ) (hl0 : L.length + (plc i T T.length 0 l).1.length ≤ 78)
    (kk : ∀ h', fro h h' a (a + 250) → LiP h' a (L ++ (plc i T T.length 0 l).1) q → (∃ l', SeC h' (a + 2) l') → Q (.inl none, h')) : amT mX3_notePlaces 0 [vR a, vI (i : Int), vR τ] [] h Q := by
  obtain ⟨R, hR⟩ : ∃ R, R = (plc (i : Int) T T.length 0 l).1 := ⟨_, rfl⟩
  rw [← hR] at kk hl0
  have loop : ∀ (d n : Nat) (tl : List aV) (g : aH) (l' : List Ent) (L' : List Edt), n + d = T.length → PI T n l' → fro h g a (a + 250) → LiP g a L' q → SeC g (a + 2) l' → L'.length + (plc i T d n l').1.length ≤ 78 → L' ++ (plc i T d n l').1 = L ++ R →
      amT mX3_notePlaces 2 (vR a :: vI (i : Int) :: vR τ :: vI (n : Int) :: tl) [] g Q := by
    intro d
    induction d with
    | zero =>
      intro n tl g l' L' hn hP fr Hg Sg hl e1
      obtain ⟨pt, ⟨u0, u1, u2, u3, u4, u5⟩, d1, d2, d3⟩ := HT.ag (fr.ag (by omega))
      rw [show (plc (i : Int) T 0 n l').1 = [] from rfl, List.append_nil] at e1
      refine kr_iload_n (pc := 2) dX3_notePlaces_2 rfl ?_
      refine kr_aload_n (pc := 3) dX3_notePlaces_3 rfl ?_
      refine kr_geti (pc := 4) dX3_notePlaces_4 rfl (by decide) (by assumption) d1 ?_
      refine kr_icmp_ge (pc := 7) dX3_notePlaces_7 rfl (fun h7 => ?_) (fun h7 => by exfalso; omega)
      refine kr_return (d0 := ()) (pc := 97) dX3_notePlaces_97 rfl ?_
      exact kk g fr (by rw [← e1]; exact Hg) ⟨l', Sg⟩
    | succ d ih =>
      intro n tl g l' L' hn hP fr Hg Sg hl e1
      obtain ⟨a1, a2, a3, a4, a5, a6, a7⟩ := Hg.1
      obtain ⟨p, ⟨w0, w1, w2, w3, w4, w5⟩, c1, c2, c3⟩ := id Sg
      obtain ⟨e, he⟩ : ∃ e, T[n]? = some e := ⟨_, List.getElem?_eq_getElem (by omega)⟩
      obtain ⟨pt, ⟨u0, u1, u2, u3, u4, u5⟩, d1, d2, d3⟩ := HT.ag (fr.ag (by omega))
      obtain ⟨x1, x2⟩ := u4 n (by omega)
      have x3 : hrf g (τ + 1) ((n : Nat) : Int).toNat = some (τ + 2 + 2 * pt n) := x1
      have en := d3 n e he
      have z1 := en.1.1
      have z2 := en.2.1
      have hle := hP.le
      have hln := hP.len
      have hT6 := oT.1
      have rk := kix_rng l' e.1
      unfold plc at hl e1
      rw [he] at hl e1
      dsimp only at hl e1
      have again : ∀ (tl : List aV) (g1 : aH) (l1 : List Ent) (L1 : List Edt), PI T (n + 1) l1 → fro g g1 a (a + 250) → LiP g1 a L1 q → SeC g1 (a + 2) l1 → L1.length + (plc i T d (n + 1) l1).1.length ≤ 78 → L1 ++ (plc i T d (n + 1) l1).1 = L ++ R → amT mX3_notePlaces 91 (vR a :: vI (i : Int) :: vR τ :: vI (n : Int) :: tl) [] g1 Q := by
        intro tl g1 l1 L1 q1 q2 q3 q4 q5 q6
        refine kr_iinc (pc := 91) dX3_notePlaces_91 rfl ⟨⟨by omega, by omega⟩, by decide, by decide⟩ ?_
        simp only [stl, List.tail_cons, List.tail_nil]
        refine kr_goto (pc := 94) dX3_notePlaces_94 rfl ?_
        exact ih (n + 1) tl g1 l1 L1 (by omega) q1 (fr.tr q2) q3 q4 q5 q6
      refine kr_iload_n (pc := 2) dX3_notePlaces_2 rfl ?_
      refine kr_aload_n (pc := 3) dX3_notePlaces_3 rfl ?_
      refine kr_geti (pc := 4) dX3_notePlaces_4 rfl (by decide) (by assumption) (by first | exact d1 | exact z2) ?_
      refine kr_icmp_ge (pc := 7) dX3_notePlaces_7 rfl (fun h7 => by exfalso; omega) (fun h7 => ?_)
      refine kr_aload_n (pc := 10) dX3_notePlaces_10 rfl ?_
      refine kr_getr (pc := 11) dX3_notePlaces_11 rfl rfl (by assumption) (by assumption) ?_
      refine kr_iload_n (pc := 14) dX3_notePlaces_14 rfl ?_
      refine kr_aald (pc := 15) dX3_notePlaces_15 (by assumption) (by decide) (by omega) (by omega) (by assumption) ?_
      refine kr_astore (pc := 16) dX3_notePlaces_16 (show 4 ≤ _ from by simp) (by decide) ?_
      simp only [stl, List.tail_cons, List.tail_nil]
      refine kr_aload_n (pc := 18) dX3_notePlaces_18 rfl ?_
      refine kr_getr (pc := 19) dX3_notePlaces_19 rfl rfl (by assumption) (by assumption) ?_
      refine kr_aload (pc := 22) dX3_notePlaces_22 rfl ?_
      refine kr_geti (pc := 24) dX3_notePlaces_24 rfl (by decide) (by assumption) (by first | exact d1 | exact z2) ?_
      refine kr_v1 (pc := 27) dX3_notePlaces_27 rfl rfl (by assumption) (Nat.le_of_ble_eq_true rfl) rfl (x_placeOf Sg ?_)
      show amT _ _ _ _ _ _
      refine kr_istore (pc := 30) dX3_notePlaces_30 (show 5 ≤ _ from by simp) (by decide) ?_
      simp only [stl, List.tail_cons, List.tail_nil]
      refine kr_iload (pc := 32) dX3_notePlaces_32 rfl ?_
      refine kr_iconst (pc := 34) dX3_notePlaces_34 (by decide) ?_
      refine kr_icmp_ne (pc := 35) dX3_notePlaces_35 rfl (fun h35 => ?_) (fun h35 => ?_)
      · refine kr_iload (pc := 61) dX3_notePlaces_61 rfl ?_
        refine kr_iload_n (pc := 63) dX3_notePlaces_63 rfl ?_
        refine kr_icmp_eq (pc := 64) dX3_notePlaces_64 rfl (fun h64 => ?_) (fun h64 => ?_)
        · rw [if_neg h35, if_pos h64] at hl e1
          exact again _ g l' L' (hP.eq he h64) fro.rf Hg Sg hl e1
        · refine kr_aload_n (pc := 67) dX3_notePlaces_67 rfl ?_
          refine kr_iconst (pc := 68) dX3_notePlaces_68 (by decide) ?_
          refine kr_iload_n (pc := 69) dX3_notePlaces_69 rfl ?_
          refine kr_aload (pc := 70) dX3_notePlaces_70 rfl ?_
          refine kr_geti (pc := 72) dX3_notePlaces_72 rfl (by decide) (by assumption) (by first | exact d1 | exact z2) ?_
          refine kr_iload (pc := 75) dX3_notePlaces_75 rfl ?_
          rw [if_neg h35, if_neg h64] at hl e1
          dsimp only at hl e1
          rw [List.length_cons] at hl
          refine kr_iload_n (pc := 77) dX3_notePlaces_77 rfl ?_
          refine kr_v5 (pc := 78) dX3_notePlaces_78 rfl rfl (by assumption) (Nat.le_of_ble_eq_true rfl) rfl rfl rfl rfl rfl (x_note (n := E0) Hg (by omega) (fun h => absurd h (by decide)) (fun g' fr' Hg' => ?_))
          show amT _ _ _ _ _ _
          have Sg' := Sg.ag (fr'.ag (c := a + 2) (d := a + 16) (by omega))
          have s1' : hsh g' a = (4, 3) := (by rw [fr'.1]; exact a1)
          have s2' : hrf g' a 2 = some (a + 2) := Hg'.1.2.2.2.1
          have s3' : hsh g' (a + 2) = (7, 2) := (by rw [fr'.1]; exact w0)
          have hge := hP.ge oT.2.1 he h35
          refine kr_aload_n (pc := 81) dX3_notePlaces_81 rfl ?_
          refine kr_getr (pc := 82) dX3_notePlaces_82 rfl rfl (by assumption) (by assumption) ?_
          refine kr_iload (pc := 85) dX3_notePlaces_85 rfl ?_
          refine kr_iload_n (pc := 87) dX3_notePlaces_87 rfl ?_
          rw [show vI (kix l' e.1) = vI (((kix l' e.1).toNat : Nat) : Int) by rw [show (((kix l' e.1).toNat : Nat) : Int) = kix l' e.1 by omega]]
          refine kr_v2 (pc := 88) dX3_notePlaces_88 rfl rfl (by assumption) (Nat.le_of_ble_eq_true rfl) rfl rfl (x_mv Sg' (by omega) (by omega) (fun g'' fr'' Sg'' => ?_))
          show amT _ _ _ _ _ _
          refine again _ g'' _ _ (hP.mvd oT.2.1 he h35) (fr'.fro.tr (fr''.up (by omega) (by omega))) (Hg'.ag (fr''.ag (by omega)) (fr''.ag (by omega))) Sg'' (by rw [List.length_append]; show L'.length + 1 + _ ≤ 78; omega) ?_
          rw [← e1, List.append_assoc]
          rfl
      · refine kr_aload_n (pc := 38) dX3_notePlaces_38 rfl ?_
        refine kr_iconst (pc := 39) dX3_notePlaces_39 (by decide) ?_
        refine kr_iload_n (pc := 40) dX3_notePlaces_40 rfl ?_
        refine kr_aload (pc := 41) dX3_notePlaces_41 rfl ?_
        refine kr_iconst (pc := 43) dX3_notePlaces_43 (by decide) ?_
        refine kr_iload_n (pc := 44) dX3_notePlaces_44 rfl ?_
        rw [if_pos h35] at hl e1
        dsimp only at hl e1
        rw [List.length_cons] at hl
        refine kr_v5 (pc := 45) dX3_notePlaces_45 rfl rfl (by assumption) (Nat.le_of_ble_eq_true rfl) rfl rfl rfl rfl rfl (x_noteWhole Hg (by omega) en (by omega) (fun g' fr' Hg' => ?_))
        show amT _ _ _ _ _ _
        have Sg' := Sg.ag (fr'.ag (c := a + 2) (d := a + 16) (by omega))
        have s1' : hsh g' a = (4, 3) := (by rw [fr'.1]; exact a1)
        have s2' : hrf g' a 2 = some (a + 2) := Hg'.1.2.2.2.1
        have s3' : hsh g' (a + 2) = (7, 2) := (by rw [fr'.1]; exact w0)
        have en' := en.ag (fr'.ag (c := τ + 2 + 2 * pt n) (d := τ + 2 + 2 * pt n + 2) (by omega))
        have hlt := hP.lt he h35
        refine kr_aload_n (pc := 48) dX3_notePlaces_48 rfl ?_
        refine kr_getr (pc := 49) dX3_notePlaces_49 rfl rfl (by assumption) (by assumption) ?_
        refine kr_iload_n (pc := 52) dX3_notePlaces_52 rfl ?_
        refine kr_aload (pc := 53) dX3_notePlaces_53 rfl ?_
        refine kr_v2 (pc := 55) dX3_notePlaces_55 rfl rfl (by assumption) (Nat.le_of_ble_eq_true rfl) rfl rfl (x_insert Sg' en' (by omega) (by omega) (by omega) (fun g'' fr'' Sg'' => ?_))
        show amT _ _ _ _ _ _
        refine kr_goto (pc := 58) dX3_notePlaces_58 rfl ?_
        refine again _ g'' _ _ (hP.ins he h35) (fr'.fro.tr (fr''.up (by omega) (by omega))) (Hg'.ag (fr''.ag (by omega)) (fr''.ag (by omega))) Sg'' (by rw [List.length_append]; show L'.length + 1 + _ ≤ 78; omega) ?_
        rw [← e1, List.append_assoc]
        rfl
  refine kr_iconst (pc := 0) dX3_notePlaces_0 (by decide) ?_
  refine kr_istore_n (pc := 1) dX3_notePlaces_1 (show 3 ≤ _ from by simp) (by decide) ?_
  simp only [stl, List.tail_cons, List.tail_nil]
  exact loop T.length 0 [] h l L (by omega) hPI fro.rf H S (by rw [← hR]; exact hl0) (by rw [← hR])
end XC
