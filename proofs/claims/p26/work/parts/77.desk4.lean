section XI
variable {h : aH} {Q : aR → Prop} {x : Nat} {S : St}
theorem xc_open {c : Int} (H : DeR h x S) (HS : okS S) (k1 : ∀ v S' h', sp_open S c = (0, v, S') → fro h h' x (x + 1899) → DeR h' x S' → Q (.inl (some (vI v)), h')) (kE1 : sp_open S c = sx S 1 → Q (.inr 1, hth h)) : amT mX7_open 0 [vR x, vI c] [] h Q := by
  obtain ⟨⟨a1, a2, a3, a4, a5, a6, a7, a8, a9, b0, b1, b2, b3⟩, c1, c2, c3, c4, c5, c6, c7, c8⟩ := id H
  have hb := HS.2.2.1
  have act : 0 ≤ c ∧ c < 3 → amT mX7_open 5 [vR x, vI c] [] h Q := by
    intro hc
    obtain ⟨x1, x2, x3⟩ := b1 c.toNat (by omega)
    have g2 : hiv (hwi h (x + 304 + 49 * c.toNat) 0 1) x 2 = (S.2.2.2.1 : Int) + 1 := (if_neg (by omega)).trans c3
    have e1 : hiv (hwi (hwi h (x + 304 + 49 * c.toNat) 0 1) (x + 304 + 49 * c.toNat) 1 ((S.2.2.2.1 : Int) + 1 - 1)) (x + 304 + 49 * c.toNat) 1 = S.2.2.2.1 := up2_at.trans (by omega)
    have F2 := (H.f.op (v := 1) (c := c.toNat) (by omega)).bs (c := c.toNat) (v := S.2.2.2.1) (by omega)
    rw [show (S.2.2.2.1 : Int) = (S.2.2.2.1 : Int) + 1 - 1 by omega] at F2
    have y1 : hrf h (x + 2) ((S.2.2.2.1 : Nat) : Int).toNat = some (kp x (3 + S.2.2.2.1)) := b2 _ (by omega)
    have r1 := kp_rng (x := x) (show c.toNat < 33 by omega)
    have r2 := kp_ne (x := x) (show c.toNat < 33 by omega) (show 3 + S.2.2.2.1 < 33 by omega) (by omega)
    have Cf := F2.2.1 (3 + S.2.2.2.1) (by omega)
    have Cx := (F2.2.1 c.toNat (by omega)).x
    have s1 : hsh (hwi (hwi h (x + 304 + 49 * c.toNat) 0 1) (x + 304 + 49 * c.toNat) 1 ((S.2.2.2.1 : Int) + 1 - 1)) (kp x c.toNat) = (2, 2) := (F2.2.1 c.toNat (by omega)).1.1
    refine kr_aload_n (pc := 5) dX7_open_5 rfl ?_
    refine kr_getr (pc := 6) dX7_open_6 rfl rfl (by assumption) (by assumption) ?_
    refine kr_iload_n (pc := 9) dX7_open_9 rfl ?_
    refine kr_aald (pc := 10) dX7_open_10 (by assumption) (by decide) (by omega) (by omega) (by assumption) ?_
    refine kr_astore_n (pc := 11) dX7_open_11 (show 2 ≤ _ from by simp) (by decide) ?_
    simp only [stl, List.tail_cons, List.tail_nil]
    refine kr_aload_n (pc := 12) dX7_open_12 rfl ?_
    refine kr_iconst (pc := 13) dX7_open_13 (by decide) ?_
    refine kr_puti (pc := 14) dX7_open_14 rfl (Or.inr ⟨rfl, by decide⟩) (by decide) (by assumption) ?_
    refine kr_aload_n (pc := 17) dX7_open_17 rfl ?_
    refine kr_aload_n (pc := 18) dX7_open_18 rfl ?_
    refine kr_geti (pc := 19) dX7_open_19 rfl (by decide) (by assumption) (by first | exact g2 | exact e1) ?_
    refine kr_iconst (pc := 22) dX7_open_22 (by decide) ?_
    refine kr_isub (pc := 23) dX7_open_23 ⟨by omega, by omega⟩ ?_
    refine kr_puti (pc := 24) dX7_open_24 rfl (Or.inl rfl) (by decide) (by assumption) ?_
    refine kr_aload_n (pc := 27) dX7_open_27 rfl ?_
    refine kr_getr (pc := 28) dX7_open_28 rfl rfl (by assumption) (by assumption) ?_
    refine kr_aload_n (pc := 31) dX7_open_31 rfl ?_
    refine kr_getr (pc := 32) dX7_open_32 rfl rfl (by assumption) (by assumption) ?_
    refine kr_aload_n (pc := 35) dX7_open_35 rfl ?_
    refine kr_geti (pc := 36) dX7_open_36 rfl (by decide) (by assumption) (by first | exact g2 | exact e1) ?_
    refine kr_aald (pc := 39) dX7_open_39 (by assumption) (by decide) (by omega) (by omega) (by assumption) ?_
    refine kr_v1 (pc := 40) dX7_open_40 rfl rfl (by assumption) (Nat.le_of_ble_eq_true rfl) rfl (x_ccopy Cx Cf (by omega) (fun h' fr C' => ?_))
    show amT _ _ _ _ _ _
    have e2 : hiv h' (x + 304 + 49 * c.toNat) 1 = S.2.2.2.1 := by
      rw [(fr.2.2.2 (x + 304 + 49 * c.toNat) (kp_ca (by omega) (by omega))).1]
      exact e1
    have x2' : hsh h' (x + 304 + 49 * c.toNat) = (1, 3) := by rw [fr.1]; exact x2
    have fx : hiv h' x = hiv (hwi (hwi h (x + 304 + 49 * c.toNat) 0 1) (x + 304 + 49 * c.toNat) 1 ((S.2.2.2.1 : Int) + 1 - 1)) x := (fr.2.2.2 x (by omega)).1
    have gx : ∀ j, hiv h' x j = hiv h x j := fun j => by
      rw [fx]
      exact (if_neg (by omega)).trans (if_neg (by omega))
    have F3 := F2.cf (by omega) fr C'
    refine kr_aload_n (pc := 43) dX7_open_43 rfl ?_
    refine kr_geti (pc := 44) dX7_open_44 rfl (by decide) (by assumption) e2 ?_
    refine kr_ireturn (pc := 47) dX7_open_47 rfl ?_
    refine k1 _ _ h' (by unfold sp_open; rw [if_pos (by omega)]) (((hwi_fro (by omega) (by omega)).tr (hwi_fro (by omega) (by omega))).tr (fr.up (by omega) (by omega))) (DeF.r ?_ ?_ ?_ ?_)
    · exact F3
    · rw [gx]; exact c3
    · rw [gx]; exact c5
    · intro hw
      rw [gx]; exact c6 hw
  refine kr_iload_n (pc := 0) dX7_open_0 rfl ?_
  refine kr_iconst (pc := 1) dX7_open_1 (by decide) ?_
  refine kr_s2 (pc := 2) dX7_open_2 rfl rfl (Nat.le_of_ble_eq_true rfl) rfl rfl (x_needIndex (fun c2 => ?_) (fun c2 => ?_))
  · show amT _ _ _ _ _ _
    exact act (by omega)
  · show Q (.inr _, _)
    exact kE1 (by unfold sp_open; rw [if_neg (by omega)])
theorem xc_load {c v : Int} (H : DeR h x S) (HS : okS S) (k1 : ∀ S' h', sp_load S c v = (0, 0, S') → fro h h' x (x + 1899) → DeR h' x S' → Q (.inl none, h')) (kE1 : sp_load S c v = sx S 1 → Q (.inr 1, hth h)) (kE2 : sp_load S c v = sx S 2 → Q (.inr 2, hth h)) : amT mX7_load 0 [vR x, vI c, vI v] [] h Q := by
  obtain ⟨⟨a1, a2, a3, a4, a5, a6, a7, a8, a9, b0, b1, b2, b3⟩, c1, c2, c3, c4, c5, c6, c7, c8⟩ := id H
  have hb := HS.2.2.1
  refine kr_iload_n (pc := 0) dX7_load_0 rfl ?_
  refine kr_iconst (pc := 1) dX7_load_1 (by decide) ?_
  refine kr_s2 (pc := 2) dX7_load_2 rfl rfl (Nat.le_of_ble_eq_true rfl) rfl rfl (x_needIndex (fun c2 => ?_) (fun c2 => ?_))
  · show amT _ _ _ _ _ _
    refine kr_iload_n (pc := 5) dX7_load_5 rfl ?_
    refine kr_aload_n (pc := 6) dX7_load_6 rfl ?_
    refine kr_geti (pc := 7) dX7_load_7 rfl (by decide) (by assumption) c3 ?_
    refine kr_s2 (pc := 10) dX7_load_10 rfl rfl (Nat.le_of_ble_eq_true rfl) rfl rfl (x_needIndex (fun c10 => ?_) (fun c10 => ?_))
    · show amT _ _ _ _ _ _
      refine kr_aload_n (pc := 13) dX7_load_13 rfl ?_
      refine kr_iload_n (pc := 14) dX7_load_14 rfl ?_
      refine kr_v1 (pc := 15) dX7_load_15 rfl rfl (by assumption) (Nat.le_of_ble_eq_true rfl) rfl (x_openC H (by omega) (fun c15 => ?_) (fun c15 => ?_))
      · show amT _ _ _ _ _ _
        have y1 : hrf h (x + 2) v.toNat = some (kp x (3 + v.toNat)) := b2 _ (by omega)
        have r1 := kp_rng (x := x) (show c.toNat < 33 by omega)
        have r2 := kp_ne (x := x) (show c.toNat < 33 by omega) (show 3 + v.toNat < 33 by omega) (by omega)
        have s1 := (c1 c.toNat (by omega)).1.1
        refine kr_aload_n (pc := 18) dX7_load_18 rfl ?_
        refine kr_getr (pc := 19) dX7_load_19 rfl rfl (by assumption) (by assumption) ?_
        refine kr_iload_n (pc := 22) dX7_load_22 rfl ?_
        refine kr_aald (pc := 23) dX7_load_23 (by assumption) (by decide) (by omega) (by omega) (by assumption) ?_
        refine kr_v1 (pc := 24) dX7_load_24 rfl rfl (by assumption) (Nat.le_of_ble_eq_true rfl) rfl (x_ccopy (c1 c.toNat (by omega)).x (c1 (3 + v.toNat) (by omega)) (by omega) (fun h' fr C' => ?_))
        show amT _ _ _ _ _ _
        refine kr_return (d0 := ()) (pc := 27) dX7_load_27 rfl ?_
        exact k1 _ h' (by unfold sp_load; rw [if_neg (by omega), if_neg (by omega)]) (fr.up (by omega) (by omega)) (H.cf (by omega) fr C')
      · show Q (.inr _, _)
        exact kE2 (by unfold sp_load; rw [if_neg (by omega), if_pos (by omega)])
    · show Q (.inr _, _)
      exact kE1 (by unfold sp_load; rw [if_pos (by omega)])
  · show Q (.inr _, _)
    exact kE1 (by unfold sp_load; rw [if_pos (by omega)])
theorem draft_sc {h' : aH} {c : Cfg} (H : DeR h x S) (f : fro h h' (x + 254) (x + 254 + 48)) (C : CfC h' (x + 254) c) : DeR h' x S := by
  obtain ⟨⟨q, L⟩, ⟨p, P⟩, _, E⟩ := H.2.2.2.2.2.2.2.2
  exact H.sc (f.up (by omega) (by omega)) ⟨⟨q, L.ag (f.ag (by omega)) (f.ag (by omega))⟩, ⟨p, P.ag (f.ag (by omega))⟩, C.x, E.ag (f.ag (by omega))⟩
theorem list_sc {h' : aH} {L : List Edt} {q : Nat → Nat} (H : DeR h x S) (f : fro h h' (x + 4) (x + 4 + 250)) (g : agr h h' (x + 4 + 2) (x + 4 + 16)) (Hl : LiP h' (x + 4) L q) : DeR h' x S := by
  obtain ⟨_, ⟨p, P⟩, C, E⟩ := H.2.2.2.2.2.2.2.2
  exact H.sc (f.up (by omega) (by omega)) ⟨⟨q, Hl.1⟩, ⟨p, P.ag g⟩, C.ag (f.ag (by omega)), E.ag (f.ag (by omega))⟩
theorem DeR.st {h' : aH} (H : DeR h x S) : hsh h x = (8, 10) ∧ hrf h x 7 = some (x + 4) ∧ hrf h x 8 = some (x + 254) ∧ hsh h (x + 4) = (4, 3) ∧ hsh h (x + 254) = (2, 2) := by
  obtain ⟨⟨q, L⟩, ⟨p, P⟩, C, E⟩ := H.2.2.2.2.2.2.2.2
  exact ⟨H.1.1, H.1.2.2.2.2.2.2.2.1, H.1.2.2.2.2.2.2.2.2.1, L.1, C.1.1⟩
theorem DeR.dx (H : DeR h x S) : CfX h (x + 254) := H.2.2.2.2.2.2.2.2.2.2.1
theorem xc_apply {c a b i : Int} (H : DeR h x S) (HS : okS S) (ha : a < 2147483648) (hb : b < 2147483648) (hi : i = 0 ∨ i = 1) (k1 : ∀ v S' h', sp_apply S c a b i = (0, v, S') → fro h h' x (x + 1899) → DeR h' x S' → Q (.inl (some (vI v)), h'))
    (kE1 : ∀ h', sp_apply S c a b i = sx S 1 → fro h h' x (x + 1899) → DeR h' x S → Q (.inr 1, hth h')) (kE2 : ∀ h', sp_apply S c a b i = sx S 2 → fro h h' x (x + 1899) → DeR h' x S → Q (.inr 2, hth h')) : amT mX7_apply 0 [vR x, vI c, vI a, vI b, vI i] [] h Q := by
  obtain ⟨t1, t2, t3, t4, t5⟩ := H.st (h' := h)
  have hbb := HS.2.2.1
  have act : 0 ≤ c ∧ c ≤ 2 → ∀ na nb : Nat, slt S a = na → na < 33 → slt S b = nb → nb < 33 → ∀ (L : List Edt) (q : Nat → Nat) (g : aH), L = (if i = 0 then edS S a b else invL (edS S a b)) → (∀ e, e ∈ L → okEd e) → L.length ≤ 78 → fro h g x (x + 1899) → DeR g x S → LiP g (x + 4) L q → amT mX7_apply 34 [vR x, vI c, vI a, vI b, vI i] [] g Q := by
    intro hc na nb ea fa eb fb L q g eL okd hlen fr D Hl
    have hL : L.length = (edS S a b).length := by
      rw [eL]
      split
      · rfl
      · exact invL_len
    obtain ⟨u1, u2, u3, u4, u5⟩ := D.st (h' := g)
    have sp0 : ¬ S.2.1 c.toNat = 0 → sp_apply S c a b i = (match apA false L (S.1 c.toNat) with
        | none => sx S 2
        | some c' => (0, (edS S a b).length, sCf S c.toNat c')) := fun ho => by
      unfold sp_apply
      rw [if_neg (by omega), if_neg ho, ← eL]
      rfl
    have r1 := kp_rng (x := x) (show c.toNat < 33 by omega)
    have rest : ¬ S.2.1 c.toNat = 0 → amT mX7_apply 39 [vR x, vI c, vI a, vI b, vI i] [vR (kp x c.toNat)] g Q := by
      intro ho
      have sp := sp0 ho
      refine kr_astore (pc := 39) dX7_apply_39 (show 5 ≤ _ from by simp) (by decide) ?_
      simp only [stl, List.tail_cons, List.tail_nil]
      refine kr_aload_n (pc := 41) dX7_apply_41 rfl ?_
      refine kr_getr (pc := 42) dX7_apply_42 rfl rfl (by assumption) (by assumption) ?_
      refine kr_aload (pc := 45) dX7_apply_45 rfl ?_
      refine kr_v1 (pc := 47) dX7_apply_47 rfl rfl (by assumption) (Nat.le_of_ble_eq_true rfl) rfl (x_ccopy D.dx (D.2.1 c.toNat (by omega)) (by omega) (fun g2 f2 C2 => ?_))
      show amT _ _ _ _ _ _
      have D2 : DeR g2 x S := draft_sc D f2 C2
      have Hl2 : LiP g2 (x + 4) L q := Hl.ag (f2.ag (by omega)) (f2.ag (by omega))
      obtain ⟨v1, v2, v3, v4, v5⟩ := D2.st (h' := g2)
      refine kr_aload_n (pc := 50) dX7_apply_50 rfl ?_
      refine kr_getr (pc := 51) dX7_apply_51 rfl rfl (by assumption) (by assumption) ?_
      refine kr_aload_n (pc := 54) dX7_apply_54 rfl ?_
      refine kr_getr (pc := 55) dX7_apply_55 rfl rfl (by assumption) (by assumption) ?_
      refine kr_iconst (pc := 58) dX7_apply_58 (by decide) ?_
      refine kr_v2 (pc := 59) dX7_apply_59 rfl rfl (by assumption) (Nat.le_of_ble_eq_true rfl) rfl rfl (x_applyAll Hl2 okd C2 (HS.1 c.toNat (by omega)) (Or.inl ⟨rfl, rfl⟩) (by omega) (fun c' g3 e3 f3 C3 => ?_) (fun c' g3 e3 f3 C3 => ?_))
      show amT _ _ _ _ _ _
      · have D3 : DeR g3 x S := draft_sc D2 f3 C3
        have Hl3 : LiP g3 (x + 4) L q := Hl2.ag (f3.ag (by omega)) (f3.ag (by omega))
        obtain ⟨w1, w2, w3, w4, w5⟩ := D3.st (h' := g3)
        have w6 := (D3.2.1 c.toNat (by omega)).1.1
        rw [e3] at sp
        refine kr_if_ne (pc := 62) dX7_apply_62 rfl (fun _ => ?_) (fun h => absurd h (by decide))
        refine kr_aload (pc := 75) dX7_apply_75 rfl ?_
        refine kr_aload_n (pc := 77) dX7_apply_77 rfl ?_
        refine kr_getr (pc := 78) dX7_apply_78 rfl rfl (by assumption) (by assumption) ?_
        refine kr_v1 (pc := 81) dX7_apply_81 rfl rfl (by assumption) (Nat.le_of_ble_eq_true rfl) rfl (x_ccopy (D3.2.1 c.toNat (by omega)).x C3 (by omega) (fun g4 f4 C4 => ?_))
        show amT _ _ _ _ _ _
        have D4 : DeR g4 x (sCf S c.toNat c') := D3.cf (by omega) f4 C4
        have Hl4 : LiP g4 (x + 4) L q := Hl3.ag (f4.ag (by omega)) (f4.ag (by omega))
        obtain ⟨y1, y2, y3, y4, y5⟩ := D4.st (h' := g4)
        have y6 := Hl4.2.1
        rw [hL] at y6
        refine kr_aload_n (pc := 84) dX7_apply_84 rfl ?_
        refine kr_getr (pc := 85) dX7_apply_85 rfl rfl (by assumption) (by assumption) ?_
        refine kr_geti (pc := 88) dX7_apply_88 rfl (by decide) (by assumption) y6 ?_
        refine kr_ireturn (pc := 91) dX7_apply_91 rfl ?_
        exact k1 _ _ g4 sp (fr.tr ((f2.up (by omega) (by omega)).tr ((f3.up (by omega) (by omega)).tr (f4.up (by omega) (by omega))))) D4
      · have D3 : DeR g3 x S := draft_sc D2 f3 C3
        rw [e3] at sp
        refine kr_if_ne (pc := 62) dX7_apply_62 rfl (fun h => absurd rfl h) (fun _ => ?_)
        refine t_thr (pc := 65) dX7_apply_65 dX7_apply_68 dX7_apply_69 dX7_apply_71 dX7_apply_74 rfl (Nat.le_of_ble_eq_true rfl) (by decide) (by decide) rfl ?_
        exact kE2 g3 sp (fr.tr ((f2.up (by omega) (by omega)).tr (f3.up (by omega) (by omega)))) D3
    refine kr_aload_n (pc := 34) dX7_apply_34 rfl ?_
    refine kr_iload_n (pc := 35) dX7_apply_35 rfl ?_
    refine kr_v1 (pc := 36) dX7_apply_36 rfl rfl (by assumption) (Nat.le_of_ble_eq_true rfl) rfl (x_openC D hc (fun c36 => ?_) (fun c36 => ?_))
    · show amT _ _ _ _ _ _
      exact rest c36
    · show Q (.inr _, _)
      exact kE2 g (by unfold sp_apply; rw [if_neg (by omega), if_pos c36]) fr D
  refine kr_iload_n (pc := 0) dX7_apply_0 rfl ?_
  refine kr_iconst (pc := 1) dX7_apply_1 (by decide) ?_
  refine kr_s2 (pc := 2) dX7_apply_2 rfl rfl (Nat.le_of_ble_eq_true rfl) rfl rfl (x_needIndex (fun c2 => ?_) (fun c2 => ?_))
  · show amT _ _ _ _ _ _
    refine kr_aload_n (pc := 5) dX7_apply_5 rfl ?_
    refine kr_getr (pc := 6) dX7_apply_6 rfl rfl (by assumption) (by assumption) ?_
    refine kr_aload_n (pc := 9) dX7_apply_9 rfl ?_
    refine kr_iload_n (pc := 10) dX7_apply_10 rfl ?_
    refine kr_v1 (pc := 11) dX7_apply_11 rfl rfl (by assumption) (Nat.le_of_ble_eq_true rfl) rfl (x_confOf H HS ha (fun n11 e11 f11 => ?_) (fun e11 => ?_))
    · show amT _ _ _ _ _ _
      refine kr_aload_n (pc := 14) dX7_apply_14 rfl ?_
      refine kr_iload_n (pc := 15) dX7_apply_15 rfl ?_
      refine kr_v1 (pc := 16) dX7_apply_16 rfl rfl (by assumption) (Nat.le_of_ble_eq_true rfl) rfl (x_confOf H HS hb (fun n16 e16 f16 => ?_) (fun e16 => ?_))
      · show amT _ _ _ _ _ _
        refine kr_v2 (pc := 19) dX7_apply_19 rfl rfl (by assumption) (Nat.le_of_ble_eq_true rfl) rfl rfl (x_fillS H HS e11 f11 e16 f16 (fun h1 q fr Hl D okd hlen => ?_))
        show amT _ _ _ _ _ _
        obtain ⟨y1, y2, y3, y4, y5⟩ := D.st (h' := h1)
        refine kr_iload (pc := 22) dX7_apply_22 rfl ?_
        refine kr_if_eq (pc := 24) dX7_apply_24 rfl (fun h24 => ?_) (fun h24 => ?_)
        · exact act (by omega) n11 n16 e11 f11 e16 f16 _ q h1 (by rw [if_pos h24]) okd hlen (fr.up (by omega) (by omega)) D Hl
        · refine kr_aload_n (pc := 27) dX7_apply_27 rfl ?_
          refine kr_getr (pc := 28) dX7_apply_28 rfl rfl (by assumption) (by assumption) ?_
          obtain ⟨z1, z2, z3, z4, z5⟩ := D.st (h' := h1)
          refine kr_v0 (pc := 31) dX7_apply_31 rfl rfl (by assumption) (Nat.le_of_ble_eq_true rfl) (x_invertAll Hl (fun h2 q2 fr2 ag2 Hl2 => ?_))
          show amT _ _ _ _ _ _
          exact act (by omega) n11 n16 e11 f11 e16 f16 _ q2 h2 (by rw [if_neg h24]) (invL_okd okd) (by rw [invL_len]; exact hlen) ((fr.up (by omega) (by omega)).tr (fr2.up (by omega) (by omega))) (list_sc D fr2 ag2 Hl2) Hl2
      · show Q (.inr _, _)
        exact kE1 h (by unfold sp_apply; rw [if_pos (by omega)]) fro.rf H
    · show Q (.inr _, _)
      exact kE1 h (by unfold sp_apply; rw [if_pos (by omega)]) fro.rf H
  · show Q (.inr _, _)
    exact kE1 h (by unfold sp_apply; rw [if_pos (by omega)]) fro.rf H
end XI
