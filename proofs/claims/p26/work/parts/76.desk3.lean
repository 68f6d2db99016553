/-- the desk but for the count of versions and what waits -/
def DeF (h : aH) (x : Nat) (S : St) : Prop :=
  DeB h x ∧ (∀ s, s < 33 → CfC h (kp x s) (S.1 s)) ∧ (∀ c, c < 3 → hiv h (x + 304 + 49 * c) 0 = S.2.1 c ∧ hiv h (x + 304 + 49 * c) 1 = S.2.2.1 c) ∧ hiv h x 4 = S.2.2.2.2.2.length ∧ (∀ (i : Nat) (r : Rul), S.2.2.2.2.2[i]? = some r → i < 8 ∧ RuC h (x + 1891 + i) r) ∧ ScR h x
theorem DeR.f {h : aH} {x : Nat} {S : St} (H : DeR h x S) : DeF h x S := by
  obtain ⟨B, c1, c2, c3, c4, c5, c6, c7, c8⟩ := H
  exact ⟨B, c1, c2, c4, c7, c8⟩
theorem DeF.r {h : aH} {x : Nat} {S : St} (H : DeF h x S) (h2 : hiv h x 2 = (S.2.2.2.1 : Int) + 1) (h5 : hiv h x 5 = (if S.2.2.2.2.1 = -1 then 0 else S.2.2.2.2.1)) (h6 : S.2.2.2.2.1 ≠ -1 → hiv h x 6 = (S.2.2.2.1 : Int) - 1) : DeR h x S := by
  obtain ⟨B, c1, c2, c4, c7, c8⟩ := H
  exact ⟨B, c1, c2, h2, c4, h5, h6, c7, c8⟩
theorem DeF.w {h : aH} {x k : Nat} {S : St} {v : Int} (H : DeF h x S) (hk : k ≠ 4) : DeF (hwi h x k v) x S := by
  obtain ⟨B, c1, c2, c4, c7, c8⟩ := H
  have f : fro h (hwi h x k v) x (x + 1) := hwi_fro (by omega) (by omega)
  exact ⟨B, fun s hs => (c1 s hs).ag (f.ag (by have := kp_rng (x := x) hs; omega)), fun c hc => by rw [(f.2.2.2 (x + 304 + 49 * c) (by omega)).1]; exact c2 c hc, (up2_nj (fun h => hk h.symm)).trans c4, fun i r hr => ⟨(c7 i r hr).1, (c7 i r hr).2.ag (f.ag (by omega))⟩, c8.ag (f.ag (by omega))⟩
theorem DeF.cf {h h' : aH} {x s : Nat} {S : St} {c : Cfg} (H : DeF h x S) (hs : s < 33) (f : fro h h' (kp x s) (kp x s + 48)) (C : CfC h' (kp x s) c) : DeF h' x (sCf S s c) := by
  obtain ⟨B, c1, c2, c4, c7, c8⟩ := H
  have hr := kp_rng (x := x) hs
  have e : hiv h' x = hiv h x := (f.2.2.2 x (by omega)).1
  refine ⟨B.fro f (by omega) (fun c hc => kp_ca hs hc), fun t ht => ?_, fun c hc => ?_, by rw [e]; exact c4, fun i r hr => ⟨(c7 i r hr).1, (c7 i r hr).2.ag (f.ag (by omega))⟩, c8.ag (f.ag (by omega))⟩
  · show CfC h' _ (if t = s then c else S.1 t)
    split
    · rename_i hts
      rw [hts]
      exact C
    · rename_i hts
      exact (c1 t ht).ag (f.ag (by have := kp_ne (x := x) hs ht (fun h => hts h.symm); omega))
  · rw [(f.2.2.2 (x + 304 + 49 * c) (kp_ca hs hc)).1]
    exact c2 c hc
theorem DeF.op {h : aH} {x c : Nat} {S : St} {v : Int} (H : DeF h x S) (hc : c < 3) : DeF (hwi h (x + 304 + 49 * c) 0 v) x (S.1, fun j => if j = c then v else S.2.1 j, S.2.2) := by
  obtain ⟨B, c1, c2, c4, c7, c8⟩ := H
  have f : fro h (hwi h (x + 304 + 49 * c) 0 v) (x + 304 + 49 * c) (x + 304 + 49 * c + 1) := hwi_fro (by omega) (by omega)
  refine ⟨B, fun s hs => (c1 s hs).ag (f.ag (by have := kp_ca (x := x) hs hc; omega)), fun d hd => ⟨?_, ?_⟩, (congrFun (f.2.2.2 x (by omega)).1 4).trans c4, fun i r hr => ⟨(c7 i r hr).1, (c7 i r hr).2.ag (f.ag (by omega))⟩, c8.ag (f.ag (by omega))⟩
  · show (if x + 304 + 49 * d = x + 304 + 49 * c ∧ 0 = 0 then v else hiv h (x + 304 + 49 * d) 0) = if d = c then v else S.2.1 d
    by_cases hdc : d = c
    · rw [if_pos (by omega), if_pos hdc]
    · rw [if_neg (by omega), if_neg hdc]
      exact (c2 d hd).1
  · refine Eq.trans ?_ (c2 d hd).2
    exact if_neg (by rintro ⟨-, hh⟩; exact absurd hh (by decide))
theorem DeF.bs {h : aH} {x c : Nat} {S : St} {v : Nat} (H : DeF h x S) (hc : c < 3) : DeF (hwi h (x + 304 + 49 * c) 1 v) x (S.1, S.2.1, fun j => if j = c then v else S.2.2.1 j, S.2.2.2) := by
  obtain ⟨B, c1, c2, c4, c7, c8⟩ := H
  have f : fro h (hwi h (x + 304 + 49 * c) 1 v) (x + 304 + 49 * c) (x + 304 + 49 * c + 1) := hwi_fro (by omega) (by omega)
  refine ⟨B, fun s hs => (c1 s hs).ag (f.ag (by have := kp_ca (x := x) hs hc; omega)), fun d hd => ⟨?_, ?_⟩, (congrFun (f.2.2.2 x (by omega)).1 4).trans c4, fun i r hr => ⟨(c7 i r hr).1, (c7 i r hr).2.ag (f.ag (by omega))⟩, c8.ag (f.ag (by omega))⟩
  · refine Eq.trans ?_ (c2 d hd).1
    exact if_neg (by rintro ⟨-, hh⟩; exact absurd hh (by decide))
  · show (if x + 304 + 49 * d = x + 304 + 49 * c ∧ 1 = 1 then (v : Int) else hiv h (x + 304 + 49 * d) 1) = ((if d = c then v else S.2.2.1 d : Nat) : Int)
    by_cases hdc : d = c
    · rw [if_pos (by omega), if_pos hdc]
    · rw [if_neg (by omega), if_neg hdc]
      exact (c2 d hd).2
section XH
variable {h : aH} {Q : aR → Prop} {x : Nat} {S : St}
theorem DeR.scu {h' : aH} {c s : Int} {l : List Ent} (H : DeR h x S) (hc : 0 ≤ c ∧ c ≤ 2) (hs : 0 ≤ s ∧ s ≤ 2) (f : fro h h' (kp x c.toNat + 6 + 14 * s.toNat) (kp x c.toNat + 6 + 14 * s.toNat + 14)) (P : SeC h' (kp x c.toNat + 6 + 14 * s.toNat) l) : DeR h' x (uSec S c s l) :=
  H.cf (by omega) (f.up (by omega) (by omega)) ((H.2.1 c.toNat (by omega)).sec (by omega) f P)
theorem sec_fro {h' : aH} {c s : Int} (hc : 0 ≤ c ∧ c ≤ 2) (hs : 0 ≤ s ∧ s ≤ 2) (f : fro h h' (kp x c.toNat + 6 + 14 * s.toNat) (kp x c.toNat + 6 + 14 * s.toNat + 14)) : fro h h' x (x + 1899) :=
  f.up (by have := kp_rng (x := x) (show c.toNat < 33 by omega); omega) (by have := kp_rng (x := x) (show c.toNat < 33 by omega); omega)
theorem DeR.sq (H : DeR h x S) {c s : Int} (hc : 0 ≤ c ∧ c ≤ 2) (hs : 0 ≤ s ∧ s ≤ 2) : SeC h (kp x c.toNat + 6 + 14 * s.toNat) (sec S c s) := (H.2.1 c.toNat (by omega)).2.1 s.toNat (by omega)
theorem xc_add {c s y p : Int} (H : DeR h x S) (HS : okS S) (k1 : ∀ v S' h', sp_add S c s y p = (0, v, S') → fro h h' x (x + 1899) → DeR h' x S' → Q (.inl (some (vI v)), h')) (kE1 : sp_add S c s y p = sx S 1 → Q (.inr 1, hth h)) (kE2 : sp_add S c s y p = sx S 2 → Q (.inr 2, hth h)) (kE3 : sp_add S c s y p = sx S 3 → Q (.inr 3, hth h)) : amT mX7_add 0 [vR x, vI c, vI s, vI y, vI p] [] h Q := by
  have a1 := H.1.1
  have b0 := H.1.2.2.2.2.2.2.2.2.2.1
  have scb : ∀ {h1 : aH} {n : Int}, fro h h1 (x + 302) (x + 302 + 2) → EnC h1 (x + 302) (n, -1, -1, -1) → ScR h1 x := by
    intro h1 n f1 E1
    obtain ⟨⟨q, L⟩, ⟨p, P⟩, C, E⟩ := H.2.2.2.2.2.2.2.2
    exact ⟨⟨q, L.ag (f1.ag (by omega)) (f1.ag (by omega))⟩, ⟨p, P.ag (f1.ag (by omega))⟩, C.ag (f1.ag (by omega)), E1.1⟩
  refine kr_iload_n (pc := 0) dX7_add_0 rfl ?_
  refine kr_iload_n (pc := 1) dX7_add_1 rfl ?_
  refine kr_iload_n (pc := 2) dX7_add_2 rfl ?_
  refine kr_s3 (pc := 3) dX7_add_3 rfl rfl (Nat.le_of_ble_eq_true rfl) rfl rfl rfl (x_needName (fun c3 => ?_) (fun c3 => ?_))
  · show amT _ _ _ _ _ _
    refine kr_aload_n (pc := 6) dX7_add_6 rfl ?_
    refine kr_iload_n (pc := 7) dX7_add_7 rfl ?_
    refine kr_v1 (pc := 8) dX7_add_8 rfl rfl (by assumption) (Nat.le_of_ble_eq_true rfl) rfl (x_openC H (by omega) (fun c8 => ?_) (fun c8 => ?_))
    · show amT _ _ _ _ _ _
      have hc : 0 ≤ c ∧ c ≤ 2 := (by omega)
      have hs : 0 ≤ s ∧ s ≤ 2 := (by omega)
      obtain ⟨z1, z2, z3, z4, z5, z6, z7⟩ := (H.2.1 c.toNat (by omega)).1
      have z8 := z6 s.toNat (by omega)
      have P := H.sq hc hs
      have P2 := P
      obtain ⟨pp, ⟨w0, _⟩, w1, w2, _⟩ := P2
      refine kr_getr (pc := 11) dX7_add_11 rfl rfl (by assumption) (by assumption) ?_
      refine kr_iload_n (pc := 14) dX7_add_14 rfl ?_
      refine kr_aald (pc := 15) dX7_add_15 (by assumption) (by decide) (by omega) (by omega) (by assumption) ?_
      refine kr_astore (pc := 16) dX7_add_16 (show 5 ≤ _ from by simp) (by decide) ?_
      simp only [stl, List.tail_cons, List.tail_nil]
      refine kr_aload (pc := 18) dX7_add_18 rfl ?_
      refine kr_iload_n (pc := 20) dX7_add_20 rfl ?_
      refine kr_v1 (pc := 21) dX7_add_21 rfl rfl (by assumption) (Nat.le_of_ble_eq_true rfl) rfl (x_placeOf P ?_)
      show amT _ _ _ _ _ _
      refine kr_iconst (pc := 24) dX7_add_24 (by decide) ?_
      refine kr_icmp_ne (pc := 25) dX7_add_25 rfl (fun h25 => ?_) (fun h25 => ?_)
      · refine t_thr (pc := 38) dX7_add_38 dX7_add_41 dX7_add_42 dX7_add_44 dX7_add_47 rfl (Nat.le_of_ble_eq_true rfl) (by decide) (by decide) rfl ?_
        exact kE2 (by unfold sp_add; rw [if_neg (by omega), if_pos (by omega)])
      · refine kr_aload (pc := 28) dX7_add_28 rfl ?_
        refine kr_geti (pc := 30) dX7_add_30 rfl (by decide) (by assumption) (by first | exact w9 | exact w1) ?_
        refine kr_bipush (pc := 33) dX7_add_33 (by decide) ?_
        refine kr_icmp_lt (pc := 35) dX7_add_35 rfl (fun h35 => ?_) (fun h35 => ?_)
        · refine kr_iload (pc := 48) dX7_add_48 rfl ?_
          refine kr_iconst (pc := 50) dX7_add_50 (by decide) ?_
          refine kr_aload (pc := 51) dX7_add_51 rfl ?_
          refine kr_geti (pc := 53) dX7_add_53 rfl (by decide) (by assumption) (by first | exact w9 | exact w1) ?_
          refine kr_s3 (pc := 56) dX7_add_56 rfl rfl (Nat.le_of_ble_eq_true rfl) rfl rfl rfl (x_needArg (fun c56 => ?_) (fun c56 => ?_))
          · show amT _ _ _ _ _ _
            have okl := HS.scl hc hs
            have EB := H.2.2.2.2.2.2.2.2.2.2.2
            have EB1 := EB.1
            refine kr_aload_n (pc := 59) dX7_add_59 rfl ?_
            refine kr_getr (pc := 60) dX7_add_60 rfl rfl (by assumption) (by assumption) ?_
            refine kr_iload_n (pc := 63) dX7_add_63 rfl ?_
            refine kr_v1 (pc := 64) dX7_add_64 rfl rfl (by assumption) (Nat.le_of_ble_eq_true rfl) rfl (x_clear EB (fun h1 f1 E1 => ?_))
            show amT _ _ _ _ _ _
            have D1 : DeR h1 x S := H.sc (f1.up (by omega) (by omega)) (scb f1 E1)
            have d1 := D1.1.1
            have d2 := D1.1.2.2.2.2.2.2.2.2.2.1
            have hlt : (sec S c s).length < 6 := (by omega)
            have P1 := D1.sq hc hs
            refine kr_aload (pc := 67) dX7_add_67 rfl ?_
            refine kr_iload (pc := 69) dX7_add_69 rfl ?_
            refine kr_aload_n (pc := 71) dX7_add_71 rfl ?_
            refine kr_getr (pc := 72) dX7_add_72 rfl rfl (by assumption) (by assumption) ?_
            rw [show vI p = vI ((p.toNat : Nat) : Int) by rw [show ((p.toNat : Nat) : Int) = p by omega]]
            have w0' : hsh h1 (kp x c.toNat + 6 + 14 * s.toNat) = (7, 2) := (by rw [f1.1]; exact w0)
            have rr := kp_rng (x := x) (show c.toNat < 33 by omega)
            refine kr_v2 (pc := 75) dX7_add_75 rfl rfl (by assumption) (Nat.le_of_ble_eq_true rfl) rfl rfl (x_insert P1 E1 (by omega) hlt (by omega) (fun h2 f2 P2 => ?_))
            show amT _ _ _ _ _ _
            have w0'' : hsh h2 (kp x c.toNat + 6 + 14 * s.toNat) = (7, 2) := (by rw [f2.1]; exact w0')
            have P3 := P2
            obtain ⟨_, _, w9, _⟩ := P3
            have e6 : ((sec S c s).insertIdx p.toNat (y, -1, -1, -1)).length = (sec S c s).length + 1 := List.length_insertIdx_of_le_length (by omega) _
            refine kr_aload (pc := 78) dX7_add_78 rfl ?_
            refine kr_geti (pc := 80) dX7_add_80 rfl (by decide) (by assumption) (by first | exact w9 | exact w1) ?_
            refine kr_ireturn (pc := 83) dX7_add_83 rfl ?_
            exact k1 _ _ h2 (by unfold sp_add; rw [if_neg (by omega), if_neg (by omega), if_neg (by omega), e6]; rfl) ((f1.up (by omega) (by omega)).tr (sec_fro hc hs f2)) (D1.scu hc hs f2 P2)
          · show Q (.inr _, _)
            exact kE3 (by unfold sp_add; rw [if_neg (by omega), if_neg (by omega), if_pos (by omega)])
        · refine t_thr (pc := 38) dX7_add_38 dX7_add_41 dX7_add_42 dX7_add_44 dX7_add_47 rfl (Nat.le_of_ble_eq_true rfl) (by decide) (by decide) rfl ?_
          exact kE2 (by unfold sp_add; rw [if_neg (by omega), if_pos (by omega)])
    · show Q (.inr _, _)
      exact kE2 (by unfold sp_add; rw [if_neg (by omega), if_pos (by omega)])
  · show Q (.inr _, _)
    exact kE1 (by unfold sp_add; rw [if_pos c3])
theorem xc_remove {c s y : Int} (H : DeR h x S) (HS : okS S) (k1 : ∀ v S' h', sp_remove S c s y = (0, v, S') → fro h h' x (x + 1899) → DeR h' x S' → Q (.inl (some (vI v)), h')) (kE1 : sp_remove S c s y = sx S 1 → Q (.inr 1, hth h)) (kE2 : sp_remove S c s y = sx S 2 → Q (.inr 2, hth h)) : amT mX7_remove 0 [vR x, vI c, vI s, vI y] [] h Q := by
  have a1 := H.1.1
  refine kr_iload_n (pc := 0) dX7_remove_0 rfl ?_
  refine kr_iload_n (pc := 1) dX7_remove_1 rfl ?_
  refine kr_iload_n (pc := 2) dX7_remove_2 rfl ?_
  refine kr_s3 (pc := 3) dX7_remove_3 rfl rfl (Nat.le_of_ble_eq_true rfl) rfl rfl rfl (x_needName (fun c3 => ?_) (fun c3 => ?_))
  · show amT _ _ _ _ _ _
    refine kr_aload_n (pc := 6) dX7_remove_6 rfl ?_
    refine kr_iload_n (pc := 7) dX7_remove_7 rfl ?_
    refine kr_v1 (pc := 8) dX7_remove_8 rfl rfl (by assumption) (Nat.le_of_ble_eq_true rfl) rfl (x_openC H (by omega) (fun c8 => ?_) (fun c8 => ?_))
    · show amT _ _ _ _ _ _
      have hc : 0 ≤ c ∧ c ≤ 2 := (by omega)
      have hs : 0 ≤ s ∧ s ≤ 2 := (by omega)
      obtain ⟨z1, z2, z3, z4, z5, z6, z7⟩ := (H.2.1 c.toNat (by omega)).1
      have z8 := z6 s.toNat (by omega)
      have P := H.sq hc hs
      have P2 := P
      obtain ⟨pp, ⟨w0, _⟩, w1, w2, _⟩ := P2
      have rk := kix_rng (sec S c s) y
      refine kr_getr (pc := 11) dX7_remove_11 rfl rfl (by assumption) (by assumption) ?_
      refine kr_iload_n (pc := 14) dX7_remove_14 rfl ?_
      refine kr_aald (pc := 15) dX7_remove_15 (by assumption) (by decide) (by omega) (by omega) (by assumption) ?_
      refine kr_astore (pc := 16) dX7_remove_16 (show 4 ≤ _ from by simp) (by decide) ?_
      simp only [stl, List.tail_cons, List.tail_nil]
      refine kr_aload (pc := 18) dX7_remove_18 rfl ?_
      refine kr_iload_n (pc := 20) dX7_remove_20 rfl ?_
      refine kr_s2 (pc := 21) dX7_remove_21 rfl rfl (Nat.le_of_ble_eq_true rfl) rfl rfl (x_placeE P (fun c21 => ?_) (fun c21 => ?_))
      · show amT _ _ _ _ _ _
        refine kr_istore (pc := 24) dX7_remove_24 (show 5 ≤ _ from by simp) (by decide) ?_
        simp only [stl, List.tail_cons, List.tail_nil]
        refine kr_aload (pc := 26) dX7_remove_26 rfl ?_
        refine kr_iload (pc := 28) dX7_remove_28 rfl ?_
        rw [show vI (kix (sec S c s) y) = vI (((kix (sec S c s) y).toNat : Nat) : Int) by rw [show (((kix (sec S c s) y).toNat : Nat) : Int) = kix (sec S c s) y by omega]]
        refine kr_v1 (pc := 30) dX7_remove_30 rfl rfl (by assumption) (Nat.le_of_ble_eq_true rfl) rfl (x_takeOut P (by omega) (fun h2 f2 P2 => ?_))
        show amT _ _ _ _ _ _
        refine kr_iload (pc := 33) dX7_remove_33 rfl ?_
        refine kr_ireturn (pc := 35) dX7_remove_35 rfl ?_
        exact k1 _ _ h2 (by unfold sp_remove; rw [if_neg (by omega), if_neg (by omega), show (((kix (sec S c s) y).toNat : Nat) : Int) = kix (sec S c s) y by omega]) (sec_fro hc hs f2) (H.scu hc hs f2 P2)
      · show Q (.inr _, _)
        exact kE2 (by unfold sp_remove; rw [if_neg (by omega), if_pos (by omega)])
    · show Q (.inr _, _)
      exact kE2 (by unfold sp_remove; rw [if_neg (by omega), if_pos (by omega)])
  · show Q (.inr _, _)
    exact kE1 (by unfold sp_remove; rw [if_pos c3])
theorem x_exchange {c s y j v : Int} (H : DeR h x S) (HS : okS S) (hc : 0 ≤ c ∧ c ≤ 2) (hs : 0 ≤ s ∧ s ≤ 2) (hj : 0 ≤ j ∧ j ≤ 2) (k1 : ¬ (S.2.1 c.toNat = 0 ∨ kix (sec S c s) y = -1) → ∀ h', fro h h' x (x + 1899) → DeR h' x (xch S c s y j v).2.2 → Q (.inl (some (vI (xch S c s y j v).2.1)), h')) (k2 : (S.2.1 c.toNat = 0 ∨ kix (sec S c s) y = -1) → Q (.inr 2, hth h)) : amT mX7_exchange 0 [vR x, vI c, vI s, vI y, vI j, vI v] [] h Q := by
  have a1 := H.1.1
  refine kr_aload_n (pc := 0) dX7_exchange_0 rfl ?_
  refine kr_iload_n (pc := 1) dX7_exchange_1 rfl ?_
  refine kr_v1 (pc := 2) dX7_exchange_2 rfl rfl (by assumption) (Nat.le_of_ble_eq_true rfl) rfl (x_openC H hc (fun c2 => ?_) (fun c2 => ?_))
  · show amT _ _ _ _ _ _
    obtain ⟨z1, z2, z3, z4, z5, z6, z7⟩ := (H.2.1 c.toNat (by omega)).1
    have z8 := z6 s.toNat (by omega)
    have P := H.sq hc hs
    have P2 := P
    obtain ⟨pp, PP⟩ := P2
    have PP2 := PP
    obtain ⟨⟨w0, v1, v2, v3, v4, v5⟩, w1, w2, w3⟩ := PP2
    have rk := kix_rng (sec S c s) y
    refine kr_getr (pc := 5) dX7_exchange_5 rfl rfl (by assumption) (by assumption) ?_
    refine kr_iload_n (pc := 8) dX7_exchange_8 rfl ?_
    refine kr_aald (pc := 9) dX7_exchange_9 (by assumption) (by decide) (by omega) (by omega) (by assumption) ?_
    refine kr_astore (pc := 10) dX7_exchange_10 (show 6 ≤ _ from by simp) (by decide) ?_
    simp only [stl, List.tail_cons, List.tail_nil]
    refine kr_aload (pc := 12) dX7_exchange_12 rfl ?_
    refine kr_getr (pc := 14) dX7_exchange_14 rfl rfl (by assumption) (by assumption) ?_
    refine kr_aload (pc := 17) dX7_exchange_17 rfl ?_
    refine kr_iload_n (pc := 19) dX7_exchange_19 rfl ?_
    refine kr_s2 (pc := 20) dX7_exchange_20 rfl rfl (Nat.le_of_ble_eq_true rfl) rfl rfl (x_placeE P (fun c20 => ?_) (fun c20 => ?_))
    · show amT _ _ _ _ _ _
      have u1 := (v4 (kix (sec S c s) y).toNat (by omega)).1
      have en := w3 _ _ (gt_at c20).1
      obtain ⟨u2, u3, u4⟩ := en.1
      have u5 := en.sg hj
      refine kr_aald (pc := 23) dX7_exchange_23 (by assumption) (by decide) (by omega) (by omega) (by assumption) ?_
      refine kr_getr (pc := 24) dX7_exchange_24 rfl rfl (by assumption) (by assumption) ?_
      refine kr_astore (pc := 27) dX7_exchange_27 (show 7 ≤ _ from by simp) (by decide) ?_
      simp only [stl, List.tail_cons, List.tail_nil]
      refine kr_aload (pc := 29) dX7_exchange_29 rfl ?_
      refine kr_iload (pc := 31) dX7_exchange_31 rfl ?_
      refine kr_iald (pc := 33) dX7_exchange_33 (by assumption) (by omega) (by omega) u5 ?_
      refine kr_istore (pc := 34) dX7_exchange_34 (show 8 ≤ _ from by simp) (by decide) ?_
      simp only [stl, List.tail_cons, List.tail_nil]
      refine kr_aload (pc := 36) dX7_exchange_36 rfl ?_
      refine kr_iload (pc := 38) dX7_exchange_38 rfl ?_
      refine kr_iload (pc := 40) dX7_exchange_40 rfl ?_
      refine kr_iast (pc := 42) dX7_exchange_42 (by assumption) (by omega) (by omega) ?_
      refine kr_iload (pc := 43) dX7_exchange_43 rfl ?_
      refine kr_ireturn (pc := 45) dX7_exchange_45 rfl ?_
      refine k1 (by omega) _ (sec_fro hc hs (hwi_fro ?_ ?_)) (H.scu hc hs (hwi_fro ?_ ?_) ⟨pp, PP.set (gt_at c20).1 hj⟩)
      · omega
      · (have := (v4 (kix (sec S c s) y).toNat (by omega)).2; omega)
      · omega
      · (have := (v4 (kix (sec S c s) y).toNat (by omega)).2; omega)
    · show Q (.inr _, _)
      exact k2 (by omega)
  · show Q (.inr _, _)
    exact k2 (by omega)
theorem xc_set {c s y f v : Int} (H : DeR h x S) (HS : okS S) (k1 : ∀ v' S' h', sp_set S c s y f v = (0, v', S') → fro h h' x (x + 1899) → DeR h' x S' → Q (.inl (some (vI v')), h')) (kE1 : sp_set S c s y f v = sx S 1 → Q (.inr 1, hth h)) (kE2 : sp_set S c s y f v = sx S 2 → Q (.inr 3, hth h)) (kE3 : sp_set S c s y f v = sx S 3 → Q (.inr 2, hth h)) : amT mX7_set 0 [vR x, vI c, vI s, vI y, vI f, vI v] [] h Q := by
  have a1 := H.1.1
  refine kr_iload_n (pc := 0) dX7_set_0 rfl ?_
  refine kr_iload_n (pc := 1) dX7_set_1 rfl ?_
  refine kr_iload_n (pc := 2) dX7_set_2 rfl ?_
  refine kr_s3 (pc := 3) dX7_set_3 rfl rfl (Nat.le_of_ble_eq_true rfl) rfl rfl rfl (x_needName (fun c3 => ?_) (fun c3 => ?_))
  · show amT _ _ _ _ _ _
    refine kr_iload (pc := 6) dX7_set_6 rfl ?_
    refine kr_iconst (pc := 8) dX7_set_8 (by decide) ?_
    refine kr_s2 (pc := 9) dX7_set_9 rfl rfl (Nat.le_of_ble_eq_true rfl) rfl rfl (x_needIndex (fun c9 => ?_) (fun c9 => ?_))
    · show amT _ _ _ _ _ _
      refine kr_iload (pc := 12) dX7_set_12 rfl ?_
      refine kr_iconst (pc := 14) dX7_set_14 (by decide) ?_
      refine kr_bipush (pc := 15) dX7_set_15 (by decide) ?_
      refine kr_s3 (pc := 17) dX7_set_17 rfl rfl (Nat.le_of_ble_eq_true rfl) rfl rfl rfl (x_needArg (fun c17 => ?_) (fun c17 => ?_))
      · show amT _ _ _ _ _ _
        refine kr_aload_n (pc := 20) dX7_set_20 rfl ?_
        refine kr_iload_n (pc := 21) dX7_set_21 rfl ?_
        refine kr_iload_n (pc := 22) dX7_set_22 rfl ?_
        refine kr_iload_n (pc := 23) dX7_set_23 rfl ?_
        refine kr_iload (pc := 24) dX7_set_24 rfl ?_
        refine kr_iload (pc := 26) dX7_set_26 rfl ?_
        refine kr_v5 (pc := 28) dX7_set_28 rfl rfl (by assumption) (Nat.le_of_ble_eq_true rfl) rfl rfl rfl rfl rfl (x_exchange H HS (by omega) (by omega) (by omega) (fun d28 h' fr D => ?_) (fun d28 => ?_))
        · show amT _ _ _ _ _ _
          refine kr_ireturn (pc := 31) dX7_set_31 rfl ?_
          exact k1 _ _ h' (by unfold sp_set; rw [if_neg (by omega), if_neg (by omega), if_neg (by omega)]; rfl) fr D
        · show Q (.inr _, _)
          exact kE3 (by unfold sp_set; rw [if_neg (by omega), if_neg (by omega), if_pos (by omega)])
      · show Q (.inr _, _)
        exact kE2 (by unfold sp_set; rw [if_neg (by omega), if_pos (by omega)])
    · show Q (.inr _, _)
      exact kE1 (by unfold sp_set; rw [if_pos (by omega)])
  · show Q (.inr _, _)
    exact kE1 (by unfold sp_set; rw [if_pos (by omega)])
theorem xc_join {c s y g : Int} (H : DeR h x S) (HS : okS S) (k1 : ∀ v' S' h', sp_join S c s y g = (0, v', S') → fro h h' x (x + 1899) → DeR h' x S' → Q (.inl (some (vI v')), h')) (kE1 : sp_join S c s y g = sx S 1 → Q (.inr 1, hth h)) (kE2 : sp_join S c s y g = sx S 2 → Q (.inr 3, hth h)) (kE3 : sp_join S c s y g = sx S 3 → Q (.inr 2, hth h)) : amT mX7_join 0 [vR x, vI c, vI s, vI y, vI g] [] h Q := by
  have a1 := H.1.1
  refine kr_iload_n (pc := 0) dX7_join_0 rfl ?_
  refine kr_iload_n (pc := 1) dX7_join_1 rfl ?_
  refine kr_iload_n (pc := 2) dX7_join_2 rfl ?_
  refine kr_s3 (pc := 3) dX7_join_3 rfl rfl (Nat.le_of_ble_eq_true rfl) rfl rfl rfl (x_needName (fun c3 => ?_) (fun c3 => ?_))
  · show amT _ _ _ _ _ _
    refine kr_iload (pc := 6) dX7_join_6 rfl ?_
    refine kr_iconst (pc := 8) dX7_join_8 (by decide) ?_
    refine kr_iconst (pc := 9) dX7_join_9 (by decide) ?_
    refine kr_s3 (pc := 10) dX7_join_10 rfl rfl (Nat.le_of_ble_eq_true rfl) rfl rfl rfl (x_needArg (fun c10 => ?_) (fun c10 => ?_))
    · show amT _ _ _ _ _ _
      refine kr_aload_n (pc := 13) dX7_join_13 rfl ?_
      refine kr_iload_n (pc := 14) dX7_join_14 rfl ?_
      refine kr_iload_n (pc := 15) dX7_join_15 rfl ?_
      refine kr_iload_n (pc := 16) dX7_join_16 rfl ?_
      refine kr_iconst (pc := 17) dX7_join_17 (by decide) ?_
      refine kr_iload (pc := 18) dX7_join_18 rfl ?_
      refine kr_v5 (pc := 20) dX7_join_20 rfl rfl (by assumption) (Nat.le_of_ble_eq_true rfl) rfl rfl rfl rfl rfl (x_exchange H HS (by omega) (by omega) (by omega) (fun d20 h' fr D => ?_) (fun d20 => ?_))
      · show amT _ _ _ _ _ _
        refine kr_ireturn (pc := 23) dX7_join_23 rfl ?_
        exact k1 _ _ h' (by unfold sp_join; rw [if_neg (by omega), if_neg (by omega), if_neg (by omega)]; rfl) fr D
      · show Q (.inr _, _)
        exact kE3 (by unfold sp_join; rw [if_neg (by omega), if_neg (by omega), if_pos (by omega)])
    · show Q (.inr _, _)
      exact kE2 (by unfold sp_join; rw [if_neg (by omega), if_pos (by omega)])
  · show Q (.inr _, _)
    exact kE1 (by unfold sp_join; rw [if_pos (by omega)])
theorem xc_setGroup {c g f v : Int} (H : DeR h x S) (HS : okS S) (k1 : ∀ v' S' h', sp_setGroup S c g f v = (0, v', S') → fro h h' x (x + 1899) → DeR h' x S' → Q (.inl (some (vI v')), h')) (kE1 : sp_setGroup S c g f v = sx S 1 → Q (.inr 1, hth h)) (kE2 : sp_setGroup S c g f v = sx S 2 → Q (.inr 3, hth h)) (kE3 : sp_setGroup S c g f v = sx S 3 → Q (.inr 2, hth h)) : amT mX7_setGroup 0 [vR x, vI c, vI g, vI f, vI v] [] h Q := by
  have a1 := H.1.1
  refine kr_iload_n (pc := 0) dX7_setGroup_0 rfl ?_
  refine kr_iconst (pc := 1) dX7_setGroup_1 (by decide) ?_
  refine kr_s2 (pc := 2) dX7_setGroup_2 rfl rfl (Nat.le_of_ble_eq_true rfl) rfl rfl (x_needIndex (fun c2 => ?_) (fun c2 => ?_))
  · show amT _ _ _ _ _ _
    refine kr_iload_n (pc := 5) dX7_setGroup_5 rfl ?_
    refine kr_iconst (pc := 6) dX7_setGroup_6 (by decide) ?_
    refine kr_s2 (pc := 7) dX7_setGroup_7 rfl rfl (Nat.le_of_ble_eq_true rfl) rfl rfl (x_needIndex (fun c7 => ?_) (fun c7 => ?_))
    · show amT _ _ _ _ _ _
      refine kr_iload_n (pc := 10) dX7_setGroup_10 rfl ?_
      refine kr_iconst (pc := 11) dX7_setGroup_11 (by decide) ?_
      refine kr_s2 (pc := 12) dX7_setGroup_12 rfl rfl (Nat.le_of_ble_eq_true rfl) rfl rfl (x_needIndex (fun c12 => ?_) (fun c12 => ?_))
      · show amT _ _ _ _ _ _
        refine kr_iload (pc := 15) dX7_setGroup_15 rfl ?_
        refine kr_iconst (pc := 17) dX7_setGroup_17 (by decide) ?_
        refine kr_bipush (pc := 18) dX7_setGroup_18 (by decide) ?_
        refine kr_s3 (pc := 20) dX7_setGroup_20 rfl rfl (Nat.le_of_ble_eq_true rfl) rfl rfl rfl (x_needArg (fun c20 => ?_) (fun c20 => ?_))
        · show amT _ _ _ _ _ _
          refine kr_aload_n (pc := 23) dX7_setGroup_23 rfl ?_
          refine kr_iload_n (pc := 24) dX7_setGroup_24 rfl ?_
          refine kr_v1 (pc := 25) dX7_setGroup_25 rfl rfl (by assumption) (Nat.le_of_ble_eq_true rfl) rfl (x_openC H (by omega) (fun c25 => ?_) (fun c25 => ?_))
          · show amT _ _ _ _ _ _
            have C := H.2.1 c.toNat (by omega)
            obtain ⟨z1, z2, z3, z4, z5, z6, z7⟩ := C.1
            obtain ⟨z8, z9⟩ := z7 g.toNat (by omega)
            have w1 := C.2.2 g.toNat f.toNat (by omega) (by omega)
            have rr := kp_rng (x := x) (show c.toNat < 33 by omega)
            refine kr_getr (pc := 28) dX7_setGroup_28 rfl rfl (by assumption) (by assumption) ?_
            refine kr_iload_n (pc := 31) dX7_setGroup_31 rfl ?_
            refine kr_aald (pc := 32) dX7_setGroup_32 (by assumption) (by decide) (by omega) (by omega) (by assumption) ?_
            refine kr_astore (pc := 33) dX7_setGroup_33 (show 5 ≤ _ from by simp) (by decide) ?_
            simp only [stl, List.tail_cons, List.tail_nil]
            refine kr_aload (pc := 35) dX7_setGroup_35 rfl ?_
            refine kr_iload_n (pc := 37) dX7_setGroup_37 rfl ?_
            refine kr_iald (pc := 38) dX7_setGroup_38 (by assumption) (by omega) (by omega) w1 ?_
            refine kr_istore (pc := 39) dX7_setGroup_39 (show 6 ≤ _ from by simp) (by decide) ?_
            simp only [stl, List.tail_cons, List.tail_nil]
            refine kr_aload (pc := 41) dX7_setGroup_41 rfl ?_
            refine kr_iload_n (pc := 43) dX7_setGroup_43 rfl ?_
            refine kr_iload (pc := 44) dX7_setGroup_44 rfl ?_
            refine kr_iast (pc := 46) dX7_setGroup_46 (by assumption) (by omega) (by omega) ?_
            refine kr_iload (pc := 47) dX7_setGroup_47 rfl ?_
            refine kr_ireturn (pc := 49) dX7_setGroup_49 rfl ?_
            exact k1 _ _ _ (by unfold sp_setGroup; rw [if_neg (by omega), if_neg (by omega), if_neg (by omega)]) (hwi_fro (by omega) (by omega)) (H.cf (by omega) (hwi_fro (by omega) (by omega)) (C.grp (by omega) (by omega)))
          · show Q (.inr _, _)
            exact kE3 (by unfold sp_setGroup; rw [if_neg (by omega), if_neg (by omega), if_pos (by omega)])
        · show Q (.inr _, _)
          exact kE2 (by unfold sp_setGroup; rw [if_neg (by omega), if_pos (by omega)])
      · show Q (.inr _, _)
        exact kE1 (by unfold sp_setGroup; rw [if_pos (by omega)])
    · show Q (.inr _, _)
      exact kE1 (by unfold sp_setGroup; rw [if_pos (by omega)])
  · show Q (.inr _, _)
    exact kE1 (by unfold sp_setGroup; rw [if_pos (by omega)])
end XH
