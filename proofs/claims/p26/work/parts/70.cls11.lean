section XB
variable {h : aH} {Q : aR → Prop} {a τ υ : Nat} {L : List Edt} {q : Nat → Nat} {F T l : List Ent}
theorem x_noteRemovals {i : Nat} (H : LiP h a L q) (S : SeC h (a + 2) l) (HT : SeC h τ T) (hτ : τ + 14 ≤ a ∨ a + 250 ≤ τ) (hl0 : L.length + (rmv i T l.length l).1.length ≤ 78)
    (kk : ∀ h', fro h h' a (a + 250) → LiP h' a (L ++ (rmv i T l.length l).1) q → SeC h' (a + 2) (rmv i T l.length l).2 → Q (.inl none, h')) : amT mX3_noteRemovals 0 [vR a, vI (i : Int), vR τ] [] h Q := by
  obtain ⟨R, hR⟩ : ∃ R, R = rmv (i : Int) T l.length l := ⟨_, rfl⟩
  rw [← hR] at kk hl0
  have loop : ∀ (n : Nat) (tl : List aV) (g : aH) (l' : List Ent) (L' : List Edt), n ≤ l'.length → fro h g a (a + 250) → LiP g a L' q → SeC g (a + 2) l' → L'.length + (rmv i T n l').1.length ≤ 78 → L' ++ (rmv i T n l').1 = L ++ R.1 → (rmv i T n l').2 = R.2 →
      amT mX3_noteRemovals 10 (vR a :: vI (i : Int) :: vR τ :: vI ((n : Int) - 1) :: tl) [] g Q := by
    intro n
    induction n with
    | zero =>
      intro tl g l' L' hn fr Hg Sg hl e1 e2
      rw [show (rmv (i : Int) T 0 l').1 = [] from rfl, List.append_nil] at e1
      rw [show (rmv (i : Int) T 0 l').2 = l' from rfl] at e2
      refine kr_iload_n (pc := 10) dX3_noteRemovals_10 rfl ?_
      refine kr_if_lt (pc := 11) dX3_noteRemovals_11 rfl (fun h11 => ?_) (fun h11 => by exfalso; omega)
      refine kr_return (d0 := ()) (pc := 62) dX3_noteRemovals_62 rfl ?_
      exact kk g fr (by rw [← e1]; exact Hg) (by rw [← e2]; exact Sg)
    | succ n ih =>
      intro tl g l' L' hn fr Hg Sg hl e1 e2
      obtain ⟨a1, a2, a3, a4, a5, a6, a7⟩ := Hg.1
      obtain ⟨p, ⟨w0, w1, w2, w3, w4, w5⟩, c1, c2, c3⟩ := id Sg
      obtain ⟨e, he⟩ : ∃ e, l'[n]? = some e := ⟨_, List.getElem?_eq_getElem (by omega)⟩
      obtain ⟨x1, x2⟩ := w4 n (by omega)
      have x3 : hrf g (a + 2 + 1) (((n + 1 : Nat) : Int) - 1).toNat = some (a + 2 + 2 + 2 * p n) := by
        rw [show (((n + 1 : Nat) : Int) - 1).toNat = n by omega]
        exact x1
      have en := c3 n e he
      have z1 := en.1.1
      have z2 := en.2.1
      have HTg := HT.ag (fr.ag (by omega))
      obtain ⟨pt, ⟨u0, _⟩, _⟩ := id HTg
      unfold rmv at hl e1 e2
      rw [he] at hl e1 e2
      dsimp only at hl e1 e2
      have keep : ∀ (tl : List aV), L'.length + (rmv i T n l').1.length ≤ 78 → L' ++ (rmv i T n l').1 = L ++ R.1 → (rmv i T n l').2 = R.2 → amT mX3_noteRemovals 56 (vR a :: vI (i : Int) :: vR τ :: vI (((n + 1 : Nat) : Int) - 1) :: tl) [] g Q := by
        intro tl hl e1 e2
        refine kr_iinc (pc := 56) dX3_noteRemovals_56 rfl ⟨⟨by omega, by omega⟩, by decide, by decide⟩ ?_
        simp only [stl, List.tail_cons, List.tail_nil]
        refine kr_goto (pc := 59) dX3_noteRemovals_59 rfl ?_
        rw [show ((n + 1 : Nat) : Int) - 1 + -1 = (n : Int) - 1 by omega]
        exact ih tl g l' L' (by omega) fr Hg Sg hl e1 e2
      have gone : kix T e.1 = -1 → ∀ (tl : List aV) (g' g'' : aH), frL g g' a → LiP g' a (L' ++ [(1, (i : Int), e.1, ((n + 1 : Nat) : Int) - 1, -1, e)]) q → fro g' g'' (a + 2) (a + 2 + 14) → SeC g'' (a + 2) (l'.eraseIdx n) → L'.length + ((rmv i T n (l'.eraseIdx n)).1.length + 1) ≤ 78 → L' ++ (1, (i : Int), e.1, (n : Int), -1, e) :: (rmv i T n (l'.eraseIdx n)).1 = L ++ R.1 → (rmv i T n (l'.eraseIdx n)).2 = R.2 →
          amT mX3_noteRemovals 56 (vR a :: vI (i : Int) :: vR τ :: vI ((n : Nat) : Int) :: tl) [] g'' Q := by
        intro hk tl g' g'' fr' Hg' fr'' Sg'' hl e1 e2
        rw [show ((n + 1 : Nat) : Int) - 1 = (n : Int) by omega] at Hg'
        have hlen := List.length_eraseIdx_of_lt (show n < l'.length by omega)
        refine kr_iinc (pc := 56) dX3_noteRemovals_56 rfl ⟨⟨by omega, by omega⟩, by decide, by decide⟩ ?_
        simp only [stl, List.tail_cons, List.tail_nil]
        refine kr_goto (pc := 59) dX3_noteRemovals_59 rfl ?_
        rw [show ((n : Nat) : Int) + -1 = (n : Int) - 1 by omega]
        refine ih _ g'' (l'.eraseIdx n) _ (by omega) (fr.tr (fr'.fro.tr (fr''.up (by omega) (by omega)))) (Hg'.ag (fr''.ag (by omega)) (fr''.ag (by omega))) Sg'' (by rw [List.length_append]; show L'.length + 1 + _ ≤ 78; omega) ?_ e2
        rw [← e1, List.append_assoc]
        rfl
      refine kr_iload_n (pc := 10) dX3_noteRemovals_10 rfl ?_
      refine kr_if_lt (pc := 11) dX3_noteRemovals_11 rfl (fun h11 => by exfalso; omega) (fun h11 => ?_)
      refine kr_aload_n (pc := 14) dX3_noteRemovals_14 rfl ?_
      refine kr_getr (pc := 15) dX3_noteRemovals_15 rfl rfl (by assumption) (by assumption) ?_
      refine kr_getr (pc := 18) dX3_noteRemovals_18 rfl rfl (by assumption) (by assumption) ?_
      refine kr_iload_n (pc := 21) dX3_noteRemovals_21 rfl ?_
      refine kr_aald (pc := 22) dX3_noteRemovals_22 (by assumption) (by decide) (by omega) (by omega) (by assumption) ?_
      refine kr_astore (pc := 23) dX3_noteRemovals_23 (show 4 ≤ _ from by simp) (by decide) ?_
      simp only [stl, List.tail_cons, List.tail_nil]
      refine kr_aload_n (pc := 25) dX3_noteRemovals_25 rfl ?_
      refine kr_aload (pc := 26) dX3_noteRemovals_26 rfl ?_
      refine kr_geti (pc := 28) dX3_noteRemovals_28 rfl (by decide) (by assumption) z2 ?_
      refine kr_v1 (pc := 31) dX3_noteRemovals_31 rfl rfl (by assumption) (Nat.le_of_ble_eq_true rfl) rfl (x_placeOf HTg ?_)
      show amT _ _ _ _ _ _
      refine kr_iconst (pc := 34) dX3_noteRemovals_34 (by decide) ?_
      refine kr_icmp_ne (pc := 35) dX3_noteRemovals_35 rfl (fun h35 => ?_) (fun h35 => ?_)
      · rw [if_neg h35] at hl e1 e2
        exact keep _ hl e1 e2
      · refine kr_aload_n (pc := 38) dX3_noteRemovals_38 rfl ?_
        refine kr_iconst (pc := 39) dX3_noteRemovals_39 (by decide) ?_
        refine kr_iload_n (pc := 40) dX3_noteRemovals_40 rfl ?_
        refine kr_aload (pc := 41) dX3_noteRemovals_41 rfl ?_
        refine kr_iload_n (pc := 43) dX3_noteRemovals_43 rfl ?_
        refine kr_iconst (pc := 44) dX3_noteRemovals_44 (by decide) ?_
        rw [if_pos h35] at hl e1 e2
        dsimp only at hl e1 e2
        rw [List.length_cons] at hl
        refine kr_v5 (pc := 45) dX3_noteRemovals_45 rfl rfl (by assumption) (Nat.le_of_ble_eq_true rfl) rfl rfl rfl rfl rfl (x_noteWhole Hg (by omega) en (by omega) (fun g' fr' Hg' => ?_))
        show amT _ _ _ _ _ _
        refine kr_aload_n (pc := 48) dX3_noteRemovals_48 rfl ?_
        have s1' : hsh g' a = (4, 3) := (by rw [fr'.1]; exact a1)
        have s2' : hrf g' a 2 = some (a + 2) := Hg'.1.2.2.2.1
        refine kr_getr (pc := 49) dX3_noteRemovals_49 rfl rfl (by assumption) (by assumption) ?_
        have Sg' := Sg.ag (fr'.ag (c := a + 2) (d := a + 16) (by omega))
        have s1' : hsh g' a = (4, 3) := (by rw [fr'.1]; exact a1)
        have s2' : hrf g' a 2 = some (a + 2) := Hg'.1.2.2.2.1
        have s3' : hsh g' (a + 2) = (7, 2) := (by rw [fr'.1]; exact w0)
        refine kr_iload_n (pc := 52) dX3_noteRemovals_52 rfl ?_
        rw [show ((n + 1 : Nat) : Int) - 1 = (n : Int) by omega]
        refine kr_v1 (pc := 53) dX3_noteRemovals_53 rfl rfl (by assumption) (Nat.le_of_ble_eq_true rfl) rfl (x_takeOut Sg' (by omega) (fun g'' fr'' Sg'' => ?_))
        show amT _ _ _ _ _ _
        exact gone h35 _ g' g'' fr' Hg' fr'' Sg'' hl e1 e2
  obtain ⟨a1, a2, a3, a4, a5, a6, a7⟩ := H.1
  obtain ⟨p, ⟨w0, w1, w2, w3, w4, w5⟩, c1, c2, c3⟩ := id S
  refine kr_aload_n (pc := 0) dX3_noteRemovals_0 rfl ?_
  refine kr_getr (pc := 1) dX3_noteRemovals_1 rfl rfl (by assumption) (by assumption) ?_
  refine kr_geti (pc := 4) dX3_noteRemovals_4 rfl (by decide) (by assumption) c1 ?_
  refine kr_iconst (pc := 7) dX3_noteRemovals_7 (by decide) ?_
  refine kr_isub (pc := 8) dX3_noteRemovals_8 ⟨by omega, by omega⟩ ?_
  refine kr_istore_n (pc := 9) dX3_noteRemovals_9 (show 3 ≤ _ from by simp) (by decide) ?_
  simp only [stl, List.tail_cons, List.tail_nil]
  exact loop l.length [] h l L (Nat.le_refl _) fro.rf H S (by rw [← hR]; exact hl0) (by rw [← hR]) (by rw [← hR])
end XB
