section XE
variable {h : aH} {Q : aR → Prop} {a : Nat} {L : List Edt} {q : Nat → Nat}
/-- the first n places, turned round from outside up to i -/
def trn (q : Nat → Nat) (n i : Nat) : Nat → Nat := fun x => if x < n ∧ (x < i ∨ n < x + 1 + i) then q (n - 1 - x) else q x
theorem x_invertAll (H : LiP h a L q) (kk : ∀ h' q', fro h h' a (a + 250) → agr h h' (a + 2) (a + 16) → LiP h' a (invL L) q' → Q (.inl none, h')) : amT mX3_invert 0 [vR a] [] h Q := by
  obtain ⟨⟨a1, a2, a3, a4, a5, a6, a7⟩, b1, b2, b3⟩ := id H
  have each : ∀ (q' : Nat → Nat) (d i : Nat) (tl : List aV) (g : aH), (∀ x, x < 78 → q' x < 78) → (∀ x y, x < 78 → y < 78 → q' x = q' y → x = y) → i + d = L.length → fro h g a (a + 250) → agr h g (a + 2) (a + 16) → LiB g a q' → hiv g a 0 = L.length →
      (∀ (j : Nat) (e : Edt), L.reverse[j]? = some e → EdC g (a + 16 + 3 * q' j) (if j < i then inv1 e else e)) → amT mX3_invert 51 (vR a :: vI (i : Int) :: tl) [] g Q := by
    intro q' d
    induction d with
    | zero =>
      intro i tl g hq1 hq2 hi fr ag B c1 hE
      obtain ⟨s1, s2, s3, s4, s5, s6, s7⟩ := id B
      refine kr_iload_n (pc := 51) dX3_invert_51 rfl ?_
      refine kr_aload_n (pc := 52) dX3_invert_52 rfl ?_
      refine kr_geti (pc := 53) dX3_invert_53 rfl (by decide) (by assumption) c1 ?_
      refine kr_icmp_ge (pc := 56) dX3_invert_56 rfl (fun h56 => ?_) (fun h56 => by exfalso; omega)
      refine kr_return (d0 := ()) (pc := 74) dX3_invert_74 rfl ?_
      refine kk g q' fr ag ⟨B, by rw [invL_len]; exact c1, by rw [invL_len]; exact b2, fun j e he => ?_⟩
      unfold invL at he
      rw [List.getElem?_map] at he
      obtain ⟨x, hx, hxe⟩ := Option.map_eq_some_iff.mp he
      have hj := (List.getElem?_eq_some_iff.mp hx).1
      rw [List.length_reverse] at hj
      have := hE j x hx
      rw [if_pos (by omega), hxe] at this
      exact this
    | succ d ih =>
      intro i tl g hq1 hq2 hi fr ag B c1 hE
      obtain ⟨s1, s2, s3, s4, s5, s6, s7⟩ := id B
      obtain ⟨e, he⟩ : ∃ e, L.reverse[i]? = some e := ⟨_, List.getElem?_eq_getElem (by rw [List.length_reverse]; omega)⟩
      have E := hE i e he
      rw [if_neg (by omega)] at E
      obtain ⟨x1, x2⟩ := s5 i (by omega)
      have x3 : hrf g (a + 1) ((i : Nat) : Int).toNat = some (a + 16 + 3 * q' i) := x1
      have x4 := (s7 _ x2).1
      refine kr_iload_n (pc := 51) dX3_invert_51 rfl ?_
      refine kr_aload_n (pc := 52) dX3_invert_52 rfl ?_
      refine kr_geti (pc := 53) dX3_invert_53 rfl (by decide) (by assumption) c1 ?_
      refine kr_icmp_ge (pc := 56) dX3_invert_56 rfl (fun h56 => by exfalso; omega) (fun h56 => ?_)
      refine kr_aload_n (pc := 59) dX3_invert_59 rfl ?_
      refine kr_getr (pc := 60) dX3_invert_60 rfl rfl (by assumption) (by assumption) ?_
      refine kr_iload_n (pc := 63) dX3_invert_63 rfl ?_
      refine kr_aald (pc := 64) dX3_invert_64 (by assumption) (by decide) (by omega) (by omega) (by assumption) ?_
      refine kr_v0 (pc := 65) dX3_invert_65 rfl rfl (by assumption) (Nat.le_of_ble_eq_true rfl) (x_invert E (fun g2 fr2 E2 => ?_))
      show amT _ _ _ _ _ _
      refine kr_iinc (pc := 68) dX3_invert_68 rfl ⟨⟨by omega, by omega⟩, by decide, by decide⟩ ?_
      simp only [stl, List.tail_cons, List.tail_nil]
      refine kr_goto (pc := 71) dX3_invert_71 rfl ?_
      refine ih (i + 1) tl g2 hq1 hq2 (by omega) (fr.tr (fr2.up (by omega) (by omega))) ⟨fr2.1.trans ag.1, fun x q1 q2 => ⟨(fr2.2.2.2 x (by omega)).1.trans (ag.2 x q1 q2).1, (fr2.2.2.2 x (by omega)).2.trans (ag.2 x q1 q2).2⟩⟩ ⟨by rw [fr2.1]; exact s1, by rw [(fr2.2.2.2 a (by omega)).2]; exact s2, by rw [fr2.1]; exact s3, by rw [(fr2.2.2.2 a (by omega)).2]; exact s4, fun j hj => by rw [(fr2.2.2.2 (a + 1) (by omega)).2]; exact s5 j hj, s6, fun j hj => ?_⟩ (by rw [(fr2.2.2.2 a (by omega)).1]; exact c1) fun j e' he' => ?_
      · by_cases hj2 : j = q' i
        · rw [hj2]
          exact E2.1
        · exact (s7 j hj).ag (fr2.ag (by omega))
      · by_cases hj2 : j = i
        · subst hj2
          rw [he] at he'
          cases he'
          rw [if_pos (by omega)]
          exact E2
        · have hj := (List.getElem?_eq_some_iff.mp he').1
          rw [List.length_reverse] at hj
          have hne : q' j ≠ q' i := fun hh => hj2 (hq2 _ _ (by omega) (by omega) hh)
          have := hE j e' he'
          by_cases hlt : j < i
          · rw [if_pos hlt] at this
            rw [if_pos (by omega)]
            exact this.ag (fr2.ag (by omega))
          · rw [if_neg hlt] at this
            rw [if_neg (by omega)]
            exact this.ag (fr2.ag (by omega))
  have swap : ∀ (d i : Nat) (tl : List aV) (f : Nat → Option Nat), L.length = 2 * i + d → (∀ x, x < 78 → f x = some (a + 16 + 3 * trn q L.length i x)) → amT mX3_invert 9 (vR a :: vI (i : Int) :: vI ((L.length : Int) - 1 - i) :: tl) [] (sr h (a + 1) f) Q := by
    have fin : ∀ (i : Nat) (tl : List aV) (f : Nat → Option Nat), L.length ≤ 2 * i + 1 → 2 * i ≤ L.length → (∀ x, x < 78 → f x = some (a + 16 + 3 * trn q L.length i x)) → amT mX3_invert 9 (vR a :: vI (i : Int) :: vI ((L.length : Int) - 1 - i) :: tl) [] (sr h (a + 1) f) Q := by
      intro i tl f h1 h2 hf
      have hq : ∀ x, trn q L.length i x = if x < L.length then q (L.length - 1 - x) else q x := by
        intro x
        unfold trn
        by_cases hx : x < L.length ∧ (x < i ∨ L.length < x + 1 + i)
        · rw [if_pos hx, if_pos hx.1]
        · rw [if_neg hx]
          by_cases hxl : x < L.length
          · rw [if_pos hxl]
            congr 1
            omega
          · rw [if_neg hxl]
      have q1 : ∀ x, x < 78 → trn q L.length i x < 78 := fun x hx => by
        rw [hq]
        split
        · exact (a5 _ (by omega)).2
        · exact (a5 _ hx).2
      have q2 : ∀ x y, x < 78 → y < 78 → trn q L.length i x = trn q L.length i y → x = y := fun x y hx hy he => by
        rw [hq, hq] at he
        split at he
        · split at he
          · have := a6 _ _ (by omega) (by omega) he
            omega
          · have := a6 _ _ (by omega) (by omega) he
            omega
        · split at he
          · have := a6 _ _ (by omega) (by omega) he
            omega
          · exact a6 _ _ (by omega) (by omega) he
      refine kr_iload_n (pc := 9) dX3_invert_9 rfl ?_
      refine kr_iload_n (pc := 10) dX3_invert_10 rfl ?_
      refine kr_icmp_ge (pc := 11) dX3_invert_11 rfl (fun _ => ?_) (fun h => by omega)
      refine kr_iconst (pc := 49) dX3_invert_49 (by decide) ?_
      refine kr_istore_n (pc := 50) dX3_invert_50 (show 1 ≤ _ from by simp) (by decide) ?_
      simp only [stl, List.tail_cons, List.tail_nil]
      refine each (trn q L.length i) L.length 0 _ (sr h (a + 1) f) q1 q2 (by omega) (sr_fro (by omega) (by omega)) ((sr_fro (a := a + 1) (b := a + 2) (by omega) (by omega)).ag (by omega)) ⟨a1, (hrf_sr_ne (by omega)).trans a2, a3, (hrf_sr_ne (by omega)).trans a4, fun x hx => ⟨hrf_sr.trans (hf x hx), q1 x hx⟩, q2, fun x hx => ?_⟩ b1 fun j e he => ?_
      · exact (a7 x hx).ag ((sr_fro (a := a + 1) (b := a + 2) (by omega) (by omega)).ag (by omega))
      · have hj := (List.getElem?_eq_some_iff.mp he).1
        rw [List.length_reverse] at hj
        rw [List.getElem?_reverse hj] at he
        rw [if_neg (by omega), hq, if_pos hj]
        exact (b3 _ e he).ag ((sr_fro (a := a + 1) (b := a + 2) (by omega) (by omega)).ag (by omega))
    intro d
    induction d using Nat.strongRecOn with
    | ind d ih =>
      intro i tl f hd hf
      by_cases hd2 : d ≤ 1
      · exact fin i tl f (by omega) (by omega) hf
      · have w1 : hrf (sr h (a + 1) f) a 1 = some (a + 1) := (hrf_sr_ne (by omega)).trans a2
        have w2 : hrf (sr h (a + 1) f) (a + 1) ((i : Nat) : Int).toNat = some (a + 16 + 3 * q i) := by
          rw [show ((i : Nat) : Int).toNat = i by omega]
          refine hrf_sr.trans ((hf i (by omega)).trans ?_)
          unfold trn
          rw [if_neg (by omega)]
        have w3 : hrf (sr h (a + 1) f) (a + 1) ((L.length : Int) - 1 - i).toNat = some (a + 16 + 3 * q (L.length - 1 - i)) := by
          rw [show ((L.length : Int) - 1 - i).toNat = L.length - 1 - i by omega]
          refine hrf_sr.trans ((hf _ (by omega)).trans ?_)
          unfold trn
          rw [if_neg (by omega)]
        have w4 : hsh (sr h (a + 1) f) (a + 16 + 3 * q i) = (3, 6) := (a7 _ (a5 i (by omega)).2).1
        have w5 : hsh (sr h (a + 1) f) (a + 16 + 3 * q (L.length - 1 - i)) = (3, 6) := (a7 _ (a5 (L.length - 1 - i) (by omega)).2).1
        refine kr_iload_n (pc := 9) dX3_invert_9 rfl ?_
        refine kr_iload_n (pc := 10) dX3_invert_10 rfl ?_
        refine kr_icmp_ge (pc := 11) dX3_invert_11 rfl (fun h => by omega) (fun _ => ?_)
        refine kr_aload_n (pc := 14) dX3_invert_14 rfl ?_
        refine kr_getr (pc := 15) dX3_invert_15 rfl rfl (by assumption) (by assumption) ?_
        refine kr_iload_n (pc := 18) dX3_invert_18 rfl ?_
        refine kr_aald (pc := 19) dX3_invert_19 (by assumption) (by decide) (by omega) (by omega) (by assumption) ?_
        refine kr_astore_n (pc := 20) dX3_invert_20 (show 3 ≤ _ from by simp) (by decide) ?_
        simp only [stl, List.tail_cons, List.tail_nil]
        refine kr_aload_n (pc := 21) dX3_invert_21 rfl ?_
        refine kr_getr (pc := 22) dX3_invert_22 rfl rfl (by assumption) (by assumption) ?_
        refine kr_iload_n (pc := 25) dX3_invert_25 rfl ?_
        refine kr_aload_n (pc := 26) dX3_invert_26 rfl ?_
        refine kr_getr (pc := 27) dX3_invert_27 rfl rfl (by assumption) (by assumption) ?_
        refine kr_iload_n (pc := 30) dX3_invert_30 rfl ?_
        refine kr_aald (pc := 31) dX3_invert_31 (by assumption) (by decide) (by omega) (by omega) (by assumption) ?_
        refine kr_aast (pc := 32) dX3_invert_32 (by assumption) (by decide) (by assumption) (by omega) (by omega) ?_
        rw [hwr_sr]
        have w6 : hrf (sr h (a + 1) (fun j => if j = ((i : Nat) : Int).toNat then some (a + 16 + 3 * q (L.length - 1 - i)) else f j)) a 1 = some (a + 1) := (hrf_sr_ne (by omega)).trans a2
        have w7 : hsh (sr h (a + 1) (fun j => if j = ((i : Nat) : Int).toNat then some (a + 16 + 3 * q (L.length - 1 - i)) else f j)) (a + 16 + 3 * q i) = (3, 6) := w4
        refine kr_aload_n (pc := 33) dX3_invert_33 rfl ?_
        refine kr_getr (pc := 34) dX3_invert_34 rfl rfl (by assumption) (by assumption) ?_
        refine kr_iload_n (pc := 37) dX3_invert_37 rfl ?_
        refine kr_aload_n (pc := 38) dX3_invert_38 rfl ?_
        refine kr_aast (pc := 39) dX3_invert_39 (by assumption) (by decide) (by assumption) (by omega) (by omega) ?_
        rw [hwr_sr]
        refine kr_iinc (pc := 40) dX3_invert_40 rfl ⟨⟨by omega, by omega⟩, by decide, by decide⟩ ?_
        simp only [stl, List.tail_cons, List.tail_nil]
        refine kr_iinc (pc := 43) dX3_invert_43 rfl ⟨⟨by omega, by omega⟩, by decide, by decide⟩ ?_
        simp only [stl, List.tail_cons, List.tail_nil]
        refine kr_goto (pc := 46) dX3_invert_46 rfl ?_
        rw [show (L.length : Int) - 1 - i + -1 = (L.length : Int) - 1 - ((i + 1 : Nat) : Int) by omega]
        refine ih (d - 2) (by omega) (i + 1) _ _ (by omega) fun x hx => ?_
        unfold trn
        by_cases hx1 : x = L.length - 1 - i
        · rw [if_pos (by omega), if_pos (by omega), show L.length - 1 - x = i by omega]
        · rw [if_neg (by omega)]
          by_cases hx2 : x = i
          · rw [if_pos (by omega), if_pos (by omega), hx2]
          · rw [if_neg (by omega), hf x hx]
            unfold trn
            by_cases hx3 : x < L.length ∧ (x < i ∨ L.length < x + 1 + i)
            · rw [if_pos hx3, if_pos (by omega)]
            · rw [if_neg hx3, if_neg (by omega)]
  refine kr_iconst (pc := 0) dX3_invert_0 (by decide) ?_
  refine kr_istore_n (pc := 1) dX3_invert_1 (show 1 ≤ _ from by simp) (by decide) ?_
  simp only [stl, List.tail_cons, List.tail_nil]
  refine kr_aload_n (pc := 2) dX3_invert_2 rfl ?_
  refine kr_geti (pc := 3) dX3_invert_3 rfl (by decide) (by assumption) b1 ?_
  refine kr_iconst (pc := 6) dX3_invert_6 (by decide) ?_
  refine kr_isub (pc := 7) dX3_invert_7 ⟨by omega, by omega⟩ ?_
  refine kr_istore_n (pc := 8) dX3_invert_8 (show 2 ≤ _ from by simp) (by decide) ?_
  simp only [stl, List.tail_cons, List.tail_nil]
  have e : h = sr h (a + 1) (hrf h (a + 1)) := sr_self.symm
  rw [e]
  have := swap L.length 0 [] (hrf h (a + 1)) (by omega) fun x hx => by
    unfold trn
    rw [if_neg (by omega)]
    exact (a5 x hx).1
  rw [show (L.length : Int) - 1 - ((0 : Nat) : Int) = (L.length : Int) - 1 by omega] at this
  exact this
end XE
