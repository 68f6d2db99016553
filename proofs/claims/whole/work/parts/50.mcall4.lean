section MF
variable {h : aH} {m : Nat} {S : St} {Q : aR → Prop}
theorem brk_rng {c : Cfg} : ∀ L : List Rul, 0 ≤ brk c L ∧ brk c L ≤ L.length
  | [] => ⟨Int.le_refl _, Int.le_refl _⟩
  | r :: t => by
    have := brk_rng (c := c) t
    rw [List.length_cons]
    by_cases h : kpt c r
    · rw [brk_y h]; omega
    · rw [brk_n h]; omega
theorem m_faultsOf {s : Int} {c : Cfg} (M : MS h m) (H : ModR (hiv h) m S) (HS : okS S) (hs : 0 ≤ s) (hs4 : s ≤ 34) (C : CfgM (hiv h (m + 1)) s.toNat c) (oc : okC c) (k : Q (.inl (some (vI (brk c S.2.2.2.2.2))), h)) : amT mX8_faultsOf 0 [vR m, vI s] [] h Q := by
  have h0 := M.o
  have hn : hiv h m 12 = S.2.2.2.2.2.length := H.2.2.2.2.1
  have h8 := HS.2.2.2.2.1
  have hb := brk_rng (c := c) S.2.2.2.2.2
  have loop : ∀ (d i : Nat) (n : Int), i + d = S.2.2.2.2.2.length → 0 ≤ n ∧ n ≤ i → n + brk c (S.2.2.2.2.2.drop i) = brk c S.2.2.2.2.2 → amT mX8_faultsOf 4 [vR m, vI s, vI n, vI (i : Int)] [] h Q := by
    intro d
    induction d with
    | zero =>
      intro i n hi h0n he
      rw [List.drop_eq_nil_of_le (by omega)] at he
      have he : n = brk c S.2.2.2.2.2 := by
        rw [← he]
        exact (Int.add_zero n).symm
      rw [← he] at k
      refine kr_iload_n (pc := 4) dX8_faultsOf_4 rfl ?_
      refine kr_aload_n (pc := 5) dX8_faultsOf_5 rfl ?_
      refine kr_geti (pc := 6) dX8_faultsOf_6 rfl (by decide) (by assumption) rfl ?_
      rw [hn]
      refine kr_icmp_ge (pc := 9) dX8_faultsOf_9 rfl (fun h9 => ?_) (fun h9 => by exfalso; omega)
      refine kr_iload_n (pc := 35) dX8_faultsOf_35 rfl ?_
      refine kr_ireturn (pc := 36) dX8_faultsOf_36 rfl ?_
      exact k
    | succ d ih =>
      intro i n hi h0n he
      have h1 : i < S.2.2.2.2.2.length := by omega
      have hg : S.2.2.2.2.2[i]? = some S.2.2.2.2.2[i] := List.getElem?_eq_getElem h1
      obtain ⟨x0, x1, x2, x3⟩ := H.2.2.2.2.2 _ _ hg
      rw [List.drop_eq_getElem_cons h1] at he
      have hb2 := brk_rng (c := c) (S.2.2.2.2.2.drop (i + 1))
      refine kr_iload_n (pc := 4) dX8_faultsOf_4 rfl ?_
      refine kr_aload_n (pc := 5) dX8_faultsOf_5 rfl ?_
      refine kr_geti (pc := 6) dX8_faultsOf_6 rfl (by decide) (by assumption) rfl ?_
      rw [hn]
      refine kr_icmp_ge (pc := 9) dX8_faultsOf_9 rfl (fun h9 => by exfalso; omega) (fun h9 => ?_)
      refine kr_iload_n (pc := 12) dX8_faultsOf_12 rfl ?_
      refine kr_aload_n (pc := 13) dX8_faultsOf_13 rfl ?_
      refine kr_iload_n (pc := 14) dX8_faultsOf_14 rfl ?_
      refine kr_iload_n (pc := 15) dX8_faultsOf_15 rfl ?_
      refine kr_v2 (pc := 16) dX8_faultsOf_16 rfl rfl (by assumption) (Nat.le_of_ble_eq_true rfl) rfl rfl (m_isKept M hs hs4 C oc ⟨by omega, by omega⟩ (HS.2.2.2.2.2 _ _ hg) x0 x1 x2 x3 (fun c16 => ?_) (fun c16 => ?_))
      · show amT _ _ _ _ _ _
        refine kr_if_eq (pc := 19) dX8_faultsOf_19 rfl (fun h => absurd h (by decide)) (fun _ => ?_)
        refine kr_iconst (pc := 22) dX8_faultsOf_22 (by decide) ?_
        refine kr_goto (pc := 23) dX8_faultsOf_23 rfl ?_
        refine kr_iadd (pc := 27) dX8_faultsOf_27 ⟨by omega, by omega⟩ ?_
        refine kr_istore_n (pc := 28) dX8_faultsOf_28 (show 2 ≤ _ from by simp) (by decide) ?_
        simp only [stl, List.tail_cons, List.tail_nil]
        refine kr_iinc (pc := 29) dX8_faultsOf_29 rfl ⟨⟨by omega, by omega⟩, by decide, by decide⟩ ?_
        simp only [stl, List.tail_cons, List.tail_nil]
        refine kr_goto (pc := 32) dX8_faultsOf_32 rfl ?_
        first | exact ih (i + 1) (n + 0) (by omega) (by omega) (by rw [brk_y c16] at he; omega) | exact ih (i + 1) (n + 1) (by omega) (by omega) (by rw [brk_n c16] at he; omega)
      · show amT _ _ _ _ _ _
        refine kr_if_eq (pc := 19) dX8_faultsOf_19 rfl (fun _ => ?_) (fun h => absurd h (by decide))
        refine kr_iconst (pc := 26) dX8_faultsOf_26 (by decide) ?_
        refine kr_iadd (pc := 27) dX8_faultsOf_27 ⟨by omega, by omega⟩ ?_
        refine kr_istore_n (pc := 28) dX8_faultsOf_28 (show 2 ≤ _ from by simp) (by decide) ?_
        simp only [stl, List.tail_cons, List.tail_nil]
        refine kr_iinc (pc := 29) dX8_faultsOf_29 rfl ⟨⟨by omega, by omega⟩, by decide, by decide⟩ ?_
        simp only [stl, List.tail_cons, List.tail_nil]
        refine kr_goto (pc := 32) dX8_faultsOf_32 rfl ?_
        first | exact ih (i + 1) (n + 0) (by omega) (by omega) (by rw [brk_y c16] at he; omega) | exact ih (i + 1) (n + 1) (by omega) (by omega) (by rw [brk_n c16] at he; omega)
  refine kr_iconst (pc := 0) dX8_faultsOf_0 (by decide) ?_
  refine kr_istore_n (pc := 1) dX8_faultsOf_1 (show 2 ≤ _ from by simp) (by decide) ?_
  simp only [stl, List.tail_cons, List.tail_nil]
  refine kr_iconst (pc := 2) dX8_faultsOf_2 (by decide) ?_
  refine kr_istore_n (pc := 3) dX8_faultsOf_3 (show 3 ≤ _ from by simp) (by decide) ?_
  simp only [stl, List.tail_cons, List.tail_nil]
  exact loop S.2.2.2.2.2.length 0 0 (by omega) (by omega) (by rw [List.drop_zero, Int.zero_add])
theorem m_isThere {w : Int} (M : MS h m) (H : ModR (hiv h) m S) (HS : okS S) (k1 : ∀ n : Nat, slt S w = n → n < 33 → Q (.inl (some (vI 1)), hwi h m 17 0)) (k0 : slt S w = -1 → Q (.inl (some (vI 0)), hwi h m 17 1)) : amT mX8_isThere 0 [vR m, vI w] [] h Q := by
  have h0 := M.o
  refine kr_aload_n (pc := 0) dX8_isThere_0 rfl ?_
  refine kr_aload_n (pc := 1) dX8_isThere_1 rfl ?_
  refine kr_iload_n (pc := 2) dX8_isThere_2 rfl ?_
  refine kr_v1 (pc := 3) dX8_isThere_3 rfl rfl (by assumption) (Nat.le_of_ble_eq_true rfl) rfl (m_slot M H HS (fun n3 e3 f3 => ?_) (fun e3 => ?_))
  · show amT _ _ _ _ _ _
    refine kr_iconst (pc := 6) dX8_isThere_6 (by decide) ?_
    refine kr_icmp_eq (pc := 7) dX8_isThere_7 rfl (fun h7 => by exfalso; omega) (fun h7 => ?_)
    refine kr_iconst (pc := 10) dX8_isThere_10 (by decide) ?_
    refine kr_goto (pc := 11) dX8_isThere_11 rfl ?_
    refine kr_puti (pc := 15) dX8_isThere_15 rfl (Or.inl rfl) (by decide) (by assumption) ?_
    refine kr_aload_n (pc := 18) dX8_isThere_18 rfl ?_
    refine kr_geti (pc := 19) dX8_isThere_19 rfl (by decide) (by assumption) (by first | exact hiv_wi_same | assumption) ?_
    refine kr_if_ne (pc := 22) dX8_isThere_22 rfl (fun h => absurd h (by decide)) (fun _ => ?_)
    refine kr_iconst (pc := 25) dX8_isThere_25 (by decide) ?_
    refine kr_goto (pc := 26) dX8_isThere_26 rfl ?_
    refine kr_ireturn (pc := 30) dX8_isThere_30 rfl ?_
    first | exact k0 (by omega) | exact k1 n3 e3 f3
  · show amT _ _ _ _ _ _
    refine kr_iconst (pc := 6) dX8_isThere_6 (by decide) ?_
    refine kr_icmp_eq (pc := 7) dX8_isThere_7 rfl (fun _ => ?_) (fun h => absurd h (by decide))
    refine kr_iconst (pc := 14) dX8_isThere_14 (by decide) ?_
    refine kr_puti (pc := 15) dX8_isThere_15 rfl (Or.inl rfl) (by decide) (by assumption) ?_
    refine kr_aload_n (pc := 18) dX8_isThere_18 rfl ?_
    refine kr_geti (pc := 19) dX8_isThere_19 rfl (by decide) (by assumption) (by first | exact hiv_wi_same | assumption) ?_
    refine kr_if_ne (pc := 22) dX8_isThere_22 rfl (fun _ => ?_) (fun h => absurd h (by decide))
    refine kr_iconst (pc := 29) dX8_isThere_29 (by decide) ?_
    refine kr_ireturn (pc := 30) dX8_isThere_30 rfl ?_
    first | exact k0 (by omega) | exact k1 n3 e3 f3
theorem mc_faults {w : Int} (M : MS h m) (H : ModR (hiv h) m S) (HS : okS S) (k : ∀ I' b, MO (sp_faults S w) (hiv h) I' m b → Q (.inl (some (vI b)), hI h I')) : amT mX8_faults 0 [vR m, vI w] [] h Q := by
  have h0 := M.o
  have M1 : MS (hwi h m 17 0) m := M
  have H1 : ModR (hiv (hwi h m 17 0)) m S := H.th
  refine kr_aload_n (pc := 0) dX8_faults_0 rfl ?_
  refine kr_iload_n (pc := 1) dX8_faults_1 rfl ?_
  refine kr_v1 (pc := 2) dX8_faults_2 rfl rfl (by assumption) (Nat.le_of_ble_eq_true rfl) rfl (m_isThere M H HS (fun n2 e2 f2 => ?_) (fun e2 => ?_))
  · show amT _ _ _ _ _ _
    refine kr_if_eq (pc := 5) dX8_faults_5 rfl (fun h => absurd h (by decide)) (fun _ => ?_)
    refine kr_aload_n (pc := 8) dX8_faults_8 rfl ?_
    refine kr_aload_n (pc := 9) dX8_faults_9 rfl ?_
    refine kr_iload_n (pc := 10) dX8_faults_10 rfl ?_
    refine kr_v1 (pc := 11) dX8_faults_11 rfl rfl (by assumption) (Nat.le_of_ble_eq_true rfl) rfl (m_slot1 M1 H1 HS e2 ?_)
    show amT _ _ _ _ _ _
    refine kr_v1 (pc := 14) dX8_faults_14 rfl rfl (by assumption) (Nat.le_of_ble_eq_true rfl) rfl (m_faultsOf M1 H1 HS (by omega) (by omega) (H1.1 n2 f2) (HS.1 n2 f2) ?_)
    show amT _ _ _ _ _ _
    refine kr_goto (pc := 17) dX8_faults_17 rfl ?_
    refine kr_ireturn (pc := 21) dX8_faults_21 rfl ?_
    first | exact k _ _ (MO.errw (t := 1) H (by unfold sp_faults; rw [if_pos (by omega)]) (by decide)) | exact k _ _ (MO.q H (by unfold sp_faults; rw [if_neg (by omega), e2]; rfl))
  · show amT _ _ _ _ _ _
    refine kr_if_eq (pc := 5) dX8_faults_5 rfl (fun _ => ?_) (fun h => absurd h (by decide))
    refine kr_iconst (pc := 20) dX8_faults_20 (by decide) ?_
    refine kr_ireturn (pc := 21) dX8_faults_21 rfl ?_
    first | exact k _ _ (MO.errw (t := 1) H (by unfold sp_faults; rw [if_pos (by omega)]) (by decide)) | exact k _ _ (MO.q H (by unfold sp_faults; rw [if_neg (by omega), e2]; rfl))
theorem mc_confirm (M : MS h m) (H : ModR (hiv h) m S) (HS : okS S) (k : ∀ I' b, MO (sp_confirm S) (hiv h) I' m b → Q (.inl (some (vI b)), hI h I')) : amT mX8_confirm 0 [vR m] [] h Q := by
  have h0 := M.o
  have hw : hiv h m 4 = S.2.2.2.2.1 := H.2.2.2.1
  have hw2 : ∀ t, hiv (hwi h m 17 t) m 4 = S.2.2.2.2.1 := fun t => (if_neg (by omega)).trans hw
  have fin : ∀ t b, (∃ b', sp_confirm S = (t, b', (S.1, S.2.1, S.2.2.1, S.2.2.2.1, -1, S.2.2.2.2.2)) ∧ (t = 0 → b = b')) → MO (sp_confirm S) (hiv h) (hiv (hwi (hwi h m 17 t) m 4 (-1))) m b := by
    rintro t b ⟨b', e, hb⟩
    rw [e]
    have u1 : ∀ a, a ≠ m → hiv (hwi (hwi h m 17 t) m 4 (-1)) a = hiv h a := fun a ha => (up2_ne ha).trans (up2_ne ha)
    have u2 : ∀ j, j ≠ 4 → j ≠ 17 → hiv (hwi (hwi h m 17 t) m 4 (-1)) m j = hiv h m j := fun j h1 h2 => (up2_nj h1).trans (up2_nj h2)
    refine ⟨⟨fun i hi => ?_, fun i hi => ?_, ?_, up2_at, ?_, fun i r hr => ?_⟩, ?_, hb, fun a ha => u1 a (by omega)⟩
    · rw [u1 _ (by omega)]
      exact H.1 i hi
    · rw [u1 _ (by omega), u1 _ (by omega)]
      exact H.2.1 i hi
    · rw [u2 _ (by decide) (by decide)]
      exact H.2.2.1
    · rw [u2 _ (by decide) (by decide)]
      exact H.2.2.2.2.1
    · rw [u1 _ (by omega), u1 _ (by omega), u1 _ (by omega), u1 _ (by omega)]
      exact H.2.2.2.2.2 i r hr
    · exact (up2_nj (by decide)).trans up2_at
  have g17 : ∀ t, hiv (hwi (hwi h m 17 t) m 4 (-1)) m 17 = t := fun t => (up2_nj (by decide)).trans up2_at
  have rest : ∀ t : Int, (t = 1 ∧ S.2.2.2.2.1 = -1) ∨ (t = 0 ∧ S.2.2.2.2.1 ≠ -1) → amT mX8_confirm 17 [vR m] [] (hwi h m 17 t) Q := by
    intro t ht
    refine kr_aload_n (pc := 17) dX8_confirm_17 rfl ?_
    refine kr_geti (pc := 18) dX8_confirm_18 rfl (by decide) (by assumption) (by first | exact hw2 t | exact g17 t) ?_
    refine kr_istore_n (pc := 21) dX8_confirm_21 (show 1 ≤ _ from by simp) (by decide) ?_
    simp only [stl, List.tail_cons, List.tail_nil]
    refine kr_aload_n (pc := 22) dX8_confirm_22 rfl ?_
    refine kr_iconst (pc := 23) dX8_confirm_23 (by decide) ?_
    refine kr_puti (pc := 24) dX8_confirm_24 rfl (Or.inl rfl) (by decide) (by assumption) ?_
    refine kr_aload_n (pc := 27) dX8_confirm_27 rfl ?_
    refine kr_geti (pc := 28) dX8_confirm_28 rfl (by decide) (by assumption) (by first | exact hw2 t | exact g17 t) ?_
    refine kr_if_ne (pc := 31) dX8_confirm_31 rfl (fun h31 => ?_) (fun h31 => ?_)
    · refine kr_iconst (pc := 38) dX8_confirm_38 (by decide) ?_
      refine kr_ireturn (pc := 39) dX8_confirm_39 rfl ?_
      refine k _ _ (fin t 0 ?_)
      unfold sp_confirm
      rw [if_pos (by omega)]
      refine ⟨0, ?_, fun h => absurd h h31⟩
      rw [show t = 1 by omega, ← show S.2.2.2.2.1 = -1 by omega]
      rfl
    · refine kr_iload_n (pc := 34) dX8_confirm_34 rfl ?_
      refine kr_goto (pc := 35) dX8_confirm_35 rfl ?_
      refine kr_ireturn (pc := 39) dX8_confirm_39 rfl ?_
      refine k _ _ (fin t _ ?_)
      unfold sp_confirm
      rw [if_neg (by omega)]
      exact ⟨_, by rw [h31], fun _ => rfl⟩
  refine kr_aload_n (pc := 0) dX8_confirm_0 rfl ?_
  refine kr_aload_n (pc := 1) dX8_confirm_1 rfl ?_
  refine kr_geti (pc := 2) dX8_confirm_2 rfl (by decide) (by assumption) rfl ?_
  rw [hw]
  refine kr_iconst (pc := 5) dX8_confirm_5 (by decide) ?_
  refine kr_icmp_ne (pc := 6) dX8_confirm_6 rfl (fun h6 => ?_) (fun h6 => ?_)
  · refine kr_iconst (pc := 13) dX8_confirm_13 (by decide) ?_
    refine kr_puti (pc := 14) dX8_confirm_14 rfl (Or.inl rfl) (by decide) (by assumption) ?_
    first | exact rest 1 (Or.inl ⟨rfl, by omega⟩) | exact rest 0 (Or.inr ⟨rfl, by omega⟩)
  · refine kr_iconst (pc := 9) dX8_confirm_9 (by decide) ?_
    refine kr_goto (pc := 10) dX8_confirm_10 rfl ?_
    refine kr_puti (pc := 14) dX8_confirm_14 rfl (Or.inl rfl) (by decide) (by assumption) ?_
    first | exact rest 1 (Or.inl ⟨rfl, by omega⟩) | exact rest 0 (Or.inr ⟨rfl, by omega⟩)
end MF
