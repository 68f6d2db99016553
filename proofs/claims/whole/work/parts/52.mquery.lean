section MH
variable {h : aH} {m : Nat} {S : St} {Q : aR → Prop}
theorem mc_running (M : MS h m) (H : ModR (hiv h) m S) (k : ∀ I', MO (0, (S.2.2.2.1 : Int), S) (hiv h) I' m S.2.2.2.1 → Q (.inl (some (vI S.2.2.2.1)), hI h I')) : amT mX8_running 0 [vR m] [] h Q := by
  have h0 := M.o
  have hr : hiv (hwi h m 17 0) m 3 = S.2.2.2.1 := (up2_nj (by decide)).trans H.2.2.1
  refine kr_aload_n (pc := 0) dX8_running_0 rfl ?_
  refine kr_iconst (pc := 1) dX8_running_1 (by decide) ?_
  refine kr_puti (pc := 2) dX8_running_2 rfl (Or.inl rfl) (by decide) (by assumption) ?_
  refine kr_aload_n (pc := 5) dX8_running_5 rfl ?_
  refine kr_geti (pc := 6) dX8_running_6 rfl (by decide) (by assumption) hr ?_
  refine kr_ireturn (pc := 9) dX8_running_9 rfl ?_
  exact k _ (MO.q H rfl)
theorem mc_waiting (M : MS h m) (H : ModR (hiv h) m S) (k : ∀ I', MO (0, S.2.2.2.2.1, S) (hiv h) I' m S.2.2.2.2.1 → Q (.inl (some (vI S.2.2.2.2.1)), hI h I')) : amT mX8_waiting 0 [vR m] [] h Q := by
  have h0 := M.o
  have hr : hiv (hwi h m 17 0) m 4 = S.2.2.2.2.1 := (up2_nj (by decide)).trans H.2.2.2.1
  refine kr_aload_n (pc := 0) dX8_waiting_0 rfl ?_
  refine kr_iconst (pc := 1) dX8_waiting_1 (by decide) ?_
  refine kr_puti (pc := 2) dX8_waiting_2 rfl (Or.inl rfl) (by decide) (by assumption) ?_
  refine kr_aload_n (pc := 5) dX8_waiting_5 rfl ?_
  refine kr_geti (pc := 6) dX8_waiting_6 rfl (by decide) (by assumption) hr ?_
  refine kr_ireturn (pc := 9) dX8_waiting_9 rfl ?_
  exact k _ (MO.q H rfl)
theorem mc_size {w s : Int} (M : MS h m) (H : ModR (hiv h) m S) (HS : okS S) (k : ∀ I' b, MO (sp_size S w s) (hiv h) I' m b → Q (.inl (some (vI b)), hI h I')) : amT mX8_size 0 [vR m, vI w, vI s] [] h Q := by
  have h0 := M.o
  have M1 : MS (hwi h m 17 0) m := M
  have H1 : ModR (hiv (hwi h m 17 0)) m S := H.th
  refine kr_aload_n (pc := 0) dX8_size_0 rfl ?_
  refine kr_aload_n (pc := 1) dX8_size_1 rfl ?_
  refine kr_iload_n (pc := 2) dX8_size_2 rfl ?_
  refine kr_v1 (pc := 3) dX8_size_3 rfl rfl (by assumption) (Nat.le_of_ble_eq_true rfl) rfl (m_slot M H HS (fun n3 e3 f3 => ?_) (fun e3 => ?_))
  · show amT _ _ _ _ _ _
    refine kr_iconst (pc := 6) dX8_size_6 (by decide) ?_
    refine kr_icmp_eq (pc := 7) dX8_size_7 rfl (fun h7 => by exfalso; omega) (fun h7 => ?_)
    refine kr_iload_n (pc := 10) dX8_size_10 rfl ?_
    refine kr_s1 (pc := 11) dX8_size_11 rfl rfl (Nat.le_of_ble_eq_true rfl) rfl (m_isS (fun c11 => ?_) (fun c11 => ?_))
    · show amT _ _ _ _ _ _
      refine kr_if_eq (pc := 14) dX8_size_14 rfl (fun h => absurd h (by decide)) (fun _ => ?_)
      refine kr_iconst (pc := 17) dX8_size_17 (by decide) ?_
      refine kr_goto (pc := 18) dX8_size_18 rfl ?_
      refine kr_puti (pc := 22) dX8_size_22 rfl (Or.inl rfl) (by decide) (by assumption) ?_
      refine kr_aload_n (pc := 25) dX8_size_25 rfl ?_
      refine kr_geti (pc := 26) dX8_size_26 rfl (by decide) (by assumption) (by first | exact hiv_wi_same | assumption) ?_
      refine kr_if_ne (pc := 29) dX8_size_29 rfl (fun h => absurd h (by decide)) (fun _ => ?_)
      refine kr_aload_n (pc := 32) dX8_size_32 rfl ?_
      refine kr_aload_n (pc := 33) dX8_size_33 rfl ?_
      refine kr_iload_n (pc := 34) dX8_size_34 rfl ?_
      refine kr_v1 (pc := 35) dX8_size_35 rfl rfl (by assumption) (Nat.le_of_ble_eq_true rfl) rfl (m_slot1 M1 H1 HS e3 ?_)
      show amT _ _ _ _ _ _
      refine kr_iload_n (pc := 38) dX8_size_38 rfl ?_
      refine kr_v2 (pc := 39) dX8_size_39 rfl rfl (by assumption) (Nat.le_of_ble_eq_true rfl) rfl rfl (m_manyI M1 (by omega) (by omega) ((H1.1 n3 f3).1 s.toNat (by omega)) ?_)
      show amT _ _ _ _ _ _
      refine kr_goto (pc := 42) dX8_size_42 rfl ?_
      refine kr_ireturn (pc := 46) dX8_size_46 rfl ?_
      first | exact k _ _ (MO.errw (t := 1) H (by unfold sp_size; rw [if_pos (by omega)]) (by decide)) | exact k _ _ (MO.q H (by unfold sp_size; rw [if_neg (by omega), e3]; rfl))
    · show amT _ _ _ _ _ _
      refine kr_if_eq (pc := 14) dX8_size_14 rfl (fun _ => ?_) (fun h => absurd h (by decide))
      refine kr_iconst (pc := 21) dX8_size_21 (by decide) ?_
      refine kr_puti (pc := 22) dX8_size_22 rfl (Or.inl rfl) (by decide) (by assumption) ?_
      refine kr_aload_n (pc := 25) dX8_size_25 rfl ?_
      refine kr_geti (pc := 26) dX8_size_26 rfl (by decide) (by assumption) (by first | exact hiv_wi_same | assumption) ?_
      refine kr_if_ne (pc := 29) dX8_size_29 rfl (fun _ => ?_) (fun h => absurd h (by decide))
      refine kr_iconst (pc := 45) dX8_size_45 (by decide) ?_
      refine kr_ireturn (pc := 46) dX8_size_46 rfl ?_
      first | exact k _ _ (MO.errw (t := 1) H (by unfold sp_size; rw [if_pos (by omega)]) (by decide)) | exact k _ _ (MO.q H (by unfold sp_size; rw [if_neg (by omega), e3]; rfl))
  · show amT _ _ _ _ _ _
    refine kr_iconst (pc := 6) dX8_size_6 (by decide) ?_
    refine kr_icmp_eq (pc := 7) dX8_size_7 rfl (fun _ => ?_) (fun h => absurd h (by decide))
    refine kr_iconst (pc := 21) dX8_size_21 (by decide) ?_
    refine kr_puti (pc := 22) dX8_size_22 rfl (Or.inl rfl) (by decide) (by assumption) ?_
    refine kr_aload_n (pc := 25) dX8_size_25 rfl ?_
    refine kr_geti (pc := 26) dX8_size_26 rfl (by decide) (by assumption) (by first | exact hiv_wi_same | assumption) ?_
    refine kr_if_ne (pc := 29) dX8_size_29 rfl (fun _ => ?_) (fun h => absurd h (by decide))
    refine kr_iconst (pc := 45) dX8_size_45 (by decide) ?_
    refine kr_ireturn (pc := 46) dX8_size_46 rfl ?_
    first | exact k _ _ (MO.errw (t := 1) H (by unfold sp_size; rw [if_pos (by omega)]) (by decide)) | exact k _ _ (MO.q H (by unfold sp_size; rw [if_neg (by omega), e3]; rfl))
theorem m_isEntry {w s p : Int} (M : MS h m) (H : ModR (hiv h) m S) (HS : okS S) (k1 : ∀ n : Nat, slt S w = n → n < 33 → (0 ≤ s ∧ s ≤ 2) → 0 ≤ p → p < ((S.1 n).1 s.toNat).length → Q (.inl (some (vI 1)), hwi h m 17 0))
    (k0 : ¬ (slt S w ≠ -1 ∧ (0 ≤ s ∧ s ≤ 2) ∧ 0 ≤ p ∧ p < ((S.1 (slt S w).toNat).1 s.toNat).length) → Q (.inl (some (vI 0)), hwi h m 17 1)) : amT mX8_isEntry 0 [vR m, vI w, vI s, vI p] [] h Q := by
  have h0 := M.o
  refine kr_aload_n (pc := 0) dX8_isEntry_0 rfl ?_
  refine kr_aload_n (pc := 1) dX8_isEntry_1 rfl ?_
  refine kr_iload_n (pc := 2) dX8_isEntry_2 rfl ?_
  refine kr_v1 (pc := 3) dX8_isEntry_3 rfl rfl (by assumption) (Nat.le_of_ble_eq_true rfl) rfl (m_slot M H HS (fun n3 e3 f3 => ?_) (fun e3 => ?_))
  · show amT _ _ _ _ _ _
    refine kr_iconst (pc := 6) dX8_isEntry_6 (by decide) ?_
    refine kr_icmp_eq (pc := 7) dX8_isEntry_7 rfl (fun h7 => by exfalso; omega) (fun h7 => ?_)
    refine kr_iload_n (pc := 10) dX8_isEntry_10 rfl ?_
    refine kr_s1 (pc := 11) dX8_isEntry_11 rfl rfl (Nat.le_of_ble_eq_true rfl) rfl (m_isS (fun c11 => ?_) (fun c11 => ?_))
    · show amT _ _ _ _ _ _
      refine kr_if_eq (pc := 14) dX8_isEntry_14 rfl (fun h => absurd h (by decide)) (fun _ => ?_)
      refine kr_iload_n (pc := 17) dX8_isEntry_17 rfl ?_
      refine kr_iconst (pc := 18) dX8_isEntry_18 (by decide) ?_
      refine kr_aload_n (pc := 19) dX8_isEntry_19 rfl ?_
      refine kr_aload_n (pc := 20) dX8_isEntry_20 rfl ?_
      refine kr_iload_n (pc := 21) dX8_isEntry_21 rfl ?_
      refine kr_v1 (pc := 22) dX8_isEntry_22 rfl rfl (by assumption) (Nat.le_of_ble_eq_true rfl) rfl (m_slot1 M H HS e3 ?_)
      show amT _ _ _ _ _ _
      refine kr_iload_n (pc := 25) dX8_isEntry_25 rfl ?_
      have hl6 := ((HS.1 n3 f3).1 s.toNat (by omega)).1
      have e9 : (slt S w).toNat = n3 := by omega
      refine kr_v2 (pc := 26) dX8_isEntry_26 rfl rfl (by assumption) (Nat.le_of_ble_eq_true rfl) rfl rfl (m_manyI M (by omega) (by omega) ((H.1 n3 f3).1 s.toNat (by omega)) ?_)
      show amT _ _ _ _ _ _
      refine kr_iconst (pc := 29) dX8_isEntry_29 (by decide) ?_
      refine kr_isub (pc := 30) dX8_isEntry_30 ⟨by omega, by omega⟩ ?_
      refine kr_s3 (pc := 31) dX8_isEntry_31 rfl rfl (Nat.le_of_ble_eq_true rfl) rfl rfl rfl (m_in2 (fun c31 => ?_) (fun c31 => ?_))
      · show amT _ _ _ _ _ _
        refine kr_if_eq (pc := 34) dX8_isEntry_34 rfl (fun h => absurd h (by decide)) (fun _ => ?_)
        refine kr_iconst (pc := 37) dX8_isEntry_37 (by decide) ?_
        refine kr_goto (pc := 38) dX8_isEntry_38 rfl ?_
        refine kr_puti (pc := 42) dX8_isEntry_42 rfl (Or.inl rfl) (by decide) (by assumption) ?_
        refine kr_aload_n (pc := 45) dX8_isEntry_45 rfl ?_
        refine kr_geti (pc := 46) dX8_isEntry_46 rfl (by decide) (by assumption) (by first | exact hiv_wi_same | assumption) ?_
        refine kr_if_ne (pc := 49) dX8_isEntry_49 rfl (fun h => absurd h (by decide)) (fun _ => ?_)
        refine kr_iconst (pc := 52) dX8_isEntry_52 (by decide) ?_
        refine kr_goto (pc := 53) dX8_isEntry_53 rfl ?_
        refine kr_ireturn (pc := 57) dX8_isEntry_57 rfl ?_
        first | exact k0 (by omega) | exact k0 (by rw [e9]; omega) | exact k1 n3 e3 f3 (by omega) (by omega) (by omega)
      · show amT _ _ _ _ _ _
        refine kr_if_eq (pc := 34) dX8_isEntry_34 rfl (fun _ => ?_) (fun h => absurd h (by decide))
        refine kr_iconst (pc := 41) dX8_isEntry_41 (by decide) ?_
        refine kr_puti (pc := 42) dX8_isEntry_42 rfl (Or.inl rfl) (by decide) (by assumption) ?_
        refine kr_aload_n (pc := 45) dX8_isEntry_45 rfl ?_
        refine kr_geti (pc := 46) dX8_isEntry_46 rfl (by decide) (by assumption) (by first | exact hiv_wi_same | assumption) ?_
        refine kr_if_ne (pc := 49) dX8_isEntry_49 rfl (fun _ => ?_) (fun h => absurd h (by decide))
        refine kr_iconst (pc := 56) dX8_isEntry_56 (by decide) ?_
        refine kr_ireturn (pc := 57) dX8_isEntry_57 rfl ?_
        first | exact k0 (by omega) | exact k0 (by rw [e9]; omega) | exact k1 n3 e3 f3 (by omega) (by omega) (by omega)
    · show amT _ _ _ _ _ _
      refine kr_if_eq (pc := 14) dX8_isEntry_14 rfl (fun _ => ?_) (fun h => absurd h (by decide))
      refine kr_iconst (pc := 41) dX8_isEntry_41 (by decide) ?_
      refine kr_puti (pc := 42) dX8_isEntry_42 rfl (Or.inl rfl) (by decide) (by assumption) ?_
      refine kr_aload_n (pc := 45) dX8_isEntry_45 rfl ?_
      refine kr_geti (pc := 46) dX8_isEntry_46 rfl (by decide) (by assumption) (by first | exact hiv_wi_same | assumption) ?_
      refine kr_if_ne (pc := 49) dX8_isEntry_49 rfl (fun _ => ?_) (fun h => absurd h (by decide))
      refine kr_iconst (pc := 56) dX8_isEntry_56 (by decide) ?_
      refine kr_ireturn (pc := 57) dX8_isEntry_57 rfl ?_
      first | exact k0 (by omega) | exact k0 (by rw [e9]; omega) | exact k1 n3 e3 f3 (by omega) (by omega) (by omega)
  · show amT _ _ _ _ _ _
    refine kr_iconst (pc := 6) dX8_isEntry_6 (by decide) ?_
    refine kr_icmp_eq (pc := 7) dX8_isEntry_7 rfl (fun _ => ?_) (fun h => absurd h (by decide))
    refine kr_iconst (pc := 41) dX8_isEntry_41 (by decide) ?_
    refine kr_puti (pc := 42) dX8_isEntry_42 rfl (Or.inl rfl) (by decide) (by assumption) ?_
    refine kr_aload_n (pc := 45) dX8_isEntry_45 rfl ?_
    refine kr_geti (pc := 46) dX8_isEntry_46 rfl (by decide) (by assumption) (by first | exact hiv_wi_same | assumption) ?_
    refine kr_if_ne (pc := 49) dX8_isEntry_49 rfl (fun _ => ?_) (fun h => absurd h (by decide))
    refine kr_iconst (pc := 56) dX8_isEntry_56 (by decide) ?_
    refine kr_ireturn (pc := 57) dX8_isEntry_57 rfl ?_
    first | exact k0 (by omega) | exact k0 (by rw [e9]; omega) | exact k1 n3 e3 f3 (by omega) (by omega) (by omega)
theorem en_row {w s p : Int} {n : Nat} (H : ModR (hiv h) m S) (e : slt S w = n) (f : n < 33) (a : 0 ≤ s ∧ s ≤ 2) (b : 0 ≤ p) (d : p < ((S.1 n).1 s.toNat).length) : hiv h (m + 1) (27 * (n : Int) + 3 + 6 * s + p).toNat = pk (enA S w s p) ∧ okE (enA S w s p) ∧ p ≤ 5 := by
  obtain ⟨x, hx⟩ : ∃ x, ((S.1 n).1 s.toNat)[p.toNat]? = some x := ⟨_, List.getElem?_eq_getElem (by omega)⟩
  obtain ⟨_, _, q1, q2, q3⟩ := (H.1 n f).1 s.toNat (by omega)
  have h1 : enA S w s p = x := by
    unfold enA
    rw [show (slt S w).toNat = n by omega, hx]
    rfl
  rw [h1, show (27 * (n : Int) + 3 + 6 * s + p).toNat = 27 * n + 3 + 6 * s.toNat + p.toNat by omega]
  exact ⟨(q3 _ _ hx).1, (q3 _ _ hx).2, by omega⟩
theorem mc_keyAt {w s p : Int} (M : MS h m) (H : ModR (hiv h) m S) (HS : okS S) (k : ∀ I' b, MO (sp_keyAt S w s p) (hiv h) I' m b → Q (.inl (some (vI b)), hI h I')) : amT mX8_keyAt 0 [vR m, vI w, vI s, vI p] [] h Q := by
  have h0 := M.o
  have f1 := M.2.1
  have f2 := M.2.2.1
  have M1 : MS (hwi h m 17 0) m := M
  have H1 : ModR (hiv (hwi h m 17 0)) m S := H.th
  refine kr_aload_n (pc := 0) dX8_keyAt_0 rfl ?_
  refine kr_iload_n (pc := 1) dX8_keyAt_1 rfl ?_
  refine kr_iload_n (pc := 2) dX8_keyAt_2 rfl ?_
  refine kr_iload_n (pc := 3) dX8_keyAt_3 rfl ?_
  refine kr_v3 (pc := 4) dX8_keyAt_4 rfl rfl (by assumption) (Nat.le_of_ble_eq_true rfl) rfl rfl rfl (m_isEntry M H HS (fun n4 e4 f4 a4 b4 d4 => ?_) (fun e4 => ?_))
  · show amT _ _ _ _ _ _
    refine kr_if_eq (pc := 7) dX8_keyAt_7 rfl (fun h => absurd h (by decide)) (fun _ => ?_)
    obtain ⟨y1, y2, y3⟩ := en_row H1 e4 f4 a4 b4 d4
    refine kr_aload_n (pc := 10) dX8_keyAt_10 rfl ?_
    refine kr_getr (pc := 11) dX8_keyAt_11 rfl rfl (by assumption) (by assumption) ?_
    refine kr_aload_n (pc := 14) dX8_keyAt_14 rfl ?_
    refine kr_iload_n (pc := 15) dX8_keyAt_15 rfl ?_
    refine kr_v1 (pc := 16) dX8_keyAt_16 rfl rfl (by assumption) (Nat.le_of_ble_eq_true rfl) rfl (m_slot1 M1 H1 HS e4 ?_)
    show amT _ _ _ _ _ _
    refine kr_iload_n (pc := 19) dX8_keyAt_19 rfl ?_
    refine kr_iload_n (pc := 20) dX8_keyAt_20 rfl ?_
    refine kr_s3 (pc := 21) dX8_keyAt_21 rfl rfl (Nat.le_of_ble_eq_true rfl) rfl rfl rfl (m_at ⟨by omega, by omega⟩ ⟨by omega, by omega⟩ ⟨by omega, by omega⟩ ?_)
    show amT _ _ _ _ _ _
    refine kr_iald (pc := 24) dX8_keyAt_24 (by assumption) (by omega) (by omega) rfl ?_
    rw [y1]
    refine kr_s1 (pc := 25) dX8_keyAt_25 rfl rfl (Nat.le_of_ble_eq_true rfl) rfl (m_key (pk_rng y2).1 ?_)
    show amT _ _ _ _ _ _
    rw [pk_key y2]
    refine kr_goto (pc := 28) dX8_keyAt_28 rfl ?_
    refine kr_ireturn (pc := 32) dX8_keyAt_32 rfl ?_
    first | exact k _ _ (MO.errw (t := 1) H (by unfold sp_keyAt; rw [if_pos e4]) (by decide)) | exact k _ _ (MO.q H (by unfold sp_keyAt; rw [if_neg (by rw [show (slt S w).toNat = n4 by omega]; omega)]))
  · show amT _ _ _ _ _ _
    refine kr_if_eq (pc := 7) dX8_keyAt_7 rfl (fun _ => ?_) (fun h => absurd h (by decide))
    refine kr_iconst (pc := 31) dX8_keyAt_31 (by decide) ?_
    refine kr_ireturn (pc := 32) dX8_keyAt_32 rfl ?_
    first | exact k _ _ (MO.errw (t := 1) H (by unfold sp_keyAt; rw [if_pos e4]) (by decide)) | exact k _ _ (MO.q H (by unfold sp_keyAt; rw [if_neg (by rw [show (slt S w).toNat = n4 by omega]; omega)]))
theorem mc_own {w s p : Int} (M : MS h m) (H : ModR (hiv h) m S) (HS : okS S) (k : ∀ I' b, MO (sp_own S w s p) (hiv h) I' m b → Q (.inl (some (vI b)), hI h I')) : amT mX8_own 0 [vR m, vI w, vI s, vI p] [] h Q := by
  have h0 := M.o
  have f1 := M.2.1
  have f2 := M.2.2.1
  have M1 : MS (hwi h m 17 0) m := M
  have H1 : ModR (hiv (hwi h m 17 0)) m S := H.th
  refine kr_aload_n (pc := 0) dX8_own_0 rfl ?_
  refine kr_iload_n (pc := 1) dX8_own_1 rfl ?_
  refine kr_iload_n (pc := 2) dX8_own_2 rfl ?_
  refine kr_iload_n (pc := 3) dX8_own_3 rfl ?_
  refine kr_v3 (pc := 4) dX8_own_4 rfl rfl (by assumption) (Nat.le_of_ble_eq_true rfl) rfl rfl rfl (m_isEntry M H HS (fun n4 e4 f4 a4 b4 d4 => ?_) (fun e4 => ?_))
  · show amT _ _ _ _ _ _
    refine kr_if_ne (pc := 7) dX8_own_7 rfl (fun _ => ?_) (fun h => absurd h (by decide))
    obtain ⟨y1, y2, y3⟩ := en_row H1 e4 f4 a4 b4 d4
    have y4 := y2
    unfold okE at y4
    refine kr_aload_n (pc := 12) dX8_own_12 rfl ?_
    refine kr_getr (pc := 13) dX8_own_13 rfl rfl (by assumption) (by assumption) ?_
    refine kr_aload_n (pc := 16) dX8_own_16 rfl ?_
    refine kr_iload_n (pc := 17) dX8_own_17 rfl ?_
    refine kr_v1 (pc := 18) dX8_own_18 rfl rfl (by assumption) (Nat.le_of_ble_eq_true rfl) rfl (m_slot1 M1 H1 HS e4 ?_)
    show amT _ _ _ _ _ _
    refine kr_iload_n (pc := 21) dX8_own_21 rfl ?_
    refine kr_iload_n (pc := 22) dX8_own_22 rfl ?_
    refine kr_s3 (pc := 23) dX8_own_23 rfl rfl (Nat.le_of_ble_eq_true rfl) rfl rfl rfl (m_at ⟨by omega, by omega⟩ ⟨by omega, by omega⟩ ⟨by omega, by omega⟩ ?_)
    show amT _ _ _ _ _ _
    refine kr_iald (pc := 26) dX8_own_26 (by assumption) (by omega) (by omega) rfl ?_
    rw [y1]
    refine kr_istore (pc := 27) dX8_own_27 (show 4 ≤ _ from by simp) (by decide) ?_
    simp only [stl, List.tail_cons, List.tail_nil]
    refine kr_sipush (pc := 29) dX8_own_29 (by decide) ?_
    refine kr_iload (pc := 32) dX8_own_32 rfl ?_
    refine kr_iconst (pc := 34) dX8_own_34 (by decide) ?_
    refine kr_s2 (pc := 35) dX8_own_35 rfl rfl (Nat.le_of_ble_eq_true rfl) rfl rfl (m_field y2 (Or.inl rfl) ?_)
    show amT _ _ _ _ _ _
    rw [show fieldE (enA S w s p) 0 = (enA S w s p).2.1 from rfl]
    refine kr_imul (pc := 38) dX8_own_38 ⟨by omega, by omega⟩ ?_
    refine kr_bipush (pc := 39) dX8_own_39 (by decide) ?_
    refine kr_iload (pc := 41) dX8_own_41 rfl ?_
    refine kr_iconst (pc := 43) dX8_own_43 (by decide) ?_
    refine kr_s2 (pc := 44) dX8_own_44 rfl rfl (Nat.le_of_ble_eq_true rfl) rfl rfl (m_field y2 (Or.inr rfl) ?_)
    show amT _ _ _ _ _ _
    rw [show fieldE (enA S w s p) 1 = (enA S w s p).2.2.1 from rfl]
    refine kr_imul (pc := 47) dX8_own_47 ⟨by omega, by omega⟩ ?_
    refine kr_iadd (pc := 48) dX8_own_48 ⟨by omega, by omega⟩ ?_
    refine kr_iload (pc := 49) dX8_own_49 rfl ?_
    refine kr_s1 (pc := 51) dX8_own_51 rfl rfl (Nat.le_of_ble_eq_true rfl) rfl (m_group y2 ?_)
    show amT _ _ _ _ _ _
    refine kr_iadd (pc := 54) dX8_own_54 ⟨by omega, by omega⟩ ?_
    refine kr_ireturn (pc := 55) dX8_own_55 rfl ?_
    first | exact k _ _ (MO.errw (t := 1) H (by unfold sp_own; rw [if_pos e4]) (by decide)) | exact k _ _ (MO.q H (by unfold sp_own; rw [if_neg (by rw [show (slt S w).toNat = n4 by omega]; omega), Int.add_assoc (_ + _) (enA S w s p).2.2.2 1]))
  · show amT _ _ _ _ _ _
    refine kr_if_ne (pc := 7) dX8_own_7 rfl (fun h => absurd h (by decide)) (fun _ => ?_)
    refine kr_iconst (pc := 10) dX8_own_10 (by decide) ?_
    refine kr_ireturn (pc := 11) dX8_own_11 rfl ?_
    first | exact k _ _ (MO.errw (t := 1) H (by unfold sp_own; rw [if_pos e4]) (by decide)) | exact k _ _ (MO.q H (by unfold sp_own; rw [if_neg (by rw [show (slt S w).toNat = n4 by omega]; omega), Int.add_assoc (_ + _) (enA S w s p).2.2.2 1]))
theorem mc_shown {w s p f : Int} (M : MS h m) (H : ModR (hiv h) m S) (HS : okS S) (k : ∀ I' b, MO (sp_shown S w s p f) (hiv h) I' m b → Q (.inl (some (vI b)), hI h I')) : amT mX8_shown 0 [vR m, vI w, vI s, vI p, vI f] [] h Q := by
  have h0 := M.o
  have M2 : MS (hwi (hwi h m 17 0) m 17 0) m := M
  have H2 : ModR (hiv (hwi (hwi h m 17 0) m 17 0)) m S := H.th.th
  refine kr_aload_n (pc := 0) dX8_shown_0 rfl ?_
  refine kr_aload_n (pc := 1) dX8_shown_1 rfl ?_
  refine kr_iload_n (pc := 2) dX8_shown_2 rfl ?_
  refine kr_iload_n (pc := 3) dX8_shown_3 rfl ?_
  refine kr_iload_n (pc := 4) dX8_shown_4 rfl ?_
  refine kr_v3 (pc := 5) dX8_shown_5 rfl rfl (by assumption) (Nat.le_of_ble_eq_true rfl) rfl rfl rfl (m_isEntry M H HS (fun n5 e5 f5 a5 b5 d5 => ?_) (fun e5 => ?_))
  · show amT _ _ _ _ _ _
    refine kr_if_eq (pc := 8) dX8_shown_8 rfl (fun h => absurd h (by decide)) (fun _ => ?_)
    refine kr_iload (pc := 11) dX8_shown_11 rfl ?_
    refine kr_s1 (pc := 13) dX8_shown_13 rfl rfl (Nat.le_of_ble_eq_true rfl) rfl (m_isF (fun c13 => ?_) (fun c13 => ?_))
    · show amT _ _ _ _ _ _
      refine kr_if_eq (pc := 16) dX8_shown_16 rfl (fun h => absurd h (by decide)) (fun _ => ?_)
      refine kr_iconst (pc := 19) dX8_shown_19 (by decide) ?_
      refine kr_goto (pc := 20) dX8_shown_20 rfl ?_
      refine kr_puti (pc := 24) dX8_shown_24 rfl (Or.inl rfl) (by decide) (by assumption) ?_
      refine kr_aload_n (pc := 27) dX8_shown_27 rfl ?_
      refine kr_geti (pc := 28) dX8_shown_28 rfl (by decide) (by assumption) (by first | exact hiv_wi_same | assumption) ?_
      refine kr_if_ne (pc := 31) dX8_shown_31 rfl (fun h => absurd h (by decide)) (fun _ => ?_)
      refine kr_aload_n (pc := 34) dX8_shown_34 rfl ?_
      refine kr_aload_n (pc := 35) dX8_shown_35 rfl ?_
      refine kr_iload_n (pc := 36) dX8_shown_36 rfl ?_
      refine kr_v1 (pc := 37) dX8_shown_37 rfl rfl (by assumption) (Nat.le_of_ble_eq_true rfl) rfl (m_slot1 M2 H2 HS e5 ?_)
      show amT _ _ _ _ _ _
      refine kr_iload_n (pc := 40) dX8_shown_40 rfl ?_
      refine kr_iload_n (pc := 41) dX8_shown_41 rfl ?_
      refine kr_iload (pc := 42) dX8_shown_42 rfl ?_
      refine kr_v4 (pc := 44) dX8_shown_44 rfl rfl (by assumption) (Nat.le_of_ble_eq_true rfl) rfl rfl rfl rfl (m_shows M2 (by omega) (by omega) a5 (H2.1 n5 f5) (HS.1 n5 f5) ⟨b5, d5⟩ c13 ?_)
      show amT _ _ _ _ _ _
      refine kr_goto (pc := 47) dX8_shown_47 rfl ?_
      try rw [hwi_hwi]
      refine kr_ireturn (pc := 51) dX8_shown_51 rfl ?_
      first | exact k _ _ (MO.errw (t := 1) H (by unfold sp_shown; rw [if_pos (fun hh => e5 hh.1)]) (by decide)) | exact k _ _ (MO.errw (t := 1) H (by unfold sp_shown; rw [if_pos (fun hh => c13 hh.2)]) (by decide)) | exact k _ _ (MO.q H (by unfold sp_shown; rw [if_neg (by rw [show (slt S w).toNat = n5 by omega]; omega)]; unfold shA enA; rw [e5]; rfl))
    · show amT _ _ _ _ _ _
      refine kr_if_eq (pc := 16) dX8_shown_16 rfl (fun _ => ?_) (fun h => absurd h (by decide))
      refine kr_iconst (pc := 23) dX8_shown_23 (by decide) ?_
      refine kr_puti (pc := 24) dX8_shown_24 rfl (Or.inl rfl) (by decide) (by assumption) ?_
      refine kr_aload_n (pc := 27) dX8_shown_27 rfl ?_
      refine kr_geti (pc := 28) dX8_shown_28 rfl (by decide) (by assumption) (by first | exact hiv_wi_same | assumption) ?_
      refine kr_if_ne (pc := 31) dX8_shown_31 rfl (fun _ => ?_) (fun h => absurd h (by decide))
      refine kr_iconst (pc := 50) dX8_shown_50 (by decide) ?_
      try rw [hwi_hwi]
      refine kr_ireturn (pc := 51) dX8_shown_51 rfl ?_
      first | exact k _ _ (MO.errw (t := 1) H (by unfold sp_shown; rw [if_pos (fun hh => e5 hh.1)]) (by decide)) | exact k _ _ (MO.errw (t := 1) H (by unfold sp_shown; rw [if_pos (fun hh => c13 hh.2)]) (by decide)) | exact k _ _ (MO.q H (by unfold sp_shown; rw [if_neg (by rw [show (slt S w).toNat = n5 by omega]; omega)]; unfold shA enA; rw [e5]; rfl))
  · show amT _ _ _ _ _ _
    refine kr_if_eq (pc := 8) dX8_shown_8 rfl (fun _ => ?_) (fun h => absurd h (by decide))
    refine kr_iconst (pc := 23) dX8_shown_23 (by decide) ?_
    refine kr_puti (pc := 24) dX8_shown_24 rfl (Or.inl rfl) (by decide) (by assumption) ?_
    refine kr_aload_n (pc := 27) dX8_shown_27 rfl ?_
    refine kr_geti (pc := 28) dX8_shown_28 rfl (by decide) (by assumption) (by first | exact hiv_wi_same | assumption) ?_
    refine kr_if_ne (pc := 31) dX8_shown_31 rfl (fun _ => ?_) (fun h => absurd h (by decide))
    refine kr_iconst (pc := 50) dX8_shown_50 (by decide) ?_
    try rw [hwi_hwi]
    refine kr_ireturn (pc := 51) dX8_shown_51 rfl ?_
    first | exact k _ _ (MO.errw (t := 1) H (by unfold sp_shown; rw [if_pos (fun hh => e5 hh.1)]) (by decide)) | exact k _ _ (MO.errw (t := 1) H (by unfold sp_shown; rw [if_pos (fun hh => c13 hh.2)]) (by decide)) | exact k _ _ (MO.q H (by unfold sp_shown; rw [if_neg (by rw [show (slt S w).toNat = n5 by omega]; omega)]; unfold shA enA; rw [e5]; rfl))
theorem m_areThere {a b : Int} (M : MS h m) (H : ModR (hiv h) m S) (HS : okS S) (k1 : ∀ na nb : Nat, slt S a = na → na < 33 → slt S b = nb → nb < 33 → Q (.inl (some (vI 1)), hwi h m 17 0)) (k0 : ¬ (slt S a ≠ -1 ∧ slt S b ≠ -1) → Q (.inl (some (vI 0)), hwi h m 17 1)) : amT mX8_areThere 0 [vR m, vI a, vI b] [] h Q := by
  have h0 := M.o
  refine kr_aload_n (pc := 0) dX8_areThere_0 rfl ?_
  refine kr_aload_n (pc := 1) dX8_areThere_1 rfl ?_
  refine kr_iload_n (pc := 2) dX8_areThere_2 rfl ?_
  refine kr_v1 (pc := 3) dX8_areThere_3 rfl rfl (by assumption) (Nat.le_of_ble_eq_true rfl) rfl (m_slot M H HS (fun n3 e3 f3 => ?_) (fun e3 => ?_))
  · show amT _ _ _ _ _ _
    refine kr_iconst (pc := 6) dX8_areThere_6 (by decide) ?_
    refine kr_icmp_eq (pc := 7) dX8_areThere_7 rfl (fun h7 => by exfalso; omega) (fun h7 => ?_)
    refine kr_aload_n (pc := 10) dX8_areThere_10 rfl ?_
    refine kr_iload_n (pc := 11) dX8_areThere_11 rfl ?_
    refine kr_v1 (pc := 12) dX8_areThere_12 rfl rfl (by assumption) (Nat.le_of_ble_eq_true rfl) rfl (m_slot M H HS (fun n12 e12 f12 => ?_) (fun e12 => ?_))
    · show amT _ _ _ _ _ _
      refine kr_iconst (pc := 15) dX8_areThere_15 (by decide) ?_
      refine kr_icmp_eq (pc := 16) dX8_areThere_16 rfl (fun h16 => by exfalso; omega) (fun h16 => ?_)
      refine kr_iconst (pc := 19) dX8_areThere_19 (by decide) ?_
      refine kr_goto (pc := 20) dX8_areThere_20 rfl ?_
      refine kr_puti (pc := 24) dX8_areThere_24 rfl (Or.inl rfl) (by decide) (by assumption) ?_
      refine kr_aload_n (pc := 27) dX8_areThere_27 rfl ?_
      refine kr_geti (pc := 28) dX8_areThere_28 rfl (by decide) (by assumption) (by first | exact hiv_wi_same | assumption) ?_
      refine kr_if_ne (pc := 31) dX8_areThere_31 rfl (fun h => absurd h (by decide)) (fun _ => ?_)
      refine kr_iconst (pc := 34) dX8_areThere_34 (by decide) ?_
      refine kr_goto (pc := 35) dX8_areThere_35 rfl ?_
      refine kr_ireturn (pc := 39) dX8_areThere_39 rfl ?_
      first | exact k0 (by omega) | exact k1 n3 n12 e3 f3 e12 f12
    · show amT _ _ _ _ _ _
      refine kr_iconst (pc := 15) dX8_areThere_15 (by decide) ?_
      refine kr_icmp_eq (pc := 16) dX8_areThere_16 rfl (fun _ => ?_) (fun h => absurd h (by decide))
      refine kr_iconst (pc := 23) dX8_areThere_23 (by decide) ?_
      refine kr_puti (pc := 24) dX8_areThere_24 rfl (Or.inl rfl) (by decide) (by assumption) ?_
      refine kr_aload_n (pc := 27) dX8_areThere_27 rfl ?_
      refine kr_geti (pc := 28) dX8_areThere_28 rfl (by decide) (by assumption) (by first | exact hiv_wi_same | assumption) ?_
      refine kr_if_ne (pc := 31) dX8_areThere_31 rfl (fun _ => ?_) (fun h => absurd h (by decide))
      refine kr_iconst (pc := 38) dX8_areThere_38 (by decide) ?_
      refine kr_ireturn (pc := 39) dX8_areThere_39 rfl ?_
      first | exact k0 (by omega) | exact k1 n3 n12 e3 f3 e12 f12
  · show amT _ _ _ _ _ _
    refine kr_iconst (pc := 6) dX8_areThere_6 (by decide) ?_
    refine kr_icmp_eq (pc := 7) dX8_areThere_7 rfl (fun _ => ?_) (fun h => absurd h (by decide))
    refine kr_iconst (pc := 23) dX8_areThere_23 (by decide) ?_
    refine kr_puti (pc := 24) dX8_areThere_24 rfl (Or.inl rfl) (by decide) (by assumption) ?_
    refine kr_aload_n (pc := 27) dX8_areThere_27 rfl ?_
    refine kr_geti (pc := 28) dX8_areThere_28 rfl (by decide) (by assumption) (by first | exact hiv_wi_same | assumption) ?_
    refine kr_if_ne (pc := 31) dX8_areThere_31 rfl (fun _ => ?_) (fun h => absurd h (by decide))
    refine kr_iconst (pc := 38) dX8_areThere_38 (by decide) ?_
    refine kr_ireturn (pc := 39) dX8_areThere_39 rfl ?_
    first | exact k0 (by omega) | exact k1 n3 n12 e3 f3 e12 f12
/-- the list of the edits, behind a look whether both are there -/
theorem m_listS {a b : Int} {na nb : Nat} (M : MS h m) (H : ModR (hiv h) m S) (HS : okS S) (ea : slt S a = na) (ha : na < 33) (eb : slt S b = nb) (hb : nb < 33)
    (k : ∀ I1, EdM I1 m (edS S a b) → (∀ e, e ∈ edS S a b → okEd e) → (edS S a b).length ≤ 78 → frW (hiv h) I1 m → Q (.inl none, hI h I1)) : amT mX8_lists 0 [vR m, vI (na : Int), vI (nb : Int)] [] h Q := by
  have eL : edS S a b = edL (S.1 na) (S.1 nb) := by
    unfold edS
    rw [ea, eb]
    rfl
  obtain ⟨okd, hlen⟩ := edS_okd HS (a := a) (b := b) (by omega) (by omega)
  exact m_lists M (by omega) (by omega) (H.1 na ha) (H.1 nb hb) (HS.1 na ha) (HS.1 nb hb) fun I1 E1 fr1 => k I1 (by rw [eL]; exact E1) okd hlen fr1
theorem MO.li {r : Res} {b : Int} {I1 : Nat → Nat → Int} (H : ModR (hiv h) m S) (fr : frW (hiv (hwi h m 17 0)) I1 m) (hr : r = (0, b, S)) : MO r (hiv h) I1 m b := by
  refine MO.gen (f := S.1) H (up17.sm.tr fr.sm) (fun s hs => ?_) ((fr.2.1 17 (by decide)).trans up2_at) hr
  refine (H.1 s hs).fr fun j h1 h2 => ?_
  rw [fr.2.2 j (by omega)]
  exact congrFun rw17 j
theorem mc_edits {a b : Int} (M : MS h m) (H : ModR (hiv h) m S) (HS : okS S) (k : ∀ I' b', MO (sp_edits S a b) (hiv h) I' m b' → Q (.inl (some (vI b')), hI h I')) : amT mX8_edits 0 [vR m, vI a, vI b] [] h Q := by
  have h0 := M.o
  have M1 : MS (hwi h m 17 0) m := M
  have H1 : ModR (hiv (hwi h m 17 0)) m S := H.th
  refine kr_aload_n (pc := 0) dX8_edits_0 rfl ?_
  refine kr_iload_n (pc := 1) dX8_edits_1 rfl ?_
  refine kr_iload_n (pc := 2) dX8_edits_2 rfl ?_
  refine kr_v2 (pc := 3) dX8_edits_3 rfl rfl (by assumption) (Nat.le_of_ble_eq_true rfl) rfl rfl (m_areThere M H HS (fun n3 p3 e3 f3 d3 g3 => ?_) (fun e3 => ?_))
  · show amT _ _ _ _ _ _
    refine kr_if_ne (pc := 6) dX8_edits_6 rfl (fun _ => ?_) (fun h => absurd h (by decide))
    refine kr_aload_n (pc := 11) dX8_edits_11 rfl ?_
    refine kr_aload_n (pc := 12) dX8_edits_12 rfl ?_
    refine kr_iload_n (pc := 13) dX8_edits_13 rfl ?_
    refine kr_v1 (pc := 14) dX8_edits_14 rfl rfl (by assumption) (Nat.le_of_ble_eq_true rfl) rfl (m_slot1 M1 H1 HS e3 ?_)
    show amT _ _ _ _ _ _
    refine kr_aload_n (pc := 17) dX8_edits_17 rfl ?_
    refine kr_iload_n (pc := 18) dX8_edits_18 rfl ?_
    refine kr_v1 (pc := 19) dX8_edits_19 rfl rfl (by assumption) (Nat.le_of_ble_eq_true rfl) rfl (m_slot1 M1 H1 HS d3 ?_)
    show amT _ _ _ _ _ _
    refine kr_v2 (pc := 22) dX8_edits_22 rfl rfl (by assumption) (Nat.le_of_ble_eq_true rfl) rfl rfl (m_listS M1 H1 HS e3 f3 d3 g3 fun I1 E1 okd hlen fr1 => ?_)
    show amT _ _ _ _ _ _
    refine kr_aload_n (pc := 25) dX8_edits_25 rfl ?_
    refine kr_geti (pc := 26) dX8_edits_26 rfl (by decide) (by assumption) rfl ?_
    try rw [show hiv (hI (hwi h m 17 0) I1) m 5 = (edS S a b).length from E1.1]
    refine kr_ireturn (pc := 29) dX8_edits_29 rfl ?_
    first | exact k _ _ (MO.errw (t := 1) H (by unfold sp_edits; rw [if_pos (by omega)]) (by decide)) | exact k _ _ (MO.li H fr1 (by unfold sp_edits; rw [if_neg (by omega)]))
  · show amT _ _ _ _ _ _
    refine kr_if_ne (pc := 6) dX8_edits_6 rfl (fun h => absurd h (by decide)) (fun _ => ?_)
    refine kr_iconst (pc := 9) dX8_edits_9 (by decide) ?_
    refine kr_ireturn (pc := 10) dX8_edits_10 rfl ?_
    first | exact k _ _ (MO.errw (t := 1) H (by unfold sp_edits; rw [if_pos (by omega)]) (by decide)) | exact k _ _ (MO.li H fr1 (by unfold sp_edits; rw [if_neg (by omega)]))
theorem mc_same {a b : Int} (M : MS h m) (H : ModR (hiv h) m S) (HS : okS S) (k : ∀ I' b', (b' = 0 ∨ b' = 1) → MO (sp_same S a b) (hiv h) I' m b' → Q (.inl (some (vI b')), hI h I')) : amT mX8_same 0 [vR m, vI a, vI b] [] h Q := by
  have h0 := M.o
  have M1 : MS (hwi h m 17 0) m := M
  have H1 : ModR (hiv (hwi h m 17 0)) m S := H.th
  refine kr_aload_n (pc := 0) dX8_same_0 rfl ?_
  refine kr_iload_n (pc := 1) dX8_same_1 rfl ?_
  refine kr_iload_n (pc := 2) dX8_same_2 rfl ?_
  refine kr_v2 (pc := 3) dX8_same_3 rfl rfl (by assumption) (Nat.le_of_ble_eq_true rfl) rfl rfl (m_areThere M H HS (fun n3 p3 e3 f3 d3 g3 => ?_) (fun e3 => ?_))
  · show amT _ _ _ _ _ _
    refine kr_if_ne (pc := 6) dX8_same_6 rfl (fun _ => ?_) (fun h => absurd h (by decide))
    refine kr_aload_n (pc := 11) dX8_same_11 rfl ?_
    refine kr_aload_n (pc := 12) dX8_same_12 rfl ?_
    refine kr_iload_n (pc := 13) dX8_same_13 rfl ?_
    refine kr_v1 (pc := 14) dX8_same_14 rfl rfl (by assumption) (Nat.le_of_ble_eq_true rfl) rfl (m_slot1 M1 H1 HS e3 ?_)
    show amT _ _ _ _ _ _
    refine kr_aload_n (pc := 17) dX8_same_17 rfl ?_
    refine kr_iload_n (pc := 18) dX8_same_18 rfl ?_
    refine kr_v1 (pc := 19) dX8_same_19 rfl rfl (by assumption) (Nat.le_of_ble_eq_true rfl) rfl (m_slot1 M1 H1 HS d3 ?_)
    show amT _ _ _ _ _ _
    refine kr_v2 (pc := 22) dX8_same_22 rfl rfl (by assumption) (Nat.le_of_ble_eq_true rfl) rfl rfl (m_listS M1 H1 HS e3 f3 d3 g3 fun I1 E1 okd hlen fr1 => ?_)
    show amT _ _ _ _ _ _
    refine kr_aload_n (pc := 25) dX8_same_25 rfl ?_
    refine kr_geti (pc := 26) dX8_same_26 rfl (by decide) (by assumption) rfl ?_
    rw [show hiv (hI (hwi h m 17 0) I1) m 5 = (edS S a b).length from E1.1]
    refine kr_if_ne (pc := 29) dX8_same_29 rfl (fun h29 => ?_) (fun h29 => ?_)
    · refine kr_iconst (pc := 36) dX8_same_36 (by decide) ?_
      refine kr_ireturn (pc := 37) dX8_same_37 rfl ?_
      first | exact k _ _ (Or.inl rfl) (MO.errw (t := 1) H (by unfold sp_same; rw [if_pos (by omega)]) (by decide)) | exact k _ _ (Or.inl rfl) (MO.li H fr1 (by unfold sp_same; rw [if_neg (by omega), if_neg (by omega)])) | exact k _ _ (Or.inr rfl) (MO.li H fr1 (by unfold sp_same; rw [if_neg (by omega), if_pos (by omega)]))
    · refine kr_iconst (pc := 32) dX8_same_32 (by decide) ?_
      refine kr_goto (pc := 33) dX8_same_33 rfl ?_
      refine kr_ireturn (pc := 37) dX8_same_37 rfl ?_
      first | exact k _ _ (Or.inl rfl) (MO.errw (t := 1) H (by unfold sp_same; rw [if_pos (by omega)]) (by decide)) | exact k _ _ (Or.inl rfl) (MO.li H fr1 (by unfold sp_same; rw [if_neg (by omega), if_neg (by omega)])) | exact k _ _ (Or.inr rfl) (MO.li H fr1 (by unfold sp_same; rw [if_neg (by omega), if_pos (by omega)]))
  · show amT _ _ _ _ _ _
    refine kr_if_ne (pc := 6) dX8_same_6 rfl (fun h => absurd h (by decide)) (fun _ => ?_)
    refine kr_iconst (pc := 9) dX8_same_9 (by decide) ?_
    refine kr_ireturn (pc := 10) dX8_same_10 rfl ?_
    first | exact k _ _ (Or.inl rfl) (MO.errw (t := 1) H (by unfold sp_same; rw [if_pos (by omega)]) (by decide)) | exact k _ _ (Or.inl rfl) (MO.li H fr1 (by unfold sp_same; rw [if_neg (by omega), if_neg (by omega)])) | exact k _ _ (Or.inr rfl) (MO.li H fr1 (by unfold sp_same; rw [if_neg (by omega), if_pos (by omega)]))
theorem mc_editAt {a b y : Int} (M : MS h m) (H : ModR (hiv h) m S) (HS : okS S) (k : ∀ I' b', MO (sp_editAt S a b y) (hiv h) I' m b' → Q (.inl (some (vI b')), hI h I')) : amT mX8_editAt 0 [vR m, vI a, vI b, vI y] [] h Q := by
  have h0 := M.o
  have M1 : MS (hwi h m 17 0) m := M
  have H1 : ModR (hiv (hwi h m 17 0)) m S := H.th
  obtain ⟨⟨p1, p2⟩, ⟨p3, p4⟩, ⟨p5, p6⟩, ⟨p7, p8⟩, ⟨p9, q0⟩, ⟨q1, q2⟩⟩ := M.e
  have act : ∀ na nb : Nat, slt S a = na → slt S b = nb → ∀ I1, EdM I1 m (edS S a b) → (∀ e, e ∈ edS S a b → okEd e) → (edS S a b).length ≤ 78 → frW (hiv (hwi h m 17 0)) I1 m → 0 ≤ y ∧ y ≤ ((edS S a b).length : Int) - 1 → amT mX8_editAt 45 [vR m, vI a, vI b, vI y] [] (hI (hwi h m 17 0) I1) Q := by
    intro na nb ea eb I1 E1 okd hlen fr1 hy
    obtain ⟨e, he⟩ : ∃ e, (edS S a b)[y.toNat]? = some e := ⟨_, List.getElem?_eq_getElem (by omega)⟩
    have o := okd e (List.mem_of_getElem? he)
    obtain ⟨x1, x2, x3, _⟩ := E1.2 _ _ he
    have x1 : hiv (hI (hwi h m 17 0) I1) (m + 4) y.toNat = kM e := x1
    have x2 : hiv (hI (hwi h m 17 0) I1) (m + 5) y.toNat = sM e := x2
    have x3 : hiv (hI (hwi h m 17 0) I1) (m + 6) y.toNat = yM e := x3
    have sp : sp_editAt S a b y = (0, cod e, S) := by
      unfold sp_editAt
      rw [if_neg (by omega), he]
      rfl
    unfold okEd at o
    have main : ∀ K SS Y : Int, K = kM e → SS = sM e → Y = yM e → (K = 7 → 900 + 10 * SS + Y = cod e) → (K ≠ 7 → 100 * SS + 10 * Y + K = cod e) → 0 ≤ K ∧ K ≤ 10 → 0 ≤ SS ∧ SS ≤ 10 → 0 ≤ Y ∧ Y ≤ 10 → amT mX8_editAt 45 [vR m, vI a, vI b, vI y] [] (hI (hwi h m 17 0) I1) Q := by
      intro K SS Y r1 r2 r3 c1 c2 z1 z2 z3
      rw [← r1] at x1
      rw [← r2] at x2
      rw [← r3] at x3
      refine kr_aload_n (pc := 45) dX8_editAt_45 rfl ?_
      refine kr_getr (pc := 46) dX8_editAt_46 rfl rfl (by assumption) (by assumption) ?_
      refine kr_iload_n (pc := 49) dX8_editAt_49 rfl ?_
      refine kr_iald (pc := 50) dX8_editAt_50 (by assumption) (by omega) (by omega) (by first | exact x1 | exact x2 | exact x3) ?_
      refine kr_bipush (pc := 51) dX8_editAt_51 (by decide) ?_
      refine kr_icmp_ne (pc := 53) dX8_editAt_53 rfl (fun h53 => ?_) (fun h53 => ?_)
      · refine kr_bipush (pc := 79) dX8_editAt_79 (by decide) ?_
        refine kr_aload_n (pc := 81) dX8_editAt_81 rfl ?_
        refine kr_getr (pc := 82) dX8_editAt_82 rfl rfl (by assumption) (by assumption) ?_
        refine kr_iload_n (pc := 85) dX8_editAt_85 rfl ?_
        refine kr_iald (pc := 86) dX8_editAt_86 (by assumption) (by omega) (by omega) (by first | exact x1 | exact x2 | exact x3) ?_
        refine kr_imul (pc := 87) dX8_editAt_87 ⟨by omega, by omega⟩ ?_
        refine kr_bipush (pc := 88) dX8_editAt_88 (by decide) ?_
        refine kr_aload_n (pc := 90) dX8_editAt_90 rfl ?_
        refine kr_getr (pc := 91) dX8_editAt_91 rfl rfl (by assumption) (by assumption) ?_
        refine kr_iload_n (pc := 94) dX8_editAt_94 rfl ?_
        refine kr_iald (pc := 95) dX8_editAt_95 (by assumption) (by omega) (by omega) (by first | exact x1 | exact x2 | exact x3) ?_
        refine kr_imul (pc := 96) dX8_editAt_96 ⟨by omega, by omega⟩ ?_
        refine kr_iadd (pc := 97) dX8_editAt_97 ⟨by omega, by omega⟩ ?_
        refine kr_aload_n (pc := 98) dX8_editAt_98 rfl ?_
        refine kr_getr (pc := 99) dX8_editAt_99 rfl rfl (by assumption) (by assumption) ?_
        refine kr_iload_n (pc := 102) dX8_editAt_102 rfl ?_
        refine kr_iald (pc := 103) dX8_editAt_103 (by assumption) (by omega) (by omega) (by first | exact x1 | exact x2 | exact x3) ?_
        refine kr_iadd (pc := 104) dX8_editAt_104 ⟨by omega, by omega⟩ ?_
        refine kr_ireturn (pc := 105) dX8_editAt_105 rfl ?_
        rw [c2 h53]
        exact k _ _ (MO.li H fr1 sp)
      · refine kr_sipush (pc := 56) dX8_editAt_56 (by decide) ?_
        refine kr_bipush (pc := 59) dX8_editAt_59 (by decide) ?_
        refine kr_aload_n (pc := 61) dX8_editAt_61 rfl ?_
        refine kr_getr (pc := 62) dX8_editAt_62 rfl rfl (by assumption) (by assumption) ?_
        refine kr_iload_n (pc := 65) dX8_editAt_65 rfl ?_
        refine kr_iald (pc := 66) dX8_editAt_66 (by assumption) (by omega) (by omega) (by first | exact x1 | exact x2 | exact x3) ?_
        refine kr_imul (pc := 67) dX8_editAt_67 ⟨by omega, by omega⟩ ?_
        refine kr_iadd (pc := 68) dX8_editAt_68 ⟨by omega, by omega⟩ ?_
        refine kr_aload_n (pc := 69) dX8_editAt_69 rfl ?_
        refine kr_getr (pc := 70) dX8_editAt_70 rfl rfl (by assumption) (by assumption) ?_
        refine kr_iload_n (pc := 73) dX8_editAt_73 rfl ?_
        refine kr_iald (pc := 74) dX8_editAt_74 (by assumption) (by omega) (by omega) (by first | exact x1 | exact x2 | exact x3) ?_
        refine kr_iadd (pc := 75) dX8_editAt_75 ⟨by omega, by omega⟩ ?_
        refine kr_goto (pc := 76) dX8_editAt_76 rfl ?_
        refine kr_ireturn (pc := 105) dX8_editAt_105 rfl ?_
        rw [c1 h53]
        exact k _ _ (MO.li H fr1 sp)
    unfold kM sM yM cod at main
    by_cases h7 : 7 ≤ e.1
    · rw [if_pos h7, if_pos h7, if_pos h7, if_pos h7] at main
      exact main 7 _ _ rfl rfl rfl (fun _ => by omega) (fun h => absurd rfl h) (by decide) (by omega) (by omega)
    · rw [if_neg h7, if_neg h7, if_neg h7, if_neg h7] at main
      exact main _ _ _ rfl rfl rfl (fun h => by omega) (fun _ => rfl) (by omega) (by omega) (by omega)
  refine kr_aload_n (pc := 0) dX8_editAt_0 rfl ?_
  refine kr_iload_n (pc := 1) dX8_editAt_1 rfl ?_
  refine kr_iload_n (pc := 2) dX8_editAt_2 rfl ?_
  refine kr_v2 (pc := 3) dX8_editAt_3 rfl rfl (by assumption) (Nat.le_of_ble_eq_true rfl) rfl rfl (m_areThere M H HS (fun n3 p3 e3 f3 d3 g3 => ?_) (fun e3 => ?_))
  · show amT _ _ _ _ _ _
    refine kr_if_ne (pc := 6) dX8_editAt_6 rfl (fun _ => ?_) (fun h => absurd h (by decide))
    refine kr_aload_n (pc := 11) dX8_editAt_11 rfl ?_
    refine kr_aload_n (pc := 12) dX8_editAt_12 rfl ?_
    refine kr_iload_n (pc := 13) dX8_editAt_13 rfl ?_
    refine kr_v1 (pc := 14) dX8_editAt_14 rfl rfl (by assumption) (Nat.le_of_ble_eq_true rfl) rfl (m_slot1 M1 H1 HS e3 ?_)
    show amT _ _ _ _ _ _
    refine kr_aload_n (pc := 17) dX8_editAt_17 rfl ?_
    refine kr_iload_n (pc := 18) dX8_editAt_18 rfl ?_
    refine kr_v1 (pc := 19) dX8_editAt_19 rfl rfl (by assumption) (Nat.le_of_ble_eq_true rfl) rfl (m_slot1 M1 H1 HS d3 ?_)
    show amT _ _ _ _ _ _
    refine kr_v2 (pc := 22) dX8_editAt_22 rfl rfl (by assumption) (Nat.le_of_ble_eq_true rfl) rfl rfl (m_listS M1 H1 HS e3 f3 d3 g3 fun I1 E1 okd hlen fr1 => ?_)
    show amT _ _ _ _ _ _
    refine kr_iload_n (pc := 25) dX8_editAt_25 rfl ?_
    refine kr_iconst (pc := 26) dX8_editAt_26 (by decide) ?_
    refine kr_aload_n (pc := 27) dX8_editAt_27 rfl ?_
    refine kr_geti (pc := 28) dX8_editAt_28 rfl (by decide) (by assumption) rfl ?_
    rw [show hiv (hI (hwi h m 17 0) I1) m 5 = (edS S a b).length from E1.1]
    refine kr_iconst (pc := 31) dX8_editAt_31 (by decide) ?_
    refine kr_isub (pc := 32) dX8_editAt_32 ⟨by omega, by omega⟩ ?_
    refine kr_s3 (pc := 33) dX8_editAt_33 rfl rfl (Nat.le_of_ble_eq_true rfl) rfl rfl rfl (m_in2 (fun c33 => ?_) (fun c33 => ?_))
    · show amT _ _ _ _ _ _
      refine kr_if_ne (pc := 36) dX8_editAt_36 rfl (fun _ => ?_) (fun h => absurd h (by decide))
      exact act n3 p3 e3 d3 I1 E1 okd hlen fr1 c33
    · show amT _ _ _ _ _ _
      refine kr_if_ne (pc := 36) dX8_editAt_36 rfl (fun h => absurd h (by decide)) (fun _ => ?_)
      refine kr_aload_n (pc := 39) dX8_editAt_39 rfl ?_
      refine kr_iconst (pc := 40) dX8_editAt_40 (by decide) ?_
      refine kr_v1 (pc := 41) dX8_editAt_41 rfl rfl (by assumption) (Nat.le_of_ble_eq_true rfl) rfl (m_fails (show MS (hI (hwi h m 17 0) I1) m from M) ?_)
      show amT _ _ _ _ _ _
      refine kr_ireturn (pc := 44) dX8_editAt_44 rfl ?_
      first | exact k _ _ (MO.errw (t := 1) H (by unfold sp_editAt; rw [if_pos (by omega)]) (by decide)) | exact k _ _ (MO.gerr (t := 1) H ((up17.sm.tr fr1.sm).tr up17.sm) (fun j hj => by rw [up2_ne (by omega)]; exact (fr1.2.2 j (by omega)).trans (congrFun rw17 j)) up2_at (by decide) (by unfold sp_editAt; rw [if_pos (by omega)]))
  · show amT _ _ _ _ _ _
    refine kr_if_ne (pc := 6) dX8_editAt_6 rfl (fun h => absurd h (by decide)) (fun _ => ?_)
    refine kr_iconst (pc := 9) dX8_editAt_9 (by decide) ?_
    refine kr_ireturn (pc := 10) dX8_editAt_10 rfl ?_
    first | exact k _ _ (MO.errw (t := 1) H (by unfold sp_editAt; rw [if_pos (by omega)]) (by decide)) | exact k _ _ (MO.gerr (t := 1) H ((up17.sm.tr fr1.sm).tr up17.sm) (fun j hj => by rw [up2_ne (by omega)]; exact (fr1.2.2 j (by omega)).trans (congrFun rw17 j)) up2_at (by decide) (by unfold sp_editAt; rw [if_pos (by omega)]))
end MH
