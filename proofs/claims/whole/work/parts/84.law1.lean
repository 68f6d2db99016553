/-! THE LAW: its own methods, and what lies where in its run -/
section TL
variable {μ : aM} {pc : Nat} {L S : List aV} {h h' : aH} {Q : aR → Prop}
theorem kh_of {E t pc' j : Nat} (h1 : am_hd (am_hh μ) pc E = some t) (h2 : am_ha μ t = some (pc', j)) (kk : amT μ pc' (L.take j) [] h' Q) : kQ μ pc L S Q (.inr E, h') := by
  simp only [kQ, h1, h2]
  exact kk
theorem kh_n {E t : Nat} {k : Fin 4} (h1 : am_hd (am_hh μ) pc E = some t) (d : decode (am_cc μ) t = .ok (.astore_n k, 1)) (hk : k.val < am_mx μ) (kk : amT μ (t + 1) (L.take k.val) [] h' Q) : kQ μ pc L S Q (.inr E, h') := by
  refine kh_of h1 (pc' := t + 1) (j := k.val) ?_ kk
  unfold am_ha
  rw [d]
  exact if_pos hk
theorem kh_s {E t k : Nat} (h1 : am_hd (am_hh μ) pc E = some t) (d : decode (am_cc μ) t = .ok (.astore k, 2)) (hk : k < am_mx μ) (kk : amT μ (t + 2) (L.take k) [] h' Q) : kQ μ pc L S Q (.inr E, h') := by
  refine kh_of h1 (pc' := t + 2) (j := k) ?_ kk
  unfold am_ha
  rw [d]
  exact if_pos hk
/-- where a switch goes -/
def am_swt (pc : Nat) (dd lo hi : Int) (offs : Array Int) (x : Int) : Option Nat := if x < lo ∨ hi < x then am_tg pc dd else match offs[(x - lo).toNat]? with
  | some off => am_tg pc off
  | none => none
theorem kr_sw {dd lo hi x : Int} {offs : Array Int} {len t : Nat} (d : decode (am_cc μ) pc = .ok (.tableswitch dd lo hi offs, len)) (ht : am_swt pc dd lo hi offs x = some t) (kk : amT μ t L S h Q) : amT μ pc L (vI x :: S) h Q := by
  refine t_step (q := (t, L, S, h)) d rfl rfl rfl rfl ?_ kk
  show am_sw pc L (vI x :: S) h dd lo hi offs = _
  unfold am_swt at ht
  unfold am_sw
  dsimp only
  by_cases hx : x < lo ∨ hi < x
  · rw [if_pos hx] at ht ⊢
    rw [ht]
    rfl
  · rw [if_neg hx] at ht ⊢
    cases ho : offs[(x - lo).toNat]? with
    | none => rw [ho] at ht; cases ht
    | some off =>
      rw [ho] at ht
      dsimp only at ht ⊢
      rw [ht]
      rfl
end TL
theorem bw_31 (x : Int) : ∃ n : Nat, n ≤ 31 ∧ am_bw 0 x 31 = (n : Int) := by
  have hl : ((Int32.ofInt x).toBitVec.toNat &&& 31) ≤ 31 := Nat.and_le_right
  refine ⟨(Int32.ofInt x).toBitVec.toNat &&& 31, hl, ?_⟩
  show (Int32.ofInt x &&& Int32.ofInt 31).toInt = _
  have e : Int32.ofInt x &&& Int32.ofInt 31 = nI ((Int32.ofInt x).toBitVec.toNat &&& 31) := by
    rw [← Int32.toBitVec_inj]
    apply BitVec.eq_of_toNat_eq
    rw [Int32.toBitVec_and, BitVec.toNat_and, nI_bv (by omega), show (Int32.ofInt 31).toBitVec.toNat = 31 from by decide]
  rw [e, nI_to (by omega)]
theorem MS.to {h h' : aH} {m : Nat} (M : MS h m) (e1 : hsh h' = hsh h) (e2 : hrf h' m = hrf h m) : MS h' m := by
  unfold MS at *
  rw [e1, e2]
  exact M
theorem ModR.to {I I' : Nat → Nat → Int} {m : Nat} {S : St} (H : ModR I m S) (h : ∀ a, m ≤ a → a < m + 14 → I' a = I a) : ModR I' m S := by
  unfold ModR at *
  rw [h m (by omega) (by omega), h (m + 1) (by omega) (by omega), h (m + 2) (by omega) (by omega), h (m + 3) (by omega) (by omega), h (m + 10) (by omega) (by omega), h (m + 11) (by omega) (by omega), h (m + 12) (by omega) (by omega), h (m + 13) (by omega) (by omega)]
  exact H
/-- a call of the class, seen from the law: r, in h', its word kk -/
def LO (r : Res) (z : Nat) (h h' : aH) (kk : Int) : Prop :=
  DeR h' z r.2.2 ∧ kk = r.1 ∧ hsh h' = hsh h ∧ hnx h' ≤ hnx h + 1 ∧ hks h' ≤ hks h + 6 ∧ (∀ y, y < z ∨ z + 1899 ≤ y → hrf h' y = hrf h y) ∧ ∀ y, y < z ∨ z + 1899 ≤ y → y ≠ z + 1913 → hiv h' y = hiv h y
theorem LO.ok {r : Res} {z : Nat} {h h' : aH} {v : Int} {S' : St} (e : r = (0, v, S')) (f : fro h h' z (z + 1899)) (D : DeR h' z S') : LO r z h (hwi h' (z + 1913) (0 : Int).toNat v) 0 := by
  rw [e]
  refine ⟨D.ag ⟨rfl, fun y h1 h2 => ⟨funext fun j => if_neg (by omega), rfl⟩⟩, rfl, f.1, ?_, ?_, fun y hy => (f.2.2.2 y hy).2, fun y hy hn => (funext fun j => if_neg (by omega)).trans (f.2.2.2 y hy).1⟩
  · show hnx h' ≤ _
    rw [f.2.1]
    omega
  · show hks h' ≤ _
    rw [f.2.2.1]
    omega
theorem LO.v {r : Res} {o : Nat} {h' : aH} {v : Int} {S' : St} (e : r = (0, v, S')) : (0 : Int) = 0 → hiv (hwi h' o (0 : Int).toNat v) o 0 = r.2.1 := fun _ => by
  rw [e]
  exact hiv_wi_same
theorem LO.ok0 {r : Res} {z : Nat} {h h' : aH} {v : Int} {S' : St} (e : r = (0, v, S')) (f : fro h h' z (z + 1899)) (D : DeR h' z S') : LO r z h h' 0 := by
  rw [e]
  exact ⟨D, rfl, f.1, by rw [f.2.1]; omega, by rw [f.2.2.1]; omega, fun y hy => (f.2.2.2 y hy).2, fun y hy hn => (f.2.2.2 y hy).1⟩
theorem LO.er {r : Res} {z : Nat} {h h' : aH} {t : Int} {S : St} (e : r = sx S t) (f : fro h h' z (z + 1899)) (D : DeR h' z S) : LO r z h (hth h') t := by
  rw [e]
  refine ⟨D, rfl, f.1, ?_, ?_, fun y hy => (f.2.2.2 y hy).2, fun y hy hn => (f.2.2.2 y hy).1⟩
  · show hnx h' + 1 ≤ _
    rw [f.2.1]
    omega
  · show hks h' + 6 ≤ _
    rw [f.2.2.1]
    omega
section XQ
variable {h : aH} {Q : aR → Prop} {S : St}
theorem l_open {p1 : Int} {z : Nat} (H : DeR h z S) (HS : okS S) (ho : hsh h (z + 1913) = (21, 1)) (k : ∀ h' kk, LO (sp_open S p1) z h h' kk → (kk = 0 → hiv h' (z + 1913) 0 = (sp_open S p1).2.1) → Q (.inl (some (vI kk)), h')) : amT mL_open 0 [vR z, vI p1, vR (z + 1913)] [] h Q := by
  have hx := H.1.1
  refine kr_aload_n (pc := 0) dL_open_0 rfl ?_
  refine kr_iconst (pc := 1) dL_open_1 (by decide) ?_
  refine kr_aload_n (pc := 2) dL_open_2 rfl ?_
  refine kr_iload_n (pc := 3) dL_open_3 rfl ?_
  refine kr_v1 (pc := 4) dL_open_4 rfl rfl hx (Nat.le_of_ble_eq_true rfl) rfl (xc_open H HS (fun v S' h' e f D => ?_) (fun e => ?_))
  · show amT _ _ _ _ _ _
    have so : hsh h' (z + 1913) = (21, 1) := by rw [f.1]; exact ho
    refine kr_i2l (pc := 7) dL_open_7 ?_
    refine kr_last (pc := 8) dL_open_8 (by assumption) (by decide) (by decide) ?_
    refine kr_goto (pc := 9) dL_open_9 rfl ?_
    refine kr_iconst (pc := 15) dL_open_15 (by decide) ?_
    refine kr_ireturn (pc := 16) dL_open_16 rfl ?_
    exact k _ 0 (LO.ok e f D) (LO.v e)
  · refine kh_n (t := 12) (E := 1) rfl dL_open_12 (by decide) ?_
    refine kr_iconst (pc := 13) dL_open_13 (by decide) ?_
    refine kr_ireturn (pc := 14) dL_open_14 rfl ?_
    exact k _ 1 (LO.er e fro.rf H) (fun h => absurd h (by decide))
theorem l_add {p1 p2 p3 p4 : Int} {z : Nat} (H : DeR h z S) (HS : okS S) (ho : hsh h (z + 1913) = (21, 1)) (k : ∀ h' kk, LO (sp_add S p1 p2 p3 p4) z h h' kk → (kk = 0 → hiv h' (z + 1913) 0 = (sp_add S p1 p2 p3 p4).2.1) → Q (.inl (some (vI kk)), h')) : amT mL_add 0 [vR z, vI p1, vI p2, vI p3, vI p4, vR (z + 1913)] [] h Q := by
  have hx := H.1.1
  refine kr_aload (pc := 0) dL_add_0 rfl ?_
  refine kr_iconst (pc := 2) dL_add_2 (by decide) ?_
  refine kr_aload_n (pc := 3) dL_add_3 rfl ?_
  refine kr_iload_n (pc := 4) dL_add_4 rfl ?_
  refine kr_iload_n (pc := 5) dL_add_5 rfl ?_
  refine kr_iload_n (pc := 6) dL_add_6 rfl ?_
  refine kr_iload (pc := 7) dL_add_7 rfl ?_
  refine kr_v4 (pc := 9) dL_add_9 rfl rfl hx (Nat.le_of_ble_eq_true rfl) rfl rfl rfl rfl (xc_add H HS (fun v S' h' e f D => ?_) (fun e => ?_) (fun e => ?_) (fun e => ?_))
  · show amT _ _ _ _ _ _
    have so : hsh h' (z + 1913) = (21, 1) := by rw [f.1]; exact ho
    refine kr_i2l (pc := 12) dL_add_12 ?_
    refine kr_last (pc := 13) dL_add_13 (by assumption) (by decide) (by decide) ?_
    refine kr_goto (pc := 14) dL_add_14 rfl ?_
    refine kr_iconst (pc := 29) dL_add_29 (by decide) ?_
    refine kr_ireturn (pc := 30) dL_add_30 rfl ?_
    exact k _ 0 (LO.ok e f D) (LO.v e)
  · refine kh_s (t := 17) (E := 1) rfl dL_add_17 (by decide) ?_
    refine kr_iconst (pc := 19) dL_add_19 (by decide) ?_
    refine kr_ireturn (pc := 20) dL_add_20 rfl ?_
    exact k _ 1 (LO.er e fro.rf H) (fun h => absurd h (by decide))
  · refine kh_s (t := 21) (E := 2) rfl dL_add_21 (by decide) ?_
    refine kr_iconst (pc := 23) dL_add_23 (by decide) ?_
    refine kr_ireturn (pc := 24) dL_add_24 rfl ?_
    exact k _ 2 (LO.er e fro.rf H) (fun h => absurd h (by decide))
  · refine kh_s (t := 25) (E := 3) rfl dL_add_25 (by decide) ?_
    refine kr_iconst (pc := 27) dL_add_27 (by decide) ?_
    refine kr_ireturn (pc := 28) dL_add_28 rfl ?_
    exact k _ 3 (LO.er e fro.rf H) (fun h => absurd h (by decide))
theorem l_remove {p1 p2 p3 : Int} {z : Nat} (H : DeR h z S) (HS : okS S) (ho : hsh h (z + 1913) = (21, 1)) (k : ∀ h' kk, LO (sp_remove S p1 p2 p3) z h h' kk → (kk = 0 → hiv h' (z + 1913) 0 = (sp_remove S p1 p2 p3).2.1) → Q (.inl (some (vI kk)), h')) : amT mL_remove 0 [vR z, vI p1, vI p2, vI p3, vR (z + 1913)] [] h Q := by
  have hx := H.1.1
  refine kr_aload (pc := 0) dL_remove_0 rfl ?_
  refine kr_iconst (pc := 2) dL_remove_2 (by decide) ?_
  refine kr_aload_n (pc := 3) dL_remove_3 rfl ?_
  refine kr_iload_n (pc := 4) dL_remove_4 rfl ?_
  refine kr_iload_n (pc := 5) dL_remove_5 rfl ?_
  refine kr_iload_n (pc := 6) dL_remove_6 rfl ?_
  refine kr_v3 (pc := 7) dL_remove_7 rfl rfl hx (Nat.le_of_ble_eq_true rfl) rfl rfl rfl (xc_remove H HS (fun v S' h' e f D => ?_) (fun e => ?_) (fun e => ?_))
  · show amT _ _ _ _ _ _
    have so : hsh h' (z + 1913) = (21, 1) := by rw [f.1]; exact ho
    refine kr_i2l (pc := 10) dL_remove_10 ?_
    refine kr_last (pc := 11) dL_remove_11 (by assumption) (by decide) (by decide) ?_
    refine kr_goto (pc := 12) dL_remove_12 rfl ?_
    refine kr_iconst (pc := 23) dL_remove_23 (by decide) ?_
    refine kr_ireturn (pc := 24) dL_remove_24 rfl ?_
    exact k _ 0 (LO.ok e f D) (LO.v e)
  · refine kh_s (t := 15) (E := 1) rfl dL_remove_15 (by decide) ?_
    refine kr_iconst (pc := 17) dL_remove_17 (by decide) ?_
    refine kr_ireturn (pc := 18) dL_remove_18 rfl ?_
    exact k _ 1 (LO.er e fro.rf H) (fun h => absurd h (by decide))
  · refine kh_s (t := 19) (E := 2) rfl dL_remove_19 (by decide) ?_
    refine kr_iconst (pc := 21) dL_remove_21 (by decide) ?_
    refine kr_ireturn (pc := 22) dL_remove_22 rfl ?_
    exact k _ 2 (LO.er e fro.rf H) (fun h => absurd h (by decide))
theorem l_move {p1 p2 p3 p4 : Int} {z : Nat} (H : DeR h z S) (HS : okS S) (ho : hsh h (z + 1913) = (21, 1)) (k : ∀ h' kk, LO (sp_move S p1 p2 p3 p4) z h h' kk → (kk = 0 → hiv h' (z + 1913) 0 = (sp_move S p1 p2 p3 p4).2.1) → Q (.inl (some (vI kk)), h')) : amT mL_move 0 [vR z, vI p1, vI p2, vI p3, vI p4, vR (z + 1913)] [] h Q := by
  have hx := H.1.1
  refine kr_aload (pc := 0) dL_move_0 rfl ?_
  refine kr_iconst (pc := 2) dL_move_2 (by decide) ?_
  refine kr_aload_n (pc := 3) dL_move_3 rfl ?_
  refine kr_iload_n (pc := 4) dL_move_4 rfl ?_
  refine kr_iload_n (pc := 5) dL_move_5 rfl ?_
  refine kr_iload_n (pc := 6) dL_move_6 rfl ?_
  refine kr_iload (pc := 7) dL_move_7 rfl ?_
  refine kr_v4 (pc := 9) dL_move_9 rfl rfl hx (Nat.le_of_ble_eq_true rfl) rfl rfl rfl rfl (xc_move H HS (fun v S' h' e f D => ?_) (fun e => ?_) (fun e => ?_) (fun e => ?_))
  · show amT _ _ _ _ _ _
    have so : hsh h' (z + 1913) = (21, 1) := by rw [f.1]; exact ho
    refine kr_i2l (pc := 12) dL_move_12 ?_
    refine kr_last (pc := 13) dL_move_13 (by assumption) (by decide) (by decide) ?_
    refine kr_goto (pc := 14) dL_move_14 rfl ?_
    refine kr_iconst (pc := 29) dL_move_29 (by decide) ?_
    refine kr_ireturn (pc := 30) dL_move_30 rfl ?_
    exact k _ 0 (LO.ok e f D) (LO.v e)
  · refine kh_s (t := 17) (E := 1) rfl dL_move_17 (by decide) ?_
    refine kr_iconst (pc := 19) dL_move_19 (by decide) ?_
    refine kr_ireturn (pc := 20) dL_move_20 rfl ?_
    exact k _ 1 (LO.er e fro.rf H) (fun h => absurd h (by decide))
  · refine kh_s (t := 21) (E := 2) rfl dL_move_21 (by decide) ?_
    refine kr_iconst (pc := 23) dL_move_23 (by decide) ?_
    refine kr_ireturn (pc := 24) dL_move_24 rfl ?_
    exact k _ 2 (LO.er e fro.rf H) (fun h => absurd h (by decide))
  · refine kh_s (t := 25) (E := 3) rfl dL_move_25 (by decide) ?_
    refine kr_iconst (pc := 27) dL_move_27 (by decide) ?_
    refine kr_ireturn (pc := 28) dL_move_28 rfl ?_
    exact k _ 3 (LO.er e fro.rf H) (fun h => absurd h (by decide))
theorem l_set {p1 p2 p3 p4 p5 : Int} {z : Nat} (H : DeR h z S) (HS : okS S) (ho : hsh h (z + 1913) = (21, 1)) (k : ∀ h' kk, LO (sp_set S p1 p2 p3 p4 p5) z h h' kk → (kk = 0 → hiv h' (z + 1913) 0 = (sp_set S p1 p2 p3 p4 p5).2.1) → Q (.inl (some (vI kk)), h')) : amT mL_set 0 [vR z, vI p1, vI p2, vI p3, vI p4, vI p5, vR (z + 1913)] [] h Q := by
  have hx := H.1.1
  refine kr_aload (pc := 0) dL_set_0 rfl ?_
  refine kr_iconst (pc := 2) dL_set_2 (by decide) ?_
  refine kr_aload_n (pc := 3) dL_set_3 rfl ?_
  refine kr_iload_n (pc := 4) dL_set_4 rfl ?_
  refine kr_iload_n (pc := 5) dL_set_5 rfl ?_
  refine kr_iload_n (pc := 6) dL_set_6 rfl ?_
  refine kr_iload (pc := 7) dL_set_7 rfl ?_
  refine kr_iload (pc := 9) dL_set_9 rfl ?_
  refine kr_v5 (pc := 11) dL_set_11 rfl rfl hx (Nat.le_of_ble_eq_true rfl) rfl rfl rfl rfl rfl (xc_set H HS (fun v S' h' e f D => ?_) (fun e => ?_) (fun e => ?_) (fun e => ?_))
  · show amT _ _ _ _ _ _
    have so : hsh h' (z + 1913) = (21, 1) := by rw [f.1]; exact ho
    refine kr_i2l (pc := 14) dL_set_14 ?_
    refine kr_last (pc := 15) dL_set_15 (by assumption) (by decide) (by decide) ?_
    refine kr_goto (pc := 16) dL_set_16 rfl ?_
    refine kr_iconst (pc := 31) dL_set_31 (by decide) ?_
    refine kr_ireturn (pc := 32) dL_set_32 rfl ?_
    exact k _ 0 (LO.ok e f D) (LO.v e)
  · refine kh_s (t := 19) (E := 1) rfl dL_set_19 (by decide) ?_
    refine kr_iconst (pc := 21) dL_set_21 (by decide) ?_
    refine kr_ireturn (pc := 22) dL_set_22 rfl ?_
    exact k _ 1 (LO.er e fro.rf H) (fun h => absurd h (by decide))
  · refine kh_s (t := 23) (E := 3) rfl dL_set_23 (by decide) ?_
    refine kr_iconst (pc := 25) dL_set_25 (by decide) ?_
    refine kr_ireturn (pc := 26) dL_set_26 rfl ?_
    exact k _ 2 (LO.er e fro.rf H) (fun h => absurd h (by decide))
  · refine kh_s (t := 27) (E := 2) rfl dL_set_27 (by decide) ?_
    refine kr_iconst (pc := 29) dL_set_29 (by decide) ?_
    refine kr_ireturn (pc := 30) dL_set_30 rfl ?_
    exact k _ 3 (LO.er e fro.rf H) (fun h => absurd h (by decide))
theorem l_join {p1 p2 p3 p4 : Int} {z : Nat} (H : DeR h z S) (HS : okS S) (ho : hsh h (z + 1913) = (21, 1)) (k : ∀ h' kk, LO (sp_join S p1 p2 p3 p4) z h h' kk → (kk = 0 → hiv h' (z + 1913) 0 = (sp_join S p1 p2 p3 p4).2.1) → Q (.inl (some (vI kk)), h')) : amT mL_join 0 [vR z, vI p1, vI p2, vI p3, vI p4, vR (z + 1913)] [] h Q := by
  have hx := H.1.1
  refine kr_aload (pc := 0) dL_join_0 rfl ?_
  refine kr_iconst (pc := 2) dL_join_2 (by decide) ?_
  refine kr_aload_n (pc := 3) dL_join_3 rfl ?_
  refine kr_iload_n (pc := 4) dL_join_4 rfl ?_
  refine kr_iload_n (pc := 5) dL_join_5 rfl ?_
  refine kr_iload_n (pc := 6) dL_join_6 rfl ?_
  refine kr_iload (pc := 7) dL_join_7 rfl ?_
  refine kr_v4 (pc := 9) dL_join_9 rfl rfl hx (Nat.le_of_ble_eq_true rfl) rfl rfl rfl rfl (xc_join H HS (fun v S' h' e f D => ?_) (fun e => ?_) (fun e => ?_) (fun e => ?_))
  · show amT _ _ _ _ _ _
    have so : hsh h' (z + 1913) = (21, 1) := by rw [f.1]; exact ho
    refine kr_i2l (pc := 12) dL_join_12 ?_
    refine kr_last (pc := 13) dL_join_13 (by assumption) (by decide) (by decide) ?_
    refine kr_goto (pc := 14) dL_join_14 rfl ?_
    refine kr_iconst (pc := 29) dL_join_29 (by decide) ?_
    refine kr_ireturn (pc := 30) dL_join_30 rfl ?_
    exact k _ 0 (LO.ok e f D) (LO.v e)
  · refine kh_s (t := 17) (E := 1) rfl dL_join_17 (by decide) ?_
    refine kr_iconst (pc := 19) dL_join_19 (by decide) ?_
    refine kr_ireturn (pc := 20) dL_join_20 rfl ?_
    exact k _ 1 (LO.er e fro.rf H) (fun h => absurd h (by decide))
  · refine kh_s (t := 21) (E := 3) rfl dL_join_21 (by decide) ?_
    refine kr_iconst (pc := 23) dL_join_23 (by decide) ?_
    refine kr_ireturn (pc := 24) dL_join_24 rfl ?_
    exact k _ 2 (LO.er e fro.rf H) (fun h => absurd h (by decide))
  · refine kh_s (t := 25) (E := 2) rfl dL_join_25 (by decide) ?_
    refine kr_iconst (pc := 27) dL_join_27 (by decide) ?_
    refine kr_ireturn (pc := 28) dL_join_28 rfl ?_
    exact k _ 3 (LO.er e fro.rf H) (fun h => absurd h (by decide))
theorem l_setGroup {p1 p2 p3 p4 : Int} {z : Nat} (H : DeR h z S) (HS : okS S) (ho : hsh h (z + 1913) = (21, 1)) (k : ∀ h' kk, LO (sp_setGroup S p1 p2 p3 p4) z h h' kk → (kk = 0 → hiv h' (z + 1913) 0 = (sp_setGroup S p1 p2 p3 p4).2.1) → Q (.inl (some (vI kk)), h')) : amT mL_setGroup 0 [vR z, vI p1, vI p2, vI p3, vI p4, vR (z + 1913)] [] h Q := by
  have hx := H.1.1
  refine kr_aload (pc := 0) dL_setGroup_0 rfl ?_
  refine kr_iconst (pc := 2) dL_setGroup_2 (by decide) ?_
  refine kr_aload_n (pc := 3) dL_setGroup_3 rfl ?_
  refine kr_iload_n (pc := 4) dL_setGroup_4 rfl ?_
  refine kr_iload_n (pc := 5) dL_setGroup_5 rfl ?_
  refine kr_iload_n (pc := 6) dL_setGroup_6 rfl ?_
  refine kr_iload (pc := 7) dL_setGroup_7 rfl ?_
  refine kr_v4 (pc := 9) dL_setGroup_9 rfl rfl hx (Nat.le_of_ble_eq_true rfl) rfl rfl rfl rfl (xc_setGroup H HS (fun v S' h' e f D => ?_) (fun e => ?_) (fun e => ?_) (fun e => ?_))
  · show amT _ _ _ _ _ _
    have so : hsh h' (z + 1913) = (21, 1) := by rw [f.1]; exact ho
    refine kr_i2l (pc := 12) dL_setGroup_12 ?_
    refine kr_last (pc := 13) dL_setGroup_13 (by assumption) (by decide) (by decide) ?_
    refine kr_goto (pc := 14) dL_setGroup_14 rfl ?_
    refine kr_iconst (pc := 29) dL_setGroup_29 (by decide) ?_
    refine kr_ireturn (pc := 30) dL_setGroup_30 rfl ?_
    exact k _ 0 (LO.ok e f D) (LO.v e)
  · refine kh_s (t := 17) (E := 1) rfl dL_setGroup_17 (by decide) ?_
    refine kr_iconst (pc := 19) dL_setGroup_19 (by decide) ?_
    refine kr_ireturn (pc := 20) dL_setGroup_20 rfl ?_
    exact k _ 1 (LO.er e fro.rf H) (fun h => absurd h (by decide))
  · refine kh_s (t := 21) (E := 3) rfl dL_setGroup_21 (by decide) ?_
    refine kr_iconst (pc := 23) dL_setGroup_23 (by decide) ?_
    refine kr_ireturn (pc := 24) dL_setGroup_24 rfl ?_
    exact k _ 2 (LO.er e fro.rf H) (fun h => absurd h (by decide))
  · refine kh_s (t := 25) (E := 2) rfl dL_setGroup_25 (by decide) ?_
    refine kr_iconst (pc := 27) dL_setGroup_27 (by decide) ?_
    refine kr_ireturn (pc := 28) dL_setGroup_28 rfl ?_
    exact k _ 3 (LO.er e fro.rf H) (fun h => absurd h (by decide))
theorem l_load {p1 p2 : Int} {z : Nat} (H : DeR h z S) (HS : okS S) (ho : hsh h (z + 1913) = (21, 1)) (k : ∀ h' kk, LO (sp_load S p1 p2) z h h' kk → Q (.inl (some (vI kk)), h')) : amT mL_load 0 [vR z, vI p1, vI p2] [] h Q := by
  have hx := H.1.1
  refine kr_aload_n (pc := 0) dL_load_0 rfl ?_
  refine kr_iload_n (pc := 1) dL_load_1 rfl ?_
  refine kr_iload_n (pc := 2) dL_load_2 rfl ?_
  refine kr_v2 (pc := 3) dL_load_3 rfl rfl hx (Nat.le_of_ble_eq_true rfl) rfl rfl (xc_load H HS (fun S' h' e f D => ?_) (fun e => ?_) (fun e => ?_))
  · show amT _ _ _ _ _ _
    have so : hsh h' (z + 1913) = (21, 1) := by rw [f.1]; exact ho
    refine kr_goto (pc := 6) dL_load_6 rfl ?_
    refine kr_iconst (pc := 15) dL_load_15 (by decide) ?_
    refine kr_ireturn (pc := 16) dL_load_16 rfl ?_
    exact k _ 0 (LO.ok0 e f D)
  · refine kh_n (t := 9) (E := 1) rfl dL_load_9 (by decide) ?_
    refine kr_iconst (pc := 10) dL_load_10 (by decide) ?_
    refine kr_ireturn (pc := 11) dL_load_11 rfl ?_
    exact k _ 1 (LO.er e fro.rf H)
  · refine kh_n (t := 12) (E := 2) rfl dL_load_12 (by decide) ?_
    refine kr_iconst (pc := 13) dL_load_13 (by decide) ?_
    refine kr_ireturn (pc := 14) dL_load_14 rfl ?_
    exact k _ 2 (LO.er e fro.rf H)
theorem l_apply {p1 p2 p3 p4 : Int} {z : Nat} (H : DeR h z S) (HS : okS S) (w2 : p2 < 2147483648) (w3 : p3 < 2147483648) (w4 : p4 = 0 ∨ p4 = 1) (ho : hsh h (z + 1913) = (21, 1)) (k : ∀ h' kk, LO (sp_apply S p1 p2 p3 p4) z h h' kk → (kk = 0 → hiv h' (z + 1913) 0 = (sp_apply S p1 p2 p3 p4).2.1) → Q (.inl (some (vI kk)), h')) : amT mL_apply 0 [vR z, vI p1, vI p2, vI p3, vI p4, vR (z + 1913)] [] h Q := by
  have hx := H.1.1
  refine kr_aload (pc := 0) dL_apply_0 rfl ?_
  refine kr_iconst (pc := 2) dL_apply_2 (by decide) ?_
  refine kr_aload_n (pc := 3) dL_apply_3 rfl ?_
  refine kr_iload_n (pc := 4) dL_apply_4 rfl ?_
  refine kr_iload_n (pc := 5) dL_apply_5 rfl ?_
  refine kr_iload_n (pc := 6) dL_apply_6 rfl ?_
  refine kr_iload (pc := 7) dL_apply_7 rfl ?_
  refine kr_v4 (pc := 9) dL_apply_9 rfl rfl hx (Nat.le_of_ble_eq_true rfl) rfl rfl rfl rfl (xc_apply H HS w2 w3 w4 (fun v S' h' e f D => ?_) (fun h' e f D => ?_) (fun h' e f D => ?_))
  · show amT _ _ _ _ _ _
    have so : hsh h' (z + 1913) = (21, 1) := by rw [f.1]; exact ho
    refine kr_i2l (pc := 12) dL_apply_12 ?_
    refine kr_last (pc := 13) dL_apply_13 (by assumption) (by decide) (by decide) ?_
    refine kr_goto (pc := 14) dL_apply_14 rfl ?_
    refine kr_iconst (pc := 25) dL_apply_25 (by decide) ?_
    refine kr_ireturn (pc := 26) dL_apply_26 rfl ?_
    exact k _ 0 (LO.ok e f D) (LO.v e)
  · refine kh_s (t := 17) (E := 1) rfl dL_apply_17 (by decide) ?_
    refine kr_iconst (pc := 19) dL_apply_19 (by decide) ?_
    refine kr_ireturn (pc := 20) dL_apply_20 rfl ?_
    exact k _ 1 (LO.er e f D) (fun h => absurd h (by decide))
  · refine kh_s (t := 21) (E := 2) rfl dL_apply_21 (by decide) ?_
    refine kr_iconst (pc := 23) dL_apply_23 (by decide) ?_
    refine kr_ireturn (pc := 24) dL_apply_24 rfl ?_
    exact k _ 2 (LO.er e f D) (fun h => absurd h (by decide))
theorem l_rule {p1 p2 p3 p4 : Int} {z : Nat} (H : DeR h z S) (HS : okS S) (ho : hsh h (z + 1913) = (21, 1)) (k : ∀ h' kk, LO (sp_rule S p1 p2 p3 p4) z h h' kk → (kk = 0 → hiv h' (z + 1913) 0 = (sp_rule S p1 p2 p3 p4).2.1) → Q (.inl (some (vI kk)), h')) : amT mL_rule 0 [vR z, vI p1, vI p2, vI p3, vI p4, vR (z + 1913)] [] h Q := by
  have hx := H.1.1
  refine kr_aload (pc := 0) dL_rule_0 rfl ?_
  refine kr_iconst (pc := 2) dL_rule_2 (by decide) ?_
  refine kr_aload_n (pc := 3) dL_rule_3 rfl ?_
  refine kr_iload_n (pc := 4) dL_rule_4 rfl ?_
  refine kr_iload_n (pc := 5) dL_rule_5 rfl ?_
  refine kr_iload_n (pc := 6) dL_rule_6 rfl ?_
  refine kr_iload (pc := 7) dL_rule_7 rfl ?_
  refine kr_v4 (pc := 9) dL_rule_9 rfl rfl hx (Nat.le_of_ble_eq_true rfl) rfl rfl rfl rfl (xc_rule H HS (fun v S' h' e f D => ?_) (fun e => ?_) (fun e => ?_) (fun e => ?_))
  · show amT _ _ _ _ _ _
    have so : hsh h' (z + 1913) = (21, 1) := by rw [f.1]; exact ho
    refine kr_i2l (pc := 12) dL_rule_12 ?_
    refine kr_last (pc := 13) dL_rule_13 (by assumption) (by decide) (by decide) ?_
    refine kr_goto (pc := 14) dL_rule_14 rfl ?_
    refine kr_iconst (pc := 29) dL_rule_29 (by decide) ?_
    refine kr_ireturn (pc := 30) dL_rule_30 rfl ?_
    exact k _ 0 (LO.ok e f D) (LO.v e)
  · refine kh_s (t := 17) (E := 1) rfl dL_rule_17 (by decide) ?_
    refine kr_iconst (pc := 19) dL_rule_19 (by decide) ?_
    refine kr_ireturn (pc := 20) dL_rule_20 rfl ?_
    exact k _ 1 (LO.er e fro.rf H) (fun h => absurd h (by decide))
  · refine kh_s (t := 21) (E := 3) rfl dL_rule_21 (by decide) ?_
    refine kr_iconst (pc := 23) dL_rule_23 (by decide) ?_
    refine kr_ireturn (pc := 24) dL_rule_24 rfl ?_
    exact k _ 2 (LO.er e fro.rf H) (fun h => absurd h (by decide))
  · refine kh_s (t := 25) (E := 2) rfl dL_rule_25 (by decide) ?_
    refine kr_iconst (pc := 27) dL_rule_27 (by decide) ?_
    refine kr_ireturn (pc := 28) dL_rule_28 rfl ?_
    exact k _ 3 (LO.er e fro.rf H) (fun h => absurd h (by decide))
theorem l_faults {p1 : Int} {z : Nat} (H : DeR h z S) (HS : okS S) (w1 : p1 < 2147483648) (ho : hsh h (z + 1913) = (21, 1)) (k : ∀ h' kk, LO (sp_faults S p1) z h h' kk → (kk = 0 → hiv h' (z + 1913) 0 = (sp_faults S p1).2.1) → Q (.inl (some (vI kk)), h')) : amT mL_faults 0 [vR z, vI p1, vR (z + 1913)] [] h Q := by
  have hx := H.1.1
  refine kr_aload_n (pc := 0) dL_faults_0 rfl ?_
  refine kr_iconst (pc := 1) dL_faults_1 (by decide) ?_
  refine kr_aload_n (pc := 2) dL_faults_2 rfl ?_
  refine kr_iload_n (pc := 3) dL_faults_3 rfl ?_
  refine kr_v1 (pc := 4) dL_faults_4 rfl rfl hx (Nat.le_of_ble_eq_true rfl) rfl (xc_faults H HS w1 (fun v S' h' e f D => ?_) (fun h' e f D => ?_))
  · show amT _ _ _ _ _ _
    have so : hsh h' (z + 1913) = (21, 1) := by rw [f.1]; exact ho
    refine kr_i2l (pc := 7) dL_faults_7 ?_
    refine kr_last (pc := 8) dL_faults_8 (by assumption) (by decide) (by decide) ?_
    refine kr_goto (pc := 9) dL_faults_9 rfl ?_
    refine kr_iconst (pc := 15) dL_faults_15 (by decide) ?_
    refine kr_ireturn (pc := 16) dL_faults_16 rfl ?_
    exact k _ 0 (LO.ok e f D) (LO.v e)
  · refine kh_n (t := 12) (E := 1) rfl dL_faults_12 (by decide) ?_
    refine kr_iconst (pc := 13) dL_faults_13 (by decide) ?_
    refine kr_ireturn (pc := 14) dL_faults_14 rfl ?_
    exact k _ 1 (LO.er e f D) (fun h => absurd h (by decide))
theorem l_commit {p1 p2 : Int} {z : Nat} (H : DeR h z S) (HS : okS S) (ho : hsh h (z + 1913) = (21, 1)) (k : ∀ h' kk, LO (sp_commit S p1 p2) z h h' kk → (kk = 0 → hiv h' (z + 1913) 0 = (sp_commit S p1 p2).2.1) → Q (.inl (some (vI kk)), h')) : amT mL_commit 0 [vR z, vI p1, vI p2, vR (z + 1913)] [] h Q := by
  have hx := H.1.1
  refine kr_aload_n (pc := 0) dL_commit_0 rfl ?_
  refine kr_iconst (pc := 1) dL_commit_1 (by decide) ?_
  refine kr_aload_n (pc := 2) dL_commit_2 rfl ?_
  refine kr_iload_n (pc := 3) dL_commit_3 rfl ?_
  refine kr_iload_n (pc := 4) dL_commit_4 rfl ?_
  refine kr_v2 (pc := 5) dL_commit_5 rfl rfl hx (Nat.le_of_ble_eq_true rfl) rfl rfl (xc_commit H HS (fun v S' h' e f D => ?_) (fun h' e f D => ?_) (fun h' e f D => ?_) (fun h' e f D => ?_))
  · show amT _ _ _ _ _ _
    have so : hsh h' (z + 1913) = (21, 1) := by rw [f.1]; exact ho
    refine kr_i2l (pc := 8) dL_commit_8 ?_
    refine kr_last (pc := 9) dL_commit_9 (by assumption) (by decide) (by decide) ?_
    refine kr_goto (pc := 10) dL_commit_10 rfl ?_
    refine kr_iconst (pc := 25) dL_commit_25 (by decide) ?_
    refine kr_ireturn (pc := 26) dL_commit_26 rfl ?_
    exact k _ 0 (LO.ok e f D) (LO.v e)
  · refine kh_s (t := 13) (E := 1) rfl dL_commit_13 (by decide) ?_
    refine kr_iconst (pc := 15) dL_commit_15 (by decide) ?_
    refine kr_ireturn (pc := 16) dL_commit_16 rfl ?_
    exact k _ 1 (LO.er e f D) (fun h => absurd h (by decide))
  · refine kh_s (t := 17) (E := 3) rfl dL_commit_17 (by decide) ?_
    refine kr_iconst (pc := 19) dL_commit_19 (by decide) ?_
    refine kr_ireturn (pc := 20) dL_commit_20 rfl ?_
    exact k _ 2 (LO.er e f D) (fun h => absurd h (by decide))
  · refine kh_s (t := 21) (E := 2) rfl dL_commit_21 (by decide) ?_
    refine kr_iconst (pc := 23) dL_commit_23 (by decide) ?_
    refine kr_ireturn (pc := 24) dL_commit_24 rfl ?_
    exact k _ 3 (LO.er e f D) (fun h => absurd h (by decide))
theorem l_confirm {z : Nat} (H : DeR h z S) (HS : okS S) (ho : hsh h (z + 1913) = (21, 1)) (k : ∀ h' kk, LO (sp_confirm S) z h h' kk → (kk = 0 → hiv h' (z + 1913) 0 = (sp_confirm S).2.1) → Q (.inl (some (vI kk)), h')) : amT mL_confirm 0 [vR z, vR (z + 1913)] [] h Q := by
  have hx := H.1.1
  refine kr_aload_n (pc := 0) dL_confirm_0 rfl ?_
  refine kr_iconst (pc := 1) dL_confirm_1 (by decide) ?_
  refine kr_aload_n (pc := 2) dL_confirm_2 rfl ?_
  refine kr_v0 (pc := 3) dL_confirm_3 rfl rfl hx (Nat.le_of_ble_eq_true rfl) (xc_confirm H HS (fun v S' h' e f D => ?_) (fun e => ?_))
  · show amT _ _ _ _ _ _
    have so : hsh h' (z + 1913) = (21, 1) := by rw [f.1]; exact ho
    refine kr_i2l (pc := 6) dL_confirm_6 ?_
    refine kr_last (pc := 7) dL_confirm_7 (by assumption) (by decide) (by decide) ?_
    refine kr_goto (pc := 8) dL_confirm_8 rfl ?_
    refine kr_iconst (pc := 14) dL_confirm_14 (by decide) ?_
    refine kr_ireturn (pc := 15) dL_confirm_15 rfl ?_
    exact k _ 0 (LO.ok e f D) (LO.v e)
  · refine kh_n (t := 11) (E := 2) rfl dL_confirm_11 (by decide) ?_
    refine kr_iconst (pc := 12) dL_confirm_12 (by decide) ?_
    refine kr_ireturn (pc := 13) dL_confirm_13 rfl ?_
    exact k _ 1 (LO.er e fro.rf H) (fun h => absurd h (by decide))
theorem l_advance {p1 : Int} {z : Nat} (H : DeR h z S) (HS : okS S) (ho : hsh h (z + 1913) = (21, 1)) (k : ∀ h' kk, LO (sp_advance S p1) z h h' kk → (kk = 0 → hiv h' (z + 1913) 0 = (sp_advance S p1).2.1) → Q (.inl (some (vI kk)), h')) : amT mL_advance 0 [vR z, vI p1, vR (z + 1913)] [] h Q := by
  have hx := H.1.1
  refine kr_aload_n (pc := 0) dL_advance_0 rfl ?_
  refine kr_iconst (pc := 1) dL_advance_1 (by decide) ?_
  refine kr_aload_n (pc := 2) dL_advance_2 rfl ?_
  refine kr_iload_n (pc := 3) dL_advance_3 rfl ?_
  refine kr_v1 (pc := 4) dL_advance_4 rfl rfl hx (Nat.le_of_ble_eq_true rfl) rfl (xc_advance H HS (fun v S' h' e f D => ?_) (fun e => ?_))
  · show amT _ _ _ _ _ _
    have so : hsh h' (z + 1913) = (21, 1) := by rw [f.1]; exact ho
    refine kr_i2l (pc := 7) dL_advance_7 ?_
    refine kr_last (pc := 8) dL_advance_8 (by assumption) (by decide) (by decide) ?_
    refine kr_goto (pc := 9) dL_advance_9 rfl ?_
    refine kr_iconst (pc := 15) dL_advance_15 (by decide) ?_
    refine kr_ireturn (pc := 16) dL_advance_16 rfl ?_
    exact k _ 0 (LO.ok e f D) (LO.v e)
  · refine kh_n (t := 12) (E := 3) rfl dL_advance_12 (by decide) ?_
    refine kr_iconst (pc := 13) dL_advance_13 (by decide) ?_
    refine kr_ireturn (pc := 14) dL_advance_14 rfl ?_
    exact k _ 1 (LO.er e fro.rf H) (fun h => absurd h (by decide))
theorem l_size {p1 p2 : Int} {z : Nat} (H : DeR h z S) (HS : okS S) (w1 : p1 < 2147483648) (ho : hsh h (z + 1913) = (21, 1)) (k : ∀ h' kk, LO (sp_size S p1 p2) z h h' kk → (kk = 0 → hiv h' (z + 1913) 0 = (sp_size S p1 p2).2.1) → Q (.inl (some (vI kk)), h')) : amT mL_size 0 [vR z, vI p1, vI p2, vR (z + 1913)] [] h Q := by
  have hx := H.1.1
  refine kr_aload_n (pc := 0) dL_size_0 rfl ?_
  refine kr_iconst (pc := 1) dL_size_1 (by decide) ?_
  refine kr_aload_n (pc := 2) dL_size_2 rfl ?_
  refine kr_iload_n (pc := 3) dL_size_3 rfl ?_
  refine kr_iload_n (pc := 4) dL_size_4 rfl ?_
  refine kr_v2 (pc := 5) dL_size_5 rfl rfl hx (Nat.le_of_ble_eq_true rfl) rfl rfl (xc_size H HS w1 (fun v S' h' e f D => ?_) (fun h' e f D => ?_))
  · show amT _ _ _ _ _ _
    have so : hsh h' (z + 1913) = (21, 1) := by rw [f.1]; exact ho
    refine kr_i2l (pc := 8) dL_size_8 ?_
    refine kr_last (pc := 9) dL_size_9 (by assumption) (by decide) (by decide) ?_
    refine kr_goto (pc := 10) dL_size_10 rfl ?_
    refine kr_iconst (pc := 17) dL_size_17 (by decide) ?_
    refine kr_ireturn (pc := 18) dL_size_18 rfl ?_
    exact k _ 0 (LO.ok e f D) (LO.v e)
  · refine kh_s (t := 13) (E := 1) rfl dL_size_13 (by decide) ?_
    refine kr_iconst (pc := 15) dL_size_15 (by decide) ?_
    refine kr_ireturn (pc := 16) dL_size_16 rfl ?_
    exact k _ 1 (LO.er e f D) (fun h => absurd h (by decide))
theorem l_keyAt {p1 p2 p3 : Int} {z : Nat} (H : DeR h z S) (HS : okS S) (w1 : p1 < 2147483648) (ho : hsh h (z + 1913) = (21, 1)) (k : ∀ h' kk, LO (sp_keyAt S p1 p2 p3) z h h' kk → (kk = 0 → hiv h' (z + 1913) 0 = (sp_keyAt S p1 p2 p3).2.1) → Q (.inl (some (vI kk)), h')) : amT mL_keyAt 0 [vR z, vI p1, vI p2, vI p3, vR (z + 1913)] [] h Q := by
  have hx := H.1.1
  refine kr_aload (pc := 0) dL_keyAt_0 rfl ?_
  refine kr_iconst (pc := 2) dL_keyAt_2 (by decide) ?_
  refine kr_aload_n (pc := 3) dL_keyAt_3 rfl ?_
  refine kr_iload_n (pc := 4) dL_keyAt_4 rfl ?_
  refine kr_iload_n (pc := 5) dL_keyAt_5 rfl ?_
  refine kr_iload_n (pc := 6) dL_keyAt_6 rfl ?_
  refine kr_v3 (pc := 7) dL_keyAt_7 rfl rfl hx (Nat.le_of_ble_eq_true rfl) rfl rfl rfl (xc_keyAt H HS w1 (fun v S' h' e f D => ?_) (fun h' e f D => ?_))
  · show amT _ _ _ _ _ _
    have so : hsh h' (z + 1913) = (21, 1) := by rw [f.1]; exact ho
    refine kr_i2l (pc := 10) dL_keyAt_10 ?_
    refine kr_last (pc := 11) dL_keyAt_11 (by assumption) (by decide) (by decide) ?_
    refine kr_goto (pc := 12) dL_keyAt_12 rfl ?_
    refine kr_iconst (pc := 19) dL_keyAt_19 (by decide) ?_
    refine kr_ireturn (pc := 20) dL_keyAt_20 rfl ?_
    exact k _ 0 (LO.ok e f D) (LO.v e)
  · refine kh_s (t := 15) (E := 1) rfl dL_keyAt_15 (by decide) ?_
    refine kr_iconst (pc := 17) dL_keyAt_17 (by decide) ?_
    refine kr_ireturn (pc := 18) dL_keyAt_18 rfl ?_
    exact k _ 1 (LO.er e f D) (fun h => absurd h (by decide))
theorem l_shown {p1 p2 p3 p4 : Int} {z : Nat} (H : DeR h z S) (HS : okS S) (w1 : p1 < 2147483648) (ho : hsh h (z + 1913) = (21, 1)) (k : ∀ h' kk, LO (sp_shown S p1 p2 p3 p4) z h h' kk → (kk = 0 → hiv h' (z + 1913) 0 = (sp_shown S p1 p2 p3 p4).2.1) → Q (.inl (some (vI kk)), h')) : amT mL_shown 0 [vR z, vI p1, vI p2, vI p3, vI p4, vR (z + 1913)] [] h Q := by
  have hx := H.1.1
  refine kr_aload (pc := 0) dL_shown_0 rfl ?_
  refine kr_iconst (pc := 2) dL_shown_2 (by decide) ?_
  refine kr_aload_n (pc := 3) dL_shown_3 rfl ?_
  refine kr_iload_n (pc := 4) dL_shown_4 rfl ?_
  refine kr_iload_n (pc := 5) dL_shown_5 rfl ?_
  refine kr_iload_n (pc := 6) dL_shown_6 rfl ?_
  refine kr_iload (pc := 7) dL_shown_7 rfl ?_
  refine kr_v4 (pc := 9) dL_shown_9 rfl rfl hx (Nat.le_of_ble_eq_true rfl) rfl rfl rfl rfl (xc_shown H HS w1 (fun v S' h' e f D => ?_) (fun h' e f D => ?_))
  · show amT _ _ _ _ _ _
    have so : hsh h' (z + 1913) = (21, 1) := by rw [f.1]; exact ho
    refine kr_i2l (pc := 12) dL_shown_12 ?_
    refine kr_last (pc := 13) dL_shown_13 (by assumption) (by decide) (by decide) ?_
    refine kr_goto (pc := 14) dL_shown_14 rfl ?_
    refine kr_iconst (pc := 21) dL_shown_21 (by decide) ?_
    refine kr_ireturn (pc := 22) dL_shown_22 rfl ?_
    exact k _ 0 (LO.ok e f D) (LO.v e)
  · refine kh_s (t := 17) (E := 1) rfl dL_shown_17 (by decide) ?_
    refine kr_iconst (pc := 19) dL_shown_19 (by decide) ?_
    refine kr_ireturn (pc := 20) dL_shown_20 rfl ?_
    exact k _ 1 (LO.er e f D) (fun h => absurd h (by decide))
theorem l_own {p1 p2 p3 : Int} {z : Nat} (H : DeR h z S) (HS : okS S) (w1 : p1 < 2147483648) (ho : hsh h (z + 1913) = (21, 1)) (k : ∀ h' kk, LO (sp_own S p1 p2 p3) z h h' kk → (kk = 0 → hiv h' (z + 1913) 0 = (sp_own S p1 p2 p3).2.1) → Q (.inl (some (vI kk)), h')) : amT mL_own 0 [vR z, vI p1, vI p2, vI p3, vR (z + 1913)] [] h Q := by
  have hx := H.1.1
  refine kr_aload (pc := 0) dL_own_0 rfl ?_
  refine kr_iconst (pc := 2) dL_own_2 (by decide) ?_
  refine kr_aload_n (pc := 3) dL_own_3 rfl ?_
  refine kr_iload_n (pc := 4) dL_own_4 rfl ?_
  refine kr_iload_n (pc := 5) dL_own_5 rfl ?_
  refine kr_iload_n (pc := 6) dL_own_6 rfl ?_
  refine kr_v3 (pc := 7) dL_own_7 rfl rfl hx (Nat.le_of_ble_eq_true rfl) rfl rfl rfl (xc_own H HS w1 (fun v S' h' e f D => ?_) (fun h' e f D => ?_))
  · show amT _ _ _ _ _ _
    have so : hsh h' (z + 1913) = (21, 1) := by rw [f.1]; exact ho
    refine kr_i2l (pc := 10) dL_own_10 ?_
    refine kr_last (pc := 11) dL_own_11 (by assumption) (by decide) (by decide) ?_
    refine kr_goto (pc := 12) dL_own_12 rfl ?_
    refine kr_iconst (pc := 19) dL_own_19 (by decide) ?_
    refine kr_ireturn (pc := 20) dL_own_20 rfl ?_
    exact k _ 0 (LO.ok e f D) (LO.v e)
  · refine kh_s (t := 15) (E := 1) rfl dL_own_15 (by decide) ?_
    refine kr_iconst (pc := 17) dL_own_17 (by decide) ?_
    refine kr_ireturn (pc := 18) dL_own_18 rfl ?_
    exact k _ 1 (LO.er e f D) (fun h => absurd h (by decide))
theorem l_same {p1 p2 : Int} {z : Nat} (H : DeR h z S) (HS : okS S) (w1 : p1 < 2147483648) (w2 : p2 < 2147483648) (ho : hsh h (z + 1913) = (21, 1)) (k : ∀ h' kk, LO (sp_same S p1 p2) z h h' kk → (kk = 0 → hiv h' (z + 1913) 0 = (sp_same S p1 p2).2.1) → Q (.inl (some (vI kk)), h')) : amT mL_same 0 [vR z, vI p1, vI p2, vR (z + 1913)] [] h Q := by
  have hx := H.1.1
  refine kr_aload_n (pc := 0) dL_same_0 rfl ?_
  refine kr_iconst (pc := 1) dL_same_1 (by decide) ?_
  refine kr_aload_n (pc := 2) dL_same_2 rfl ?_
  refine kr_iload_n (pc := 3) dL_same_3 rfl ?_
  refine kr_iload_n (pc := 4) dL_same_4 rfl ?_
  refine kr_v2 (pc := 5) dL_same_5 rfl rfl hx (Nat.le_of_ble_eq_true rfl) rfl rfl (xc_same H HS w1 w2 (fun v S' h' hv e f D => ?_) (fun h' e f D => ?_))
  · show amT _ _ _ _ _ _
    have so : hsh h' (z + 1913) = (21, 1) := by rw [f.1]; exact ho
    rcases hv with rfl | rfl
    · refine kr_if_eq (pc := 8) dL_same_8 rfl (fun _ => ?_) (fun h => absurd rfl h)
      refine kr_lconst (pc := 15) dL_same_15 ?_
      refine kr_last (pc := 16) dL_same_16 (by assumption) (by decide) (by decide) ?_
      refine kr_goto (pc := 17) dL_same_17 rfl ?_
      refine kr_iconst (pc := 24) dL_same_24 (by decide) ?_
      refine kr_ireturn (pc := 25) dL_same_25 rfl ?_
      exact k _ 0 (LO.ok e f D) (LO.v e)
    · refine kr_if_eq (pc := 8) dL_same_8 rfl (fun h => absurd h (by decide)) (fun _ => ?_)
      refine kr_lconst (pc := 11) dL_same_11 ?_
      refine kr_goto (pc := 12) dL_same_12 rfl ?_
      refine kr_last (pc := 16) dL_same_16 (by assumption) (by decide) (by decide) ?_
      refine kr_goto (pc := 17) dL_same_17 rfl ?_
      refine kr_iconst (pc := 24) dL_same_24 (by decide) ?_
      refine kr_ireturn (pc := 25) dL_same_25 rfl ?_
      exact k _ 0 (LO.ok e f D) (LO.v e)
  · refine kh_s (t := 20) (E := 1) rfl dL_same_20 (by decide) ?_
    refine kr_iconst (pc := 22) dL_same_22 (by decide) ?_
    refine kr_ireturn (pc := 23) dL_same_23 rfl ?_
    exact k _ 1 (LO.er e f D) (fun h => absurd h (by decide))
theorem l_edits {p1 p2 : Int} {z : Nat} (H : DeR h z S) (HS : okS S) (w1 : p1 < 2147483648) (w2 : p2 < 2147483648) (ho : hsh h (z + 1913) = (21, 1)) (k : ∀ h' kk, LO (sp_edits S p1 p2) z h h' kk → (kk = 0 → hiv h' (z + 1913) 0 = (sp_edits S p1 p2).2.1) → Q (.inl (some (vI kk)), h')) : amT mL_edits 0 [vR z, vI p1, vI p2, vR (z + 1913)] [] h Q := by
  have hx := H.1.1
  refine kr_aload_n (pc := 0) dL_edits_0 rfl ?_
  refine kr_iconst (pc := 1) dL_edits_1 (by decide) ?_
  refine kr_aload_n (pc := 2) dL_edits_2 rfl ?_
  refine kr_iload_n (pc := 3) dL_edits_3 rfl ?_
  refine kr_iload_n (pc := 4) dL_edits_4 rfl ?_
  refine kr_v2 (pc := 5) dL_edits_5 rfl rfl hx (Nat.le_of_ble_eq_true rfl) rfl rfl (xc_edits H HS w1 w2 (fun v S' h' e f D => ?_) (fun h' e f D => ?_))
  · show amT _ _ _ _ _ _
    have so : hsh h' (z + 1913) = (21, 1) := by rw [f.1]; exact ho
    refine kr_i2l (pc := 8) dL_edits_8 ?_
    refine kr_last (pc := 9) dL_edits_9 (by assumption) (by decide) (by decide) ?_
    refine kr_goto (pc := 10) dL_edits_10 rfl ?_
    refine kr_iconst (pc := 17) dL_edits_17 (by decide) ?_
    refine kr_ireturn (pc := 18) dL_edits_18 rfl ?_
    exact k _ 0 (LO.ok e f D) (LO.v e)
  · refine kh_s (t := 13) (E := 1) rfl dL_edits_13 (by decide) ?_
    refine kr_iconst (pc := 15) dL_edits_15 (by decide) ?_
    refine kr_ireturn (pc := 16) dL_edits_16 rfl ?_
    exact k _ 1 (LO.er e f D) (fun h => absurd h (by decide))
theorem l_editAt {p1 p2 p3 : Int} {z : Nat} (H : DeR h z S) (HS : okS S) (w1 : p1 < 2147483648) (w2 : p2 < 2147483648) (ho : hsh h (z + 1913) = (21, 1)) (k : ∀ h' kk, LO (sp_editAt S p1 p2 p3) z h h' kk → (kk = 0 → hiv h' (z + 1913) 0 = (sp_editAt S p1 p2 p3).2.1) → Q (.inl (some (vI kk)), h')) : amT mL_editAt 0 [vR z, vI p1, vI p2, vI p3, vR (z + 1913)] [] h Q := by
  have hx := H.1.1
  refine kr_aload (pc := 0) dL_editAt_0 rfl ?_
  refine kr_iconst (pc := 2) dL_editAt_2 (by decide) ?_
  refine kr_aload_n (pc := 3) dL_editAt_3 rfl ?_
  refine kr_iload_n (pc := 4) dL_editAt_4 rfl ?_
  refine kr_iload_n (pc := 5) dL_editAt_5 rfl ?_
  refine kr_iload_n (pc := 6) dL_editAt_6 rfl ?_
  refine kr_v3 (pc := 7) dL_editAt_7 rfl rfl hx (Nat.le_of_ble_eq_true rfl) rfl rfl rfl (xc_editAt H HS w1 w2 (fun v S' h' e f D => ?_) (fun h' e f D => ?_))
  · show amT _ _ _ _ _ _
    have so : hsh h' (z + 1913) = (21, 1) := by rw [f.1]; exact ho
    refine kr_i2l (pc := 10) dL_editAt_10 ?_
    refine kr_last (pc := 11) dL_editAt_11 (by assumption) (by decide) (by decide) ?_
    refine kr_goto (pc := 12) dL_editAt_12 rfl ?_
    refine kr_iconst (pc := 19) dL_editAt_19 (by decide) ?_
    refine kr_ireturn (pc := 20) dL_editAt_20 rfl ?_
    exact k _ 0 (LO.ok e f D) (LO.v e)
  · refine kh_s (t := 15) (E := 1) rfl dL_editAt_15 (by decide) ?_
    refine kr_iconst (pc := 17) dL_editAt_17 (by decide) ?_
    refine kr_ireturn (pc := 18) dL_editAt_18 rfl ?_
    exact k _ 1 (LO.er e f D) (fun h => absurd h (by decide))
end XQ
