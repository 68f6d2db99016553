/-! THE LAW'S SMALL METHODS -/
section YB
variable {h : aH} {Q : aR → Prop} {S : St} {z : Nat}
theorem sxx {S : St} {t u : Int} {r : Res} (ht : ¬ t = u) (h1 : r = sx S t) (h2 : r = sx S u) : False := ht (congrArg Prod.fst (h1.symm.trans h2))
theorem l_low {v n : Int} (hn : 0 < n) (k : Q (.inl (some (vI (lw v n))), h)) : amT mL_low 0 [vI v, vI n] [] h Q := by
  obtain ⟨m, hm⟩ := bw_max v
  refine kr_iload_n (pc := 0) dL_low_0 rfl ?_
  refine kr_ldc (pc := 1) dL_low_1 rfl ?_
  refine kr_iand (pc := 3) dL_low_3 ?_
  refine kr_iload_n (pc := 4) dL_low_4 rfl ?_
  refine kr_irem (pc := 5) dL_low_5 ⟨by omega, by omega⟩ ?_
  refine kr_ireturn (pc := 6) dL_low_6 rfl ?_
  exact k
theorem l_cell {b L : Nat} {i : Int} (sb : hsh h b = (50, L)) (hi : 0 ≤ i ∧ i ≤ 100) (k : ∀ v, Q (.inl (some (vI v)), h)) : amT mL_cell 0 [vR b, vI i] [] h Q := by
  refine kr_iload_n (pc := 0) dL_cell_0 rfl ?_
  refine kr_aload_n (pc := 1) dL_cell_1 rfl ?_
  refine kr_alen (pc := 2) dL_cell_2 sb (by decide) ?_
  refine kr_icmp_ge (pc := 3) dL_cell_3 rfl (fun h3 => ?_) (fun h3 => ?_)
  · refine kr_ldc (pc := 12) dL_cell_12 rfl ?_
    refine kr_iload_n (pc := 14) dL_cell_14 rfl ?_
    refine kr_imul (pc := 15) dL_cell_15 ⟨by omega, by omega⟩ ?_
    refine kr_sipush (pc := 16) dL_cell_16 (by decide) ?_
    refine kr_iadd (pc := 19) dL_cell_19 ⟨by omega, by omega⟩ ?_
    refine kr_ireturn (pc := 20) dL_cell_20 rfl ?_
    exact k _
  · refine kr_aload_n (pc := 6) dL_cell_6 rfl ?_
    refine kr_iload_n (pc := 7) dL_cell_7 rfl ?_
    refine kr_sald (pc := 8) dL_cell_8 sb (by omega) (by omega) rfl ?_
    refine kr_goto (pc := 9) dL_cell_9 rfl ?_
    refine kr_ireturn (pc := 20) dL_cell_20 rfl ?_
    exact k _
theorem r_add {c s y p : Int} (hc : 0 ≤ c ∧ c ≤ 2) (hs : 0 ≤ s ∧ s ≤ 2) (hy : 0 ≤ y ∧ y ≤ 9) (ho : S.2.1 c.toNat = 1) (hp : 0 ≤ p ∧ p ≤ (sec S c s).length) : sp_add S c s y p = @ite Res (kix (sec S c s) y ≠ -1 ∨ (sec S c s).length = 6) (Classical.propDecidable _) (sx S 2) (0, ((sec S c s).length : Int) + 1, uSec S c s ((sec S c s).insertIdx p.toNat (y, -1, -1, -1))) := by
  unfold sp_add
  rw [if_neg (fun z => z ⟨hc, hs, hy⟩)]
  by_cases hf : kix (sec S c s) y ≠ -1 ∨ (sec S c s).length = 6
  · rw [if_pos hf, if_pos (Or.inr hf)]
  · rw [if_neg hf, if_neg (fun z => z.elim (fun z => by omega) hf), if_neg (fun z => z hp)]
theorem l_add {c s y p : Int} (H : DeR h z S) (HS : okS S) (hc : 0 ≤ c ∧ c ≤ 2) (hs : 0 ≤ s ∧ s ≤ 2) (hy : 0 ≤ y ∧ y ≤ 9) (ho : S.2.1 c.toNat = 1) (hp : 0 ≤ p ∧ p ≤ (sec S c s).length) (k1 : ∀ h', fro h h' z (z + 1899) → DeR h' z (uSec S c s ((sec S c s).insertIdx p.toNat (y, -1, -1, -1))) → ¬ (kix (sec S c s) y ≠ -1 ∨ (sec S c s).length = 6) → Q (.inl (some (vI (((sec S c s).length : Int) + 1))), h')) (kE : kix (sec S c s) y ≠ -1 ∨ (sec S c s).length = 6 → Q (.inl (some (vI (-3))), hth h)) : amT mL_add 0 [vR z, vI c, vI s, vI y, vI p] [] h Q := by
  have hx := H.1.1
  have hA := r_add (S := S) hc hs hy ho hp
  refine kr_aload_n (pc := 0) dL_add_0 rfl ?_
  refine kr_iload_n (pc := 1) dL_add_1 rfl ?_
  refine kr_iload_n (pc := 2) dL_add_2 rfl ?_
  refine kr_iload_n (pc := 3) dL_add_3 rfl ?_
  refine kr_iload (pc := 4) dL_add_4 rfl ?_
  have bad : ∀ t : Int, sp_add S c s y p = sx S t → ¬ (0 : Int) = t → ¬ (2 : Int) = t → False := fun t e n0 n2 => by
    by_cases hf : kix (sec S c s) y ≠ -1 ∨ (sec S c s).length = 6
    · rw [if_pos hf] at hA
      exact sxx n2 hA e
    · rw [if_neg hf] at hA
      exact sx0 n0 hA e
  refine kr_v4 (pc := 6) dL_add_6 rfl rfl hx (Nat.le_of_ble_eq_true rfl) rfl rfl rfl rfl (xc_add H HS (fun v9 S9 h9 e f9 D => ?_) (fun e => (bad _ e (by decide) (by decide)).elim) (fun e => ?_) (fun e => (bad _ e (by decide) (by decide)).elim))
  · show amT _ _ _ _ _ _
    by_cases hf : kix (sec S c s) y ≠ -1 ∨ (sec S c s).length = 6
    · rw [if_pos hf] at hA
      exact (sx0 (by decide) e hA).elim
    · rw [if_neg hf] at hA
      rw [hA] at e
      cases e
      refine kr_ireturn (pc := 9) dL_add_9 rfl ?_
      exact k1 h9 f9 D hf
  · by_cases hf : kix (sec S c s) y ≠ -1 ∨ (sec S c s).length = 6
    · refine kh_s (t := 10) (E := 2) rfl dL_add_10 (by decide) ?_
      refine kr_bipush (pc := 12) dL_add_12 (by decide) ?_
      refine kr_ireturn (pc := 14) dL_add_14 rfl ?_
      exact kE hf
    · rw [if_neg hf] at hA
      exact (sx0 (by decide) hA e).elim
theorem r_remove {c s y : Int} (hc : 0 ≤ c ∧ c ≤ 2) (hs : 0 ≤ s ∧ s ≤ 2) (hy : 0 ≤ y ∧ y ≤ 9) (ho : S.2.1 c.toNat = 1) : sp_remove S c s y = @ite Res (kix (sec S c s) y = -1) (Classical.propDecidable _) (sx S 2) (0, kix (sec S c s) y, uSec S c s ((sec S c s).eraseIdx (kix (sec S c s) y).toNat)) := by
  unfold sp_remove
  rw [if_neg (fun z => z ⟨hc, hs, hy⟩)]
  by_cases hf : kix (sec S c s) y = -1
  · rw [if_pos hf, if_pos (Or.inr hf)]
  · rw [if_neg hf, if_neg (fun z => z.elim (fun z => by omega) hf)]
theorem l_remove {c s y : Int} (H : DeR h z S) (HS : okS S) (hc : 0 ≤ c ∧ c ≤ 2) (hs : 0 ≤ s ∧ s ≤ 2) (hy : 0 ≤ y ∧ y ≤ 9) (ho : S.2.1 c.toNat = 1) (k1 : ∀ h', fro h h' z (z + 1899) → DeR h' z (uSec S c s ((sec S c s).eraseIdx (kix (sec S c s) y).toNat)) → ¬ (kix (sec S c s) y = -1) → Q (.inl (some (vI (kix (sec S c s) y))), h')) (kE : kix (sec S c s) y = -1 → Q (.inl (some (vI (-3))), hth h)) : amT mL_remove 0 [vR z, vI c, vI s, vI y] [] h Q := by
  have hx := H.1.1
  have hA := r_remove (S := S) hc hs hy ho
  refine kr_aload_n (pc := 0) dL_remove_0 rfl ?_
  refine kr_iload_n (pc := 1) dL_remove_1 rfl ?_
  refine kr_iload_n (pc := 2) dL_remove_2 rfl ?_
  refine kr_iload_n (pc := 3) dL_remove_3 rfl ?_
  have bad : ∀ t : Int, sp_remove S c s y = sx S t → ¬ (0 : Int) = t → ¬ (2 : Int) = t → False := fun t e n0 n2 => by
    by_cases hf : kix (sec S c s) y = -1
    · rw [if_pos hf] at hA
      exact sxx n2 hA e
    · rw [if_neg hf] at hA
      exact sx0 n0 hA e
  refine kr_v3 (pc := 4) dL_remove_4 rfl rfl hx (Nat.le_of_ble_eq_true rfl) rfl rfl rfl (xc_remove H HS (fun v9 S9 h9 e f9 D => ?_) (fun e => (bad _ e (by decide) (by decide)).elim) (fun e => ?_))
  · show amT _ _ _ _ _ _
    by_cases hf : kix (sec S c s) y = -1
    · rw [if_pos hf] at hA
      exact (sx0 (by decide) e hA).elim
    · rw [if_neg hf] at hA
      rw [hA] at e
      cases e
      refine kr_ireturn (pc := 7) dL_remove_7 rfl ?_
      exact k1 h9 f9 D hf
  · by_cases hf : kix (sec S c s) y = -1
    · refine kh_s (t := 8) (E := 2) rfl dL_remove_8 (by decide) ?_
      refine kr_bipush (pc := 10) dL_remove_10 (by decide) ?_
      refine kr_ireturn (pc := 12) dL_remove_12 rfl ?_
      exact kE hf
    · rw [if_neg hf] at hA
      exact (sx0 (by decide) hA e).elim
theorem r_set {c s y f v : Int} (hc : 0 ≤ c ∧ c ≤ 2) (hs : 0 ≤ s ∧ s ≤ 2) (hy : 0 ≤ y ∧ y ≤ 9) (ho : S.2.1 c.toNat = 1) (hf2 : 0 ≤ f ∧ f ≤ 1) (hv : -1 ≤ v ∧ v ≤ 99) : sp_set S c s y f v = @ite Res (kix (sec S c s) y = -1) (Classical.propDecidable _) (sx S 3) (0, sg (gt (sec S c s) y) f, (xch S c s y f v).2.2) := by
  unfold sp_set
  rw [if_neg (fun z => z ⟨hc, hs, hy, hf2⟩), if_neg (fun z => z hv)]
  by_cases hf : kix (sec S c s) y = -1
  · rw [if_pos hf, if_pos (Or.inr hf)]
  · rw [if_neg hf, if_neg (fun z => z.elim (fun z => by omega) hf)]
    rfl
theorem l_set {c s y f v : Int} (H : DeR h z S) (HS : okS S) (hc : 0 ≤ c ∧ c ≤ 2) (hs : 0 ≤ s ∧ s ≤ 2) (hy : 0 ≤ y ∧ y ≤ 9) (ho : S.2.1 c.toNat = 1) (hf2 : 0 ≤ f ∧ f ≤ 1) (hv : -1 ≤ v ∧ v ≤ 99) (k1 : ∀ h', fro h h' z (z + 1899) → DeR h' z ((xch S c s y f v).2.2) → ¬ (kix (sec S c s) y = -1) → Q (.inl (some (vI (sg (gt (sec S c s) y) f))), h')) (kE : kix (sec S c s) y = -1 → Q (.inl (some (vI (-3))), hth h)) : amT mL_set 0 [vR z, vI c, vI s, vI y, vI f, vI v] [] h Q := by
  have hx := H.1.1
  have hA := r_set (S := S) hc hs hy ho hf2 hv
  refine kr_aload_n (pc := 0) dL_set_0 rfl ?_
  refine kr_iload_n (pc := 1) dL_set_1 rfl ?_
  refine kr_iload_n (pc := 2) dL_set_2 rfl ?_
  refine kr_iload_n (pc := 3) dL_set_3 rfl ?_
  refine kr_iload (pc := 4) dL_set_4 rfl ?_
  refine kr_iload (pc := 6) dL_set_6 rfl ?_
  have bad : ∀ t : Int, sp_set S c s y f v = sx S t → ¬ (0 : Int) = t → ¬ (3 : Int) = t → False := fun t e n0 n2 => by
    by_cases hf : kix (sec S c s) y = -1
    · rw [if_pos hf] at hA
      exact sxx n2 hA e
    · rw [if_neg hf] at hA
      exact sx0 n0 hA e
  refine kr_v5 (pc := 8) dL_set_8 rfl rfl hx (Nat.le_of_ble_eq_true rfl) rfl rfl rfl rfl rfl (xc_set H HS (fun v9 S9 h9 e f9 D => ?_) (fun e => (bad _ e (by decide) (by decide)).elim) (fun e => (bad _ e (by decide) (by decide)).elim) (fun e => ?_))
  · show amT _ _ _ _ _ _
    by_cases hf : kix (sec S c s) y = -1
    · rw [if_pos hf] at hA
      exact (sx0 (by decide) e hA).elim
    · rw [if_neg hf] at hA
      rw [hA] at e
      cases e
      refine kr_ireturn (pc := 11) dL_set_11 rfl ?_
      exact k1 h9 f9 D hf
  · by_cases hf : kix (sec S c s) y = -1
    · refine kh_s (t := 12) (E := 2) rfl dL_set_12 (by decide) ?_
      refine kr_bipush (pc := 14) dL_set_14 (by decide) ?_
      refine kr_ireturn (pc := 16) dL_set_16 rfl ?_
      exact kE hf
    · rw [if_neg hf] at hA
      exact (sx0 (by decide) hA e).elim
theorem r_join {c s y g : Int} (hc : 0 ≤ c ∧ c ≤ 2) (hs : 0 ≤ s ∧ s ≤ 2) (hy : 0 ≤ y ∧ y ≤ 9) (ho : S.2.1 c.toNat = 1) (hg : -1 ≤ g ∧ g ≤ 2) : sp_join S c s y g = @ite Res (kix (sec S c s) y = -1) (Classical.propDecidable _) (sx S 3) (0, sg (gt (sec S c s) y) 2, (xch S c s y 2 g).2.2) := by
  unfold sp_join
  rw [if_neg (fun z => z ⟨hc, hs, hy⟩), if_neg (fun z => z hg)]
  by_cases hf : kix (sec S c s) y = -1
  · rw [if_pos hf, if_pos (Or.inr hf)]
  · rw [if_neg hf, if_neg (fun z => z.elim (fun z => by omega) hf)]
    rfl
theorem l_join {c s y g : Int} (H : DeR h z S) (HS : okS S) (hc : 0 ≤ c ∧ c ≤ 2) (hs : 0 ≤ s ∧ s ≤ 2) (hy : 0 ≤ y ∧ y ≤ 9) (ho : S.2.1 c.toNat = 1) (hg : -1 ≤ g ∧ g ≤ 2) (k1 : ∀ h', fro h h' z (z + 1899) → DeR h' z ((xch S c s y 2 g).2.2) → ¬ (kix (sec S c s) y = -1) → Q (.inl (some (vI (sg (gt (sec S c s) y) 2))), h')) (kE : kix (sec S c s) y = -1 → Q (.inl (some (vI (-3))), hth h)) : amT mL_join 0 [vR z, vI c, vI s, vI y, vI g] [] h Q := by
  have hx := H.1.1
  have hA := r_join (S := S) hc hs hy ho hg
  refine kr_aload_n (pc := 0) dL_join_0 rfl ?_
  refine kr_iload_n (pc := 1) dL_join_1 rfl ?_
  refine kr_iload_n (pc := 2) dL_join_2 rfl ?_
  refine kr_iload_n (pc := 3) dL_join_3 rfl ?_
  refine kr_iload (pc := 4) dL_join_4 rfl ?_
  have bad : ∀ t : Int, sp_join S c s y g = sx S t → ¬ (0 : Int) = t → ¬ (3 : Int) = t → False := fun t e n0 n2 => by
    by_cases hf : kix (sec S c s) y = -1
    · rw [if_pos hf] at hA
      exact sxx n2 hA e
    · rw [if_neg hf] at hA
      exact sx0 n0 hA e
  refine kr_v4 (pc := 6) dL_join_6 rfl rfl hx (Nat.le_of_ble_eq_true rfl) rfl rfl rfl rfl (xc_join H HS (fun v9 S9 h9 e f9 D => ?_) (fun e => (bad _ e (by decide) (by decide)).elim) (fun e => (bad _ e (by decide) (by decide)).elim) (fun e => ?_))
  · show amT _ _ _ _ _ _
    by_cases hf : kix (sec S c s) y = -1
    · rw [if_pos hf] at hA
      exact (sx0 (by decide) e hA).elim
    · rw [if_neg hf] at hA
      rw [hA] at e
      cases e
      refine kr_ireturn (pc := 9) dL_join_9 rfl ?_
      exact k1 h9 f9 D hf
  · by_cases hf : kix (sec S c s) y = -1
    · refine kh_s (t := 10) (E := 2) rfl dL_join_10 (by decide) ?_
      refine kr_bipush (pc := 12) dL_join_12 (by decide) ?_
      refine kr_ireturn (pc := 14) dL_join_14 rfl ?_
      exact kE hf
    · rw [if_neg hf] at hA
      exact (sx0 (by decide) hA e).elim
theorem l_commit {c n : Int} (H : DeR h z S) (HS : okS S) (hc : 0 ≤ c ∧ c ≤ 2) (hn : 0 ≤ n ∧ n ≤ 100) (k1 : ∀ v S' h', sp_commit S c n = (0, v, S') → fro h h' z (z + 1899) → DeR h' z S' → Q (.inl (some (vI v)), h')) (kE : ∀ h', fro h h' z (z + 1899) → DeR h' z S → Q (.inl (some (vI (-3))), hth h')) : amT mL_commit 0 [vR z, vI c, vI n] [] h Q := by
  have hx := H.1.1
  have bad : ∀ t : Int, sp_commit S c n = sx S t → ¬ (0 : Int) = t → ¬ (3 : Int) = t → False := fun t e n0 n3 => by
    have e2 := congrArg Prod.fst e
    unfold sp_commit at e2
    rw [if_neg (fun z => z hc), if_neg (fun z => z hn)] at e2
    split at e2
    · exact n3 e2
    · split at e2
      · exact n3 e2
      · split at e2
        · exact n3 e2
        · exact n0 e2
  refine kr_aload_n (pc := 0) dL_commit_0 rfl ?_
  refine kr_iload_n (pc := 1) dL_commit_1 rfl ?_
  refine kr_iload_n (pc := 2) dL_commit_2 rfl ?_
  refine kr_v2 (pc := 3) dL_commit_3 rfl rfl hx (Nat.le_of_ble_eq_true rfl) rfl rfl (xc_commit H HS (fun v9 S9 h9 e f9 D => ?_) (fun h9 e f9 D => (bad _ e (by decide) (by decide)).elim) (fun h9 e f9 D => (bad _ e (by decide) (by decide)).elim) (fun h9 e f9 D => ?_))
  · show amT _ _ _ _ _ _
    refine kr_ireturn (pc := 6) dL_commit_6 rfl ?_
    exact k1 v9 S9 h9 e f9 D
  · refine kh_n (t := 7) (E := 2) rfl dL_commit_7 (by decide) ?_
    refine kr_bipush (pc := 8) dL_commit_8 (by decide) ?_
    refine kr_ireturn (pc := 10) dL_commit_10 rfl ?_
    exact kE h9 f9 D
end YB
