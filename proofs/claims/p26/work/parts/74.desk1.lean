/-! THE DESK: what lies where -/
/-- where the configuration with the number s lies -/
def kp (x s : Nat) : Nat := if s < 3 then x + 305 + 49 * s else x + 451 + 48 * (s - 3)
theorem kp_rng {x s : Nat} (h : s < 33) : x + 305 ≤ kp x s ∧ kp x s + 48 ≤ x + 1891 := by
  unfold kp
  split <;> omega
theorem kp_ne {x s t : Nat} (hs : s < 33) (ht : t < 33) (h : s ≠ t) : kp x s + 48 ≤ kp x t ∨ kp x t + 48 ≤ kp x s := by
  unfold kp
  split <;> split <;> omega
theorem kp_ca {x s c : Nat} (hs : s < 33) (hc : c < 3) : x + 304 + 49 * c < kp x s ∨ kp x s + 48 ≤ x + 304 + 49 * c := by
  unfold kp
  split <;> omega
def DeB (h : aH) (x : Nat) : Prop :=
  hsh h x = (8, 10) ∧ hrf h x 0 = some (x + 1) ∧ hsh h (x + 1) = (22 + 0, 3) ∧ hrf h x 1 = some (x + 2) ∧ hsh h (x + 2) = (22 + 1, 30) ∧ hrf h x 3 = some (x + 3) ∧ hsh h (x + 3) = (22 + 5, 8) ∧ hrf h x 7 = some (x + 4) ∧ hrf h x 8 = some (x + 254) ∧ hrf h x 9 = some (x + 302) ∧
  (∀ i, i < 3 → hrf h (x + 1) i = some (x + 304 + 49 * i) ∧ hsh h (x + 304 + 49 * i) = (1, 3) ∧ hrf h (x + 304 + 49 * i) 2 = some (kp x i)) ∧ (∀ i, i < 30 → hrf h (x + 2) i = some (kp x (3 + i))) ∧ ∀ i, i < 8 → hrf h (x + 3) i = some (x + 1891 + i) ∧ hsh h (x + 1891 + i) = (6, 4)
/-- what is used by one call after the other -/
def ScR (h : aH) (x : Nat) : Prop := (∃ q, LiB h (x + 4) q) ∧ (∃ p, SeB h (x + 4 + 2) p) ∧ CfX h (x + 254) ∧ EnB h (x + 302)
/-- the desk at x is in the state S -/
def DeR (h : aH) (x : Nat) (S : St) : Prop :=
  DeB h x ∧ (∀ s, s < 33 → CfC h (kp x s) (S.1 s)) ∧ (∀ c, c < 3 → hiv h (x + 304 + 49 * c) 0 = S.2.1 c ∧ hiv h (x + 304 + 49 * c) 1 = S.2.2.1 c) ∧ hiv h x 2 = (S.2.2.2.1 : Int) + 1 ∧ hiv h x 4 = S.2.2.2.2.2.length ∧ hiv h x 5 = (if S.2.2.2.2.1 = -1 then 0 else S.2.2.2.2.1) ∧ (S.2.2.2.2.1 ≠ -1 → hiv h x 6 = (S.2.2.2.1 : Int) - 1) ∧
  (∀ (i : Nat) (r : Rul), S.2.2.2.2.2[i]? = some r → i < 8 ∧ RuC h (x + 1891 + i) r) ∧ ScR h x
/-- static parts stay -/
theorem DeB.fro {h h' : aH} {x a b : Nat} (H : DeB h x) (f : fro h h' a b) (ha : x + 4 ≤ a) (hc : ∀ c, c < 3 → x + 304 + 49 * c < a ∨ b ≤ x + 304 + 49 * c) : DeB h' x := by
  obtain ⟨a1, a2, a3, a4, a5, a6, a7, a8, a9, b0, b1, b2, b3⟩ := H
  have e : ∀ y, y < x + 4 → hrf h' y = hrf h y := fun y hy => (f.2.2.2 y (by omega)).2
  refine ⟨by rw [f.1]; exact a1, by rw [e _ (by omega)]; exact a2, by rw [f.1]; exact a3, by rw [e _ (by omega)]; exact a4, by rw [f.1]; exact a5, by rw [e _ (by omega)]; exact a6, by rw [f.1]; exact a7, by rw [e _ (by omega)]; exact a8, by rw [e _ (by omega)]; exact a9, by rw [e _ (by omega)]; exact b0, fun i hi => ?_, fun i hi => by rw [e _ (by omega)]; exact b2 i hi, fun i hi => by rw [e _ (by omega), f.1]; exact b3 i hi⟩
  rw [e _ (by omega), f.1, (f.2.2.2 (x + 304 + 49 * i) (hc i hi)).2]
  exact b1 i hi
theorem ScR.ag {h h' : aH} {x : Nat} (H : ScR h x) (f : agr h h' (x + 4) (x + 304)) : ScR h' x := by
  obtain ⟨⟨q, L⟩, ⟨p, P⟩, C, E⟩ := H
  exact ⟨⟨q, L.ag (f.up (by omega) (by omega)) (f.up (by omega) (by omega))⟩, ⟨p, P.ag (f.up (by omega) (by omega))⟩, C.ag (f.up (by omega) (by omega)), E.ag (f.up (by omega) (by omega))⟩
/-- only the parts that are used by one call after the other are others -/
theorem DeR.sc {h h' : aH} {x : Nat} {S : St} (H : DeR h x S) (f : fro h h' (x + 4) (x + 304)) (hs : ScR h' x) : DeR h' x S := by
  obtain ⟨B, c1, c2, c3, c4, c5, c6, c7, c8⟩ := H
  have e : hiv h' x = hiv h x := (f.2.2.2 x (by omega)).1
  refine ⟨B.fro f (by omega) (by omega), fun s hs => (c1 s hs).ag (f.ag (by have := kp_rng (x := x) hs; omega)), fun c hc => ?_, by rw [e]; exact c3, by rw [e]; exact c4, by rw [e]; exact c5, fun hw => by rw [e]; exact c6 hw, fun i r hr => ⟨(c7 i r hr).1, (c7 i r hr).2.ag (f.ag (by omega))⟩, hs⟩
  rw [(f.2.2.2 (x + 304 + 49 * c) (by omega)).1]
  exact c2 c hc
/-- a configuration alone is another -/
theorem DeR.cf {h h' : aH} {x s : Nat} {S : St} {c : Cfg} (H : DeR h x S) (hs : s < 33) (f : fro h h' (kp x s) (kp x s + 48)) (C : CfC h' (kp x s) c) : DeR h' x (sCf S s c) := by
  obtain ⟨B, c1, c2, c3, c4, c5, c6, c7, c8⟩ := H
  have hr := kp_rng (x := x) hs
  have e : hiv h' x = hiv h x := (f.2.2.2 x (by omega)).1
  refine ⟨B.fro f (by omega) (fun c hc => kp_ca hs hc), fun t ht => ?_, fun c hc => ?_, by rw [e]; exact c3, by rw [e]; exact c4, by rw [e]; exact c5, fun hw => by rw [e]; exact c6 hw, fun i r hr => ⟨(c7 i r hr).1, (c7 i r hr).2.ag (f.ag (by omega))⟩, c8.ag (f.ag (by omega))⟩
  · show CfC h' _ (if t = s then c else S.1 t)
    split
    · rename_i hts
      rw [hts]
      exact C
    · rename_i hts
      exact (c1 t ht).ag (f.ag (by have := kp_ne (x := x) hs ht (fun h => hts h.symm); omega))
  · rw [(f.2.2.2 (x + 304 + 49 * c) (kp_ca hs hc)).1]
    exact c2 c hc
theorem DeR.ag {h h' : aH} {x : Nat} {S : St} (H : DeR h x S) (f : agr h h' x (x + 1899)) : DeR h' x S := by
  obtain ⟨B, c1, c2, c3, c4, c5, c6, c7, c8⟩ := H
  obtain ⟨a1, a2, a3, a4, a5, a6, a7, a8, a9, b0, b1, b2, b3⟩ := B
  have e : hiv h' x = hiv h x := (f.2 x (by omega) (by omega)).1
  have r : ∀ y, y < 1899 → hrf h' (x + y) = hrf h (x + y) := fun y hy => (f.2 (x + y) (by omega) (by omega)).2
  have r0 : hrf h' x = hrf h x := (f.2 x (by omega) (by omega)).2
  refine ⟨⟨by rw [f.1]; exact a1, by rw [r0]; exact a2, by rw [f.1]; exact a3, by rw [r0]; exact a4, by rw [f.1]; exact a5, by rw [r0]; exact a6, by rw [f.1]; exact a7, by rw [r0]; exact a8, by rw [r0]; exact a9, by rw [r0]; exact b0, fun i hi => ?_, fun i hi => by rw [r 2 (by omega)]; exact b2 i hi, fun i hi => by rw [r 3 (by omega), f.1]; exact b3 i hi⟩, fun s hs => (c1 s hs).ag (f.up (by have := kp_rng (x := x) hs; omega) (by have := kp_rng (x := x) hs; omega)), fun c hc => ?_, by rw [e]; exact c3, by rw [e]; exact c4, by rw [e]; exact c5, fun hw => by rw [e]; exact c6 hw, fun i r hr => ⟨(c7 i r hr).1, (c7 i r hr).2.ag (f.up (by omega) (by have := (c7 i r hr).1; omega))⟩, c8.ag (f.up (by omega) (by omega))⟩
  · rw [r 1 (by omega), f.1, (f.2 (x + 304 + 49 * i) (by omega) (by omega)).2]
    exact b1 i hi
  · rw [(f.2 (x + 304 + 49 * c) (by omega) (by omega)).1]
    exact c2 c hc
section XF
variable {h : aH} {Q : aR → Prop} {x : Nat} {S : St}
theorem x_needIndex {i b : Int} (k1 : 0 ≤ i ∧ i < b → Q (.inl none, h)) (k0 : ¬ (0 ≤ i ∧ i < b) → Q (.inr 1, hth h)) : amT mX7_needIndex 0 [vI i, vI b] [] h Q := by
  refine kr_iload_n (pc := 0) dX7_needIndex_0 rfl ?_
  refine kr_if_lt (pc := 1) dX7_needIndex_1 rfl (fun h1 => ?_) (fun h1 => ?_)
  · refine t_thr (pc := 9) dX7_needIndex_9 dX7_needIndex_12 dX7_needIndex_13 dX7_needIndex_15 dX7_needIndex_18 rfl (Nat.le_of_ble_eq_true rfl) (by decide) (by decide) rfl ?_
    exact k0 (by omega)
  · refine kr_iload_n (pc := 4) dX7_needIndex_4 rfl ?_
    refine kr_iload_n (pc := 5) dX7_needIndex_5 rfl ?_
    refine kr_icmp_lt (pc := 6) dX7_needIndex_6 rfl (fun h6 => ?_) (fun h6 => ?_)
    · refine kr_return (d0 := ()) (pc := 19) dX7_needIndex_19 rfl ?_
      exact k1 (by omega)
    · refine t_thr (pc := 9) dX7_needIndex_9 dX7_needIndex_12 dX7_needIndex_13 dX7_needIndex_15 dX7_needIndex_18 rfl (Nat.le_of_ble_eq_true rfl) (by decide) (by decide) rfl ?_
      exact k0 (by omega)
theorem x_needArg {i lo hi : Int} (k1 : lo ≤ i ∧ i ≤ hi → Q (.inl none, h)) (k0 : ¬ (lo ≤ i ∧ i ≤ hi) → Q (.inr 3, hth h)) : amT mX7_needArgument 0 [vI i, vI lo, vI hi] [] h Q := by
  refine kr_iload_n (pc := 0) dX7_needArgument_0 rfl ?_
  refine kr_iload_n (pc := 1) dX7_needArgument_1 rfl ?_
  refine kr_icmp_lt (pc := 2) dX7_needArgument_2 rfl (fun h2 => ?_) (fun h2 => ?_)
  · refine t_thr (pc := 10) dX7_needArgument_10 dX7_needArgument_13 dX7_needArgument_14 dX7_needArgument_16 dX7_needArgument_19 rfl (Nat.le_of_ble_eq_true rfl) (by decide) (by decide) rfl ?_
    exact k0 (by omega)
  · refine kr_iload_n (pc := 5) dX7_needArgument_5 rfl ?_
    refine kr_iload_n (pc := 6) dX7_needArgument_6 rfl ?_
    refine kr_icmp_le (pc := 7) dX7_needArgument_7 rfl (fun h7 => ?_) (fun h7 => ?_)
    · refine kr_return (d0 := ()) (pc := 20) dX7_needArgument_20 rfl ?_
      exact k1 (by omega)
    · refine t_thr (pc := 10) dX7_needArgument_10 dX7_needArgument_13 dX7_needArgument_14 dX7_needArgument_16 dX7_needArgument_19 rfl (Nat.le_of_ble_eq_true rfl) (by decide) (by decide) rfl ?_
      exact k0 (by omega)
theorem x_needName {c s y : Int} (k1 : ((0 ≤ c ∧ c ≤ 2) ∧ (0 ≤ s ∧ s ≤ 2) ∧ 0 ≤ y ∧ y ≤ 9) → Q (.inl none, h)) (k0 : ¬ ((0 ≤ c ∧ c ≤ 2) ∧ (0 ≤ s ∧ s ≤ 2) ∧ 0 ≤ y ∧ y ≤ 9) → Q (.inr 1, hth h)) : amT mX7_needEntryName 0 [vI c, vI s, vI y] [] h Q := by
  refine kr_iload_n (pc := 0) dX7_needEntryName_0 rfl ?_
  refine kr_iconst (pc := 1) dX7_needEntryName_1 (by decide) ?_
  refine kr_s2 (pc := 2) dX7_needEntryName_2 rfl rfl (Nat.le_of_ble_eq_true rfl) rfl rfl (x_needIndex (fun c2 => ?_) (fun c2 => ?_))
  · show amT _ _ _ _ _ _
    refine kr_iload_n (pc := 5) dX7_needEntryName_5 rfl ?_
    refine kr_iconst (pc := 6) dX7_needEntryName_6 (by decide) ?_
    refine kr_s2 (pc := 7) dX7_needEntryName_7 rfl rfl (Nat.le_of_ble_eq_true rfl) rfl rfl (x_needIndex (fun c7 => ?_) (fun c7 => ?_))
    · show amT _ _ _ _ _ _
      refine kr_iload_n (pc := 10) dX7_needEntryName_10 rfl ?_
      refine kr_bipush (pc := 11) dX7_needEntryName_11 (by decide) ?_
      refine kr_s2 (pc := 13) dX7_needEntryName_13 rfl rfl (Nat.le_of_ble_eq_true rfl) rfl rfl (x_needIndex (fun c13 => ?_) (fun c13 => ?_))
      · show amT _ _ _ _ _ _
        refine kr_return (d0 := ()) (pc := 16) dX7_needEntryName_16 rfl ?_
        exact k1 (by omega)
      · show Q (.inr _, _)
        exact k0 (by omega)
    · show Q (.inr _, _)
      exact k0 (by omega)
  · show Q (.inr _, _)
    exact k0 (by omega)
theorem x_openC {c : Int} (H : DeR h x S) (hc : 0 ≤ c ∧ c ≤ 2) (k1 : ¬ S.2.1 c.toNat = 0 → Q (.inl (some (vR (kp x c.toNat))), h)) (k0 : S.2.1 c.toNat = 0 → Q (.inr 2, hth h)) : amT mX7_openConfiguration 0 [vR x, vI c] [] h Q := by
  obtain ⟨⟨a1, a2, a3, a4, a5, a6, a7, a8, a9, b0, b1, b2, b3⟩, c1, c2, _⟩ := id H
  obtain ⟨x1, x2, x3⟩ := b1 c.toNat (by omega)
  have x4 := (c2 c.toNat (by omega)).1
  refine kr_aload_n (pc := 0) dX7_openConfiguration_0 rfl ?_
  refine kr_getr (pc := 1) dX7_openConfiguration_1 rfl rfl (by assumption) (by assumption) ?_
  refine kr_iload_n (pc := 4) dX7_openConfiguration_4 rfl ?_
  refine kr_aald (pc := 5) dX7_openConfiguration_5 (by assumption) (by decide) (by omega) (by omega) (by assumption) ?_
  refine kr_astore_n (pc := 6) dX7_openConfiguration_6 (show 2 ≤ _ from by simp) (by decide) ?_
  simp only [stl, List.tail_cons, List.tail_nil]
  refine kr_aload_n (pc := 7) dX7_openConfiguration_7 rfl ?_
  refine kr_geti (pc := 8) dX7_openConfiguration_8 rfl (by decide) (by assumption) x4 ?_
  refine kr_if_ne (pc := 11) dX7_openConfiguration_11 rfl (fun h11 => ?_) (fun h11 => ?_)
  · refine kr_aload_n (pc := 24) dX7_openConfiguration_24 rfl ?_
    refine kr_getr (pc := 25) dX7_openConfiguration_25 rfl rfl (by assumption) (by assumption) ?_
    refine kr_areturn (pc := 28) dX7_openConfiguration_28 rfl ?_
    exact k1 h11
  · refine t_thr (pc := 14) dX7_openConfiguration_14 dX7_openConfiguration_17 dX7_openConfiguration_18 dX7_openConfiguration_20 dX7_openConfiguration_23 rfl (Nat.le_of_ble_eq_true rfl) (by decide) (by decide) rfl ?_
    exact k0 h11
theorem x_confOf {w : Int} (H : DeR h x S) (HS : okS S) (hw : w < 2147483648) (k1 : ∀ n : Nat, slt S w = n → n < 33 → Q (.inl (some (vR (kp x n))), h)) (k0 : slt S w = -1 → Q (.inr 1, hth h)) : amT mX7_configurationOf 0 [vR x, vI w] [] h Q := by
  obtain ⟨⟨a1, a2, a3, a4, a5, a6, a7, a8, a9, b0, b1, b2, b3⟩, c1, c2, c3, _⟩ := id H
  have hb := HS.2.2.1
  have ca : 0 ≤ w ∧ w < 3 → hrf h (x + 1) w.toNat = some (x + 304 + 49 * w.toNat) ∧ hsh h (x + 304 + 49 * w.toNat) = (1, 3) ∧ hrf h (x + 304 + 49 * w.toNat) 2 = some (kp x w.toNat) ∧ hiv h (x + 304 + 49 * w.toNat) 0 = S.2.1 w.toNat ∧ (S.2.1 w.toNat = 0 ∨ S.2.1 w.toNat = 1) := fun hw =>
    ⟨(b1 w.toNat (by omega)).1, (b1 w.toNat (by omega)).2.1, (b1 w.toNat (by omega)).2.2, (c2 w.toNat (by omega)).1, (HS.2.1 w.toNat (by omega)).1⟩
  refine kr_iload_n (pc := 0) dX7_configurationOf_0 rfl ?_
  refine kr_bipush (pc := 1) dX7_configurationOf_1 (by decide) ?_
  refine kr_icmp_lt (pc := 3) dX7_configurationOf_3 rfl (fun h3 => ?_) (fun h3 => ?_)
  · refine kr_iload_n (pc := 27) dX7_configurationOf_27 rfl ?_
    refine kr_iconst (pc := 28) dX7_configurationOf_28 (by decide) ?_
    refine kr_s2 (pc := 29) dX7_configurationOf_29 rfl rfl (Nat.le_of_ble_eq_true rfl) rfl rfl (x_needIndex (fun c29 => ?_) (fun c29 => ?_))
    · show amT _ _ _ _ _ _
      obtain ⟨x1, x2, x3, x4, x5⟩ := ca c29
      refine kr_aload_n (pc := 32) dX7_configurationOf_32 rfl ?_
      refine kr_getr (pc := 33) dX7_configurationOf_33 rfl rfl (by assumption) (by assumption) ?_
      refine kr_iload_n (pc := 36) dX7_configurationOf_36 rfl ?_
      refine kr_aald (pc := 37) dX7_configurationOf_37 (by assumption) (by decide) (by omega) (by omega) (by assumption) ?_
      refine kr_geti (pc := 38) dX7_configurationOf_38 rfl (by decide) (by assumption) (by first | exact c3 | exact x4) ?_
      refine kr_if_ne (pc := 41) dX7_configurationOf_41 rfl (fun h41 => ?_) (fun h41 => ?_)
      · refine kr_aload_n (pc := 54) dX7_configurationOf_54 rfl ?_
        refine kr_getr (pc := 55) dX7_configurationOf_55 rfl rfl (by assumption) (by assumption) ?_
        refine kr_iload_n (pc := 58) dX7_configurationOf_58 rfl ?_
        refine kr_aald (pc := 59) dX7_configurationOf_59 (by assumption) (by decide) (by omega) (by omega) (by assumption) ?_
        refine kr_getr (pc := 60) dX7_configurationOf_60 rfl rfl (by assumption) (by assumption) ?_
        refine kr_areturn (pc := 63) dX7_configurationOf_63 rfl ?_
        exact k1 w.toNat (by unfold slt; rw [if_pos (by omega), if_pos (by omega)]; omega) (by omega)
      · refine t_thr (pc := 44) dX7_configurationOf_44 dX7_configurationOf_47 dX7_configurationOf_48 dX7_configurationOf_50 dX7_configurationOf_53 rfl (Nat.le_of_ble_eq_true rfl) (by decide) (by decide) rfl ?_
        exact k0 (by unfold slt; rw [if_pos (by omega), if_neg (by omega)])
    · show Q (.inr _, _)
      exact k0 (by unfold slt; rw [if_neg (by omega), if_neg (by omega)])
  · refine kr_iload_n (pc := 6) dX7_configurationOf_6 rfl ?_
    refine kr_bipush (pc := 7) dX7_configurationOf_7 (by decide) ?_
    refine kr_isub (pc := 9) dX7_configurationOf_9 ⟨by omega, by omega⟩ ?_
    refine kr_aload_n (pc := 10) dX7_configurationOf_10 rfl ?_
    refine kr_geti (pc := 11) dX7_configurationOf_11 rfl (by decide) (by assumption) (by first | exact c3 | exact x4) ?_
    refine kr_s2 (pc := 14) dX7_configurationOf_14 rfl rfl (Nat.le_of_ble_eq_true rfl) rfl rfl (x_needIndex (fun c14 => ?_) (fun c14 => ?_))
    · show amT _ _ _ _ _ _
      have y1 : hrf h (x + 2) (w - 10).toNat = some (kp x (3 + (w - 10).toNat)) := b2 _ (by omega)
      refine kr_aload_n (pc := 17) dX7_configurationOf_17 rfl ?_
      refine kr_getr (pc := 18) dX7_configurationOf_18 rfl rfl (by assumption) (by assumption) ?_
      refine kr_iload_n (pc := 21) dX7_configurationOf_21 rfl ?_
      refine kr_bipush (pc := 22) dX7_configurationOf_22 (by decide) ?_
      refine kr_isub (pc := 24) dX7_configurationOf_24 ⟨by omega, by omega⟩ ?_
      refine kr_aald (pc := 25) dX7_configurationOf_25 (by assumption) (by decide) (by omega) (by omega) (by assumption) ?_
      refine kr_areturn (pc := 26) dX7_configurationOf_26 rfl ?_
      exact k1 (3 + (w - 10).toNat) (by unfold slt; rw [if_neg (by omega), if_pos (by omega)]; omega) (by omega)
    · show Q (.inr _, _)
      exact k0 (by unfold slt; rw [if_neg (by omega), if_neg (by omega)])
theorem x_placeE {σ : Nat} {l : List Ent} {y : Int} (H : SeC h σ l) (k1 : kix l y ≠ -1 → Q (.inl (some (vI (kix l y))), h)) (k0 : kix l y = -1 → Q (.inr 2, hth h)) : amT mX7_placeOfEntry 0 [vR σ, vI y] [] h Q := by
  obtain ⟨p, ⟨w0, _⟩, _⟩ := id H
  refine kr_aload_n (pc := 0) dX7_placeOfEntry_0 rfl ?_
  refine kr_iload_n (pc := 1) dX7_placeOfEntry_1 rfl ?_
  refine kr_v1 (pc := 2) dX7_placeOfEntry_2 rfl rfl (by assumption) (Nat.le_of_ble_eq_true rfl) rfl (x_placeOf H ?_)
  show amT _ _ _ _ _ _
  refine kr_istore_n (pc := 5) dX7_placeOfEntry_5 (show 2 ≤ _ from by simp) (by decide) ?_
  simp only [stl, List.tail_cons, List.tail_nil]
  refine kr_iload_n (pc := 6) dX7_placeOfEntry_6 rfl ?_
  refine kr_iconst (pc := 7) dX7_placeOfEntry_7 (by decide) ?_
  refine kr_icmp_ne (pc := 8) dX7_placeOfEntry_8 rfl (fun h8 => ?_) (fun h8 => ?_)
  · refine kr_iload_n (pc := 21) dX7_placeOfEntry_21 rfl ?_
    refine kr_ireturn (pc := 22) dX7_placeOfEntry_22 rfl ?_
    exact k1 h8
  · refine t_thr (pc := 11) dX7_placeOfEntry_11 dX7_placeOfEntry_14 dX7_placeOfEntry_15 dX7_placeOfEntry_17 dX7_placeOfEntry_20 rfl (Nat.le_of_ble_eq_true rfl) (by decide) (by decide) rfl ?_
    exact k0 h8
end XF
