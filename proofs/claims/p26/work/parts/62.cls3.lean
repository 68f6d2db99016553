section X3
variable {h : aH} {Q : aR → Prop} {σ : Nat} {l : List Ent}
theorem x_shift {p : Nat → Nat} {n a b : Nat} (H : SeB h σ p) (hn : hiv h σ 0 = n) (hn6 : n ≤ 6) (ha : a < n) (hb : b < n) (k : ∀ f, (∀ i, i < 6 → f i = some (σ + 2 + 2 * shP p a b i)) → Q (.inl none, sr h (σ + 1) f)) : amT mX6_shift 0 [vR σ, vI (a : Int), vI (b : Int)] [] h Q := by
  obtain ⟨a1, a2, a3, a4, a5, a6⟩ := id H
  have ra : hrf h (σ + 1) (a : Int).toNat = some (σ + 2 + 2 * p a) := (a5 a (by omega)).1
  have fin : ∀ (i : Int) (f : Nat → Option Nat), (∀ j, j < 6 → j ≠ b → f j = some (σ + 2 + 2 * shP p a b j)) → amT mX6_shift 86 [vR σ, vI (a : Int), vI (b : Int), vR (σ + 2 + 2 * p a), vI i] [] (sr h (σ + 1) f) Q := by
    intro i f hf
    have w1 : hrf (sr h (σ + 1) f) σ 1 = some (σ + 1) := (hrf_sr_ne (by omega)).trans a2
    have w2 : hsh (sr h (σ + 1) f) (σ + 2 + 2 * p a) = (5, 2) := (a4 (p a) (a5 a (by omega)).2).1
    refine kr_aload_n (pc := 86) dX6_shift_86 rfl ?_
    refine kr_getr (pc := 87) dX6_shift_87 rfl rfl (by assumption) (by assumption) ?_
    refine kr_iload_n (pc := 90) dX6_shift_90 rfl ?_
    refine kr_aload_n (pc := 91) dX6_shift_91 rfl ?_
    refine kr_aast (pc := 92) dX6_shift_92 (by assumption) (by decide) (by assumption) (by omega) (by omega) ?_
    rw [hwr_sr]
    refine kr_return (d0 := ()) (pc := 93) dX6_shift_93 rfl ?_
    refine k _ fun j hj => ?_
    by_cases h : j = b
    · rw [if_pos (by omega), h]
      unfold shP
      rw [if_pos rfl]
    · rw [if_neg (by omega)]
      exact hf j hj h
  have down : ∀ (d i : Nat) (f : Nat → Option Nat), b + d = i → i ≤ a → (∀ j, j < 6 → f j = some (σ + 2 + 2 * (if i < j ∧ j ≤ a then p (j - 1) else p j))) → amT mX6_shift 58 [vR σ, vI (a : Int), vI (b : Int), vR (σ + 2 + 2 * p a), vI (i : Int)] [] (sr h (σ + 1) f) Q := by
    intro d
    induction d with
    | zero =>
      intro i f hi hia hf
      refine kr_iload (pc := 58) dX6_shift_58 rfl ?_
      refine kr_iload_n (pc := 60) dX6_shift_60 rfl ?_
      refine kr_icmp_le (pc := 61) dX6_shift_61 rfl (fun _ => ?_) (fun h => by omega)
      refine fin _ f fun j hj hjb => ?_
      rw [hf j hj]
      unfold shP
      rw [if_neg hjb]
      by_cases h1 : b < j ∧ j ≤ a
      · rw [if_pos (by omega), if_neg (by omega), if_pos h1]
      · rw [if_neg (by omega), if_neg (by omega), if_neg h1]
    | succ d ih =>
      intro i f hi hia hf
      have w1 : hrf (sr h (σ + 1) f) σ 1 = some (σ + 1) := (hrf_sr_ne (by omega)).trans a2
      have w2 : hrf (sr h (σ + 1) f) (σ + 1) ((i : Int) - 1).toNat = some (σ + 2 + 2 * p (i - 1)) := by
        rw [hrf_sr, show ((i : Int) - 1).toNat = i - 1 by omega, hf _ (by omega), if_neg (by omega)]
      have w3 : hsh (sr h (σ + 1) f) (σ + 2 + 2 * p (i - 1)) = (5, 2) := (a4 _ (a5 (i - 1) (by omega)).2).1
      refine kr_iload (pc := 58) dX6_shift_58 rfl ?_
      refine kr_iload_n (pc := 60) dX6_shift_60 rfl ?_
      refine kr_icmp_le (pc := 61) dX6_shift_61 rfl (fun h => by omega) (fun _ => ?_)
      refine kr_aload_n (pc := 64) dX6_shift_64 rfl ?_
      refine kr_getr (pc := 65) dX6_shift_65 rfl rfl (by assumption) (by assumption) ?_
      refine kr_iload (pc := 68) dX6_shift_68 rfl ?_
      refine kr_aload_n (pc := 70) dX6_shift_70 rfl ?_
      refine kr_getr (pc := 71) dX6_shift_71 rfl rfl (by assumption) (by assumption) ?_
      refine kr_iload (pc := 74) dX6_shift_74 rfl ?_
      refine kr_iconst (pc := 76) dX6_shift_76 (by decide) ?_
      refine kr_isub (pc := 77) dX6_shift_77 ⟨by omega, by omega⟩ ?_
      refine kr_aald (pc := 78) dX6_shift_78 (by assumption) (by decide) (by omega) (by omega) (by assumption) ?_
      refine kr_aast (pc := 79) dX6_shift_79 (by assumption) (by decide) (by assumption) (by omega) (by omega) ?_
      rw [hwr_sr]
      refine kr_iinc (pc := 80) dX6_shift_80 rfl ⟨⟨by omega, by omega⟩, by decide, by decide⟩ ?_
      simp only [stl, List.tail_cons, List.tail_nil]
      refine kr_goto (pc := 83) dX6_shift_83 rfl ?_
      rw [show (i : Int) + -1 = ((i - 1 : Nat) : Int) by omega]
      refine ih (i - 1) _ (by omega) (by omega) fun j hj => ?_
      by_cases h : j = i
      · rw [if_pos (by omega), if_pos (by omega), h]
      · rw [if_neg (by omega), hf j hj]
        by_cases h1 : i < j ∧ j ≤ a
        · rw [if_pos h1, if_pos (by omega)]
        · rw [if_neg h1, if_neg (by omega)]
  have mid : ∀ (i : Int) (f : Nat → Option Nat), (a ≤ b → ∀ j, j < 6 → f j = some (σ + 2 + 2 * (if a ≤ j ∧ j < b then p (j + 1) else p j))) → (b < a → ∀ j, j < 6 → f j = some (σ + 2 + 2 * p j)) → amT mX6_shift 55 [vR σ, vI (a : Int), vI (b : Int), vR (σ + 2 + 2 * p a), vI i] [] (sr h (σ + 1) f) Q := by
    intro i f h1 h2
    refine kr_iload_n (pc := 55) dX6_shift_55 rfl ?_
    refine kr_istore (pc := 56) dX6_shift_56 (show 4 ≤ _ from by simp) (by decide) ?_
    simp only [stl, List.tail_cons, List.tail_nil]
    by_cases hab : a ≤ b
    · refine kr_iload (pc := 58) dX6_shift_58 rfl ?_
      refine kr_iload_n (pc := 60) dX6_shift_60 rfl ?_
      refine kr_icmp_le (pc := 61) dX6_shift_61 rfl (fun _ => ?_) (fun h => by omega)
      refine fin _ f fun j hj hjb => ?_
      rw [h1 hab j hj]
      unfold shP
      rw [if_neg hjb]
      by_cases g1 : a ≤ j ∧ j < b
      · rw [if_pos g1, if_pos g1]
      · rw [if_neg g1, if_neg g1, if_neg (by omega)]
    · refine down (a - b) a f (by omega) (Nat.le_refl _) fun j hj => ?_
      rw [h2 (by omega) j hj, if_neg (by omega)]
  have up : ∀ (d i : Nat) (f : Nat → Option Nat), i + d = b → a ≤ i → (∀ j, j < 6 → f j = some (σ + 2 + 2 * (if a ≤ j ∧ j < i then p (j + 1) else p j))) → amT mX6_shift 27 [vR σ, vI (a : Int), vI (b : Int), vR (σ + 2 + 2 * p a), vI (i : Int)] [] (sr h (σ + 1) f) Q := by
    intro d
    induction d with
    | zero =>
      intro i f hi hia hf
      refine kr_iload (pc := 27) dX6_shift_27 rfl ?_
      refine kr_iload_n (pc := 29) dX6_shift_29 rfl ?_
      refine kr_icmp_ge (pc := 30) dX6_shift_30 rfl (fun _ => ?_) (fun h => by omega)
      refine mid _ f (fun _ j hj => ?_) (fun h => by omega)
      rw [hf j hj, show i = b by omega]
    | succ d ih =>
      intro i f hi hia hf
      have w1 : hrf (sr h (σ + 1) f) σ 1 = some (σ + 1) := (hrf_sr_ne (by omega)).trans a2
      have w2 : hrf (sr h (σ + 1) f) (σ + 1) ((i : Int) + 1).toNat = some (σ + 2 + 2 * p (i + 1)) := by
        rw [hrf_sr, show ((i : Int) + 1).toNat = i + 1 by omega, hf _ (by omega), if_neg (by omega)]
      have w3 : hsh (sr h (σ + 1) f) (σ + 2 + 2 * p (i + 1)) = (5, 2) := (a4 _ (a5 (i + 1) (by omega)).2).1
      refine kr_iload (pc := 27) dX6_shift_27 rfl ?_
      refine kr_iload_n (pc := 29) dX6_shift_29 rfl ?_
      refine kr_icmp_ge (pc := 30) dX6_shift_30 rfl (fun h => by omega) (fun _ => ?_)
      refine kr_aload_n (pc := 33) dX6_shift_33 rfl ?_
      refine kr_getr (pc := 34) dX6_shift_34 rfl rfl (by assumption) (by assumption) ?_
      refine kr_iload (pc := 37) dX6_shift_37 rfl ?_
      refine kr_aload_n (pc := 39) dX6_shift_39 rfl ?_
      refine kr_getr (pc := 40) dX6_shift_40 rfl rfl (by assumption) (by assumption) ?_
      refine kr_iload (pc := 43) dX6_shift_43 rfl ?_
      refine kr_iconst (pc := 45) dX6_shift_45 (by decide) ?_
      refine kr_iadd (pc := 46) dX6_shift_46 ⟨by omega, by omega⟩ ?_
      refine kr_aald (pc := 47) dX6_shift_47 (by assumption) (by decide) (by omega) (by omega) (by assumption) ?_
      refine kr_aast (pc := 48) dX6_shift_48 (by assumption) (by decide) (by assumption) (by omega) (by omega) ?_
      rw [hwr_sr]
      refine kr_iinc (pc := 49) dX6_shift_49 rfl ⟨⟨by omega, by omega⟩, by decide, by decide⟩ ?_
      simp only [stl, List.tail_cons, List.tail_nil]
      refine kr_goto (pc := 52) dX6_shift_52 rfl ?_
      refine ih (i + 1) _ (by omega) (by omega) fun j hj => ?_
      by_cases h : j = i
      · rw [if_pos (by omega), if_pos (by omega), h]
      · rw [if_neg (by omega), hf j hj]
        by_cases h1 : a ≤ j ∧ j < i
        · rw [if_pos h1, if_pos (by omega)]
        · rw [if_neg h1, if_neg (by omega)]
  have start : amT mX6_shift 17 [vR σ, vI (a : Int), vI (b : Int)] [] h Q := by
    refine kr_aload_n (pc := 17) dX6_shift_17 rfl ?_
    refine kr_getr (pc := 18) dX6_shift_18 rfl rfl (by assumption) (by assumption) ?_
    refine kr_iload_n (pc := 21) dX6_shift_21 rfl ?_
    refine kr_aald (pc := 22) dX6_shift_22 (by assumption) (by decide) (by omega) (by omega) (by assumption) ?_
    refine kr_astore_n (pc := 23) dX6_shift_23 (show 3 ≤ _ from by simp) (by decide) ?_
    simp only [stl, List.tail_cons, List.tail_nil]
    refine kr_iload_n (pc := 24) dX6_shift_24 rfl ?_
    refine kr_istore (pc := 25) dX6_shift_25 (show 4 ≤ _ from by simp) (by decide) ?_
    simp only [stl, List.tail_cons, List.tail_nil]
    have e : h = sr h (σ + 1) (hrf h (σ + 1)) := sr_self.symm
    by_cases hab : a ≤ b
    · rw [e]
      refine up (b - a) a _ (by omega) (Nat.le_refl _) fun j hj => ?_
      rw [if_neg (by omega)]
      exact (a5 j hj).1
    · refine kr_iload (pc := 27) dX6_shift_27 rfl ?_
      refine kr_iload_n (pc := 29) dX6_shift_29 rfl ?_
      refine kr_icmp_ge (pc := 30) dX6_shift_30 rfl (fun _ => ?_) (fun h => by omega)
      rw [e]
      exact mid _ _ (fun h => absurd h hab) fun _ j hj => (a5 j hj).1
  refine kr_aload_n (pc := 0) dX6_shift_0 rfl ?_
  refine kr_iload_n (pc := 1) dX6_shift_1 rfl ?_
  refine kr_v1 (pc := 2) dX6_shift_2 rfl rfl (by assumption) (Nat.le_of_ble_eq_true rfl) rfl (x_hasPlace a1 hn (fun c2 => ?_) (fun c2 => ?_))
  · show amT _ _ _ _ _ _
    refine kr_if_eq (pc := 5) dX6_shift_5 rfl (fun h => absurd h (by decide)) (fun _ => ?_)
    refine kr_aload_n (pc := 8) dX6_shift_8 rfl ?_
    refine kr_iload_n (pc := 9) dX6_shift_9 rfl ?_
    refine kr_v1 (pc := 10) dX6_shift_10 rfl rfl (by assumption) (Nat.le_of_ble_eq_true rfl) rfl (x_hasPlace a1 hn (fun c10 => ?_) (fun c10 => ?_))
    · show amT _ _ _ _ _ _
      refine kr_if_ne (pc := 13) dX6_shift_13 rfl (fun _ => ?_) (fun h => absurd h (by decide))
      exact start
    · show amT _ _ _ _ _ _
      refine kr_if_ne (pc := 13) dX6_shift_13 rfl (fun h => absurd h (by decide)) (fun _ => ?_)
      refine kr_return (d0 := ()) (pc := 16) dX6_shift_16 rfl ?_
      exfalso
      omega
  · show amT _ _ _ _ _ _
    refine kr_if_eq (pc := 5) dX6_shift_5 rfl (fun _ => ?_) (fun h => absurd h (by decide))
    refine kr_return (d0 := ()) (pc := 16) dX6_shift_16 rfl ?_
    exfalso
    omega
theorem x_takeOut {a : Nat} (H : SeC h σ l) (ha : a < l.length) (k : ∀ h', fro h h' σ (σ + 14) → SeC h' σ (l.eraseIdx a) → Q (.inl none, h')) : amT mX6_takeOut 0 [vR σ, vI (a : Int)] [] h Q := by
  obtain ⟨p, B, b1, b2, b3⟩ := H
  obtain ⟨a1, a2, a3, a4, a5, a6⟩ := id B
  have hlen := List.length_eraseIdx_of_lt ha
  refine kr_aload_n (pc := 0) dX6_takeOut_0 rfl ?_
  refine kr_iload_n (pc := 1) dX6_takeOut_1 rfl ?_
  refine kr_v1 (pc := 2) dX6_takeOut_2 rfl rfl (by assumption) (Nat.le_of_ble_eq_true rfl) rfl (x_hasPlace a1 b1 (fun c2 => ?_) (fun c2 => by exfalso; omega))
  show amT _ _ _ _ _ _
  refine kr_if_eq (pc := 5) dX6_takeOut_5 rfl (fun h => absurd h (by decide)) (fun _ => ?_)
  refine kr_aload_n (pc := 8) dX6_takeOut_8 rfl ?_
  refine kr_iload_n (pc := 9) dX6_takeOut_9 rfl ?_
  refine kr_aload_n (pc := 10) dX6_takeOut_10 rfl ?_
  refine kr_geti (pc := 11) dX6_takeOut_11 rfl (by decide) (by assumption) (by first | exact b1 | exact w1) ?_
  refine kr_iconst (pc := 14) dX6_takeOut_14 (by decide) ?_
  refine kr_isub (pc := 15) dX6_takeOut_15 ⟨by omega, by omega⟩ ?_
  rw [show (l.length : Int) - 1 = ((l.length - 1 : Nat) : Int) by omega]
  refine kr_v2 (pc := 16) dX6_takeOut_16 rfl rfl (by assumption) (Nat.le_of_ble_eq_true rfl) rfl rfl (x_shift (a := a) (b := l.length - 1) B b1 b2 ha (by omega) fun f hf => ?_)
  show amT _ _ _ _ _ _
  have w1 : hiv (sr h (σ + 1) f) σ 0 = l.length := b1
  refine kr_aload_n (pc := 19) dX6_takeOut_19 rfl ?_
  refine kr_dup (pc := 20) dX6_takeOut_20 rfl ?_
  refine kr_geti (pc := 21) dX6_takeOut_21 rfl (by decide) (by assumption) (by first | exact b1 | exact w1) ?_
  refine kr_iconst (pc := 24) dX6_takeOut_24 (by decide) ?_
  refine kr_isub (pc := 25) dX6_takeOut_25 ⟨by omega, by omega⟩ ?_
  refine kr_puti (pc := 26) dX6_takeOut_26 rfl (Or.inl rfl) (by decide) (by assumption) ?_
  refine kr_return (d0 := ()) (pc := 29) dX6_takeOut_29 rfl ?_
  refine k _ ((sr_fro (by omega) (by omega)).tr (hwi_fro (by omega) (by omega))) ⟨shP p a (l.length - 1), ⟨a1, (hrf_sr_ne (by omega)).trans a2, a3, fun i hi => ?_, fun i hi => ⟨?_, ?_⟩, ?_⟩, ?_, ?_, fun i e he => ?_⟩
  · exact ((a4 i hi).ag ((sr_fro (by omega) (by omega)).ag (a := σ) (b := σ + 2) (by omega))).ag ((hwi_fro (a := σ) (b := σ + 1) (by omega) (by omega)).ag (by omega))
  · exact hrf_sr.trans (hf i hi)
  · exact shP_lt (n := 6) (by omega) (by omega) (fun i hi => (a5 i hi).2) i hi
  · exact shP_inj (n := 6) (by omega) (by omega) a6
  · rw [hlen]
    refine up2_at.trans ?_
    omega
  · omega
  · have hi := (List.getElem?_eq_some_iff.mp he).1
    have key : ∃ j, shP p a (l.length - 1) i = p j ∧ l[j]? = some e := by
      unfold shP
      rw [List.getElem?_eraseIdx] at he
      rw [if_neg (by omega)]
      split at he
      · rw [if_neg (by omega), if_neg (by omega)]
        exact ⟨i, rfl, he⟩
      · rw [if_pos (by omega)]
        exact ⟨i + 1, rfl, he⟩
    obtain ⟨j, e1, e2⟩ := key
    have hj := (List.getElem?_eq_some_iff.mp e2).1
    rw [e1]
    exact ((b3 j e e2).ag ((sr_fro (by omega) (by omega)).ag (a := σ) (b := σ + 2) (by omega))).ag ((hwi_fro (a := σ) (b := σ + 1) (by omega) (by omega)).ag (by omega))
theorem x_mv {a b : Nat} (H : SeC h σ l) (ha : a < l.length) (hb : b < l.length) (k : ∀ h', fro h h' σ (σ + 14) → SeC h' σ (mv l a b) → Q (.inl none, h')) : amT mX6_shift 0 [vR σ, vI (a : Int), vI (b : Int)] [] h Q := by
  obtain ⟨p, B, b1, b2, b3⟩ := H
  obtain ⟨a1, a2, a3, a4, a5, a6⟩ := id B
  refine x_shift B b1 b2 ha hb fun f hf => ?_
  refine k _ (sr_fro (by omega) (by omega)) ⟨shP p a b, ⟨a1, (hrf_sr_ne (by omega)).trans a2, a3, fun i hi => ?_, fun i hi => ⟨?_, ?_⟩, ?_⟩, ?_, ?_, fun i e he => ?_⟩
  · exact (a4 i hi).ag ((sr_fro (by omega) (by omega)).ag (a := σ) (b := σ + 2) (by omega))
  · exact hrf_sr.trans (hf i hi)
  · exact shP_lt (n := 6) (by omega) (by omega) (fun i hi => (a5 i hi).2) i hi
  · exact shP_inj (n := 6) (by omega) (by omega) a6
  · rw [mv_len ha hb]
    exact b1
  · rw [mv_len ha hb]
    exact b2
  · obtain ⟨j, e1, e2⟩ := mv_get (p := p) ha hb he
    rw [e1]
    exact (b3 j e e2).ag ((sr_fro (by omega) (by omega)).ag (a := σ) (b := σ + 2) (by omega))
end X3
