section X4
variable {h : aH} {Q : aR → Prop} {σ τ : Nat} {l : List Ent}
theorem x_insert {q d : Nat} {x : Ent} (H : SeC h σ l) (D : EnC h d x) (hd : d + 2 ≤ σ ∨ σ + 14 ≤ d) (h6 : l.length < 6) (hq : q ≤ l.length) (k : ∀ h', fro h h' σ (σ + 14) → SeC h' σ (l.insertIdx q x) → Q (.inl none, h')) : amT mX6_insert 0 [vR σ, vI (q : Int), vR d] [] h Q := by
  obtain ⟨p, B, b1, b2, b3⟩ := H
  obtain ⟨a1, a2, a3, a4, a5, a6⟩ := id B
  have hlen : (l.insertIdx q x).length = l.length + 1 := List.length_insertIdx_of_le_length hq _
  have B1 : SeB (hwi h σ 0 ((l.length : Int) + 1)) σ p := ⟨a1, a2, a3, a4, a5, a6⟩
  have c1 : hiv (hwi h σ 0 ((l.length : Int) + 1)) σ 0 = ((l.length + 1 : Nat) : Int) := up2_at
  have rest : ∀ f : Nat → Option Nat, (∀ i, i < 6 → f i = some (σ + 2 + 2 * shP p l.length q i)) → amT mX6_insert 42 [vR σ, vI (q : Int), vR d] [] (sr (hwi h σ 0 ((l.length : Int) + 1)) (σ + 1) f) Q := by
    intro f hf
    obtain ⟨g, hg⟩ : ∃ g, g = sr (hwi h σ 0 ((l.length : Int) + 1)) (σ + 1) f := ⟨_, rfl⟩
    have fr : fro h g σ (σ + 2) := by
      rw [hg]
      exact (hwi_fro (by omega) (by omega)).tr (sr_fro (by omega) (by omega))
    have w0 : hsh g σ = (7, 2) := by rw [hg]; exact a1
    have w1 : hrf g σ 1 = some (σ + 1) := by rw [hg]; exact (hrf_sr_ne (by omega)).trans a2
    have w2 : hsh g (σ + 1) = (22 + 4, 6) := by rw [hg]; exact a3
    have w3 : ∀ i, i < 6 → hrf g (σ + 1) i = some (σ + 2 + 2 * shP p l.length q i) := fun i hi => by rw [hg]; exact hrf_sr.trans (hf i hi)
    have w4 : hrf g (σ + 1) (q : Int).toNat = some (σ + 2 + 2 * p l.length) := by
      rw [show (q : Int).toNat = q by omega, w3 q (by omega)]
      unfold shP
      rw [if_pos rfl]
    have hpn := (a5 l.length (by omega)).2
    have EB : ∀ i, i < 6 → EnB g (σ + 2 + 2 * i) := fun i hi => (a4 i hi).ag (fr.ag (by omega))
    have w5 := (EB _ hpn).1
    have D1 : EnC g d x := D.ag (fr.ag (by omega))
    have cn : hiv g σ 0 = (l.length : Int) + 1 := by rw [hg]; exact up2_at
    rw [← hg]
    refine kr_aload_n (pc := 42) dX6_insert_42 rfl ?_
    refine kr_getr (pc := 43) dX6_insert_43 rfl rfl (by assumption) (by assumption) ?_
    refine kr_iload_n (pc := 46) dX6_insert_46 rfl ?_
    refine kr_aald (pc := 47) dX6_insert_47 (by assumption) (by decide) (by omega) (by omega) (by assumption) ?_
    refine kr_aload_n (pc := 48) dX6_insert_48 rfl ?_
    refine kr_v1 (pc := 49) dX6_insert_49 rfl rfl (by assumption) (Nat.le_of_ble_eq_true rfl) rfl (x_ecopy (EB _ hpn) D1 (by omega) fun h' fr' E' => ?_)
    show amT _ _ _ _ _ _
    refine kr_return (d0 := ()) (pc := 52) dX6_insert_52 rfl ?_
    refine k h' ((fr.up (by omega) (by omega)).tr (fr'.up (by omega) (by omega))) ⟨shP p l.length q, ⟨by rw [fr'.1]; exact w0, by rw [(fr'.2.2.2 σ (by omega)).2]; exact w1, by rw [fr'.1]; exact w2, fun i hi => ?_, fun i hi => ⟨?_, ?_⟩, ?_⟩, ?_, by omega, fun i e he => ?_⟩
    · unfold EnB
      rw [fr'.1]
      by_cases hi2 : i = p l.length
      · rw [hi2]
        have := E'.1
        unfold EnB at this
        rw [fr'.1] at this
        exact this
      · rw [(fr'.2.2.2 (σ + 2 + 2 * i) (by omega)).2]
        exact EB i hi
    · rw [(fr'.2.2.2 (σ + 1) (by omega)).2]
      exact w3 i hi
    · exact shP_lt (n := 6) (by omega) (by omega) (fun i hi => (a5 i hi).2) i hi
    · exact shP_inj (n := 6) (by omega) (by omega) a6
    · rw [(fr'.2.2.2 σ (by omega)).1, cn, hlen]
      rfl
    · rcases ins_get he with ⟨q1, q2⟩ | ⟨q1, q2⟩ | ⟨q1, q2⟩
      · have hi := (List.getElem?_eq_some_iff.mp q2).1
        have e1 : shP p l.length q i = p i := by
          unfold shP
          rw [if_neg (by omega), if_neg (by omega), if_neg (by omega)]
        have hne : p i ≠ p l.length := fun h => by have := a6 _ _ (by omega) (by omega) h; omega
        have := (a5 i (by omega)).2
        rw [e1]
        exact ((b3 i e q2).ag (fr.ag (by omega))).ag (fr'.ag (by omega))
      · have e1 : shP p l.length q i = p l.length := by
          unfold shP
          rw [if_pos q1]
        rw [e1, ← q2]
        exact E'
      · have hi := (List.getElem?_eq_some_iff.mp q2).1
        have e1 : shP p l.length q i = p (i - 1) := by
          unfold shP
          rw [if_neg (by omega), if_neg (by omega), if_pos (by omega)]
        have hne : p (i - 1) ≠ p l.length := fun h => by have := a6 _ _ (by omega) (by omega) h; omega
        have := (a5 (i - 1) (by omega)).2
        rw [e1]
        exact ((b3 (i - 1) e q2).ag (fr.ag (by omega))).ag (fr'.ag (by omega))
  refine kr_aload_n (pc := 0) dX6_insert_0 rfl ?_
  refine kr_geti (pc := 1) dX6_insert_1 rfl (by decide) (by assumption) (by first | exact b1 | exact c1) ?_
  refine kr_bipush (pc := 4) dX6_insert_4 (by decide) ?_
  refine kr_icmp_ge (pc := 6) dX6_insert_6 rfl (fun h6 => by exfalso; omega) (fun h6 => ?_)
  refine kr_iload_n (pc := 9) dX6_insert_9 rfl ?_
  refine kr_if_lt (pc := 10) dX6_insert_10 rfl (fun h10 => by exfalso; omega) (fun h10 => ?_)
  refine kr_iload_n (pc := 13) dX6_insert_13 rfl ?_
  refine kr_aload_n (pc := 14) dX6_insert_14 rfl ?_
  refine kr_geti (pc := 15) dX6_insert_15 rfl (by decide) (by assumption) (by first | exact b1 | exact c1) ?_
  refine kr_icmp_gt (pc := 18) dX6_insert_18 rfl (fun h18 => by exfalso; omega) (fun h18 => ?_)
  refine kr_aload_n (pc := 21) dX6_insert_21 rfl ?_
  refine kr_dup (pc := 22) dX6_insert_22 rfl ?_
  refine kr_geti (pc := 23) dX6_insert_23 rfl (by decide) (by assumption) (by first | exact b1 | exact c1) ?_
  refine kr_iconst (pc := 26) dX6_insert_26 (by decide) ?_
  refine kr_iadd (pc := 27) dX6_insert_27 ⟨by omega, by omega⟩ ?_
  refine kr_puti (pc := 28) dX6_insert_28 rfl (Or.inl rfl) (by decide) (by assumption) ?_
  refine kr_aload_n (pc := 31) dX6_insert_31 rfl ?_
  refine kr_aload_n (pc := 32) dX6_insert_32 rfl ?_
  refine kr_geti (pc := 33) dX6_insert_33 rfl (by decide) (by assumption) (by first | exact b1 | exact c1) ?_
  refine kr_iconst (pc := 36) dX6_insert_36 (by decide) ?_
  refine kr_isub (pc := 37) dX6_insert_37 ⟨by omega, by omega⟩ ?_
  refine kr_iload_n (pc := 38) dX6_insert_38 rfl ?_
  rw [show ((l.length + 1 : Nat) : Int) - 1 = ((l.length : Nat) : Int) by omega]
  refine kr_v2 (pc := 39) dX6_insert_39 rfl rfl (by assumption) (Nat.le_of_ble_eq_true rfl) rfl rfl (x_shift (a := l.length) (b := q) B1 c1 (by omega) (by omega) (by omega) fun f hf => ?_)
  show amT _ _ _ _ _ _
  exact rest f hf
theorem x_scopy {p : Nat → Nat} (B : SeB h σ p) (D : SeC h τ l) (hd : τ + 14 ≤ σ ∨ σ + 14 ≤ τ) (k : ∀ h', fro h h' σ (σ + 14) → SeC h' σ l → Q (.inl none, h')) : amT mX6_copyFrom 0 [vR σ, vR τ] [] h Q := by
  obtain ⟨q, Dq⟩ := D
  obtain ⟨a1, a2, a3, a4, a5, a6⟩ := id B
  have loop : ∀ (d i : Nat) (g : aH), i + d = l.length → fro h g σ (σ + 14) → SeB g σ p → hiv g σ 0 = l.length → (∀ (j : Nat) (e : Ent), j < i → l[j]? = some e → EnC g (σ + 2 + 2 * p j) e) → amT mX6_copyFrom 10 [vR σ, vR τ, vI (i : Int)] [] g Q := by
    intro d
    induction d with
    | zero =>
      intro i g hi fr Bg cg hj
      obtain ⟨w0, w1, w2, w3, w4, w5⟩ := id Bg
      refine kr_iload_n (pc := 10) dX6_copyFrom_10 rfl ?_
      refine kr_aload_n (pc := 11) dX6_copyFrom_11 rfl ?_
      refine kr_geti (pc := 12) dX6_copyFrom_12 rfl (by decide) (by assumption) (by first | exact cg) ?_
      refine kr_icmp_ge (pc := 15) dX6_copyFrom_15 rfl (fun _ => ?_) (fun h => by omega)
      refine kr_return (d0 := ()) (pc := 39) dX6_copyFrom_39 rfl ?_
      exact k g fr ⟨p, Bg, cg, Dq.2.2.1, fun j e he => hj j e (by have := (List.getElem?_eq_some_iff.mp he).1; omega) he⟩
    | succ d ih =>
      intro i g hi fr Bg cg hj
      obtain ⟨w0, w1, w2, w3, w4, w5⟩ := id Bg
      obtain ⟨Tg, t1, t2, t3⟩ := Dq.ag (fr.ag (by omega))
      obtain ⟨v0, v1, v2, v3, v4, v5⟩ := id Tg
      obtain ⟨e, he⟩ : ∃ e, l[i]? = some e := ⟨_, List.getElem?_eq_getElem (by omega)⟩
      obtain ⟨x1, x2⟩ := w4 i (by omega)
      obtain ⟨y1, y2⟩ := v4 i (by omega)
      have x3 : hrf g (σ + 1) (i : Int).toNat = some (σ + 2 + 2 * p i) := x1
      have y3 : hrf g (τ + 1) (i : Int).toNat = some (τ + 2 + 2 * q i) := y1
      have z1 := (w3 _ x2).1
      refine kr_iload_n (pc := 10) dX6_copyFrom_10 rfl ?_
      refine kr_aload_n (pc := 11) dX6_copyFrom_11 rfl ?_
      refine kr_geti (pc := 12) dX6_copyFrom_12 rfl (by decide) (by assumption) (by first | exact cg) ?_
      refine kr_icmp_ge (pc := 15) dX6_copyFrom_15 rfl (fun h => by omega) (fun _ => ?_)
      refine kr_aload_n (pc := 18) dX6_copyFrom_18 rfl ?_
      refine kr_getr (pc := 19) dX6_copyFrom_19 rfl rfl (by assumption) (by assumption) ?_
      refine kr_iload_n (pc := 22) dX6_copyFrom_22 rfl ?_
      refine kr_aald (pc := 23) dX6_copyFrom_23 (by assumption) (by decide) (by omega) (by omega) (by assumption) ?_
      refine kr_aload_n (pc := 24) dX6_copyFrom_24 rfl ?_
      refine kr_getr (pc := 25) dX6_copyFrom_25 rfl rfl (by assumption) (by assumption) ?_
      refine kr_iload_n (pc := 28) dX6_copyFrom_28 rfl ?_
      refine kr_aald (pc := 29) dX6_copyFrom_29 (by assumption) (by decide) (by omega) (by omega) (by assumption) ?_
      refine kr_v1 (pc := 30) dX6_copyFrom_30 rfl rfl (by assumption) (Nat.le_of_ble_eq_true rfl) rfl (x_ecopy (w3 _ x2) (t3 i e he) (by omega) fun h' fr' E' => ?_)
      show amT _ _ _ _ _ _
      refine kr_iinc (pc := 33) dX6_copyFrom_33 rfl ⟨⟨by omega, by omega⟩, by decide, by decide⟩ ?_
      simp only [stl, List.tail_cons, List.tail_nil]
      refine kr_goto (pc := 36) dX6_copyFrom_36 rfl ?_
      refine ih (i + 1) h' (by omega) (fr.tr (fr'.up (by omega) (by omega))) ⟨by rw [fr'.1]; exact w0, by rw [(fr'.2.2.2 σ (by omega)).2]; exact w1, by rw [fr'.1]; exact w2, fun j hj => ?_, fun j hj => by rw [(fr'.2.2.2 (σ + 1) (by omega)).2]; exact w4 j hj, w5⟩ (by rw [(fr'.2.2.2 σ (by omega)).1]; exact cg) fun j e' hji he' => ?_
      · by_cases hj2 : j = p i
        · rw [hj2]
          exact E'.1
        · exact (w3 j hj).ag (fr'.ag (by omega))
      · by_cases hj2 : j = i
        · subst hj2
          rw [he] at he'
          cases he'
          exact E'
        · have hne : p j ≠ p i := fun h => hj2 (w5 _ _ (by have := t2; omega) (by have := t2; omega) h)
          exact (hj j e' (by omega) he').ag (fr'.ag (by omega))
  obtain ⟨⟨v0, v1, v2, v3, v4, v5⟩, t1, t2, t3⟩ := id Dq
  refine kr_aload_n (pc := 0) dX6_copyFrom_0 rfl ?_
  refine kr_aload_n (pc := 1) dX6_copyFrom_1 rfl ?_
  refine kr_geti (pc := 2) dX6_copyFrom_2 rfl (by decide) (by assumption) t1 ?_
  refine kr_puti (pc := 5) dX6_copyFrom_5 rfl (Or.inl rfl) (by decide) (by assumption) ?_
  refine kr_iconst (pc := 8) dX6_copyFrom_8 (by decide) ?_
  refine kr_istore_n (pc := 9) dX6_copyFrom_9 (show 2 ≤ _ from by simp) (by decide) ?_
  simp only [stl, List.tail_cons, List.tail_nil]
  exact loop l.length 0 _ (by omega) (hwi_fro (by omega) (by omega)) ⟨a1, a2, a3, a4, a5, a6⟩ up2_at (fun j e hj => by omega)
theorem x_slike {l' : List Ent} (H : SeC h σ l) (D : SeC h τ l') (k1 : l = l' → Q (.inl (some (vI 1)), h)) (k0 : l ≠ l' → Q (.inl (some (vI 0)), h)) : amT mX6_isLike 0 [vR σ, vR τ] [] h Q := by
  obtain ⟨p, ⟨w0, w1, w2, w3, w4, w5⟩, c1, c2, c3⟩ := H
  obtain ⟨q, ⟨v0, v1, v2, v3, v4, v5⟩, t1, t2, t3⟩ := D
  have loop : ∀ (d i : Nat), l.length = l'.length → i + d = l.length → (∀ j, j < i → l[j]? = l'[j]?) → amT mX6_isLike 15 [vR σ, vR τ, vI (i : Int)] [] h Q := by
    intro d
    induction d with
    | zero =>
      intro i hl hi hj
      refine kr_iload_n (pc := 15) dX6_isLike_15 rfl ?_
      refine kr_aload_n (pc := 16) dX6_isLike_16 rfl ?_
      refine kr_geti (pc := 17) dX6_isLike_17 rfl (by decide) (by assumption) c1 ?_
      refine kr_icmp_ge (pc := 20) dX6_isLike_20 rfl (fun _ => ?_) (fun h => by omega)
      refine kr_iconst (pc := 49) dX6_isLike_49 (by decide) ?_
      refine kr_ireturn (pc := 50) dX6_isLike_50 rfl ?_
      refine k1 (List.ext_getElem? fun j => ?_)
      by_cases hji : j < i
      · exact hj j hji
      · rw [List.getElem?_eq_none (by omega), List.getElem?_eq_none (by omega)]
    | succ d ih =>
      intro i hl hi hj
      obtain ⟨e, he⟩ : ∃ e, l[i]? = some e := ⟨_, List.getElem?_eq_getElem (by omega)⟩
      obtain ⟨e', he'⟩ : ∃ e, l'[i]? = some e := ⟨_, List.getElem?_eq_getElem (by omega)⟩
      obtain ⟨x1, x2⟩ := w4 i (by omega)
      obtain ⟨y1, y2⟩ := v4 i (by omega)
      have x3 : hrf h (σ + 1) (i : Int).toNat = some (σ + 2 + 2 * p i) := x1
      have y3 : hrf h (τ + 1) (i : Int).toNat = some (τ + 2 + 2 * q i) := y1
      have z1 := (w3 _ x2).1
      refine kr_iload_n (pc := 15) dX6_isLike_15 rfl ?_
      refine kr_aload_n (pc := 16) dX6_isLike_16 rfl ?_
      refine kr_geti (pc := 17) dX6_isLike_17 rfl (by decide) (by assumption) c1 ?_
      refine kr_icmp_ge (pc := 20) dX6_isLike_20 rfl (fun h20 => by exfalso; omega) (fun h20 => ?_)
      refine kr_aload_n (pc := 23) dX6_isLike_23 rfl ?_
      refine kr_getr (pc := 24) dX6_isLike_24 rfl rfl (by assumption) (by assumption) ?_
      refine kr_iload_n (pc := 27) dX6_isLike_27 rfl ?_
      refine kr_aald (pc := 28) dX6_isLike_28 (by assumption) (by decide) (by omega) (by omega) (by assumption) ?_
      refine kr_aload_n (pc := 29) dX6_isLike_29 rfl ?_
      refine kr_getr (pc := 30) dX6_isLike_30 rfl rfl (by assumption) (by assumption) ?_
      refine kr_iload_n (pc := 33) dX6_isLike_33 rfl ?_
      refine kr_aald (pc := 34) dX6_isLike_34 (by assumption) (by decide) (by omega) (by omega) (by assumption) ?_
      refine kr_v1 (pc := 35) dX6_isLike_35 rfl rfl (by assumption) (Nat.le_of_ble_eq_true rfl) rfl (x_elike (c3 i e he) (t3 i e' he') (fun c35 => ?_) (fun c35 => ?_))
      · show amT _ _ _ _ _ _
        refine kr_if_ne (pc := 38) dX6_isLike_38 rfl (fun _ => ?_) (fun h => absurd h (by decide))
        refine kr_iinc (pc := 43) dX6_isLike_43 rfl ⟨⟨by omega, by omega⟩, by decide, by decide⟩ ?_
        simp only [stl, List.tail_cons, List.tail_nil]
        refine kr_goto (pc := 46) dX6_isLike_46 rfl ?_
        refine ih (i + 1) hl (by omega) fun j hji => ?_
        by_cases hj2 : j = i
        · rw [hj2, he, he', c35]
        · exact hj j (by omega)
      · show amT _ _ _ _ _ _
        refine kr_if_ne (pc := 38) dX6_isLike_38 rfl (fun h => absurd h (by decide)) (fun _ => ?_)
        refine kr_iconst (pc := 41) dX6_isLike_41 (by decide) ?_
        refine kr_ireturn (pc := 42) dX6_isLike_42 rfl ?_
        exact k0 (fun hll => by subst hll; rw [he] at he'; cases he'; exact c35 rfl)
  refine kr_aload_n (pc := 0) dX6_isLike_0 rfl ?_
  refine kr_geti (pc := 1) dX6_isLike_1 rfl (by decide) (by assumption) (by first | exact c1 | exact t1) ?_
  refine kr_aload_n (pc := 4) dX6_isLike_4 rfl ?_
  refine kr_geti (pc := 5) dX6_isLike_5 rfl (by decide) (by assumption) (by first | exact c1 | exact t1) ?_
  refine kr_icmp_eq (pc := 8) dX6_isLike_8 rfl (fun h8 => ?_) (fun h8 => ?_)
  · refine kr_iconst (pc := 13) dX6_isLike_13 (by decide) ?_
    refine kr_istore_n (pc := 14) dX6_isLike_14 (show 2 ≤ _ from by simp) (by decide) ?_
    simp only [stl, List.tail_cons, List.tail_nil]
    exact loop l.length 0 (by omega) (by omega) (fun j hj => by omega)
  · refine kr_iconst (pc := 11) dX6_isLike_11 (by decide) ?_
    refine kr_ireturn (pc := 12) dX6_isLike_12 rfl ?_
    exact k0 (fun hll => h8 (by rw [hll]))
end X4
