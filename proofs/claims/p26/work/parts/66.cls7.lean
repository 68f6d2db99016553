/-! EDITS of the class -/
def EdB (h : aH) (ε : Nat) : Prop := hsh h ε = (3, 6) ∧ hrf h ε 5 = some (ε + 1) ∧ EnB h (ε + 1)
def EdC (h : aH) (ε : Nat) (e : Edt) : Prop := EdB h ε ∧ hiv h ε 0 = e.1 ∧ hiv h ε 1 = e.2.1 ∧ hiv h ε 2 = e.2.2.1 ∧ hiv h ε 3 = e.2.2.2.1 ∧ hiv h ε 4 = e.2.2.2.2.1 ∧ (e.1 ≤ 2 → EnC h (ε + 1) e.2.2.2.2.2)
theorem EdB.ag {h h' : aH} {ε : Nat} (H : EdB h ε) (f : agr h h' ε (ε + 3)) : EdB h' ε := by
  refine ⟨by rw [f.1]; exact H.1, by rw [(f.2 ε (by omega) (by omega)).2]; exact H.2.1, H.2.2.ag (f.up (by omega) (by omega))⟩
theorem EdC.ag {h h' : aH} {ε : Nat} {e : Edt} (H : EdC h ε e) (f : agr h h' ε (ε + 3)) : EdC h' ε e := by
  obtain ⟨a0, a1, a2, a3, a4, a5, a6⟩ := H
  refine ⟨a0.ag f, ?_⟩
  rw [(f.2 ε (by omega) (by omega)).1]
  exact ⟨a1, a2, a3, a4, a5, fun hk => (a6 hk).ag (f.up (by omega) (by omega))⟩
theorem CfC.sec {h h' : aH} {κ i : Nat} {c : Cfg} {l : List Ent} (H : CfC h κ c) (hi : i < 3) (f : fro h h' (κ + 6 + 14 * i) (κ + 6 + 14 * i + 14)) (S : SeC h' (κ + 6 + 14 * i) l) : CfC h' κ (upS c i l) := by
  refine ⟨H.1.ag (f.ag (by omega)), fun j hj => ?_, fun g j hg hj => by rw [(f.2.2.2 (κ + 3 + g) (by omega)).1]; exact H.2.2 g j hg hj⟩
  show SeC h' _ (if j = i then l else c.1 j)
  split
  · rename_i hji
    rw [hji]
    exact S
  · exact (H.2.1 j hj).ag (f.ag (by omega))
theorem CfC.grp {h : aH} {κ g f : Nat} {c : Cfg} {v : Int} (H : CfC h κ c) (hg : g < 3) (hf : f < 2) : CfC (hwi h (κ + 3 + g) f v) κ (upG c g f v) := by
  refine ⟨⟨H.1.1, H.1.2.1, H.1.2.2.1, H.1.2.2.2.1, H.1.2.2.2.2.1, H.1.2.2.2.2.2.1, H.1.2.2.2.2.2.2⟩, fun j hj => (H.2.1 j hj).ag ((hwi_fro (a := κ + 3) (b := κ + 6) (by omega) (by omega)).ag (by omega)), fun a b ha hb => ?_⟩
  show (if κ + 3 + a = κ + 3 + g ∧ b = f then v else hiv h (κ + 3 + a) b) = if a = g ∧ b = f then v else c.2 a b
  by_cases hh : a = g ∧ b = f
  · rw [if_pos (by omega), if_pos hh]
  · rw [if_neg (by omega), if_neg hh]
    exact H.2.2 a b ha hb
theorem SeP.set {h : aH} {σ i : Nat} {l : List Ent} {p : Nat → Nat} {e : Ent} {j v : Int} (H : SeP h σ l p) (he : l[i]? = some e) (hj : 0 ≤ j ∧ j ≤ 2) : SeP (hwi h (σ + 2 + 2 * p i + 1) j.toNat v) σ (l.set i (ws e j v)) p := by
  obtain ⟨⟨a1, a2, a3, a4, a5, a6⟩, b1, b2, b3⟩ := H
  have hi := (List.getElem?_eq_some_iff.mp he).1
  refine ⟨⟨a1, a2, a3, a4, a5, a6⟩, ?_, by rw [List.length_set]; exact b2, fun q x hx => ?_⟩
  · rw [List.length_set]
    exact (if_neg (by omega)).trans b1
  · rw [List.getElem?_set] at hx
    split at hx
    · rename_i hq
      subst hq
      cases hx
      obtain ⟨c0, c1, c2, c3, c4⟩ := b3 i e he
      have g0 : hiv (hwi h (σ + 2 + 2 * p i + 1) j.toNat v) (σ + 2 + 2 * p i) 0 = e.1 := (if_neg (by omega)).trans c1
      have g1 : ∀ n, hiv (hwi h (σ + 2 + 2 * p i + 1) j.toNat v) (σ + 2 + 2 * p i + 1) n = if n = j.toNat then v else hiv h (σ + 2 + 2 * p i + 1) n := fun n => by
        show (if σ + 2 + 2 * p i + 1 = σ + 2 + 2 * p i + 1 ∧ n = j.toNat then v else hiv h (σ + 2 + 2 * p i + 1) n) = _
        by_cases hn : n = j.toNat
        · rw [if_pos ⟨rfl, hn⟩, if_pos hn]
        · rw [if_neg (by omega), if_neg hn]
      unfold ws
      by_cases j0 : j = 0
      · rw [if_pos j0]
        exact ⟨c0, g0, by rw [g1, if_pos (by omega)], by rw [g1, if_neg (by omega)]; exact c3, by rw [g1, if_neg (by omega)]; exact c4⟩
      · rw [if_neg j0]
        by_cases j1 : j = 1
        · rw [if_pos j1]
          exact ⟨c0, g0, by rw [g1, if_neg (by omega)]; exact c2, by rw [g1, if_pos (by omega)], by rw [g1, if_neg (by omega)]; exact c4⟩
        · rw [if_neg j1]
          exact ⟨c0, g0, by rw [g1, if_neg (by omega)]; exact c2, by rw [g1, if_neg (by omega)]; exact c3, by rw [g1, if_pos (by omega)]⟩
    · rename_i hq
      have hql := (List.getElem?_eq_some_iff.mp hx).1
      have hne : p q ≠ p i := fun hh => hq (a6 _ _ (by omega) (by omega) hh).symm
      exact (b3 q x hx).ag ((hwi_fro (a := σ + 2 + 2 * p i + 1) (b := σ + 2 + 2 * p i + 2) (by omega) (by omega)).ag (by omega))
section X7
variable {h : aH} {Q : aR → Prop} {κ ε σ : Nat} {c : Cfg} {e : Edt} {l : List Ent}
theorem x_become {k s y f t : Int} {n : Ent} (B : EdB h ε) (hn : k ≤ 2 → EnC h (ε + 1) n) (kk : ∀ h', fro h h' ε (ε + 1) → EdC h' ε (k, s, y, f, t, n) → Q (.inl none, h')) : amT mX2_become 0 [vR ε, vI k, vI s, vI y, vI f, vI t] [] h Q := by
  obtain ⟨s1, r1, b1⟩ := id B
  refine kr_aload_n (pc := 0) dX2_become_0 rfl ?_
  refine kr_iload_n (pc := 1) dX2_become_1 rfl ?_
  refine kr_puti (pc := 2) dX2_become_2 rfl (Or.inl rfl) (by decide) (by assumption) ?_
  refine kr_aload_n (pc := 5) dX2_become_5 rfl ?_
  refine kr_iload_n (pc := 6) dX2_become_6 rfl ?_
  refine kr_puti (pc := 7) dX2_become_7 rfl (Or.inl rfl) (by decide) (by assumption) ?_
  refine kr_aload_n (pc := 10) dX2_become_10 rfl ?_
  refine kr_iload_n (pc := 11) dX2_become_11 rfl ?_
  refine kr_puti (pc := 12) dX2_become_12 rfl (Or.inl rfl) (by decide) (by assumption) ?_
  refine kr_aload_n (pc := 15) dX2_become_15 rfl ?_
  refine kr_iload (pc := 16) dX2_become_16 rfl ?_
  refine kr_puti (pc := 18) dX2_become_18 rfl (Or.inl rfl) (by decide) (by assumption) ?_
  refine kr_aload_n (pc := 21) dX2_become_21 rfl ?_
  refine kr_iload (pc := 22) dX2_become_22 rfl ?_
  refine kr_puti (pc := 24) dX2_become_24 rfl (Or.inl rfl) (by decide) (by assumption) ?_
  refine kr_return (d0 := ()) (pc := 27) dX2_become_27 rfl ?_
  refine kk _ ((hwi_fro (by omega) (by omega)).tr ((hwi_fro (by omega) (by omega)).tr ((hwi_fro (by omega) (by omega)).tr ((hwi_fro (by omega) (by omega)).tr (hwi_fro (by omega) (by omega)))))) ⟨B, ?_, ?_, ?_, ?_, ?_, fun hk => ?_⟩
  · exact (up2_nj (by decide)).trans ((up2_nj (by decide)).trans ((up2_nj (by decide)).trans ((up2_nj (by decide)).trans up2_at)))
  · exact (up2_nj (by decide)).trans ((up2_nj (by decide)).trans ((up2_nj (by decide)).trans up2_at))
  · exact (up2_nj (by decide)).trans ((up2_nj (by decide)).trans up2_at)
  · exact (up2_nj (by decide)).trans up2_at
  · exact up2_at
  · exact (hn hk).ag (((hwi_fro (a := ε) (b := ε + 1) (by omega) (by omega)).tr ((hwi_fro (by omega) (by omega)).tr ((hwi_fro (by omega) (by omega)).tr ((hwi_fro (by omega) (by omega)).tr (hwi_fro (by omega) (by omega)))))).ag (by omega))
theorem x_invert (E : EdC h ε e) (kk : ∀ h', fro h h' ε (ε + 1) → EdC h' ε (inv1 e) → Q (.inl none, h')) : amT mX2_invert 0 [vR ε] [] h Q := by
  obtain ⟨B, a1, a2, a3, a4, a5, a6⟩ := id E
  obtain ⟨s1, r1, b1⟩ := id B
  obtain ⟨k, s, y, f, t, n⟩ := e
  dsimp only at a1 a2 a3 a4 a5 a6
  have rest : ∀ k' : Int, k' = (if k = 1 then 2 else if k = 2 then 1 else k) → amT mX2_invert 29 [vR ε] [] (hwi h ε 0 k') Q := by
    intro k' hk'
    have g3 : hiv (hwi h ε 0 k') ε 3 = f := (up2_nj (by decide)).trans a4
    have g4 : hiv (hwi h ε 0 k') ε 4 = t := (up2_nj (by decide)).trans a5
    refine kr_aload_n (pc := 29) dX2_invert_29 rfl ?_
    refine kr_geti (pc := 30) dX2_invert_30 rfl (by decide) (by assumption) (by first | exact g3 | exact g4) ?_
    refine kr_istore_n (pc := 33) dX2_invert_33 (show 1 ≤ _ from by simp) (by decide) ?_
    simp only [stl, List.tail_cons, List.tail_nil]
    refine kr_aload_n (pc := 34) dX2_invert_34 rfl ?_
    refine kr_aload_n (pc := 35) dX2_invert_35 rfl ?_
    refine kr_geti (pc := 36) dX2_invert_36 rfl (by decide) (by assumption) (by first | exact g3 | exact g4) ?_
    refine kr_puti (pc := 39) dX2_invert_39 rfl (Or.inl rfl) (by decide) (by assumption) ?_
    refine kr_aload_n (pc := 42) dX2_invert_42 rfl ?_
    refine kr_iload_n (pc := 43) dX2_invert_43 rfl ?_
    refine kr_puti (pc := 44) dX2_invert_44 rfl (Or.inl rfl) (by decide) (by assumption) ?_
    refine kr_return (d0 := ()) (pc := 47) dX2_invert_47 rfl ?_
    refine kk _ ((hwi_fro (by omega) (by omega)).tr ((hwi_fro (by omega) (by omega)).tr (hwi_fro (by omega) (by omega)))) ⟨B, ?_, ?_, ?_, ?_, ?_, fun hk => ?_⟩
    · rw [show (inv1 (k, s, y, f, t, n)).1 = k' from hk'.symm]
      exact (up2_nj (by decide)).trans ((up2_nj (by decide)).trans up2_at)
    · exact (up2_nj (by decide)).trans ((up2_nj (by decide)).trans ((up2_nj (by decide)).trans a2))
    · exact (up2_nj (by decide)).trans ((up2_nj (by decide)).trans ((up2_nj (by decide)).trans a3))
    · exact (up2_nj (by decide)).trans up2_at
    · exact up2_at
    · have hk2 : k ≤ 2 := by
        unfold inv1 at hk
        dsimp only at hk
        split at hk
        · omega
        · split at hk <;> omega
      exact (a6 hk2).ag (((hwi_fro (a := ε) (b := ε + 1) (by omega) (by omega)).tr ((hwi_fro (by omega) (by omega)).tr (hwi_fro (by omega) (by omega)))).ag (by omega))
  have same : k ≠ 1 → k ≠ 2 → amT mX2_invert 29 [vR ε] [] h Q := by
    intro h1 h2
    have := rest k (by rw [if_neg h1, if_neg h2])
    have e : hwi h ε 0 k = h := by
      rw [hwi_of]
      have e2 : (fun j => if j = 0 then k else hiv h ε j) = hiv h ε := by
        funext j
        by_cases hj : j = 0
        · rw [if_pos hj, hj, a1]
        · rw [if_neg hj]
      rw [e2, sa_self]
    rw [e] at this
    exact this
  refine kr_aload_n (pc := 0) dX2_invert_0 rfl ?_
  refine kr_geti (pc := 1) dX2_invert_1 rfl (by decide) (by assumption) a1 ?_
  refine kr_iconst (pc := 4) dX2_invert_4 (by decide) ?_
  refine kr_icmp_ne (pc := 5) dX2_invert_5 rfl (fun h5 => ?_) (fun h5 => ?_)
  · refine kr_aload_n (pc := 16) dX2_invert_16 rfl ?_
    refine kr_geti (pc := 17) dX2_invert_17 rfl (by decide) (by assumption) a1 ?_
    refine kr_iconst (pc := 20) dX2_invert_20 (by decide) ?_
    refine kr_icmp_ne (pc := 21) dX2_invert_21 rfl (fun h21 => ?_) (fun h21 => ?_)
    · first | exact same h5 h21 | exact rest 2 (by rw [if_pos h5]) | exact rest 1 (by rw [if_neg h5, if_pos h21])
    · refine kr_aload_n (pc := 24) dX2_invert_24 rfl ?_
      refine kr_iconst (pc := 25) dX2_invert_25 (by decide) ?_
      refine kr_puti (pc := 26) dX2_invert_26 rfl (Or.inl rfl) (by decide) (by assumption) ?_
      first | exact same h5 h21 | exact rest 2 (by rw [if_pos h5]) | exact rest 1 (by rw [if_neg h5, if_pos h21])
  · refine kr_aload_n (pc := 8) dX2_invert_8 rfl ?_
    refine kr_iconst (pc := 9) dX2_invert_9 (by decide) ?_
    refine kr_puti (pc := 10) dX2_invert_10 rfl (Or.inl rfl) (by decide) (by assumption) ?_
    refine kr_goto (pc := 13) dX2_invert_13 rfl ?_
    first | exact same h5 h21 | exact rest 2 (by rw [if_pos h5]) | exact rest 1 (by rw [if_neg h5, if_pos h21])
theorem x_setIn {a n : Nat} {i v f t : Int} (s1 : hsh h ε = (3, 6)) (hf : hiv h ε 3 = f) (ht : hiv h ε 4 = t) (hs : hsh h a = (20, n)) (hi : 0 ≤ i ∧ i < n) (hn : n ≤ 1000) (hv : hiv h a i.toNat = v) (k1 : v = f → Q (.inl (some (vI 1)), hwi h a i.toNat t)) (k0 : v ≠ f → Q (.inl (some (vI 0)), h)) : amT mX2_setIn 0 [vR ε, vR a, vI i] [] h Q := by
  refine kr_iload_n (pc := 0) dX2_setIn_0 rfl ?_
  refine kr_if_lt (pc := 1) dX2_setIn_1 rfl (fun h1 => by exfalso; omega) (fun h1 => ?_)
  refine kr_iload_n (pc := 4) dX2_setIn_4 rfl ?_
  refine kr_aload_n (pc := 5) dX2_setIn_5 rfl ?_
  refine kr_alen (pc := 6) dX2_setIn_6 (by assumption) (by decide) ?_
  refine kr_icmp_ge (pc := 7) dX2_setIn_7 rfl (fun h7 => by exfalso; omega) (fun h7 => ?_)
  refine kr_aload_n (pc := 10) dX2_setIn_10 rfl ?_
  refine kr_iload_n (pc := 11) dX2_setIn_11 rfl ?_
  refine kr_iald (pc := 12) dX2_setIn_12 (by assumption) (by omega) (by omega) (by first | exact hf | exact ht | exact hv) ?_
  refine kr_aload_n (pc := 13) dX2_setIn_13 rfl ?_
  refine kr_geti (pc := 14) dX2_setIn_14 rfl (by decide) (by assumption) (by first | exact hf | exact ht | exact hv) ?_
  refine kr_icmp_eq (pc := 17) dX2_setIn_17 rfl (fun h17 => ?_) (fun h17 => ?_)
  · refine kr_aload_n (pc := 22) dX2_setIn_22 rfl ?_
    refine kr_iload_n (pc := 23) dX2_setIn_23 rfl ?_
    refine kr_aload_n (pc := 24) dX2_setIn_24 rfl ?_
    refine kr_geti (pc := 25) dX2_setIn_25 rfl (by decide) (by assumption) (by first | exact hf | exact ht | exact hv) ?_
    refine kr_iast (pc := 28) dX2_setIn_28 (by assumption) (by omega) (by omega) ?_
    refine kr_iconst (pc := 29) dX2_setIn_29 (by decide) ?_
    refine kr_ireturn (pc := 30) dX2_setIn_30 rfl ?_
    first | exact k1 (by omega) | exact k0 (by omega)
  · refine kr_iconst (pc := 20) dX2_setIn_20 (by decide) ?_
    refine kr_ireturn (pc := 21) dX2_setIn_21 rfl ?_
    first | exact k1 (by omega) | exact k0 (by omega)
theorem x_addTo {lo : Int} {k s y f t : Int} {n : Ent} (E : EdC h ε (k, s, y, f, t, n)) (hk : k ≤ 2) (H : SeC h σ l) (hd : ε + 3 ≤ σ ∨ σ + 14 ≤ ε) (ht : 0 ≤ t) (k1 : ¬ (6 ≤ l.length ∨ (lo = 0 ∧ (l.length : Int) < t)) → ∀ h', fro h h' σ (σ + 14) → SeC h' σ (l.insertIdx (min t l.length).toNat n) → Q (.inl (some (vI 1)), h'))
    (k0 : (6 ≤ l.length ∨ (lo = 0 ∧ (l.length : Int) < t)) → Q (.inl (some (vI 0)), h)) : amT mX2_addTo 0 [vR ε, vR σ, vI lo] [] h Q := by
  obtain ⟨⟨s1, r1, b1⟩, a1, a2, a3, a4, a5, a6⟩ := id E
  obtain ⟨p, ⟨w0, w1, w2, w3, w4, w5⟩, c1, c2, c3⟩ := id H
  dsimp only at a5 a6
  refine kr_aload_n (pc := 0) dX2_addTo_0 rfl ?_
  refine kr_geti (pc := 1) dX2_addTo_1 rfl (by decide) (by assumption) (by first | exact c1 | exact a5) ?_
  refine kr_bipush (pc := 4) dX2_addTo_4 (by decide) ?_
  refine kr_icmp_ge (pc := 6) dX2_addTo_6 rfl (fun h6 => ?_) (fun h6 => ?_)
  · refine kr_iconst (pc := 24) dX2_addTo_24 (by decide) ?_
    refine kr_ireturn (pc := 25) dX2_addTo_25 rfl ?_
    first | exact k1 (by omega) h' fr' S' | exact k0 (by omega)
  · refine kr_iload_n (pc := 9) dX2_addTo_9 rfl ?_
    refine kr_if_ne (pc := 10) dX2_addTo_10 rfl (fun h10 => ?_) (fun h10 => ?_)
    · refine kr_aload_n (pc := 26) dX2_addTo_26 rfl ?_
      refine kr_aload_n (pc := 27) dX2_addTo_27 rfl ?_
      refine kr_geti (pc := 28) dX2_addTo_28 rfl (by decide) (by assumption) (by first | exact c1 | exact a5) ?_
      refine kr_aload_n (pc := 31) dX2_addTo_31 rfl ?_
      refine kr_geti (pc := 32) dX2_addTo_32 rfl (by decide) (by assumption) (by first | exact c1 | exact a5) ?_
      refine kr_min (pc := 35) dX2_addTo_35 rfl ⟨rfl, rfl, Nat.le_of_ble_eq_true rfl, Nat.le_of_ble_eq_true rfl, Nat.le_of_ble_eq_true rfl⟩ ?_
      refine kr_aload_n (pc := 38) dX2_addTo_38 rfl ?_
      refine kr_getr (pc := 39) dX2_addTo_39 rfl rfl (by assumption) (by assumption) ?_
      rw [show (if (l.length : Int) < t then (l.length : Int) else t) = (((min t l.length).toNat : Nat) : Int) by (split <;> omega)]
      refine kr_v2 (pc := 42) dX2_addTo_42 rfl rfl (by assumption) (Nat.le_of_ble_eq_true rfl) rfl rfl (x_insert H (a6 hk) (by omega) (by omega) (by omega) (fun h' fr' S' => ?_))
      show amT _ _ _ _ _ _
      refine kr_iconst (pc := 45) dX2_addTo_45 (by decide) ?_
      refine kr_ireturn (pc := 46) dX2_addTo_46 rfl ?_
      first | exact k1 (by omega) h' fr' S' | exact k0 (by omega)
    · refine kr_aload_n (pc := 13) dX2_addTo_13 rfl ?_
      refine kr_geti (pc := 14) dX2_addTo_14 rfl (by decide) (by assumption) (by first | exact c1 | exact a5) ?_
      refine kr_aload_n (pc := 17) dX2_addTo_17 rfl ?_
      refine kr_geti (pc := 18) dX2_addTo_18 rfl (by decide) (by assumption) (by first | exact c1 | exact a5) ?_
      refine kr_icmp_le (pc := 21) dX2_addTo_21 rfl (fun h21 => ?_) (fun h21 => ?_)
      · refine kr_aload_n (pc := 26) dX2_addTo_26 rfl ?_
        refine kr_aload_n (pc := 27) dX2_addTo_27 rfl ?_
        refine kr_geti (pc := 28) dX2_addTo_28 rfl (by decide) (by assumption) (by first | exact c1 | exact a5) ?_
        refine kr_aload_n (pc := 31) dX2_addTo_31 rfl ?_
        refine kr_geti (pc := 32) dX2_addTo_32 rfl (by decide) (by assumption) (by first | exact c1 | exact a5) ?_
        refine kr_min (pc := 35) dX2_addTo_35 rfl ⟨rfl, rfl, Nat.le_of_ble_eq_true rfl, Nat.le_of_ble_eq_true rfl, Nat.le_of_ble_eq_true rfl⟩ ?_
        refine kr_aload_n (pc := 38) dX2_addTo_38 rfl ?_
        refine kr_getr (pc := 39) dX2_addTo_39 rfl rfl (by assumption) (by assumption) ?_
        rw [show (if (l.length : Int) < t then (l.length : Int) else t) = (((min t l.length).toNat : Nat) : Int) by (split <;> omega)]
        refine kr_v2 (pc := 42) dX2_addTo_42 rfl rfl (by assumption) (Nat.le_of_ble_eq_true rfl) rfl rfl (x_insert H (a6 hk) (by omega) (by omega) (by omega) (fun h' fr' S' => ?_))
        show amT _ _ _ _ _ _
        refine kr_iconst (pc := 45) dX2_addTo_45 (by decide) ?_
        refine kr_ireturn (pc := 46) dX2_addTo_46 rfl ?_
        first | exact k1 (by omega) h' fr' S' | exact k0 (by omega)
      · refine kr_iconst (pc := 24) dX2_addTo_24 (by decide) ?_
        refine kr_ireturn (pc := 25) dX2_addTo_25 rfl ?_
        first | exact k1 (by omega) h' fr' S' | exact k0 (by omega)
theorem x_removeFrom {lo : Int} {k s y f t : Int} {n : Ent} (E : EdC h ε (k, s, y, f, t, n)) (hk : k ≤ 2) (H : SeC h σ l) (hx : kix l y ≠ -1) (k1 : ¬ ((lo = 0 ∧ kix l y ≠ f) ∨ gt l y ≠ n) → ∀ h', fro h h' σ (σ + 14) → SeC h' σ (l.eraseIdx (kix l y).toNat) → Q (.inl (some (vI 1)), h'))
    (k0 : ((lo = 0 ∧ kix l y ≠ f) ∨ gt l y ≠ n) → Q (.inl (some (vI 0)), h)) : amT mX2_removeFrom 0 [vR ε, vR σ, vI (kix l y), vI lo] [] h Q := by
  obtain ⟨⟨s1, r1, b1⟩, a1, a2, a3, a4, a5, a6⟩ := id E
  obtain ⟨p, ⟨w0, w1, w2, w3, w4, w5⟩, c1, c2, c3⟩ := id H
  dsimp only at a4 a6
  have rk := kix_rng l y
  have y3 := (w4 (kix l y).toNat (by omega)).1
  have en := c3 _ _ (gt_at hx).1
  have z := en.1.1
  refine kr_iload_n (pc := 0) dX2_removeFrom_0 rfl ?_
  refine kr_if_ne (pc := 1) dX2_removeFrom_1 rfl (fun h1 => ?_) (fun h1 => ?_)
  · refine kr_aload_n (pc := 12) dX2_removeFrom_12 rfl ?_
    refine kr_getr (pc := 13) dX2_removeFrom_13 rfl rfl (by assumption) (by assumption) ?_
    refine kr_iload_n (pc := 16) dX2_removeFrom_16 rfl ?_
    refine kr_aald (pc := 17) dX2_removeFrom_17 (by assumption) (by decide) (by omega) (by omega) (by assumption) ?_
    refine kr_aload_n (pc := 18) dX2_removeFrom_18 rfl ?_
    refine kr_getr (pc := 19) dX2_removeFrom_19 rfl rfl (by assumption) (by assumption) ?_
    refine kr_v1 (pc := 22) dX2_removeFrom_22 rfl rfl (by assumption) (Nat.le_of_ble_eq_true rfl) rfl (x_elike en (a6 hk) (fun c22 => ?_) (fun c22 => ?_))
    · show amT _ _ _ _ _ _
      refine kr_if_ne (pc := 25) dX2_removeFrom_25 rfl (fun _ => ?_) (fun h => absurd h (by decide))
      refine kr_aload_n (pc := 30) dX2_removeFrom_30 rfl ?_
      refine kr_iload_n (pc := 31) dX2_removeFrom_31 rfl ?_
      rw [show vI (kix l y) = vI (((kix l y).toNat : Nat) : Int) by rw [show (((kix l y).toNat : Nat) : Int) = kix l y by omega]]
      refine kr_v1 (pc := 32) dX2_removeFrom_32 rfl rfl (by assumption) (Nat.le_of_ble_eq_true rfl) rfl (x_takeOut H (by omega) (fun h' fr' S' => ?_))
      show amT _ _ _ _ _ _
      refine kr_iconst (pc := 35) dX2_removeFrom_35 (by decide) ?_
      refine kr_ireturn (pc := 36) dX2_removeFrom_36 rfl ?_
      first | exact k0 (Or.inl (by omega)) | exact k0 (Or.inr c22) | exact k1 (fun hh => hh.elim (fun hh => by omega) (fun hh => hh c22)) h' fr' S'
    · show amT _ _ _ _ _ _
      refine kr_if_ne (pc := 25) dX2_removeFrom_25 rfl (fun h => absurd h (by decide)) (fun _ => ?_)
      refine kr_iconst (pc := 28) dX2_removeFrom_28 (by decide) ?_
      refine kr_ireturn (pc := 29) dX2_removeFrom_29 rfl ?_
      first | exact k0 (Or.inl (by omega)) | exact k0 (Or.inr c22) | exact k1 (fun hh => hh.elim (fun hh => by omega) (fun hh => hh c22)) h' fr' S'
  · refine kr_iload_n (pc := 4) dX2_removeFrom_4 rfl ?_
    refine kr_aload_n (pc := 5) dX2_removeFrom_5 rfl ?_
    refine kr_geti (pc := 6) dX2_removeFrom_6 rfl (by decide) (by assumption) (by first | exact c1 | exact a4) ?_
    refine kr_icmp_ne (pc := 9) dX2_removeFrom_9 rfl (fun h9 => ?_) (fun h9 => ?_)
    · refine kr_iconst (pc := 28) dX2_removeFrom_28 (by decide) ?_
      refine kr_ireturn (pc := 29) dX2_removeFrom_29 rfl ?_
      first | exact k0 (Or.inl (by omega)) | exact k0 (Or.inr c22) | exact k1 (fun hh => hh.elim (fun hh => by omega) (fun hh => hh c22)) h' fr' S'
    · refine kr_aload_n (pc := 12) dX2_removeFrom_12 rfl ?_
      refine kr_getr (pc := 13) dX2_removeFrom_13 rfl rfl (by assumption) (by assumption) ?_
      refine kr_iload_n (pc := 16) dX2_removeFrom_16 rfl ?_
      refine kr_aald (pc := 17) dX2_removeFrom_17 (by assumption) (by decide) (by omega) (by omega) (by assumption) ?_
      refine kr_aload_n (pc := 18) dX2_removeFrom_18 rfl ?_
      refine kr_getr (pc := 19) dX2_removeFrom_19 rfl rfl (by assumption) (by assumption) ?_
      refine kr_v1 (pc := 22) dX2_removeFrom_22 rfl rfl (by assumption) (Nat.le_of_ble_eq_true rfl) rfl (x_elike en (a6 hk) (fun c22 => ?_) (fun c22 => ?_))
      · show amT _ _ _ _ _ _
        refine kr_if_ne (pc := 25) dX2_removeFrom_25 rfl (fun _ => ?_) (fun h => absurd h (by decide))
        refine kr_aload_n (pc := 30) dX2_removeFrom_30 rfl ?_
        refine kr_iload_n (pc := 31) dX2_removeFrom_31 rfl ?_
        rw [show vI (kix l y) = vI (((kix l y).toNat : Nat) : Int) by rw [show (((kix l y).toNat : Nat) : Int) = kix l y by omega]]
        refine kr_v1 (pc := 32) dX2_removeFrom_32 rfl rfl (by assumption) (Nat.le_of_ble_eq_true rfl) rfl (x_takeOut H (by omega) (fun h' fr' S' => ?_))
        show amT _ _ _ _ _ _
        refine kr_iconst (pc := 35) dX2_removeFrom_35 (by decide) ?_
        refine kr_ireturn (pc := 36) dX2_removeFrom_36 rfl ?_
        first | exact k0 (Or.inl (by omega)) | exact k0 (Or.inr c22) | exact k1 (fun hh => hh.elim (fun hh => by omega) (fun hh => hh c22)) h' fr' S'
      · show amT _ _ _ _ _ _
        refine kr_if_ne (pc := 25) dX2_removeFrom_25 rfl (fun h => absurd h (by decide)) (fun _ => ?_)
        refine kr_iconst (pc := 28) dX2_removeFrom_28 (by decide) ?_
        refine kr_ireturn (pc := 29) dX2_removeFrom_29 rfl ?_
        first | exact k0 (Or.inl (by omega)) | exact k0 (Or.inr c22) | exact k1 (fun hh => hh.elim (fun hh => by omega) (fun hh => hh c22)) h' fr' S'
theorem x_moveIn {lo : Int} {k s y f t : Int} {n : Ent} (E : EdC h ε (k, s, y, f, t, n)) (H : SeC h σ l) (hx : kix l y ≠ -1) (ht : 0 ≤ t) (k1 : ¬ (lo = 0 ∧ (kix l y ≠ f ∨ (l.length : Int) ≤ t)) → ∀ h', fro h h' σ (σ + 14) → SeC h' σ (mv l (kix l y).toNat (min t ((l.length : Int) - 1)).toNat) → Q (.inl (some (vI 1)), h'))
    (k0 : (lo = 0 ∧ (kix l y ≠ f ∨ (l.length : Int) ≤ t)) → Q (.inl (some (vI 0)), h)) : amT mX2_moveIn 0 [vR ε, vR σ, vI (kix l y), vI lo] [] h Q := by
  obtain ⟨⟨s1, r1, b1⟩, a1, a2, a3, a4, a5, a6⟩ := id E
  obtain ⟨p, ⟨w0, w1, w2, w3, w4, w5⟩, c1, c2, c3⟩ := id H
  dsimp only at a4 a5
  have rk := kix_rng l y
  refine kr_iload_n (pc := 0) dX2_moveIn_0 rfl ?_
  refine kr_if_ne (pc := 1) dX2_moveIn_1 rfl (fun h1 => ?_) (fun h1 => ?_)
  · refine kr_aload_n (pc := 25) dX2_moveIn_25 rfl ?_
    refine kr_iload_n (pc := 26) dX2_moveIn_26 rfl ?_
    refine kr_aload_n (pc := 27) dX2_moveIn_27 rfl ?_
    refine kr_geti (pc := 28) dX2_moveIn_28 rfl (by decide) (by assumption) (by first | exact c1 | exact a4 | exact a5) ?_
    refine kr_aload_n (pc := 31) dX2_moveIn_31 rfl ?_
    refine kr_geti (pc := 32) dX2_moveIn_32 rfl (by decide) (by assumption) (by first | exact c1 | exact a4 | exact a5) ?_
    refine kr_iconst (pc := 35) dX2_moveIn_35 (by decide) ?_
    refine kr_isub (pc := 36) dX2_moveIn_36 ⟨by omega, by omega⟩ ?_
    refine kr_min (pc := 37) dX2_moveIn_37 rfl ⟨rfl, rfl, Nat.le_of_ble_eq_true rfl, Nat.le_of_ble_eq_true rfl, Nat.le_of_ble_eq_true rfl⟩ ?_
    rw [show (if (l.length : Int) - 1 < t then (l.length : Int) - 1 else t) = (((min t ((l.length : Int) - 1)).toNat : Nat) : Int) by (split <;> omega), show vI (kix l y) = vI (((kix l y).toNat : Nat) : Int) by rw [show (((kix l y).toNat : Nat) : Int) = kix l y by omega]]
    refine kr_v2 (pc := 40) dX2_moveIn_40 rfl rfl (by assumption) (Nat.le_of_ble_eq_true rfl) rfl rfl (x_mv H (by omega) (by omega) (fun h' fr' S' => ?_))
    show amT _ _ _ _ _ _
    refine kr_iconst (pc := 43) dX2_moveIn_43 (by decide) ?_
    refine kr_ireturn (pc := 44) dX2_moveIn_44 rfl ?_
    first | exact k0 (by omega) | exact k1 (by omega) h' fr' S'
  · refine kr_iload_n (pc := 4) dX2_moveIn_4 rfl ?_
    refine kr_aload_n (pc := 5) dX2_moveIn_5 rfl ?_
    refine kr_geti (pc := 6) dX2_moveIn_6 rfl (by decide) (by assumption) (by first | exact c1 | exact a4 | exact a5) ?_
    refine kr_icmp_ne (pc := 9) dX2_moveIn_9 rfl (fun h9 => ?_) (fun h9 => ?_)
    · refine kr_iconst (pc := 23) dX2_moveIn_23 (by decide) ?_
      refine kr_ireturn (pc := 24) dX2_moveIn_24 rfl ?_
      first | exact k0 (by omega) | exact k1 (by omega) h' fr' S'
    · refine kr_aload_n (pc := 12) dX2_moveIn_12 rfl ?_
      refine kr_geti (pc := 13) dX2_moveIn_13 rfl (by decide) (by assumption) (by first | exact c1 | exact a4 | exact a5) ?_
      refine kr_aload_n (pc := 16) dX2_moveIn_16 rfl ?_
      refine kr_geti (pc := 17) dX2_moveIn_17 rfl (by decide) (by assumption) (by first | exact c1 | exact a4 | exact a5) ?_
      refine kr_icmp_lt (pc := 20) dX2_moveIn_20 rfl (fun h20 => ?_) (fun h20 => ?_)
      · refine kr_aload_n (pc := 25) dX2_moveIn_25 rfl ?_
        refine kr_iload_n (pc := 26) dX2_moveIn_26 rfl ?_
        refine kr_aload_n (pc := 27) dX2_moveIn_27 rfl ?_
        refine kr_geti (pc := 28) dX2_moveIn_28 rfl (by decide) (by assumption) (by first | exact c1 | exact a4 | exact a5) ?_
        refine kr_aload_n (pc := 31) dX2_moveIn_31 rfl ?_
        refine kr_geti (pc := 32) dX2_moveIn_32 rfl (by decide) (by assumption) (by first | exact c1 | exact a4 | exact a5) ?_
        refine kr_iconst (pc := 35) dX2_moveIn_35 (by decide) ?_
        refine kr_isub (pc := 36) dX2_moveIn_36 ⟨by omega, by omega⟩ ?_
        refine kr_min (pc := 37) dX2_moveIn_37 rfl ⟨rfl, rfl, Nat.le_of_ble_eq_true rfl, Nat.le_of_ble_eq_true rfl, Nat.le_of_ble_eq_true rfl⟩ ?_
        rw [show (if (l.length : Int) - 1 < t then (l.length : Int) - 1 else t) = (((min t ((l.length : Int) - 1)).toNat : Nat) : Int) by (split <;> omega), show vI (kix l y) = vI (((kix l y).toNat : Nat) : Int) by rw [show (((kix l y).toNat : Nat) : Int) = kix l y by omega]]
        refine kr_v2 (pc := 40) dX2_moveIn_40 rfl rfl (by assumption) (Nat.le_of_ble_eq_true rfl) rfl rfl (x_mv H (by omega) (by omega) (fun h' fr' S' => ?_))
        show amT _ _ _ _ _ _
        refine kr_iconst (pc := 43) dX2_moveIn_43 (by decide) ?_
        refine kr_ireturn (pc := 44) dX2_moveIn_44 rfl ?_
        first | exact k0 (by omega) | exact k1 (by omega) h' fr' S'
      · refine kr_iconst (pc := 23) dX2_moveIn_23 (by decide) ?_
        refine kr_ireturn (pc := 24) dX2_moveIn_24 rfl ?_
        first | exact k0 (by omega) | exact k1 (by omega) h' fr' S'
end X7
