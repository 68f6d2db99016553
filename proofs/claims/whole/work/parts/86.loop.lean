/-! THE LAW'S LOOP, and its run from its entry -/
theorem EnC.ax {h h' : aH} {e : Nat} {x : Ent} (H : EnC h e x) (f : agx h h' e (e + 2)) : EnC h' e x :=
  ⟨H.1.ax f, by rw [(f e (by omega) (by omega)).2.1]; exact H.2.1, by rw [(f (e + 1) (by omega) (by omega)).2.1]; exact H.2.2⟩
theorem SeB.ax {h h' : aH} {σ : Nat} {p : Nat → Nat} (H : SeB h σ p) (f : agx h h' σ (σ + 14)) : SeB h' σ p := by
  obtain ⟨a1, a2, a3, a4, a5, a6⟩ := H
  exact ⟨by rw [(f σ (by omega) (by omega)).1]; exact a1, by rw [(f σ (by omega) (by omega)).2.2]; exact a2, by rw [(f (σ + 1) (by omega) (by omega)).1]; exact a3, fun i hi => (a4 i hi).ax (f.up (by omega) (by omega)), fun i hi => by rw [(f (σ + 1) (by omega) (by omega)).2.2]; exact a5 i hi, a6⟩
theorem SeC.ax {h h' : aH} {σ : Nat} {l : List Ent} (H : SeC h σ l) (f : agx h h' σ (σ + 14)) : SeC h' σ l := by
  obtain ⟨p, B, c1, c2, c3⟩ := H
  refine ⟨p, B.ax f, by rw [(f σ (by omega) (by omega)).2.1]; exact c1, c2, fun i e he => ?_⟩
  have hi := (List.getElem?_eq_some_iff.mp he).1
  have := (B.2.2.2.2.1 i (by omega)).2
  exact (c3 i e he).ax (f.up (by omega) (by omega))
theorem CfC.ax {h h' : aH} {κ : Nat} {c : Cfg} (H : CfC h κ c) (f : agx h h' κ (κ + 48)) : CfC h' κ c :=
  ⟨H.1.ax (f.up (by omega) (by omega)), fun i hi => (H.2.1 i hi).ax (f.up (by omega) (by omega)), fun g j hg hj => by rw [(f (κ + 3 + g) (by omega) (by omega)).2.1]; exact H.2.2 g j hg hj⟩
theorem CfX.ax {h h' : aH} {κ : Nat} (H : CfX h κ) (f : agx h h' κ (κ + 48)) : CfX h' κ :=
  ⟨H.1.ax (f.up (by omega) (by omega)), fun i hi => (H.2 i hi).elim fun p hp => ⟨p, hp.ax (f.up (by omega) (by omega))⟩⟩
theorem RuC.ax {h h' : aH} {ρ : Nat} {r : Rul} (H : RuC h ρ r) (f : agx h h' ρ (ρ + 1)) : RuC h' ρ r := by
  unfold RuC at *
  rw [(f ρ (by omega) (by omega)).1, (f ρ (by omega) (by omega)).2.1]
  exact H
theorem DeR.ax {h h' : aH} {x : Nat} {S : St} (H : DeR h x S) (f : agx h h' x (x + 1899)) : DeR h' x S := by
  obtain ⟨⟨a1, a2, a3, a4, a5, a6, a7, a8, a9, b0, b1, b2, b3⟩, c1, c2, c3, c4, c5, c6, c7, ⟨q, d1⟩, ⟨p, d2⟩, d3, d4⟩ := H
  obtain ⟨f1, f2, f3⟩ := f x (by omega) (by omega)
  have s : ∀ y, y < 1899 → hsh h' (x + y) = hsh h (x + y) := fun y hy => (f (x + y) (by omega) (by omega)).1
  have r : ∀ y, y < 1899 → hrf h' (x + y) = hrf h (x + y) := fun y hy => (f (x + y) (by omega) (by omega)).2.2
  refine ⟨⟨by rw [f1]; exact a1, by rw [f3]; exact a2, by rw [s 1 (by omega)]; exact a3, by rw [f3]; exact a4, by rw [s 2 (by omega)]; exact a5, by rw [f3]; exact a6, by rw [s 3 (by omega)]; exact a7, by rw [f3]; exact a8, by rw [f3]; exact a9, by rw [f3]; exact b0, fun i hi => ?_, fun i hi => by rw [r 2 (by omega)]; exact b2 i hi, fun i hi => ?_⟩, fun t ht => (c1 t ht).ax (f.up (by have := kp_rng (x := x) ht; omega) (by have := kp_rng (x := x) ht; omega)), fun c hc => ?_, by rw [f2]; exact c3, by rw [f2]; exact c4, by rw [f2]; exact c5, fun hw => by rw [f2]; exact c6 hw, fun i r' hr => ⟨(c7 i r' hr).1, (c7 i r' hr).2.ax (f.up (by omega) (by have := (c7 i r' hr).1; omega))⟩, ⟨q, d1.ax (f.up (by omega) (by omega))⟩, ⟨p, d2.ax (f.up (by omega) (by omega))⟩, d3.ax (f.up (by omega) (by omega)), d4.ax (f.up (by omega) (by omega))⟩
  · rw [r 1 (by omega), (f (x + 304 + 49 * i) (by omega) (by omega)).1, (f (x + 304 + 49 * i) (by omega) (by omega)).2.2]
    exact b1 i hi
  · rw [r 3 (by omega), (f (x + 1891 + i) (by omega) (by omega)).1]
    exact b3 i hi
  · rw [(f (x + 304 + 49 * c) (by omega) (by omega)).2.1]
    exact c2 c hc
theorem MS.ax {h h' : aH} {m : Nat} (M : MS h m) (f : agx h h' m (m + 14)) : MS h' m := by
  unfold MS at *
  rw [(f m (by omega) (by omega)).1, (f m (by omega) (by omega)).2.2, (f (m + 1) (by omega) (by omega)).1, (f (m + 2) (by omega) (by omega)).1, (f (m + 3) (by omega) (by omega)).1, (f (m + 4) (by omega) (by omega)).1, (f (m + 5) (by omega) (by omega)).1, (f (m + 6) (by omega) (by omega)).1, (f (m + 7) (by omega) (by omega)).1, (f (m + 8) (by omega) (by omega)).1, (f (m + 9) (by omega) (by omega)).1, (f (m + 10) (by omega) (by omega)).1, (f (m + 11) (by omega) (by omega)).1, (f (m + 12) (by omega) (by omega)).1, (f (m + 13) (by omega) (by omega)).1]
  exact M
section XU
variable {z b L : Nat} {xs : Nat → Int} {Q : aR → Prop}
theorem lw_loop (k : ∀ h c, 6 * c ≤ L → hnx h ≤ z + 1914 + c → hks h ≤ 8000 + 6 * c → Q (.inl (some (vI 1)), h)) : ∀ (n c : Nat) (S : St) (h : aH) (tl : List aV), LI z b L xs S c h → 6 * c ≤ L → L - 6 * c < n → amT mL_law 23 (vR b :: vR z :: vR (z + 1899) :: vR (z + 1913) :: vI (6 * (c : Int)) :: tl) [] h Q := by
  intro n
  induction n with
  | zero => exact fun c S h tl J h1 h2 => absurd h2 (Nat.not_lt_zero _)
  | succ n ih =>
    intro c S h tl J hc hn
    obtain ⟨HS, D, M, R, so, sb, hb, hx, hr, hL, n1, n2⟩ := id J
    have back : ∀ h' S' tl', 6 * (c + 1) ≤ L → LI z b L xs S' (c + 1) h' → amT mL_law 1797 (vR b :: vR z :: vR (z + 1899) :: vR (z + 1913) :: vI (6 * (c : Int)) :: tl') [] h' Q := fun h' S' tl' h9 J' => by
      refine kr_iinc (pc := 1797) dL_law_1797 rfl ⟨⟨by omega, by omega⟩, by decide, by decide⟩ ?_
      simp only [stl, List.tail_cons, List.tail_nil]
      refine kr_goto (pc := 1800) dL_law_1800 rfl ?_
      rw [show 6 * (c : Int) + 6 = 6 * ((c + 1 : Nat) : Int) by omega]
      exact ih (c + 1) S' h' tl' J' h9 (by omega)
    refine kr_iload (pc := 23) dL_law_23 rfl ?_
    refine kr_aload_n (pc := 25) dL_law_25 rfl ?_
    refine kr_alen (pc := 26) dL_law_26 sb (by decide) ?_
    refine kr_bipush (pc := 27) dL_law_27 (by decide) ?_
    refine kr_isub (pc := 29) dL_law_29 ⟨by omega, by omega⟩ ?_
    refine kr_icmp_gt (pc := 30) dL_law_30 rfl (fun h30 => ?_) (fun h30 => ?_)
    · refine kr_iconst (pc := 1803) dL_law_1803 (by decide) ?_
      refine kr_ireturn (pc := 1804) dL_law_1804 rfl ?_
      exact k h c hc n1 n2
    · refine kr_aload_n (pc := 33) dL_law_33 rfl ?_
      refine kr_iload (pc := 34) dL_law_34 rfl ?_
      refine kr_sald (pc := 36) dL_law_36 sb (by omega) (by omega) (hx _) ?_
      refine kr_bipush (pc := 37) dL_law_37 (by decide) ?_
      refine kr_iand (pc := 39) dL_law_39 ?_
      have h0 : (0 : Int) ≤ 6 * (c : Int) := by omega
      have h6 : 6 * (c : Int) + 6 ≤ (L : Int) := by omega
      obtain ⟨v, hv, ev⟩ := bw_31 (xs (6 * (c : Int)).toNat)
      rw [ev]
      have bk := fun h' S' tl' => back h' S' tl' (by omega)
      rcases (show v = 0 ∨ v = 1 ∨ v = 2 ∨ v = 3 ∨ v = 4 ∨ v = 5 ∨ v = 6 ∨ v = 7 ∨ v = 8 ∨ v = 9 ∨ v = 10 ∨ v = 11 ∨ v = 12 ∨ v = 13 ∨ v = 14 ∨ v = 15 ∨ v = 16 ∨ v = 17 ∨ v = 18 ∨ v = 19 ∨ v = 20 ∨ v = 21 ∨ v = 22 ∨ 23 ≤ v from by omega) with rfl | rfl | rfl | rfl | rfl | rfl | rfl | rfl | rfl | rfl | rfl | rfl | rfl | rfl | rfl | rfl | rfl | rfl | rfl | rfl | rfl | rfl | rfl | h23
      · exact kr_sw (pc := 40) (t := 148) dL_law_40 (by first | rfl | decide) (lc_open J h0 h6 bk)
      · exact kr_sw (pc := 40) (t := 204) dL_law_40 (by first | rfl | decide) (lc_add J h0 h6 bk)
      · exact kr_sw (pc := 40) (t := 296) dL_law_40 (by first | rfl | decide) (lc_remove J h0 h6 bk)
      · exact kr_sw (pc := 40) (t := 376) dL_law_40 (by first | rfl | decide) (lc_move J h0 h6 bk)
      · exact kr_sw (pc := 40) (t := 468) dL_law_40 (by first | rfl | decide) (lc_set J h0 h6 bk)
      · exact kr_sw (pc := 40) (t := 572) dL_law_40 (by first | rfl | decide) (lc_join J h0 h6 bk)
      · exact kr_sw (pc := 40) (t := 664) dL_law_40 (by first | rfl | decide) (lc_setGroup J h0 h6 bk)
      · exact kr_sw (pc := 40) (t := 756) dL_law_40 (by first | rfl | decide) (lc_load J h0 h6 bk)
      · exact kr_sw (pc := 40) (t := 804) dL_law_40 (by first | rfl | decide) (lc_apply J h0 h6 bk)
      · exact kr_sw (pc := 40) (t := 912) dL_law_40 (by first | rfl | decide) (lc_rule J h0 h6 bk)
      · exact kr_sw (pc := 40) (t := 1004) dL_law_40 (by first | rfl | decide) (lc_faults J h0 h6 bk)
      · exact kr_sw (pc := 40) (t := 1060) dL_law_40 (by first | rfl | decide) (lc_commit J h0 h6 bk)
      · exact kr_sw (pc := 40) (t := 1128) dL_law_40 (by first | rfl | decide) (lc_confirm J h0 h6 bk)
      · exact kr_sw (pc := 40) (t := 1172) dL_law_40 (by first | rfl | decide) (lc_advance J h0 h6 bk)
      · exact kr_sw (pc := 40) (t := 1228) dL_law_40 (by first | rfl | decide) (lc_running J h0 h6 bk)
      · exact kr_sw (pc := 40) (t := 1241) dL_law_40 (by first | rfl | decide) (lc_waiting J h0 h6 bk)
      · exact kr_sw (pc := 40) (t := 1254) dL_law_40 (by first | rfl | decide) (lc_size J h0 h6 bk)
      · exact kr_sw (pc := 40) (t := 1322) dL_law_40 (by first | rfl | decide) (lc_keyAt J h0 h6 bk)
      · exact kr_sw (pc := 40) (t := 1402) dL_law_40 (by first | rfl | decide) (lc_shown J h0 h6 bk)
      · exact kr_sw (pc := 40) (t := 1494) dL_law_40 (by first | rfl | decide) (lc_own J h0 h6 bk)
      · exact kr_sw (pc := 40) (t := 1574) dL_law_40 (by first | rfl | decide) (lc_same J h0 h6 bk)
      · exact kr_sw (pc := 40) (t := 1649) dL_law_40 (by first | rfl | decide) (lc_edits J h0 h6 bk)
      · exact kr_sw (pc := 40) (t := 1717) dL_law_40 (by first | rfl | decide) (lc_editAt J h0 h6 bk)
      · refine kr_sw (pc := 40) (t := 1797) dL_law_40 ?_ (bk h S tl J.up)
        unfold am_swt
        rw [if_pos (Or.inr (by omega))]
        rfl
end XU
theorem lw_run {b L z : Nat} {xs : Nat → Int32} (hb : b < z) (hL : L ≤ 3072) : amT mL_law 0 [vR b] [] (hstart b L z xs) (fun r => r.1 = .inl (some (vI 1)) ∧ hnx r.2 ≤ z + 776095 ∧ hks r.2 ≤ 6767818) := by
  have e1 : hnx (hstart b L z xs) = z := rfl
  have e2 : hks (hstart b L z xs) = 0 := rfl
  have e3 : hsh (hstart b L z xs) b = (50, L) := if_pos rfl
  have e4 : ∀ k, hiv (hstart b L z xs) b k = (xs k).toInt := fun k => if_pos rfl
  have F : Fre (hstart b L z xs) := fun y hy k => if_neg (by have : z ≤ y := hy; omega)
  generalize hstart b L z xs = g at *
  refine kr_new (pc := 0) dL_law_0 dL_law_4 rfl ?_
  refine kr_dup (pc := 3) dL_law_3 rfl ?_
  refine kr_i0 (pc := 4) dL_law_4 rfl (by decide) rfl (Nat.le_of_ble_eq_true rfl) (i_desk (x := hnx g) hsh_nw_at rfl F.nw (fun j => F _ (Nat.le_refl _) j) (fun g1 f1 D1 => ?_))
  show amT _ _ _ _ _ _
  obtain ⟨f11, f12, f13, F1⟩ := f1
  have k1 : hks (hnw g (7 + 1) (am_fN 7)) = hks g + 10 := rfl
  refine kr_astore_n (pc := 7) dL_law_7 (show 1 ≤ _ from by simp) (by decide) ?_
  simp only [stl, List.tail_cons, List.tail_nil]
  refine kr_new (pc := 8) dL_law_8 dL_law_12 rfl ?_
  refine kr_dup (pc := 11) dL_law_11 rfl ?_
  refine kr_i0 (pc := 12) dL_law_12 rfl (by decide) rfl (Nat.le_of_ble_eq_true rfl) (i_model (m := hnx g1) hsh_nw_at rfl F1.nw (fun j => F1 _ (Nat.le_refl _) j) (fun g2 f2 M2 R2 => ?_))
  show amT _ _ _ _ _ _
  obtain ⟨f21, f22, f23, F2⟩ := f2
  have k2 : hks (hnw g1 (8 + 1) (am_fN 8)) = hks g1 + 18 := rfl
  refine kr_astore_n (pc := 15) dL_law_15 (show 2 ≤ _ from by simp) (by decide) ?_
  simp only [stl, List.tail_cons, List.tail_nil]
  refine kr_iconst (pc := 16) dL_law_16 (by decide) ?_
  refine kr_newl (pc := 17) dL_law_17 (by decide) ?_
  refine kr_astore_n (pc := 19) dL_law_19 (show 3 ≤ _ from by simp) (by decide) ?_
  simp only [stl, List.tail_cons, List.tail_nil]
  refine kr_iconst (pc := 20) dL_law_20 (by decide) ?_
  refine kr_istore (pc := 21) dL_law_21 (show 4 ≤ _ from by simp) (by decide) ?_
  simp only [stl, List.tail_cons, List.tail_nil]
  have n1 : hnx g1 = z + 1899 := by omega
  have n2 : hnx g2 = z + 1913 := by omega
  obtain ⟨g3, hg3⟩ : ∃ g3, g3 = hnw g2 21 (1 : Int).toNat := ⟨_, rfl⟩
  rw [← hg3]
  have n3 : hnx g3 = z + 1914 := by rw [hg3]; show hnx g2 + 1 = _; omega
  have k3 : hks g3 = hks g2 + 1 := by rw [hg3]; rfl
  have so : hsh g3 (z + 1913) = (21, 1) := by rw [hg3, ← n2]; exact hsh_nw_at
  have sh3 : ∀ y, y < z + 1913 → hsh g3 y = hsh g2 y := fun y hy => by rw [hg3]; exact hsh_nw_ne (by omega)
  have iv3 : hiv g3 = hiv g2 := by rw [hg3]; rfl
  have rf3 : hrf g3 = hrf g2 := by rw [hg3]; rfl
  rw [e1, n1, n2]
  rw [n1] at f23 M2 R2
  rw [e1] at f13 D1
  have n1b : z + 1899 ≤ hnx g1 := by omega
  have e1b : z ≤ hnx g := by omega
  have A : ∀ y, y < z + 1899 → hsh g3 y = hsh g1 y ∧ hiv g3 y = hiv g1 y ∧ hrf g3 y = hrf g1 y := fun y hy =>
    ⟨((sh3 y (by omega)).trans (f23 y hy).1).trans (hsh_nw_ne (by omega)), by rw [iv3]; exact (f23 y hy).2.1, by rw [rf3]; exact (f23 y hy).2.2⟩
  have B : ∀ y, y < z → hsh g1 y = hsh g y ∧ hiv g1 y = hiv g y := fun y hy =>
    ⟨(f13 y hy).1.trans (hsh_nw_ne (by omega)), (f13 y hy).2.1⟩
  have J : LI z b L (fun k => (xs k).toInt) S0 0 g3 := by
    refine ⟨okS0, D1.ax fun y h1 h2 => A y (by omega), M2.ax fun y h1 h2 => ⟨sh3 y (by omega), by rw [iv3], by rw [rf3]⟩, by rw [iv3]; exact R2, so, ?_, hb, fun k => ?_, fun k => i32_any _, hL, by omega, by omega⟩
    · rw [(A b (by omega)).1, (B b hb).1]
      exact e3
    · rw [(A b (by omega)).2.1, (B b hb).2]
      exact e4 k
  refine lw_loop (fun h c h1 h2 h3 => ⟨rfl, ?_, ?_⟩) (L + 1) 0 S0 g3 [] J (by omega) (by omega)
  · show hnx h ≤ _
    omega
  · show hks h ≤ _
    omega
