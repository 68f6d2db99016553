/-! THE REFERENCE'S STATE, and its calls -/
def hI (h : aH) (I : Nat → Nat → Int) : aH := (h.1, I, h.2.2)
theorem hiv_wi_same {h : aH} {a k : Nat} {x : Int} : hiv (hwi h a k x) a k = x := if_pos ⟨rfl, rfl⟩
def CfgM (R : Nat → Int) (s : Nat) (c : Cfg) : Prop := (∀ i, i < 3 → SecM R s i (c.1 i)) ∧ ∀ g f, g < 3 → f < 2 → R (27 * s + 21 + 2 * g + f) = c.2 g f + 1
theorem SecM.fr {R R' : Nat → Int} {s c : Nat} {l : List Ent} (H : SecM R s c l) (h : ∀ j, 27 * s ≤ j → j < 27 * s + 27 → R' j = R j) : SecM R' s c l := by
  obtain ⟨h1, h2, h3, h4, h5⟩ := H
  refine ⟨h1, h2, h3, by rw [h _ (by omega) (by omega)]; exact h4, fun i e he => ?_⟩
  have := (List.getElem?_eq_some_iff.mp he).1
  rw [h _ (by omega) (by omega)]
  exact h5 i e he
theorem CfgM.fr {R R' : Nat → Int} {s : Nat} {c : Cfg} (H : CfgM R s c) (h : ∀ j, 27 * s ≤ j → j < 27 * s + 27 → R' j = R j) : CfgM R' s c :=
  ⟨fun i hi => (H.1 i hi).fr h, fun g f hg hf => by rw [h _ (by omega) (by omega)]; exact H.2 g f hg hf⟩
def cpF (R : Nat → Int) (a b : Nat) : Nat → Int := fun j => if 27 * b ≤ j ∧ j < 27 * b + 27 then R (27 * a + (j - 27 * b)) else R j
theorem CfgM.cp {R : Nat → Int} {a b : Nat} {c : Cfg} (H : CfgM R a c) (hb : b ≤ 34) : CfgM (cpF R a b) b c := by
  have key : ∀ j, j < 27 → cpF R a b (27 * b + j) = R (27 * a + j) := fun j hj => by
    unfold cpF
    rw [if_pos (by omega)]
    congr 1
    omega
  refine ⟨fun i hi => ?_, fun g f hg hf => ?_⟩
  · obtain ⟨h1, h2, h3, h4, h5⟩ := H.1 i hi
    refine ⟨hb, h2, h3, by rw [key i (by omega)]; exact h4, fun q e he => ?_⟩
    have hq := (List.getElem?_eq_some_iff.mp he).1
    have := key (3 + 6 * i + q) (by omega)
    rw [show 27 * b + (3 + 6 * i + q) = 27 * b + 3 + 6 * i + q by omega, show 27 * a + (3 + 6 * i + q) = 27 * a + 3 + 6 * i + q by omega] at this
    rw [this]
    exact h5 q e he
  · have := key (21 + 2 * g + f) (by omega)
    rw [show 27 * b + (21 + 2 * g + f) = 27 * b + 21 + 2 * g + f by omega, show 27 * a + (21 + 2 * g + f) = 27 * a + 21 + 2 * g + f by omega] at this
    rw [this]
    exact H.2 g f hg hf
theorem cpF_ne {R : Nat → Int} {a b s : Nat} (h : s ≠ b) (j : Nat) (h1 : 27 * s ≤ j) (h2 : j < 27 * s + 27) : cpF R a b j = R j := if_neg (by omega)
theorem offS_ne {s s' c j : Nat} (h : s' ≠ s) (hc : c ≤ 2) (h1 : 27 * s' ≤ j) (h2 : j < 27 * s' + 27) : offS s c j := by
  unfold offS
  omega
theorem CfgM.sec {R R' : Nat → Int} {s i : Nat} {c : Cfg} {l : List Ent} (H : CfgM R s c) (hi : i < 3) (H' : SecM R' s i l) (hf : ∀ j, offS s i j → R' j = R j) : CfgM R' s (upS c i l) := by
  refine ⟨fun q hq => ?_, fun g f hg hff => ?_⟩
  · unfold upS
    dsimp only
    split
    · rename_i h
      rw [h]
      exact H'
    · obtain ⟨h1, h2, h3, h4, h5⟩ := H.1 q hq
      refine ⟨h1, h2, h3, ?_, fun p e he => ?_⟩
      · rw [hf _ (by unfold offS; omega)]
        exact h4
      · have := (List.getElem?_eq_some_iff.mp he).1
        rw [hf _ (by unfold offS; omega)]
        exact h5 p e he
  · rw [hf _ (by unfold offS; omega)]
    exact H.2 g f hg hff
theorem CfgM.grp {R R' : Nat → Int} {s g f : Nat} {c : Cfg} {v : Int} (H : CfgM R s c) (hg : g < 3) (hf : f < 2) (hR : ∀ j, R' j = if j = 27 * s + 21 + 2 * g + f then v + 1 else R j) : CfgM R' s (upG c g f v) := by
  refine ⟨fun q hq => ?_, fun g' f' hg' hf' => ?_⟩
  · obtain ⟨h1, h2, h3, h4, h5⟩ := H.1 q hq
    refine ⟨h1, h2, h3, by rw [hR, if_neg (by omega)]; exact h4, fun p e he => ?_⟩
    have := (List.getElem?_eq_some_iff.mp he).1
    have := h3
    rw [hR, if_neg (by dsimp only [upG] at *; omega)]
    exact h5 p e he
  · rw [hR]
    unfold upG
    dsimp only
    by_cases h : g' = g ∧ f' = f
    · rw [if_pos (by omega), if_pos h]
    · rw [if_neg (by omega), if_neg h]
      exact H.2 g' f' hg' hf'
def ModR (I : Nat → Nat → Int) (m : Nat) (S : St) : Prop :=
  (∀ s, s < 33 → CfgM (I (m + 1)) s (S.1 s)) ∧ (∀ c, c < 3 → I (m + 2) c = S.2.1 c ∧ I (m + 3) c = S.2.2.1 c) ∧ I m 3 = S.2.2.2.1 ∧ I m 4 = S.2.2.2.2.1 ∧ I m 12 = S.2.2.2.2.2.length ∧
  ∀ (i : Nat) (r : Rul), S.2.2.2.2.2[i]? = some r → I (m + 10) i = r.1 ∧ I (m + 11) i = r.2.1 ∧ I (m + 12) i = r.2.2.1 ∧ I (m + 13) i = r.2.2.2
/-- rows, edits, thrown alone are others -/
def smM (I I' : Nat → Nat → Int) (m : Nat) : Prop := (∀ a, a ≠ m → a ≠ m + 1 → ¬ (m + 4 ≤ a ∧ a ≤ m + 9) → I' a = I a) ∧ ∀ j, j ≠ 5 → j ≠ 17 → I' m j = I m j
theorem ModR.sl {I I' : Nat → Nat → Int} {m : Nat} {S : St} (H : ModR I m S) (h : smM I I' m) (f : Nat → Cfg) (hc : ∀ s, s < 33 → CfgM (I' (m + 1)) s (f s)) : ModR I' m (f, S.2) := by
  obtain ⟨h1, h2, h3, h4, h5, h6⟩ := H
  refine ⟨hc, fun c hcc => ?_, ?_, ?_, ?_, fun i r hr => ?_⟩
  · rw [h.1 (m + 2) (by omega) (by omega) (by omega), h.1 (m + 3) (by omega) (by omega) (by omega)]
    exact h2 c hcc
  · rw [h.2 3 (by decide) (by decide)]; exact h3
  · rw [h.2 4 (by decide) (by decide)]; exact h4
  · rw [h.2 12 (by decide) (by decide)]; exact h5
  · rw [h.1 (m + 10) (by omega) (by omega) (by omega), h.1 (m + 11) (by omega) (by omega) (by omega), h.1 (m + 12) (by omega) (by omega) (by omega), h.1 (m + 13) (by omega) (by omega) (by omega)]
    exact h6 i r hr
theorem ModR.same {I I' : Nat → Nat → Int} {m : Nat} {S : St} (H : ModR I m S) (h : smM I I' m) (hR : ∀ j, j < 891 → I' (m + 1) j = I (m + 1) j) : ModR I' m S :=
  H.sl h S.1 fun s hs => (H.1 s hs).fr fun j h1 h2 => hR j (by omega)
/-- what a call of the reference leaves: r, in the memory I', its answer b -/
def MO (r : Res) (I I' : Nat → Nat → Int) (m : Nat) (b : Int) : Prop := ModR I' m r.2.2 ∧ I' m 17 = r.1 ∧ (r.1 = 0 → b = r.2.1) ∧ ∀ a, a < m ∨ m + 14 ≤ a → I' a = I a
theorem MO.err {I I' : Nat → Nat → Int} {m : Nat} {S : St} {r : Res} {t b : Int} (H : ModR I m S) (hr : r = sx S t) (ht : t ≠ 0) (h : ∀ a j, ¬ (a = m ∧ j = 17) → I' a j = I a j) (h17 : I' m 17 = t) : MO r I I' m b := by
  rw [hr]
  refine ⟨H.same ⟨fun a h1 _ _ => funext fun j => h a j (by omega), fun j _ h2 => h m j (by omega)⟩ fun j _ => h _ j (by omega), h17, fun h0 => absurd h0 ht, fun a ha => funext fun j => h a j (by omega)⟩
theorem MO.errw {h : aH} {m : Nat} {S : St} {r : Res} {t b : Int} (H : ModR (hiv h) m S) (hr : r = sx S t) (ht : t ≠ 0) : MO r (hiv h) (hiv (hwi h m 17 t)) m b :=
  MO.err H hr ht (fun a j hn => if_neg hn) (if_pos ⟨rfl, rfl⟩)
theorem MO.errw2 {h : aH} {m : Nat} {S : St} {r : Res} {t t0 b : Int} (H : ModR (hiv h) m S) (hr : r = sx S t) (ht : t ≠ 0) : MO r (hiv h) (hiv (hwi (hwi h m 17 t0) m 17 t)) m b :=
  MO.err H hr ht (fun a j hn => (if_neg hn).trans (if_neg hn)) (if_pos ⟨rfl, rfl⟩)
theorem MO.errw3 {h : aH} {m : Nat} {S : St} {r : Res} {t t0 t1 b : Int} (H : ModR (hiv h) m S) (hr : r = sx S t) (ht : t ≠ 0) : MO r (hiv h) (hiv (hwi (hwi (hwi h m 17 t1) m 17 t0) m 17 t)) m b :=
  MO.err H hr ht (fun a j hn => (if_neg hn).trans ((if_neg hn).trans (if_neg hn))) (if_pos ⟨rfl, rfl⟩)
theorem MO.errw4 {h : aH} {m : Nat} {S : St} {r : Res} {t t0 t1 t2 b : Int} (H : ModR (hiv h) m S) (hr : r = sx S t) (ht : t ≠ 0) : MO r (hiv h) (hiv (hwi (hwi (hwi (hwi h m 17 t2) m 17 t1) m 17 t0) m 17 t)) m b :=
  MO.err H hr ht (fun a j hn => (if_neg hn).trans ((if_neg hn).trans ((if_neg hn).trans (if_neg hn)))) (if_pos ⟨rfl, rfl⟩)
/-- thrown is set to 0: the state is as it was -/
theorem ModR.th {h : aH} {m : Nat} {S : St} {t : Int} (H : ModR (hiv h) m S) : ModR (hiv (hwi h m 17 t)) m S :=
  H.same ⟨fun a h1 _ _ => funext fun j => if_neg (by omega), fun j _ h2 => if_neg (by omega)⟩ fun j _ => if_neg (by omega)
section M4
variable {h : aH} {m : Nat} {S : St} {Q : aR → Prop}
theorem m_in2 {v lo hi : Int} (k1 : lo ≤ v ∧ v ≤ hi → Q (.inl (some (vI 1)), h)) (k0 : ¬ (lo ≤ v ∧ v ≤ hi) → Q (.inl (some (vI 0)), h)) : amT mX8_in 0 [vI v, vI lo, vI hi] [] h Q := by
  refine kr_iload_n (pc := 0) dX8_in_0 rfl ?_
  refine kr_iload_n (pc := 1) dX8_in_1 rfl ?_
  refine kr_icmp_lt (pc := 2) dX8_in_2 rfl (fun h2 => ?_) (fun h2 => ?_)
  · refine kr_iconst (pc := 14) dX8_in_14 (by decide) ?_
    refine kr_ireturn (pc := 15) dX8_in_15 rfl ?_
    first | exact k1 (by omega) | exact k0 (by omega)
  · refine kr_iload_n (pc := 5) dX8_in_5 rfl ?_
    refine kr_iload_n (pc := 6) dX8_in_6 rfl ?_
    refine kr_icmp_gt (pc := 7) dX8_in_7 rfl (fun h7 => ?_) (fun h7 => ?_)
    · refine kr_iconst (pc := 14) dX8_in_14 (by decide) ?_
      refine kr_ireturn (pc := 15) dX8_in_15 rfl ?_
      first | exact k1 (by omega) | exact k0 (by omega)
    · refine kr_iconst (pc := 10) dX8_in_10 (by decide) ?_
      refine kr_goto (pc := 11) dX8_in_11 rfl ?_
      refine kr_ireturn (pc := 15) dX8_in_15 rfl ?_
      first | exact k1 (by omega) | exact k0 (by omega)
theorem m_isC {c : Int} (k1 : 0 ≤ c ∧ c ≤ 2 → Q (.inl (some (vI 1)), h)) (k0 : ¬ (0 ≤ c ∧ c ≤ 2) → Q (.inl (some (vI 0)), h)) : amT mX8_isCandidate 0 [vI c] [] h Q := by
  refine kr_iload_n (pc := 0) dX8_isCandidate_0 rfl ?_
  refine kr_iconst (pc := 1) dX8_isCandidate_1 (by decide) ?_
  refine kr_iconst (pc := 2) dX8_isCandidate_2 (by decide) ?_
  refine kr_s3 (pc := 3) dX8_isCandidate_3 rfl rfl (Nat.le_of_ble_eq_true rfl) rfl rfl rfl (m_in2 (fun c3 => ?_) (fun c3 => ?_))
  · show amT _ _ _ _ _ _
    refine kr_ireturn (pc := 6) dX8_isCandidate_6 rfl ?_
    first | exact k1 (by omega) | exact k0 (by omega)
  · show amT _ _ _ _ _ _
    refine kr_ireturn (pc := 6) dX8_isCandidate_6 rfl ?_
    first | exact k1 (by omega) | exact k0 (by omega)
theorem m_isS {c : Int} (k1 : 0 ≤ c ∧ c ≤ 2 → Q (.inl (some (vI 1)), h)) (k0 : ¬ (0 ≤ c ∧ c ≤ 2) → Q (.inl (some (vI 0)), h)) : amT mX8_isSection 0 [vI c] [] h Q := by
  refine kr_iload_n (pc := 0) dX8_isSection_0 rfl ?_
  refine kr_iconst (pc := 1) dX8_isSection_1 (by decide) ?_
  refine kr_iconst (pc := 2) dX8_isSection_2 (by decide) ?_
  refine kr_s3 (pc := 3) dX8_isSection_3 rfl rfl (Nat.le_of_ble_eq_true rfl) rfl rfl rfl (m_in2 (fun c3 => ?_) (fun c3 => ?_))
  · show amT _ _ _ _ _ _
    refine kr_ireturn (pc := 6) dX8_isSection_6 rfl ?_
    first | exact k1 (by omega) | exact k0 (by omega)
  · show amT _ _ _ _ _ _
    refine kr_ireturn (pc := 6) dX8_isSection_6 rfl ?_
    first | exact k1 (by omega) | exact k0 (by omega)
theorem m_isF {c : Int} (k1 : 0 ≤ c ∧ c ≤ 1 → Q (.inl (some (vI 1)), h)) (k0 : ¬ (0 ≤ c ∧ c ≤ 1) → Q (.inl (some (vI 0)), h)) : amT mX8_isField 0 [vI c] [] h Q := by
  refine kr_iload_n (pc := 0) dX8_isField_0 rfl ?_
  refine kr_if_eq (pc := 1) dX8_isField_1 rfl (fun h1 => ?_) (fun h1 => ?_)
  · refine kr_iconst (pc := 9) dX8_isField_9 (by decide) ?_
    refine kr_goto (pc := 10) dX8_isField_10 rfl ?_
    refine kr_ireturn (pc := 14) dX8_isField_14 rfl ?_
    first | exact k1 (by omega) | exact k0 (by omega)
  · refine kr_iload_n (pc := 4) dX8_isField_4 rfl ?_
    refine kr_iconst (pc := 5) dX8_isField_5 (by decide) ?_
    refine kr_icmp_ne (pc := 6) dX8_isField_6 rfl (fun h6 => ?_) (fun h6 => ?_)
    · refine kr_iconst (pc := 13) dX8_isField_13 (by decide) ?_
      refine kr_ireturn (pc := 14) dX8_isField_14 rfl ?_
      first | exact k1 (by omega) | exact k0 (by omega)
    · refine kr_iconst (pc := 9) dX8_isField_9 (by decide) ?_
      refine kr_goto (pc := 10) dX8_isField_10 rfl ?_
      refine kr_ireturn (pc := 14) dX8_isField_14 rfl ?_
      first | exact k1 (by omega) | exact k0 (by omega)
theorem m_isK {s c : Int} (k1 : (0 ≤ s ∧ s ≤ 2) ∧ 0 ≤ c ∧ c ≤ 9 → Q (.inl (some (vI 1)), h)) (k0 : ¬ ((0 ≤ s ∧ s ≤ 2) ∧ 0 ≤ c ∧ c ≤ 9) → Q (.inl (some (vI 0)), h)) : amT mX8_isKey 0 [vI s, vI c] [] h Q := by
  refine kr_iload_n (pc := 0) dX8_isKey_0 rfl ?_
  refine kr_s1 (pc := 1) dX8_isKey_1 rfl rfl (Nat.le_of_ble_eq_true rfl) rfl (m_isS (fun c1 => ?_) (fun c1 => ?_))
  · show amT _ _ _ _ _ _
    refine kr_if_eq (pc := 4) dX8_isKey_4 rfl (fun h => absurd h (by decide)) (fun _ => ?_)
    refine kr_iload_n (pc := 7) dX8_isKey_7 rfl ?_
    refine kr_iconst (pc := 8) dX8_isKey_8 (by decide) ?_
    refine kr_bipush (pc := 9) dX8_isKey_9 (by decide) ?_
    refine kr_s3 (pc := 11) dX8_isKey_11 rfl rfl (Nat.le_of_ble_eq_true rfl) rfl rfl rfl (m_in2 (fun c11 => ?_) (fun c11 => ?_))
    · show amT _ _ _ _ _ _
      refine kr_if_eq (pc := 14) dX8_isKey_14 rfl (fun h => absurd h (by decide)) (fun _ => ?_)
      refine kr_iconst (pc := 17) dX8_isKey_17 (by decide) ?_
      refine kr_goto (pc := 18) dX8_isKey_18 rfl ?_
      refine kr_ireturn (pc := 22) dX8_isKey_22 rfl ?_
      first | exact k1 (by omega) | exact k0 (by omega)
    · show amT _ _ _ _ _ _
      refine kr_if_eq (pc := 14) dX8_isKey_14 rfl (fun _ => ?_) (fun h => absurd h (by decide))
      refine kr_iconst (pc := 21) dX8_isKey_21 (by decide) ?_
      refine kr_ireturn (pc := 22) dX8_isKey_22 rfl ?_
      first | exact k1 (by omega) | exact k0 (by omega)
  · show amT _ _ _ _ _ _
    refine kr_if_eq (pc := 4) dX8_isKey_4 rfl (fun _ => ?_) (fun h => absurd h (by decide))
    refine kr_iconst (pc := 21) dX8_isKey_21 (by decide) ?_
    refine kr_ireturn (pc := 22) dX8_isKey_22 rfl ?_
    first | exact k1 (by omega) | exact k0 (by omega)
theorem m_slot {w : Int} (M : MS h m) (H : ModR (hiv h) m S) (HS : okS S) (k1 : ∀ n : Nat, slt S w = n → n < 33 → Q (.inl (some (vI (n : Int))), h)) (k0 : slt S w = -1 → Q (.inl (some (vI (-1))), h)) : amT mX8_slot 0 [vR m, vI w] [] h Q := by
  have h0 := M.o
  have h1 := M.2.2.2.1
  have h2 := M.2.2.2.2.1
  have hr : hiv h m 3 = S.2.2.2.1 := H.2.2.1
  have hb := HS.2.2.1
  have e := HS.slt w
  refine kr_iload_n (pc := 0) dX8_slot_0 rfl ?_
  refine kr_iconst (pc := 1) dX8_slot_1 (by decide) ?_
  refine kr_iconst (pc := 2) dX8_slot_2 (by decide) ?_
  refine kr_s3 (pc := 3) dX8_slot_3 rfl rfl (Nat.le_of_ble_eq_true rfl) rfl rfl rfl (m_in2 (fun c3 => ?_) (fun c3 => ?_))
  · show amT _ _ _ _ _ _
    refine kr_if_eq (pc := 6) dX8_slot_6 rfl (fun h => absurd h (by decide)) (fun _ => ?_)
    refine kr_aload_n (pc := 9) dX8_slot_9 rfl ?_
    refine kr_getr (pc := 10) dX8_slot_10 rfl rfl (by assumption) (by assumption) ?_
    refine kr_iload_n (pc := 13) dX8_slot_13 rfl ?_
    refine kr_iald (pc := 14) dX8_slot_14 (by assumption) (by omega) (by omega) rfl ?_
    refine kr_iconst (pc := 15) dX8_slot_15 (by decide) ?_
    refine kr_icmp_ne (pc := 16) dX8_slot_16 rfl (fun h16 => ?_) (fun h16 => ?_)
    · refine kr_iconst (pc := 23) dX8_slot_23 (by decide) ?_
      refine kr_ireturn (pc := 24) dX8_slot_24 rfl ?_
      exact k0 (by unfold slt; rw [if_pos c3, if_neg (by have ho := (H.2.1 w.toNat (by omega)).1; omega)])
    · refine kr_iload_n (pc := 19) dX8_slot_19 rfl ?_
      refine kr_goto (pc := 20) dX8_slot_20 rfl ?_
      refine kr_ireturn (pc := 24) dX8_slot_24 rfl ?_
      have e9 : slt S w = w := by unfold slt; rw [if_pos c3, if_pos (by have ho := (H.2.1 w.toNat (by omega)).1; omega)]
      have e8 := k1 w.toNat (by omega) (by omega)
      rw [show ((w.toNat : Nat) : Int) = w by omega] at e8
      exact e8
  · show amT _ _ _ _ _ _
    refine kr_if_eq (pc := 6) dX8_slot_6 rfl (fun _ => ?_) (fun h => absurd h (by decide))
    refine kr_iload_n (pc := 25) dX8_slot_25 rfl ?_
    refine kr_bipush (pc := 26) dX8_slot_26 (by decide) ?_
    refine kr_bipush (pc := 28) dX8_slot_28 (by decide) ?_
    refine kr_aload_n (pc := 30) dX8_slot_30 rfl ?_
    refine kr_geti (pc := 31) dX8_slot_31 rfl (by decide) (by assumption) rfl ?_
    refine kr_iadd (pc := 34) dX8_slot_34 ⟨by omega, by omega⟩ ?_
    refine kr_s3 (pc := 35) dX8_slot_35 rfl rfl (Nat.le_of_ble_eq_true rfl) rfl rfl rfl (m_in2 (fun c35 => ?_) (fun c35 => ?_))
    · show amT _ _ _ _ _ _
      refine kr_if_eq (pc := 38) dX8_slot_38 rfl (fun h => absurd h (by decide)) (fun _ => ?_)
      refine kr_iload_n (pc := 41) dX8_slot_41 rfl ?_
      refine kr_bipush (pc := 42) dX8_slot_42 (by decide) ?_
      refine kr_isub (pc := 44) dX8_slot_44 ⟨by omega, by omega⟩ ?_
      refine kr_goto (pc := 45) dX8_slot_45 rfl ?_
      refine kr_ireturn (pc := 49) dX8_slot_49 rfl ?_
      have e9 : slt S w = w - 7 := by unfold slt; rw [if_neg c3, if_pos (by omega)]
      have e8 := k1 (w - 7).toNat (by omega) (by omega)
      rw [show (((w - 7).toNat : Nat) : Int) = w - 7 by omega] at e8
      exact e8
    · show amT _ _ _ _ _ _
      refine kr_if_eq (pc := 38) dX8_slot_38 rfl (fun _ => ?_) (fun h => absurd h (by decide))
      refine kr_iconst (pc := 48) dX8_slot_48 (by decide) ?_
      refine kr_ireturn (pc := 49) dX8_slot_49 rfl ?_
      exact k0 (by unfold slt; rw [if_neg c3, if_neg (by omega)])
end M4
