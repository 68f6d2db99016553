/-! THE REFERENCE'S SECTIONS: lists of entries in its rows -/
/-- the place of a key; -1 if it isn't there -/
def kix : List Ent → Int → Int
  | [], _ => -1
  | e :: l, k => if e.1 = k then 0 else if kix l k = -1 then -1 else kix l k + 1
theorem kix_rng : ∀ (l : List Ent) (k : Int), -1 ≤ kix l k ∧ kix l k < l.length
  | [], k => by simp [kix]
  | e :: l, k => by
    have := kix_rng l k
    unfold kix
    rw [List.length_cons]
    split
    · omega
    · split <;> omega
theorem kix_none : ∀ {l : List Ent} {k : Int}, kix l k = -1 ↔ ∀ (i : Nat) (e : Ent), l[i]? = some e → e.1 ≠ k
  | [], k => by simp [kix]
  | e :: l, k => by
    have ih := @kix_none l k
    have hr := kix_rng l k
    unfold kix
    by_cases h1 : e.1 = k
    · rw [if_pos h1]
      exact ⟨fun h => absurd h (by decide), fun h => absurd h1 (h 0 e rfl)⟩
    · rw [if_neg h1]
      by_cases h2 : kix l k = -1
      · rw [if_pos h2]
        refine ⟨fun _ i e' he => ?_, fun _ => rfl⟩
        cases i with
        | zero => cases he; exact h1
        | succ i => exact ih.mp h2 i e' he
      · rw [if_neg h2]
        refine ⟨fun h => by omega, fun h => ?_⟩
        exact absurd (ih.mpr fun i e' he => h (i + 1) e' he) h2
theorem kix_some : ∀ {l : List Ent} {k : Int} {i : Nat} {e : Ent}, l[i]? = some e → e.1 = k → (∀ (j : Nat) (e' : Ent), j < i → l[j]? = some e' → e'.1 ≠ k) → kix l k = i
  | [], k, i, e, h, _, _ => by simp at h
  | e0 :: l, k, i, e, h, hk, hj => by
    unfold kix
    cases i with
    | zero => cases h; rw [if_pos hk]; rfl
    | succ i =>
      have h1 : e0.1 ≠ k := hj 0 e0 (by omega) rfl
      have ih := kix_some (l := l) (k := k) (i := i) h hk (fun j e' h1 h2 => hj (j + 1) e' (by omega) h2)
      rw [if_neg h1, if_neg (by omega), ih]
      omega
theorem kix_get : ∀ {l : List Ent} {k : Int}, kix l k ≠ -1 → ∃ (i : Nat) (e : Ent), kix l k = i ∧ l[i]? = some e ∧ e.1 = k
  | [], k, h => absurd rfl h
  | e0 :: l, k, h => by
    unfold kix at h ⊢
    by_cases h1 : e0.1 = k
    · exact ⟨0, e0, by rw [if_pos h1]; rfl, rfl, h1⟩
    · rw [if_neg h1] at h ⊢
      by_cases h2 : kix l k = -1
      · rw [if_pos h2] at h
        exact absurd rfl h
      · obtain ⟨i, e, g1, g2, g3⟩ := kix_get h2
        refine ⟨i + 1, e, ?_, g2, g3⟩
        rw [if_neg h2, g1]
        omega
/-- the heap with other numbers in the cell a -/
def sa (h : aH) (a : Nat) (f : Nat → Int) : aH := (h.1, fun b j => if b = a then f j else h.2.1 b j, h.2.2)
theorem hiv_sa {h : aH} {a : Nat} {f : Nat → Int} : hiv (sa h a f) a = f := by
  funext j
  exact if_pos rfl
theorem hiv_sa_ne {h : aH} {a b : Nat} {f : Nat → Int} (hb : b ≠ a) : hiv (sa h a f) b = hiv h b := by
  funext j
  exact if_neg hb
theorem hwi_sa {h : aH} {a k : Nat} {f : Nat → Int} {x : Int} : hwi (sa h a f) a k x = sa h a (fun j => if j = k then x else f j) := by
  unfold hwi sa up2
  dsimp only
  congr 2
  funext b j
  by_cases hb : b = a <;> by_cases hj : j = k <;> simp [hb, hj]
theorem sa_self {h : aH} {a : Nat} : sa h a (hiv h a) = h := by
  obtain ⟨h1, h2, h3⟩ := h
  show (h1, _, h3) = (h1, h2, h3)
  congr 2
  funext b j
  by_cases hb : b = a
  · subst hb
    exact if_pos rfl
  · exact if_neg hb
theorem sa_sa {h : aH} {a : Nat} {f g : Nat → Int} : sa (sa h a f) a g = sa h a g := by
  unfold sa
  dsimp only
  congr 2
  funext b j
  by_cases hb : b = a <;> simp [hb]
theorem hwi_of {h : aH} {a k : Nat} {x : Int} : hwi h a k x = sa h a (fun j => if j = k then x else hiv h a j) := by
  have e := hwi_sa (h := h) (a := a) (k := k) (f := hiv h a) (x := x)
  rw [sa_self] at e
  exact e
/-- the section c of the slot s holds the entries l -/
def SecM (R : Nat → Int) (s c : Nat) (l : List Ent) : Prop := s ≤ 34 ∧ c ≤ 2 ∧ l.length ≤ 6 ∧ R (27 * s + c) = l.length ∧ ∀ (i : Nat) (e : Ent), l[i]? = some e → R (27 * s + 3 + 6 * c + i) = pk e ∧ okE e
theorem SecM.at {R : Nat → Int} {s c : Nat} {l : List Ent} (H : SecM R s c l) {i : Nat} (hi : i < l.length) : ∃ e, l[i]? = some e ∧ R (27 * s + 3 + 6 * c + i) = pk e ∧ okE e := by
  obtain ⟨e, he⟩ : ∃ e, l[i]? = some e := ⟨l[i], List.getElem?_eq_getElem hi⟩
  exact ⟨e, he, H.2.2.2.2 i e he⟩
section M3
variable {h : aH} {m s c : Nat} {l : List Ent} {Q : aR → Prop}
theorem m_find {key : Int} (M : MS h m) (H : SecM (hiv h (m + 1)) s c l) (k : Q (.inl (some (vI (kix l key))), h)) : amT mX8_find 0 [vR m, vI s, vI c, vI key] [] h Q := by
  have h0 := M.o
  obtain ⟨h1, h2⟩ := M.r
  obtain ⟨hs, hc, hl, hn, hg⟩ := id H
  have hn' : hiv h (m + 1) (27 * (s : Int) + c).toNat = l.length := by rw [← hn]; congr 1
  have fin : ∀ i : Nat, i ≤ l.length → (i = l.length → kix l key = -1) → (i < l.length → kix l key = i) → amT mX8_find 39 [vR m, vI s, vI c, vI key, vI i] [] h Q := by
    intro i hi k1 k2
    refine kr_iload (pc := 39) dX8_find_39 rfl ?_
    refine kr_aload_n (pc := 41) dX8_find_41 rfl ?_
    refine kr_iload_n (pc := 42) dX8_find_42 rfl ?_
    refine kr_iload_n (pc := 43) dX8_find_43 rfl ?_
    refine kr_v2 (pc := 44) dX8_find_44 rfl rfl (by assumption) (Nat.le_of_ble_eq_true rfl) rfl rfl (m_many M ⟨by omega, by omega⟩ ⟨by omega, by omega⟩ ?_)
    show amT _ _ _ _ _ _
    rw [hn']
    refine kr_icmp_ge (pc := 47) dX8_find_47 rfl (fun h5 => ?_) (fun h5 => ?_)
    · refine kr_iconst (pc := 55) dX8_find_55 (by decide) ?_
      refine kr_ireturn (pc := 56) dX8_find_56 rfl ?_
      rw [k1 (by omega)] at k
      exact k
    · refine kr_iload (pc := 50) dX8_find_50 rfl ?_
      refine kr_goto (pc := 52) dX8_find_52 rfl ?_
      refine kr_ireturn (pc := 56) dX8_find_56 rfl ?_
      rw [k2 (by omega)] at k
      exact k
  have loop : ∀ d i : Nat, i + d = l.length → (∀ (j : Nat) (e : Ent), j < i → l[j]? = some e → e.1 ≠ key) → amT mX8_find 3 [vR m, vI s, vI c, vI key, vI i] [] h Q := by
    intro d
    induction d with
    | zero =>
      intro i hi hj
      refine kr_iload (pc := 3) dX8_find_3 rfl ?_
      refine kr_aload_n (pc := 5) dX8_find_5 rfl ?_
      refine kr_iload_n (pc := 6) dX8_find_6 rfl ?_
      refine kr_iload_n (pc := 7) dX8_find_7 rfl ?_
      refine kr_v2 (pc := 8) dX8_find_8 rfl rfl (by assumption) (Nat.le_of_ble_eq_true rfl) rfl rfl (m_many M ⟨by omega, by omega⟩ ⟨by omega, by omega⟩ ?_)
      show amT _ _ _ _ _ _
      rw [hn']
      refine kr_icmp_ge (pc := 11) dX8_find_11 rfl (fun h5 => ?_) (fun h5 => ?_)
      · exact fin i (by omega) (fun _ => kix_none.mpr fun j e he => hj j e (by have := (List.getElem?_eq_some_iff.mp he).1; omega) he) (fun _ => by omega)
      · omega
    | succ d ih =>
      intro i hi hj
      obtain ⟨e, he, hr, ho⟩ := H.at (i := i) (by omega)
      have hr' : hiv h (m + 1) (27 * (s : Int) + 3 + 6 * c + i).toNat = pk e := by rw [← hr]; congr 1
      refine kr_iload (pc := 3) dX8_find_3 rfl ?_
      refine kr_aload_n (pc := 5) dX8_find_5 rfl ?_
      refine kr_iload_n (pc := 6) dX8_find_6 rfl ?_
      refine kr_iload_n (pc := 7) dX8_find_7 rfl ?_
      refine kr_v2 (pc := 8) dX8_find_8 rfl rfl (by assumption) (Nat.le_of_ble_eq_true rfl) rfl rfl (m_many M ⟨by omega, by omega⟩ ⟨by omega, by omega⟩ ?_)
      show amT _ _ _ _ _ _
      rw [hn']
      refine kr_icmp_ge (pc := 11) dX8_find_11 rfl (fun h5 => ?_) (fun h5 => ?_)
      · omega
      · refine kr_aload_n (pc := 14) dX8_find_14 rfl ?_
        refine kr_getr (pc := 15) dX8_find_15 rfl rfl (by assumption) (by assumption) ?_
        refine kr_iload_n (pc := 18) dX8_find_18 rfl ?_
        refine kr_iload_n (pc := 19) dX8_find_19 rfl ?_
        refine kr_iload (pc := 20) dX8_find_20 rfl ?_
        refine kr_s3 (pc := 22) dX8_find_22 rfl rfl (Nat.le_of_ble_eq_true rfl) rfl rfl rfl (m_at ⟨by omega, by omega⟩ ⟨by omega, by omega⟩ ⟨by omega, by omega⟩ ?_)
        show amT _ _ _ _ _ _
        refine kr_iald (pc := 25) dX8_find_25 (by assumption) (by omega) (by omega) rfl ?_
        rw [hr']
        refine kr_s1 (pc := 26) dX8_find_26 rfl rfl (Nat.le_of_ble_eq_true rfl) rfl (m_key (pk_rng ho).1 ?_)
        show amT _ _ _ _ _ _
        rw [pk_key ho]
        refine kr_iload_n (pc := 29) dX8_find_29 rfl ?_
        refine kr_icmp_eq (pc := 30) dX8_find_30 rfl (fun h6 => ?_) (fun h6 => ?_)
        · exact fin i (by omega) (fun _ => by omega) (fun _ => kix_some he h6 hj)
        · refine kr_iinc (pc := 33) dX8_find_33 rfl ⟨⟨by omega, by omega⟩, by decide, by decide⟩ ?_
          simp only [stl, List.tail_cons, List.tail_nil]
          refine kr_goto (pc := 36) dX8_find_36 rfl ?_
          refine ih (i + 1) (by omega) fun j e' h7 h8 => ?_
          by_cases h9 : j = i
          · subst h9
            rw [he] at h8
            cases h8
            exact h6
          · exact hj j e' (by omega) h8
  refine kr_iconst (pc := 0) dX8_find_0 (by decide) ?_
  refine kr_istore (pc := 1) dX8_find_1 (show 4 ≤ _ from by simp) (by decide) ?_
  simp only [stl, List.tail_cons, List.tail_nil]
  exact loop l.length 0 (by omega) (fun j e hj => by omega)
/-- outside of a section -/
def offS (s c j : Nat) : Prop := j ≠ 27 * s + c ∧ (j < 27 * s + 3 + 6 * c ∨ 27 * s + 9 + 6 * c ≤ j)
def tkF (R : Nat → Int) (s c n p k : Nat) : Nat → Int := fun j => if j = 27 * s + c then (n : Int) - 1 else if 27 * s + 3 + 6 * c + p ≤ j ∧ j < 27 * s + 3 + 6 * c + k then R (j + 1) else R j
theorem m_takes {p : Nat} (M : MS h m) (H : SecM (hiv h (m + 1)) s c l) (hp : p < l.length)
    (k : ∀ R' : Nat → Int, SecM R' s c (l.eraseIdx p) → (∀ j, offS s c j → R' j = hiv h (m + 1) j) → Q (.inl none, sa h (m + 1) R')) : amT mX8_takes 0 [vR m, vI s, vI c, vI p] [] h Q := by
  have h0 := M.o
  obtain ⟨h1, h2⟩ := M.r
  obtain ⟨hs, hc, hl, hn, hg⟩ := id H
  obtain ⟨R, hR⟩ : ∃ R, R = hiv h (m + 1) := ⟨_, rfl⟩
  rw [← hR] at hn hg
  have fin : Q (.inl none, sa h (m + 1) (tkF R s c l.length p (l.length - 1))) := by
    refine k _ ⟨hs, hc, by rw [List.length_eraseIdx_of_lt hp]; omega, ?_, ?_⟩ fun j hj => ?_
    · unfold tkF
      rw [if_pos rfl, List.length_eraseIdx_of_lt hp]
      omega
    · intro i e he
      rw [List.getElem?_eraseIdx] at he
      unfold tkF
      rw [if_neg (by omega)]
      by_cases hi : i < p
      · rw [if_pos hi] at he
        rw [if_neg (by omega)]
        exact hg i e he
      · rw [if_neg hi] at he
        have hlt := (List.getElem?_eq_some_iff.mp he).1
        rw [if_pos (by omega)]
        exact hg (i + 1) e he
    · unfold offS at hj
      unfold tkF
      rw [if_neg (by omega), if_neg (by omega), hR]
  have loop : ∀ d i : Nat, i + d = l.length - 1 → p ≤ i → amT mX8_takes 18 [vR m, vI s, vI c, vI p, vI i] [] (sa h (m + 1) (tkF R s c l.length p i)) Q := by
    intro d
    have M' : ∀ i, MS (sa h (m + 1) (tkF R s c l.length p i)) m := fun _ => M
    have hcnt : ∀ i, hiv (sa h (m + 1) (tkF R s c l.length p i)) (m + 1) (27 * (s : Int) + c).toNat = (l.length : Int) - 1 := fun i => by
      rw [hiv_sa]
      unfold tkF
      rw [if_pos (by omega)]
    induction d with
    | zero =>
      intro i hi hpi
      refine kr_iload (pc := 18) dX8_takes_18 rfl ?_
      refine kr_aload_n (pc := 20) dX8_takes_20 rfl ?_
      refine kr_iload_n (pc := 21) dX8_takes_21 rfl ?_
      refine kr_iload_n (pc := 22) dX8_takes_22 rfl ?_
      refine kr_v2 (pc := 23) dX8_takes_23 rfl rfl (by assumption) (Nat.le_of_ble_eq_true rfl) rfl rfl (m_many (M' i) ⟨by omega, by omega⟩ ⟨by omega, by omega⟩ ?_)
      show amT _ _ _ _ _ _
      rw [hcnt]
      refine kr_icmp_ge (pc := 26) dX8_takes_26 rfl (fun h5 => ?_) (fun h5 => ?_)
      · refine kr_return (d0 := ()) (pc := 61) dX8_takes_61 rfl ?_
        rw [show i = l.length - 1 by omega]
        exact fin
      · omega
    | succ d ih =>
      intro i hi hpi
      refine kr_iload (pc := 18) dX8_takes_18 rfl ?_
      refine kr_aload_n (pc := 20) dX8_takes_20 rfl ?_
      refine kr_iload_n (pc := 21) dX8_takes_21 rfl ?_
      refine kr_iload_n (pc := 22) dX8_takes_22 rfl ?_
      refine kr_v2 (pc := 23) dX8_takes_23 rfl rfl (by assumption) (Nat.le_of_ble_eq_true rfl) rfl rfl (m_many (M' i) ⟨by omega, by omega⟩ ⟨by omega, by omega⟩ ?_)
      show amT _ _ _ _ _ _
      rw [hcnt]
      refine kr_icmp_ge (pc := 26) dX8_takes_26 rfl (fun h5 => ?_) (fun h5 => ?_)
      · omega
      · refine kr_aload_n (pc := 29) dX8_takes_29 rfl ?_
        refine kr_getr (pc := 30) dX8_takes_30 rfl rfl (by assumption) (by assumption) ?_
        refine kr_iload_n (pc := 33) dX8_takes_33 rfl ?_
        refine kr_iload_n (pc := 34) dX8_takes_34 rfl ?_
        refine kr_iload (pc := 35) dX8_takes_35 rfl ?_
        refine kr_s3 (pc := 37) dX8_takes_37 rfl rfl (Nat.le_of_ble_eq_true rfl) rfl rfl rfl (m_at ⟨by omega, by omega⟩ ⟨by omega, by omega⟩ ⟨by omega, by omega⟩ ?_)
        show amT _ _ _ _ _ _
        refine kr_aload_n (pc := 40) dX8_takes_40 rfl ?_
        refine kr_getr (pc := 41) dX8_takes_41 rfl rfl (by assumption) (by assumption) ?_
        refine kr_iload_n (pc := 44) dX8_takes_44 rfl ?_
        refine kr_iload_n (pc := 45) dX8_takes_45 rfl ?_
        refine kr_iload (pc := 46) dX8_takes_46 rfl ?_
        refine kr_iconst (pc := 48) dX8_takes_48 (by decide) ?_
        refine kr_iadd (pc := 49) dX8_takes_49 ⟨by omega, by omega⟩ ?_
        refine kr_s3 (pc := 50) dX8_takes_50 rfl rfl (Nat.le_of_ble_eq_true rfl) rfl rfl rfl (m_at ⟨by omega, by omega⟩ ⟨by omega, by omega⟩ ⟨by omega, by omega⟩ ?_)
        show amT _ _ _ _ _ _
        refine kr_iald (pc := 53) dX8_takes_53 (by assumption) (by omega) (by omega) rfl ?_
        refine kr_iast (pc := 54) dX8_takes_54 (by assumption) (by omega) (by omega) ?_
        refine kr_iinc (pc := 55) dX8_takes_55 rfl ⟨⟨by omega, by omega⟩, by decide, by decide⟩ ?_
        simp only [stl, List.tail_cons, List.tail_nil]
        refine kr_goto (pc := 58) dX8_takes_58 rfl ?_
        rw [hwi_sa, hiv_sa]
        have e : (fun j => if j = (27 * (s : Int) + 3 + 6 * c + i).toNat then tkF R s c l.length p i (27 * (s : Int) + 3 + 6 * c + ((i : Int) + 1)).toNat else tkF R s c l.length p i j) = tkF R s c l.length p (i + 1) := by
          funext j
          unfold tkF
          by_cases hj : j = 27 * s + 3 + 6 * c + i
          · rw [if_pos (by omega), if_neg (by omega), if_neg (by omega), if_neg (by omega), if_pos (by omega)]
            congr 1
            omega
          · rw [if_neg (by omega)]
            by_cases h6 : j = 27 * s + c
            · rw [if_pos h6, if_pos h6]
            · rw [if_neg h6, if_neg h6]
              by_cases h7 : 27 * s + 3 + 6 * c + p ≤ j ∧ j < 27 * s + 3 + 6 * c + i
              · rw [if_pos h7, if_pos (by omega)]
              · rw [if_neg h7, if_neg (by omega)]
        rw [e]
        exact ih (i + 1) (by omega) (by omega)
  have hn' : hiv h (m + 1) (27 * (s : Int) + c).toNat = l.length := by rw [← hR, ← hn]; congr 1
  refine kr_aload_n (pc := 0) dX8_takes_0 rfl ?_
  refine kr_getr (pc := 1) dX8_takes_1 rfl rfl (by assumption) (by assumption) ?_
  refine kr_bipush (pc := 4) dX8_takes_4 (by decide) ?_
  refine kr_iload_n (pc := 6) dX8_takes_6 rfl ?_
  refine kr_imul (pc := 7) dX8_takes_7 ⟨by omega, by omega⟩ ?_
  refine kr_iload_n (pc := 8) dX8_takes_8 rfl ?_
  refine kr_iadd (pc := 9) dX8_takes_9 ⟨by omega, by omega⟩ ?_
  refine kr_dup2 (pc := 10) dX8_takes_10 ⟨rfl, rfl⟩ ?_
  refine kr_iald (pc := 11) dX8_takes_11 (by assumption) (by omega) (by omega) rfl ?_
  refine kr_iconst (pc := 12) dX8_takes_12 (by decide) ?_
  refine kr_isub (pc := 13) dX8_takes_13 ⟨by omega, by omega⟩ ?_
  refine kr_iast (pc := 14) dX8_takes_14 (by assumption) (by omega) (by omega) ?_
  refine kr_iload_n (pc := 15) dX8_takes_15 rfl ?_
  refine kr_istore (pc := 16) dX8_takes_16 (show 4 ≤ _ from by simp) (by decide) ?_
  simp only [stl, List.tail_cons, List.tail_nil]
  rw [hwi_of, ← hR]
  have e : (fun j => if j = (27 * (s : Int) + c).toNat then R (27 * (s : Int) + c).toNat - 1 else R j) = tkF R s c l.length p p := by
    funext j
    unfold tkF
    have e1 : (27 * (s : Int) + c).toNat = 27 * s + c := by omega
    rw [e1, hn]
    by_cases h6 : j = 27 * s + c
    · rw [if_pos h6, if_pos h6]
    · rw [if_neg h6, if_neg h6, if_neg (by omega)]
  rw [e]
  exact loop (l.length - 1 - p) p (by omega) (by omega)
def ptF (R : Nat → Int) (s c n k : Nat) : Nat → Int := fun j => if 27 * s + 3 + 6 * c + k < j ∧ j ≤ 27 * s + 3 + 6 * c + n then R (j - 1) else R j
theorem m_puts {p : Nat} {e0 : Ent} (M : MS h m) (H : SecM (hiv h (m + 1)) s c l) (hp : p ≤ l.length) (h6 : l.length < 6) (ho : okE e0)
    (k : ∀ R' : Nat → Int, SecM R' s c (l.insertIdx p e0) → (∀ j, offS s c j → R' j = hiv h (m + 1) j) → Q (.inl none, sa h (m + 1) R')) : amT mX8_puts 0 [vR m, vI s, vI c, vI p, vI (pk e0)] [] h Q := by
  have h0 := M.o
  obtain ⟨h1, h2⟩ := M.r
  obtain ⟨hs, hc, hl, hn, hg⟩ := id H
  obtain ⟨R, hR⟩ : ∃ R, R = hiv h (m + 1) := ⟨_, rfl⟩
  rw [← hR] at hn hg
  have hn' : hiv h (m + 1) (27 * (s : Int) + c).toNat = l.length := by rw [← hR, ← hn]; congr 1
  have fin : Q (.inl none, sa h (m + 1) (fun j => if j = 27 * s + c then (l.length : Int) + 1 else if j = 27 * s + 3 + 6 * c + p then pk e0 else ptF R s c l.length p j)) := by
    refine k _ ⟨hs, hc, by rw [List.length_insertIdx_of_le_length hp]; omega, ?_, ?_⟩ fun j hj => ?_
    · dsimp only
      rw [if_pos rfl, List.length_insertIdx_of_le_length hp]
      omega
    · intro i e he
      rw [List.getElem?_insertIdx] at he
      dsimp only
      rw [if_neg (by omega)]
      by_cases hi : i < p
      · rw [if_pos hi] at he
        unfold ptF
        rw [if_neg (by omega), if_neg (by omega)]
        exact hg i e he
      · rw [if_neg hi] at he
        by_cases hi2 : i = p
        · rw [if_pos hi2, if_pos (by omega)] at he
          cases he
          rw [if_pos (by omega)]
          exact ⟨rfl, ho⟩
        · rw [if_neg hi2] at he
          have hlt := (List.getElem?_eq_some_iff.mp he).1
          unfold ptF
          rw [if_neg (by omega), if_pos (by omega)]
          have := hg (i - 1) e he
          rw [show 27 * s + 3 + 6 * c + i - 1 = 27 * s + 3 + 6 * c + (i - 1) by omega]
          exact this
    · unfold offS at hj
      unfold ptF
      rw [if_neg (by omega), if_neg (by omega), if_neg (by omega), hR]
  have loop : ∀ d i : Nat, p + d = i → i ≤ l.length → amT mX8_puts 8 [vR m, vI s, vI c, vI p, vI (pk e0), vI i] [] (sa h (m + 1) (ptF R s c l.length i)) Q := by
    intro d
    induction d with
    | zero =>
      intro i hi hil
      refine kr_iload (pc := 8) dX8_puts_8 rfl ?_
      refine kr_iload_n (pc := 10) dX8_puts_10 rfl ?_
      refine kr_icmp_le (pc := 11) dX8_puts_11 rfl (fun h5 => ?_) (fun h5 => ?_)
      · refine kr_aload_n (pc := 46) dX8_puts_46 rfl ?_
        refine kr_getr (pc := 47) dX8_puts_47 rfl rfl (by assumption) (by assumption) ?_
        refine kr_iload_n (pc := 50) dX8_puts_50 rfl ?_
        refine kr_iload_n (pc := 51) dX8_puts_51 rfl ?_
        refine kr_iload_n (pc := 52) dX8_puts_52 rfl ?_
        refine kr_s3 (pc := 53) dX8_puts_53 rfl rfl (Nat.le_of_ble_eq_true rfl) rfl rfl rfl (m_at ⟨by omega, by omega⟩ ⟨by omega, by omega⟩ ⟨by omega, by omega⟩ ?_)
        show amT _ _ _ _ _ _
        refine kr_iload (pc := 56) dX8_puts_56 rfl ?_
        refine kr_iast (pc := 58) dX8_puts_58 (by assumption) (by omega) (by omega) ?_
        have e2 : hiv (hwi (sa h (m + 1) (ptF R s c l.length i)) (m + 1) (27 * (s : Int) + 3 + 6 * c + p).toNat (pk e0)) (m + 1) (27 * (s : Int) + c).toNat = (l.length : Int) := by
          rw [hwi_sa, hiv_sa]
          rw [if_neg (by omega)]
          unfold ptF
          rw [if_neg (by omega), ← hn]
          congr 1
        refine kr_aload_n (pc := 59) dX8_puts_59 rfl ?_
        refine kr_getr (pc := 60) dX8_puts_60 rfl rfl (by assumption) (by assumption) ?_
        refine kr_bipush (pc := 63) dX8_puts_63 (by decide) ?_
        refine kr_iload_n (pc := 65) dX8_puts_65 rfl ?_
        refine kr_imul (pc := 66) dX8_puts_66 ⟨by omega, by omega⟩ ?_
        refine kr_iload_n (pc := 67) dX8_puts_67 rfl ?_
        refine kr_iadd (pc := 68) dX8_puts_68 ⟨by omega, by omega⟩ ?_
        refine kr_dup2 (pc := 69) dX8_puts_69 ⟨rfl, rfl⟩ ?_
        refine kr_iald (pc := 70) dX8_puts_70 (by assumption) (by omega) (by omega) rfl ?_
        refine kr_iconst (pc := 71) dX8_puts_71 (by decide) ?_
        refine kr_iadd (pc := 72) dX8_puts_72 ⟨by omega, by omega⟩ ?_
        refine kr_iast (pc := 73) dX8_puts_73 (by assumption) (by omega) (by omega) ?_
        refine kr_return (d0 := ()) (pc := 74) dX8_puts_74 rfl ?_
        rw [e2, hwi_sa, hwi_sa]
        have e : (fun j => if j = (27 * (s : Int) + c).toNat then (l.length : Int) + 1 else if j = (27 * (s : Int) + 3 + 6 * c + p).toNat then pk e0 else ptF R s c l.length i j) = (fun j => if j = 27 * s + c then (l.length : Int) + 1 else if j = 27 * s + 3 + 6 * c + p then pk e0 else ptF R s c l.length p j) := by
          funext j
          rw [show (27 * (s : Int) + c).toNat = 27 * s + c by omega, show (27 * (s : Int) + 3 + 6 * c + p).toNat = 27 * s + 3 + 6 * c + p by omega, show i = p by omega]
        rw [e]
        exact fin
      · omega
    | succ d ih =>
      intro i hi hil
      refine kr_iload (pc := 8) dX8_puts_8 rfl ?_
      refine kr_iload_n (pc := 10) dX8_puts_10 rfl ?_
      refine kr_icmp_le (pc := 11) dX8_puts_11 rfl (fun h5 => ?_) (fun h5 => ?_)
      · omega
      · refine kr_aload_n (pc := 14) dX8_puts_14 rfl ?_
        refine kr_getr (pc := 15) dX8_puts_15 rfl rfl (by assumption) (by assumption) ?_
        refine kr_iload_n (pc := 18) dX8_puts_18 rfl ?_
        refine kr_iload_n (pc := 19) dX8_puts_19 rfl ?_
        refine kr_iload (pc := 20) dX8_puts_20 rfl ?_
        refine kr_s3 (pc := 22) dX8_puts_22 rfl rfl (Nat.le_of_ble_eq_true rfl) rfl rfl rfl (m_at ⟨by omega, by omega⟩ ⟨by omega, by omega⟩ ⟨by omega, by omega⟩ ?_)
        show amT _ _ _ _ _ _
        refine kr_aload_n (pc := 25) dX8_puts_25 rfl ?_
        refine kr_getr (pc := 26) dX8_puts_26 rfl rfl (by assumption) (by assumption) ?_
        refine kr_iload_n (pc := 29) dX8_puts_29 rfl ?_
        refine kr_iload_n (pc := 30) dX8_puts_30 rfl ?_
        refine kr_iload (pc := 31) dX8_puts_31 rfl ?_
        refine kr_iconst (pc := 33) dX8_puts_33 (by decide) ?_
        refine kr_isub (pc := 34) dX8_puts_34 ⟨by omega, by omega⟩ ?_
        refine kr_s3 (pc := 35) dX8_puts_35 rfl rfl (Nat.le_of_ble_eq_true rfl) rfl rfl rfl (m_at ⟨by omega, by omega⟩ ⟨by omega, by omega⟩ ⟨by omega, by omega⟩ ?_)
        show amT _ _ _ _ _ _
        refine kr_iald (pc := 38) dX8_puts_38 (by assumption) (by omega) (by omega) rfl ?_
        refine kr_iast (pc := 39) dX8_puts_39 (by assumption) (by omega) (by omega) ?_
        refine kr_iinc (pc := 40) dX8_puts_40 rfl ⟨⟨by omega, by omega⟩, by decide, by decide⟩ ?_
        simp only [stl, List.tail_cons, List.tail_nil]
        refine kr_goto (pc := 43) dX8_puts_43 rfl ?_
        rw [hwi_sa, hiv_sa]
        have e : (fun j => if j = (27 * (s : Int) + 3 + 6 * c + i).toNat then ptF R s c l.length i (27 * (s : Int) + 3 + 6 * c + ((i : Int) - 1)).toNat else ptF R s c l.length i j) = ptF R s c l.length (i - 1) := by
          funext j
          unfold ptF
          by_cases hj : j = 27 * s + 3 + 6 * c + i
          · rw [if_pos (by omega), if_neg (by omega), if_pos (by omega)]
            congr 1
            omega
          · rw [if_neg (by omega)]
            by_cases h7 : 27 * s + 3 + 6 * c + i < j ∧ j ≤ 27 * s + 3 + 6 * c + l.length
            · rw [if_pos h7, if_pos (by omega)]
            · rw [if_neg h7, if_neg (by omega)]
        rw [e, show (i : Int) + -1 = ((i - 1 : Nat) : Int) by omega]
        exact ih (i - 1) (by omega) (by omega)
  refine kr_aload_n (pc := 0) dX8_puts_0 rfl ?_
  refine kr_iload_n (pc := 1) dX8_puts_1 rfl ?_
  refine kr_iload_n (pc := 2) dX8_puts_2 rfl ?_
  refine kr_v2 (pc := 3) dX8_puts_3 rfl rfl (by assumption) (Nat.le_of_ble_eq_true rfl) rfl rfl (m_many M ⟨by omega, by omega⟩ ⟨by omega, by omega⟩ ?_)
  show amT _ _ _ _ _ _
  rw [hn']
  refine kr_istore (pc := 6) dX8_puts_6 (show 5 ≤ _ from by simp) (by decide) ?_
  simp only [stl, List.tail_cons, List.tail_nil]
  have e : h = sa h (m + 1) (ptF R s c l.length l.length) := by
    have e1 : ptF R s c l.length l.length = hiv h (m + 1) := by
      funext j
      unfold ptF
      rw [if_neg (by omega), hR]
    rw [e1, sa_self]
  rw [e]
  exact loop (l.length - p) l.length (by omega) (Nat.le_refl _)
theorem m_shifts {p q : Nat} {e0 : Ent} (M : MS h m) (H : SecM (hiv h (m + 1)) s c l) (hp : l[p]? = some e0) (hq : q < l.length)
    (k : ∀ R' : Nat → Int, SecM R' s c ((l.eraseIdx p).insertIdx q e0) → (∀ j, offS s c j → R' j = hiv h (m + 1) j) → Q (.inl none, sa h (m + 1) R')) : amT mX8_shifts 0 [vR m, vI s, vI c, vI p, vI q] [] h Q := by
  have h0 := M.o
  obtain ⟨h1, h2⟩ := M.r
  obtain ⟨hs, hc, hl, hn, hg⟩ := id H
  have hp1 := (List.getElem?_eq_some_iff.mp hp).1
  obtain ⟨hr, ho⟩ := hg p e0 hp
  have hr' : hiv h (m + 1) (27 * (s : Int) + 3 + 6 * c + p).toNat = pk e0 := by rw [← hr]; congr 1
  refine kr_aload_n (pc := 0) dX8_shifts_0 rfl ?_
  refine kr_getr (pc := 1) dX8_shifts_1 rfl rfl (by assumption) (by assumption) ?_
  refine kr_iload_n (pc := 4) dX8_shifts_4 rfl ?_
  refine kr_iload_n (pc := 5) dX8_shifts_5 rfl ?_
  refine kr_iload_n (pc := 6) dX8_shifts_6 rfl ?_
  refine kr_s3 (pc := 7) dX8_shifts_7 rfl rfl (Nat.le_of_ble_eq_true rfl) rfl rfl rfl (m_at ⟨by omega, by omega⟩ ⟨by omega, by omega⟩ ⟨by omega, by omega⟩ ?_)
  show amT _ _ _ _ _ _
  refine kr_iald (pc := 10) dX8_shifts_10 (by assumption) (by omega) (by omega) rfl ?_
  refine kr_istore (pc := 11) dX8_shifts_11 (show 5 ≤ _ from by simp) (by decide) ?_
  simp only [stl, List.tail_cons, List.tail_nil]
  refine kr_aload_n (pc := 13) dX8_shifts_13 rfl ?_
  refine kr_iload_n (pc := 14) dX8_shifts_14 rfl ?_
  refine kr_iload_n (pc := 15) dX8_shifts_15 rfl ?_
  refine kr_iload_n (pc := 16) dX8_shifts_16 rfl ?_
  rw [hr']
  refine kr_v3 (pc := 17) dX8_shifts_17 rfl rfl (by assumption) (Nat.le_of_ble_eq_true rfl) rfl rfl rfl (m_takes M H hp1 fun R1 H1 hf1 => ?_)
  show amT _ _ _ _ _ _
  refine kr_aload_n (pc := 20) dX8_shifts_20 rfl ?_
  refine kr_iload_n (pc := 21) dX8_shifts_21 rfl ?_
  refine kr_iload_n (pc := 22) dX8_shifts_22 rfl ?_
  refine kr_iload (pc := 23) dX8_shifts_23 rfl ?_
  refine kr_iload (pc := 25) dX8_shifts_25 rfl ?_
  have M1 : MS (sa h (m + 1) R1) m := M
  have hle : (l.eraseIdx p).length = l.length - 1 := List.length_eraseIdx_of_lt hp1
  refine kr_v4 (pc := 27) dX8_shifts_27 rfl rfl (by assumption) (Nat.le_of_ble_eq_true rfl) rfl rfl rfl rfl (m_puts (c := c) (l := l.eraseIdx p) M1 (by rw [hiv_sa]; exact H1) (by omega) (by omega) ho fun R2 H2 hf2 => ?_)
  show amT _ _ _ _ _ _
  rw [sa_sa]
  rw [hiv_sa] at hf2
  refine kr_return (d0 := ()) (pc := 30) dX8_shifts_30 rfl ?_
  exact k R2 H2 fun j hj => (hf2 j hj).trans (hf1 j hj)
theorem m_copies {a b : Nat} (M : MS h m) (ha : a ≤ 34) (hb : b ≤ 34) (k : Q (.inl none, sa h (m + 1) (fun j => if 27 * b ≤ j ∧ j < 27 * b + 27 then hiv h (m + 1) (27 * a + (j - 27 * b)) else hiv h (m + 1) j))) : amT mX8_copies 0 [vR m, vI a, vI b] [] h Q := by
  have h0 := M.o
  obtain ⟨h1, h2⟩ := M.r
  obtain ⟨R, hR⟩ : ∃ R, R = hiv h (m + 1) := ⟨_, rfl⟩
  rw [← hR] at k
  have loop : ∀ d i : Nat, i + d = 27 → amT mX8_copies 2 [vR m, vI a, vI b, vI i] [] (sa h (m + 1) (fun j => if 27 * b ≤ j ∧ j < 27 * b + i then R (27 * a + (j - 27 * b)) else R j)) Q := by
    intro d
    induction d with
    | zero =>
      intro i hi
      refine kr_iload_n (pc := 2) dX8_copies_2 rfl ?_
      refine kr_bipush (pc := 3) dX8_copies_3 (by decide) ?_
      refine kr_icmp_ge (pc := 5) dX8_copies_5 rfl (fun h5 => ?_) (fun h5 => ?_)
      · refine kr_return (d0 := ()) (pc := 36) dX8_copies_36 rfl ?_
        rw [show i = 27 by omega]
        exact k
      · omega
    | succ d ih =>
      intro i hi
      refine kr_iload_n (pc := 2) dX8_copies_2 rfl ?_
      refine kr_bipush (pc := 3) dX8_copies_3 (by decide) ?_
      refine kr_icmp_ge (pc := 5) dX8_copies_5 rfl (fun h5 => ?_) (fun h5 => ?_)
      · omega
      · refine kr_aload_n (pc := 8) dX8_copies_8 rfl ?_
        refine kr_getr (pc := 9) dX8_copies_9 rfl rfl (by assumption) (by assumption) ?_
        refine kr_bipush (pc := 12) dX8_copies_12 (by decide) ?_
        refine kr_iload_n (pc := 14) dX8_copies_14 rfl ?_
        refine kr_imul (pc := 15) dX8_copies_15 ⟨by omega, by omega⟩ ?_
        refine kr_iload_n (pc := 16) dX8_copies_16 rfl ?_
        refine kr_iadd (pc := 17) dX8_copies_17 ⟨by omega, by omega⟩ ?_
        refine kr_aload_n (pc := 18) dX8_copies_18 rfl ?_
        refine kr_getr (pc := 19) dX8_copies_19 rfl rfl (by assumption) (by assumption) ?_
        refine kr_bipush (pc := 22) dX8_copies_22 (by decide) ?_
        refine kr_iload_n (pc := 24) dX8_copies_24 rfl ?_
        refine kr_imul (pc := 25) dX8_copies_25 ⟨by omega, by omega⟩ ?_
        refine kr_iload_n (pc := 26) dX8_copies_26 rfl ?_
        refine kr_iadd (pc := 27) dX8_copies_27 ⟨by omega, by omega⟩ ?_
        refine kr_iald (pc := 28) dX8_copies_28 (by assumption) (by omega) (by omega) rfl ?_
        refine kr_iast (pc := 29) dX8_copies_29 (by assumption) (by omega) (by omega) ?_
        refine kr_iinc (pc := 30) dX8_copies_30 rfl ⟨⟨by omega, by omega⟩, by decide, by decide⟩ ?_
        simp only [stl, List.tail_cons, List.tail_nil]
        refine kr_goto (pc := 33) dX8_copies_33 rfl ?_
        rw [hwi_sa, hiv_sa]
        have e : (fun j => if j = (27 * (b : Int) + i).toNat then (if 27 * b ≤ (27 * (a : Int) + i).toNat ∧ (27 * (a : Int) + i).toNat < 27 * b + i then R (27 * a + ((27 * (a : Int) + i).toNat - 27 * b)) else R (27 * (a : Int) + i).toNat) else if 27 * b ≤ j ∧ j < 27 * b + i then R (27 * a + (j - 27 * b)) else R j) = (fun j => if 27 * b ≤ j ∧ j < 27 * b + (i + 1) then R (27 * a + (j - 27 * b)) else R j) := by
          funext j
          rw [show (27 * (b : Int) + i).toNat = 27 * b + i by omega, show (27 * (a : Int) + i).toNat = 27 * a + i by omega]
          by_cases hj : j = 27 * b + i
          · rw [if_pos hj, if_pos (show 27 * b ≤ j ∧ j < 27 * b + (i + 1) by omega)]
            by_cases hab : 27 * b ≤ 27 * a + i ∧ 27 * a + i < 27 * b + i
            · omega
            · rw [if_neg hab]
              congr 1
              omega
          · rw [if_neg hj]
            by_cases h7 : 27 * b ≤ j ∧ j < 27 * b + i
            · rw [if_pos h7, if_pos (by omega)]
            · rw [if_neg h7, if_neg (by omega)]
        rw [e]
        exact ih (i + 1) (by omega)
  refine kr_iconst (pc := 0) dX8_copies_0 (by decide) ?_
  refine kr_istore_n (pc := 1) dX8_copies_1 (show 3 ≤ _ from by simp) (by decide) ?_
  simp only [stl, List.tail_cons, List.tail_nil]
  have e : h = sa h (m + 1) (fun j => if 27 * b ≤ j ∧ j < 27 * b + 0 then R (27 * a + (j - 27 * b)) else R j) := by
    have e1 : (fun j => if 27 * b ≤ j ∧ j < 27 * b + 0 then R (27 * a + (j - 27 * b)) else R j) = hiv h (m + 1) := by
      funext j
      rw [if_neg (by omega), hR]
    rw [e1, sa_self]
  rw [e]
  exact loop 27 0 (by omega)
end M3
