/-! SECTIONS of the class: entries in an array that is permuted in place -/
/-- a section at σ, whatever it holds: the entry at place i is the one with number p i -/
def SeB (h : aH) (σ : Nat) (p : Nat → Nat) : Prop :=
  hsh h σ = (7, 2) ∧ hrf h σ 1 = some (σ + 1) ∧ hsh h (σ + 1) = (22 + 4, 6) ∧ (∀ i, i < 6 → EnB h (σ + 2 + 2 * i)) ∧ (∀ i, i < 6 → hrf h (σ + 1) i = some (σ + 2 + 2 * p i) ∧ p i < 6) ∧ ∀ i j, i < 6 → j < 6 → p i = p j → i = j
def SeP (h : aH) (σ : Nat) (l : List Ent) (p : Nat → Nat) : Prop := SeB h σ p ∧ hiv h σ 0 = l.length ∧ l.length ≤ 6 ∧ ∀ (i : Nat) (e : Ent), l[i]? = some e → EnC h (σ + 2 + 2 * p i) e
def SeC (h : aH) (σ : Nat) (l : List Ent) : Prop := ∃ p, SeP h σ l p
theorem SeB.ag {h h' : aH} {σ : Nat} {p : Nat → Nat} (H : SeB h σ p) (f : agr h h' σ (σ + 14)) : SeB h' σ p := by
  obtain ⟨a1, a2, a3, a4, a5, a6⟩ := H
  refine ⟨by rw [f.1]; exact a1, by rw [(f.2 σ (by omega) (by omega)).2]; exact a2, by rw [f.1]; exact a3, fun i hi => (a4 i hi).ag (f.up (by omega) (by omega)), fun i hi => by rw [(f.2 (σ + 1) (by omega) (by omega)).2]; exact a5 i hi, a6⟩
theorem SeP.ag {h h' : aH} {σ : Nat} {l : List Ent} {p : Nat → Nat} (H : SeP h σ l p) (f : agr h h' σ (σ + 14)) : SeP h' σ l p := by
  obtain ⟨H, b1, b2, b3⟩ := H
  refine ⟨H.ag f, by rw [(f.2 σ (by omega) (by omega)).1]; exact b1, b2, fun i e he => ?_⟩
  have hi := (List.getElem?_eq_some_iff.mp he).1
  have := (H.2.2.2.2.1 i (by omega)).2
  exact (b3 i e he).ag (f.up (by omega) (by omega))
theorem SeC.ag {h h' : aH} {σ : Nat} {l : List Ent} (H : SeC h σ l) (f : agr h h' σ (σ + 14)) : SeC h' σ l := by
  obtain ⟨p, H⟩ := H
  exact ⟨p, H.ag f⟩
/-- other references at a -/
def sr (h : aH) (a : Nat) (f : Nat → Option Nat) : aH := (h.1, h.2.1, fun b j => if b = a then f j else h.2.2.1 b j, h.2.2.2)
theorem hwr_sr {h : aH} {a k : Nat} {f : Nat → Option Nat} {x : Option Nat} : hwr (sr h a f) a k x = sr h a (fun j => if j = k then x else f j) := by
  unfold hwr sr up2
  dsimp only
  congr 3
  funext b j
  by_cases hb : b = a <;> by_cases hj : j = k <;> simp [hb, hj]
theorem sr_self {h : aH} {a : Nat} : sr h a (hrf h a) = h := by
  obtain ⟨h1, h2, h3, h4⟩ := h
  show (h1, h2, _, h4) = (h1, h2, h3, h4)
  congr 3
  funext b j
  by_cases hb : b = a
  · subst hb
    exact if_pos rfl
  · exact if_neg hb
theorem hrf_sr {h : aH} {a : Nat} {f : Nat → Option Nat} {j : Nat} : hrf (sr h a f) a j = f j := if_pos rfl
theorem hrf_sr_ne {h : aH} {a b : Nat} {f : Nat → Option Nat} {j : Nat} (hb : b ≠ a) : hrf (sr h a f) b j = hrf h b j := if_neg hb
theorem sr_fro {h : aH} {a b x : Nat} {f : Nat → Option Nat} (h1 : a ≤ x) (h2 : x < b) : fro h (sr h x f) a b := ⟨rfl, rfl, rfl, fun y hy => ⟨rfl, funext fun j => if_neg (by omega)⟩⟩
/-- what a shift from a to b makes of a row of places -/
def shP (p : Nat → Nat) (a b : Nat) : Nat → Nat := fun i => if i = b then p a else if a ≤ i ∧ i < b then p (i + 1) else if b < i ∧ i ≤ a then p (i - 1) else p i
theorem shP_lt {p : Nat → Nat} {a b n : Nat} (ha : a < n) (hb : b < n) (h : ∀ i, i < n → p i < 6) : ∀ i, i < n → shP p a b i < 6 := by
  intro i hi
  unfold shP
  split
  · exact h a ha
  · split
    · exact h _ (by omega)
    · split
      · exact h _ (by omega)
      · exact h i hi
theorem shP_ix {p : Nat → Nat} {a b : Nat} (i : Nat) : ∃ j, shP p a b i = p j ∧ (i = b → j = a) ∧ (i ≠ b → a ≤ i → i < b → j = i + 1) ∧ (i ≠ b → b < i → i ≤ a → j = i - 1) ∧ (i ≠ b → ¬ (a ≤ i ∧ i < b) → ¬ (b < i ∧ i ≤ a) → j = i) := by
  unfold shP
  split
  · exact ⟨a, rfl, by omega, by omega, by omega, by omega⟩
  · split
    · exact ⟨i + 1, rfl, by omega, by omega, by omega, by omega⟩
    · split
      · exact ⟨i - 1, rfl, by omega, by omega, by omega, by omega⟩
      · exact ⟨i, rfl, by omega, by omega, by omega, by omega⟩
theorem shP_inj {p : Nat → Nat} {a b n : Nat} (ha : a < n) (hb : b < n) (h : ∀ i j, i < n → j < n → p i = p j → i = j) : ∀ i j, i < n → j < n → shP p a b i = shP p a b j → i = j := by
  intro i j hi hj he
  obtain ⟨i', e1, q1, q2, q3, q4⟩ := shP_ix (p := p) (a := a) (b := b) i
  obtain ⟨j', e2, r1, r2, r3, r4⟩ := shP_ix (p := p) (a := a) (b := b) j
  rw [e1, e2] at he
  have hi' : i' < n := by
    by_cases h1 : i = b
    · omega
    · by_cases h2 : a ≤ i ∧ i < b
      · have := q2 h1 h2.1 h2.2; omega
      · by_cases h3 : b < i ∧ i ≤ a
        · have := q3 h1 h3.1 h3.2; omega
        · have := q4 h1 h2 h3; omega
  have hj' : j' < n := by
    by_cases h1 : j = b
    · omega
    · by_cases h2 : a ≤ j ∧ j < b
      · have := r2 h1 h2.1 h2.2; omega
      · by_cases h3 : b < j ∧ j ≤ a
        · have := r3 h1 h3.1 h3.2; omega
        · have := r4 h1 h2 h3; omega
  have hij := h i' j' hi' hj' he
  by_cases h1 : i = b
  · by_cases h1' : j = b
    · omega
    · by_cases h2 : a ≤ j ∧ j < b
      · have := r2 h1' h2.1 h2.2; omega
      · by_cases h3 : b < j ∧ j ≤ a
        · have := r3 h1' h3.1 h3.2; omega
        · have := r4 h1' h2 h3; omega
  · by_cases h1' : j = b
    · by_cases h2 : a ≤ i ∧ i < b
      · have := q2 h1 h2.1 h2.2; omega
      · by_cases h3 : b < i ∧ i ≤ a
        · have := q3 h1 h3.1 h3.2; omega
        · have := q4 h1 h2 h3; omega
    · by_cases h2 : a ≤ i ∧ i < b
      · have := q2 h1 h2.1 h2.2
        by_cases g2 : a ≤ j ∧ j < b
        · have := r2 h1' g2.1 g2.2; omega
        · by_cases g3 : b < j ∧ j ≤ a
          · have := r3 h1' g3.1 g3.2; omega
          · have := r4 h1' g2 g3; omega
      · by_cases h3 : b < i ∧ i ≤ a
        · have := q3 h1 h3.1 h3.2
          by_cases g2 : a ≤ j ∧ j < b
          · have := r2 h1' g2.1 g2.2; omega
          · by_cases g3 : b < j ∧ j ≤ a
            · have := r3 h1' g3.1 g3.2; omega
            · have := r4 h1' g2 g3; omega
        · have := q4 h1 h2 h3
          by_cases g2 : a ≤ j ∧ j < b
          · have := r2 h1' g2.1 g2.2; omega
          · by_cases g3 : b < j ∧ j ≤ a
            · have := r3 h1' g3.1 g3.2; omega
            · have := r4 h1' g2 g3; omega
theorem mv_get {l : List Ent} {a b i : Nat} {e : Ent} {p : Nat → Nat} (ha : a < l.length) (hb : b < l.length) (h : (mv l a b)[i]? = some e) : ∃ j, shP p a b i = p j ∧ l[j]? = some e := by
  have h1 : l[a]? = some l[a] := List.getElem?_eq_getElem ha
  rw [mv_some h1] at h
  unfold shP
  rcases ins_get h with ⟨q1, q2⟩ | ⟨q1, q2⟩ | ⟨q1, q2⟩
  · rw [List.getElem?_eraseIdx] at q2
    rw [if_neg (by omega)]
    split at q2
    · rw [if_neg (by omega), if_neg (by omega)]
      exact ⟨i, rfl, q2⟩
    · rw [if_pos (by omega)]
      exact ⟨i + 1, rfl, q2⟩
  · rw [if_pos q1]
    exact ⟨a, rfl, by rw [h1, q2]⟩
  · rw [List.getElem?_eraseIdx] at q2
    rw [if_neg (by omega)]
    split at q2
    · rw [if_neg (by omega), if_pos (by omega)]
      exact ⟨i - 1, rfl, q2⟩
    · rw [if_neg (by omega), if_neg (by omega)]
      rw [show i - 1 + 1 = i by omega] at q2
      exact ⟨i, rfl, q2⟩
section X2
variable {h : aH} {Q : aR → Prop} {σ : Nat} {l : List Ent}
theorem x_placeOf {y : Int} (H : SeC h σ l) (k : Q (.inl (some (vI (kix l y))), h)) : amT mX6_placeOf 0 [vR σ, vI y] [] h Q := by
  obtain ⟨p, ⟨a1, a2, a3, a4, a5, a6⟩, b1, b2, b3⟩ := H
  have loop : ∀ d i : Nat, i + d = l.length → (∀ (j : Nat) (e : Ent), j < i → l[j]? = some e → e.1 ≠ y) → amT mX6_placeOf 2 [vR σ, vI y, vI (i : Int)] [] h Q := by
    intro d
    induction d with
    | zero =>
      intro i hi hj
      have e : kix l y = -1 := kix_none.mpr fun j e he => hj j e (by have := (List.getElem?_eq_some_iff.mp he).1; omega) he
      rw [e] at k
      refine kr_iload_n (pc := 2) dX6_placeOf_2 rfl ?_
      refine kr_aload_n (pc := 3) dX6_placeOf_3 rfl ?_
      refine kr_geti (pc := 4) dX6_placeOf_4 rfl (by decide) (by assumption) (by first | exact b1) ?_
      refine kr_icmp_ge (pc := 7) dX6_placeOf_7 rfl (fun h7 => ?_) (fun h7 => by exfalso; omega)
      refine kr_iconst (pc := 31) dX6_placeOf_31 (by decide) ?_
      refine kr_ireturn (pc := 32) dX6_placeOf_32 rfl ?_
      exact k
    | succ d ih =>
      intro i hi hj
      obtain ⟨e, he⟩ : ∃ e, l[i]? = some e := ⟨_, List.getElem?_eq_getElem (by omega)⟩
      obtain ⟨⟨g1, g2, g3⟩, g4, _⟩ := b3 i e he
      obtain ⟨r1, r2⟩ := a5 i (by omega)
      have r1 : hrf h (σ + 1) (i : Int).toNat = some (σ + 2 + 2 * p i) := r1
      refine kr_iload_n (pc := 2) dX6_placeOf_2 rfl ?_
      refine kr_aload_n (pc := 3) dX6_placeOf_3 rfl ?_
      refine kr_geti (pc := 4) dX6_placeOf_4 rfl (by decide) (by assumption) (by first | exact b1 | exact g4) ?_
      refine kr_icmp_ge (pc := 7) dX6_placeOf_7 rfl (fun h7 => by exfalso; omega) (fun h7 => ?_)
      refine kr_aload_n (pc := 10) dX6_placeOf_10 rfl ?_
      refine kr_getr (pc := 11) dX6_placeOf_11 rfl rfl (by assumption) (by assumption) ?_
      refine kr_iload_n (pc := 14) dX6_placeOf_14 rfl ?_
      refine kr_aald (pc := 15) dX6_placeOf_15 (by assumption) (by decide) (by omega) (by omega) (by assumption) ?_
      refine kr_geti (pc := 16) dX6_placeOf_16 rfl (by decide) (by assumption) (by first | exact b1 | exact g4) ?_
      refine kr_iload_n (pc := 19) dX6_placeOf_19 rfl ?_
      refine kr_icmp_ne (pc := 20) dX6_placeOf_20 rfl (fun h20 => ?_) (fun h20 => ?_)
      · refine kr_iinc (pc := 25) dX6_placeOf_25 rfl ⟨⟨by omega, by omega⟩, by decide, by decide⟩ ?_
        simp only [stl, List.tail_cons, List.tail_nil]
        refine kr_goto (pc := 28) dX6_placeOf_28 rfl ?_
        refine ih (i + 1) (by omega) fun j e' h7 h8 => ?_
        by_cases h9 : j = i
        · (subst h9; rw [he] at h8; cases h8; exact h20)
        · exact hj j e' (by omega) h8
      · refine kr_iload_n (pc := 23) dX6_placeOf_23 rfl ?_
        refine kr_ireturn (pc := 24) dX6_placeOf_24 rfl ?_
        rw [kix_some he h20 hj] at k
        exact k
  refine kr_iconst (pc := 0) dX6_placeOf_0 (by decide) ?_
  refine kr_istore_n (pc := 1) dX6_placeOf_1 (show 2 ≤ _ from by simp) (by decide) ?_
  simp only [stl, List.tail_cons, List.tail_nil]
  exact loop l.length 0 (by omega) (fun j e hj => by omega)
theorem x_hasPlace {n : Nat} {y : Int} (h1 : hsh h σ = (7, 2)) (h2 : hiv h σ 0 = n) (k1 : 0 ≤ y ∧ y < n → Q (.inl (some (vI 1)), h)) (k0 : ¬ (0 ≤ y ∧ y < n) → Q (.inl (some (vI 0)), h)) : amT mX6_hasPlace 0 [vR σ, vI y] [] h Q := by
  refine kr_iload_n (pc := 0) dX6_hasPlace_0 rfl ?_
  refine kr_if_lt (pc := 1) dX6_hasPlace_1 rfl (fun h1 => ?_) (fun h1 => ?_)
  · refine kr_iconst (pc := 16) dX6_hasPlace_16 (by decide) ?_
    refine kr_ireturn (pc := 17) dX6_hasPlace_17 rfl ?_
    first | exact k1 (by omega) | exact k0 (by omega)
  · refine kr_iload_n (pc := 4) dX6_hasPlace_4 rfl ?_
    refine kr_aload_n (pc := 5) dX6_hasPlace_5 rfl ?_
    refine kr_geti (pc := 6) dX6_hasPlace_6 rfl (by decide) (by assumption) h2 ?_
    refine kr_icmp_ge (pc := 9) dX6_hasPlace_9 rfl (fun h9 => ?_) (fun h9 => ?_)
    · refine kr_iconst (pc := 16) dX6_hasPlace_16 (by decide) ?_
      refine kr_ireturn (pc := 17) dX6_hasPlace_17 rfl ?_
      first | exact k1 (by omega) | exact k0 (by omega)
    · refine kr_iconst (pc := 12) dX6_hasPlace_12 (by decide) ?_
      refine kr_goto (pc := 13) dX6_hasPlace_13 rfl ?_
      refine kr_ireturn (pc := 17) dX6_hasPlace_17 rfl ?_
      first | exact k1 (by omega) | exact k0 (by omega)
end X2
