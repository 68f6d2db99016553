/-! ENTRIES, keys, bits: what the spec needs -/
/-- key, the two fields, the group -/
abbrev Ent : Type := Int × Int × Int × Int
def okE (e : Ent) : Prop := 0 ≤ e.1 ∧ e.1 ≤ 9 ∧ -1 ≤ e.2.1 ∧ e.2.1 ≤ 99 ∧ -1 ≤ e.2.2.1 ∧ e.2.2.1 ≤ 99 ∧ -1 ≤ e.2.2.2 ∧ e.2.2.2 ≤ 2
theorem ofInt_nat (n : Nat) : Int32.ofInt (n : Int) = nI n := Int32.ofInt_eq_ofNat
theorem nI_to {n : Nat} (h : n < 2 ^ 31) : (nI n).toInt = (n : Int) := nI_toInt h
theorem bw_shr {n : Nat} (h : n < 2 ^ 31) (k : Nat) (hs : ((Int32.ofInt (k : Int) &&& 31).toBitVec.smod 32).toNat = k) : am_bw 4 (n : Int) (k : Int) = ((n / 2 ^ k : Nat) : Int) := by
  show (Int32.ofInt (n : Int) >>> (Int32.ofInt (k : Int) &&& 31)).toInt = _
  rw [ofInt_nat, pk_shrN h _ k hs, nI_to (Nat.lt_of_le_of_lt (Nat.div_le_self _ _) h)]
theorem bw_shl {n : Nat} (k : Nat) (hs : ((Int32.ofInt (k : Int) &&& 31).toBitVec.smod 32).toNat = k) (h : n * 2 ^ k < 2 ^ 31) : am_bw 3 (n : Int) (k : Int) = ((n * 2 ^ k : Nat) : Int) := by
  show (Int32.ofInt (n : Int) <<< (Int32.ofInt (k : Int) &&& 31)).toInt = _
  rw [ofInt_nat, pk_shlN _ k hs (by omega), nI_to h]
theorem nI_bv {n : Nat} (h : n < 2 ^ 32) : (nI n).toBitVec.toNat = n := pk_tn h
theorem bw_or {a b : Nat} (ha : a < 2 ^ 31) (hb : b < 2 ^ 31) : am_bw 1 (a : Int) (b : Int) = ((a ||| b : Nat) : Int) := by
  have hab : a ||| b < 2 ^ 31 := Nat.or_lt_two_pow ha hb
  show (Int32.ofInt (a : Int) ||| Int32.ofInt (b : Int)).toInt = _
  have e : Int32.ofInt (a : Int) ||| Int32.ofInt (b : Int) = nI (a ||| b) := by
    rw [ofInt_nat, ofInt_nat, ← Int32.toBitVec_inj]
    apply BitVec.eq_of_toNat_eq
    rw [Int32.toBitVec_or, BitVec.toNat_or, nI_bv (by omega), nI_bv (by omega), nI_bv (by omega)]
  rw [e, nI_to hab]
theorem bw_andN {a : Nat} {y : Int} {b : Nat} (ha : a < 2 ^ 31) (hy : (Int32.ofInt y).toBitVec.toNat = b) : am_bw 0 (a : Int) y = ((a &&& b : Nat) : Int) := by
  have hab : a &&& b < 2 ^ 31 := Nat.lt_of_le_of_lt Nat.and_le_left ha
  show (Int32.ofInt (a : Int) &&& Int32.ofInt y).toInt = _
  have e : Int32.ofInt (a : Int) &&& Int32.ofInt y = nI (a &&& b) := by
    rw [ofInt_nat, ← Int32.toBitVec_inj]
    apply BitVec.eq_of_toNat_eq
    rw [Int32.toBitVec_and, BitVec.toNat_and, nI_bv (by omega), hy, nI_bv (by omega)]
  rw [e, nI_to hab]
def fieldE (e : Ent) (f : Int) : Int := if f = 0 then e.2.1 else e.2.2.1
/-- the place of a key; -1 if it isn't there -/
def kix : List Ent → Int → Int
  | [], _ => -1
  | e :: l, k => if e.1 = k then 0 else if kix l k = -1 then -1 else kix l k + 1
theorem kix_rng : ∀ (l : List Ent) (k : Int), -1 ≤ kix l k ∧ kix l k < l.length
  | [], k => by simp [kix]
  | e :: l, k => by
    have := kix_rng l k
    unfold kix
    rw [List.length_cons]
    split
    · omega
    · split <;> omega
theorem kix_none : ∀ {l : List Ent} {k : Int}, kix l k = -1 ↔ ∀ (i : Nat) (e : Ent), l[i]? = some e → e.1 ≠ k
  | [], k => by simp [kix]
  | e :: l, k => by
    have ih := @kix_none l k
    have hr := kix_rng l k
    unfold kix
    by_cases h1 : e.1 = k
    · rw [if_pos h1]
      exact ⟨fun h => absurd h (by decide), fun h => absurd h1 (h 0 e rfl)⟩
    · rw [if_neg h1]
      by_cases h2 : kix l k = -1
      · rw [if_pos h2]
        refine ⟨fun _ i e' he => ?_, fun _ => rfl⟩
        cases i with
        | zero => cases he; exact h1
        | succ i => exact ih.mp h2 i e' he
      · rw [if_neg h2]
        refine ⟨fun h => by omega, fun h => ?_⟩
        exact absurd (ih.mpr fun i e' he => h (i + 1) e' he) h2
theorem kix_some : ∀ {l : List Ent} {k : Int} {i : Nat} {e : Ent}, l[i]? = some e → e.1 = k → (∀ (j : Nat) (e' : Ent), j < i → l[j]? = some e' → e'.1 ≠ k) → kix l k = i
  | [], k, i, e, h, _, _ => by simp at h
  | e0 :: l, k, i, e, h, hk, hj => by
    unfold kix
    cases i with
    | zero => cases h; rw [if_pos hk]; rfl
    | succ i =>
      have h1 : e0.1 ≠ k := hj 0 e0 (by omega) rfl
      have ih := kix_some (l := l) (k := k) (i := i) h hk (fun j e' h1 h2 => hj (j + 1) e' (by omega) h2)
      rw [if_neg h1, if_neg (by omega), ih]
      omega
theorem kix_get : ∀ {l : List Ent} {k : Int}, kix l k ≠ -1 → ∃ (i : Nat) (e : Ent), kix l k = i ∧ l[i]? = some e ∧ e.1 = k
  | [], k, h => absurd rfl h
  | e0 :: l, k, h => by
    unfold kix at h ⊢
    by_cases h1 : e0.1 = k
    · exact ⟨0, e0, by rw [if_pos h1]; rfl, rfl, h1⟩
    · rw [if_neg h1] at h ⊢
      by_cases h2 : kix l k = -1
      · rw [if_pos h2] at h
        exact absurd rfl h
      · obtain ⟨i, e, g1, g2, g3⟩ := kix_get h2
        refine ⟨i + 1, e, ?_, g2, g3⟩
        rw [if_neg h2, g1]
        omega
/-- the heap with other numbers in the cell a -/
def sa (h : aH) (a : Nat) (f : Nat → Int) : aH := (h.1, fun b j => if b = a then f j else h.2.1 b j, h.2.2)
theorem hiv_sa {h : aH} {a : Nat} {f : Nat → Int} : hiv (sa h a f) a = f := by
  funext j
  exact if_pos rfl
theorem hiv_sa_ne {h : aH} {a b : Nat} {f : Nat → Int} (hb : b ≠ a) : hiv (sa h a f) b = hiv h b := by
  funext j
  exact if_neg hb
theorem hwi_sa {h : aH} {a k : Nat} {f : Nat → Int} {x : Int} : hwi (sa h a f) a k x = sa h a (fun j => if j = k then x else f j) := by
  unfold hwi sa up2
  dsimp only
  congr 2
  funext b j
  by_cases hb : b = a <;> by_cases hj : j = k <;> simp [hb, hj]
theorem sa_self {h : aH} {a : Nat} : sa h a (hiv h a) = h := by
  obtain ⟨h1, h2, h3⟩ := h
  show (h1, _, h3) = (h1, h2, h3)
  congr 2
  funext b j
  by_cases hb : b = a
  · subst hb
    exact if_pos rfl
  · exact if_neg hb
theorem sa_sa {h : aH} {a : Nat} {f g : Nat → Int} : sa (sa h a f) a g = sa h a g := by
  unfold sa
  dsimp only
  congr 2
  funext b j
  by_cases hb : b = a <;> simp [hb]
theorem hwi_of {h : aH} {a k : Nat} {x : Int} : hwi h a k x = sa h a (fun j => if j = k then x else hiv h a j) := by
  have e := hwi_sa (h := h) (a := a) (k := k) (f := hiv h a) (x := x)
  rw [sa_self] at e
  exact e
def hI (h : aH) (I : Nat → Nat → Int) : aH := (h.1, I, h.2.2)
theorem hiv_wi_same {h : aH} {a k : Nat} {x : Int} : hiv (hwi h a k x) a k = x := if_pos ⟨rfl, rfl⟩
theorem up2_ne {I : Nat → Nat → Int} {a b k : Nat} {x : Int} (h : a ≠ b) : up2 I b k x a = I a := funext fun j => if_neg (by omega)
theorem up2_nj {I : Nat → Nat → Int} {a k j : Nat} {x : Int} (h : j ≠ k) : up2 I a k x a j = I a j := if_neg (by omega)
theorem up2_at {I : Nat → Nat → Int} {a k : Nat} {x : Int} : up2 I a k x a k = x := if_pos ⟨rfl, rfl⟩
