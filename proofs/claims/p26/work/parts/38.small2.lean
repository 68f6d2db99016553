/-! facts of the spec that the class needs -/
def rsS (f t : Cfg) : Nat → List Edt
  | 0 => grpL f.2 t.2
  | d + 1 => secL ((2 - d : Nat) : Int) (f.1 (2 - d)) (t.1 (2 - d)) ++ rsS f t d
theorem ap1_none {b : Bool} {k s y f t : Int} {n : Ent} {c : Cfg} (h : k < 7) (h' : apS b k y f t n (c.1 s.toNat) = none) : ap1 b (k, s, y, f, t, n) c = none := by
  unfold ap1
  dsimp only
  rw [if_neg (by omega), h']
theorem ap1_some {b : Bool} {k s y f t : Int} {n : Ent} {c : Cfg} {l : List Ent} (h : k < 7) (h' : apS b k y f t n (c.1 s.toNat) = some l) : ap1 b (k, s, y, f, t, n) c = some (upS c s.toNat l) := by
  unfold ap1
  dsimp only
  rw [if_neg (by omega), h']
/-- loosely, as a number -/
def lob (lo : Int) (b : Bool) : Prop := (lo = 0 ∧ b = false) ∨ (lo = 1 ∧ b = true)
theorem apS2 {lo : Int} {b : Bool} (hb : lob lo b) {y f t : Int} {n : Ent} {l : List Ent} : apS b 2 y f t n l = if kix l y ≠ -1 ∨ 6 ≤ l.length ∨ (lo = 0 ∧ (l.length : Int) < t) then none else some (l.insertIdx (min t l.length).toNat n) := by
  rcases hb with ⟨rfl, rfl⟩ | ⟨rfl, rfl⟩
  · unfold apS
    rw [if_pos rfl]
    simp
  · unfold apS
    rw [if_pos rfl]
    simp
theorem apSn {b : Bool} {k y f t : Int} {n : Ent} {l : List Ent} (h2 : k ≠ 2) (h : kix l y = -1) : apS b k y f t n l = none := by
  unfold apS
  rw [if_neg h2, if_pos h]
theorem apS1 {lo : Int} {b : Bool} (hb : lob lo b) {y f t : Int} {n : Ent} {l : List Ent} (h : kix l y ≠ -1) : apS b 1 y f t n l = if (lo = 0 ∧ kix l y ≠ f) ∨ gt l y ≠ n then none else some (l.eraseIdx (kix l y).toNat) := by
  rcases hb with ⟨rfl, rfl⟩ | ⟨rfl, rfl⟩
  · unfold apS
    rw [if_neg (by decide), if_neg h, if_pos rfl]
    simp
  · unfold apS
    rw [if_neg (by decide), if_neg h, if_pos rfl]
    simp
theorem apS3 {lo : Int} {b : Bool} (hb : lob lo b) {y f t : Int} {n : Ent} {l : List Ent} (h : kix l y ≠ -1) : apS b 3 y f t n l = if lo = 0 ∧ (kix l y ≠ f ∨ (l.length : Int) ≤ t) then none else some (mv l (kix l y).toNat (min t ((l.length : Int) - 1)).toNat) := by
  rcases hb with ⟨rfl, rfl⟩ | ⟨rfl, rfl⟩
  · unfold apS
    rw [if_neg (by decide), if_neg h, if_neg (by decide), if_pos rfl]
    simp
  · unfold apS
    rw [if_neg (by decide), if_neg h, if_neg (by decide), if_pos rfl]
    simp
theorem apS4 {b : Bool} {k y f t : Int} {n : Ent} {l : List Ent} (hk : 4 ≤ k) (h : kix l y ≠ -1) : apS b k y f t n l = if sg (gt l y) (k - 4) ≠ f then none else some (l.set (kix l y).toNat (ws (gt l y) (k - 4) t)) := by
  unfold apS
  rw [if_neg (by omega), if_neg h, if_neg (by omega), if_neg (by omega)]
theorem apA_step {b : Bool} : ∀ {L : List Edt} {i : Nat} {e : Edt} {c : Cfg}, L[i]? = some e → apA b (L.drop i) c = (match ap1 b e c with | none => none | some c' => apA b (L.drop (i + 1)) c') := by
  intro L i e c h
  have h1 := (List.getElem?_eq_some_iff.mp h).1
  rw [List.drop_eq_getElem_cons h1, show L[i] = e from (List.getElem?_eq_some_iff.mp h).2]
  rfl
theorem brk_rng {c : Cfg} : ∀ L : List Rul, 0 ≤ brk c L ∧ brk c L ≤ L.length
  | [] => ⟨Int.le_refl _, Int.le_refl _⟩
  | r :: t => by
    have := brk_rng (c := c) t
    rw [List.length_cons]
    by_cases h : kpt c r
    · rw [brk_y h]; omega
    · rw [brk_n h]; omega
