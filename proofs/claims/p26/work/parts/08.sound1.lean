/-! NUMBERS IN RANGE; values, locals and cells of the abstract machine in the machine -/
theorem i32_to {x : Int} (h : inr32 x) : (Int32.ofInt x).toInt = x := Int32.toInt_ofInt_of_le (by have := h.1; omega) (by have := h.2; omega)
theorem i32_eq {x y : Int} (hx : inr32 x) (hy : inr32 y) : Int32.ofInt x = Int32.ofInt y ↔ x = y :=
  ⟨fun h => by rw [← i32_to hx, ← i32_to hy, h], fun h => by rw [h]⟩
theorem i32_lt {x y : Int} (hx : inr32 x) (hy : inr32 y) : Int32.ofInt x < Int32.ofInt y ↔ x < y := by
  rw [Int32.lt_iff_toInt_lt, i32_to hx, i32_to hy]
theorem i32_le {x y : Int} (hx : inr32 x) (hy : inr32 y) : Int32.ofInt x ≤ Int32.ofInt y ↔ x ≤ y := by
  rw [Int32.le_iff_toInt_le, i32_to hx, i32_to hy]
theorem i32_nat {x : Int} (hx : inr32 x) : (Int32.ofInt x).toNatClampNeg = x.toNat := by
  show (Int32.ofInt x).toInt.toNat = x.toNat
  rw [i32_to hx]
theorem i32_0 : inr32 0 := by decide
theorem i32_in {i : Int} {n : Nat} (hi : inr32 i) (h0 : 0 ≤ i) (hn : i < (n : Int)) : ¬ (Int32.ofInt i < 0 ∨ n ≤ (Int32.ofInt i).toNatClampNeg) := by
  rw [i32_nat hi, show (0 : Int32) = Int32.ofInt 0 from rfl, i32_lt hi i32_0]
  omega
theorem i32_any (x : Int32) : inr32 x.toInt := ⟨by have := Int32.le_toInt x; omega, by have := Int32.toInt_lt x; omega⟩
theorem i64_to {x : Int} (h : inr32 x) : (Int64.ofInt x).toInt = x := Int64.toInt_ofInt_of_le (by have := h.1; omega) (by have := h.2; omega)
def rv : aV → Value
  | .inl x => .int (Int32.ofInt x)
  | .inr (.inl x) => .long (Int64.ofInt x)
  | .inr (.inr a) => .ref a
def okv : aV → Prop
  | .inl x => inr32 x
  | .inr (.inl x) => inr32 x
  | .inr (.inr _) => True
theorem rv_cat {v : aV} (h : am_c1 v = true) : (rv v).category = 1 := by
  rcases v with x | x | a
  · rfl
  · simp [am_c1] at h
  · rfl
theorem rv_wd : ∀ S : List aV, ((S.map rv).map fun v => v.category).sum = am_wd S
  | [] => rfl
  | v :: S => by
    have ih := rv_wd S
    unfold am_wd at ih ⊢
    rw [List.map_cons, List.map_cons, List.map_cons, List.sum_cons, List.sum_cons, ih]
    congr 1
    rcases v with x | x | a <;> rfl
/-- the locals -/
def LH (ls : Array Slot) (n : Nat) (L : List aV) : Prop := lv_has ls n [] ∧ L.length ≤ n ∧ ∀ (k : Nat) (v : aV), L[k]? = some v → ls[k]? = some (.val (rv v)) ∧ am_c1 v = true ∧ okv v
def lvl (L : List aV) : List (Nat × Value) := L.zipIdx.map fun q => (q.2, rv q.1)
theorem lvl_mem {L : List aV} {k : Nat} {w : Value} : (k, w) ∈ lvl L ↔ ∃ v, L[k]? = some v ∧ w = rv v := by
  unfold lvl
  constructor
  · intro h
    obtain ⟨⟨v, i⟩, h1, h2⟩ := List.mem_map.mp h
    cases h2
    exact ⟨v, List.mem_zipIdx_iff_getElem?.mp h1, rfl⟩
  · rintro ⟨v, h, rfl⟩
    exact List.mem_map.mpr ⟨(v, k), List.mem_zipIdx_iff_getElem?.mpr h, rfl⟩
theorem LH.has {ls : Array Slot} {n : Nat} {L : List aV} (h : LH ls n L) : lv_has ls n (lvl L) := by
  refine ⟨h.1.1, h.1.2.1, fun q hq => ?_⟩
  obtain ⟨v, h1, h2⟩ := lvl_mem.mp (show (q.1, q.2) ∈ lvl L from hq)
  rw [h2]
  exact (h.2.2 _ _ h1).1
theorem LH.of {ls : Array Slot} {n : Nat} {L : List aV} {lv : List (Nat × Value)} (h : lv_has ls n lv) (hn : L.length ≤ n) (hm : ∀ (k : Nat) (v : aV), L[k]? = some v → (k, rv v) ∈ lv ∧ am_c1 v = true ∧ okv v) : LH ls n L :=
  ⟨⟨h.1, h.2.1, fun _ q => by cases q⟩, hn, fun k v hv => ⟨h.2.2 _ (hm k v hv).1, (hm k v hv).2⟩⟩
theorem st_get {L : List aV} {i : Nat} (hi : i ≤ L.length) (v : aV) (k : Nat) : (L.take i ++ v :: L.drop (i + 1))[k]? = if k = i then some v else L[k]? := by
  have ht : (L.take i).length = i := by rw [List.length_take]; omega
  by_cases h : k < i
  · rw [if_neg (by omega), List.getElem?_append_left (by omega), List.getElem?_take_of_lt h]
  · rw [List.getElem?_append_right (by omega), ht]
    by_cases h2 : k = i
    · subst h2
      simp
    · rw [if_neg h2]
      obtain ⟨j, hj⟩ : ∃ j, k - i = j + 1 := ⟨k - i - 1, by omega⟩
      rw [hj, List.getElem?_cons_succ, List.getElem?_drop]
      congr 1
      omega
theorem st_len {L : List aV} {i n : Nat} (hi : i ≤ L.length) (hn : L.length ≤ n) (h : i < n) (v : aV) : (L.take i ++ v :: L.drop (i + 1)).length ≤ n := by
  rw [List.length_append, List.length_take, List.length_cons, List.length_drop]
  omega
theorem LH.set {ls ls' : Array Slot} {n i : Nat} {L : List aV} {v : aV} (h : LH ls n L) (hi : i ≤ L.length) (hn : i < n) (hc : am_c1 v = true) (ho : okv v) (h' : lv_has ls' n ((i, rv v) :: (lvl L).filter (fun q => !(q.1 == i) && !(q.1 + 1 == i && q.2.category == 2)))) : LH ls' n (L.take i ++ v :: L.drop (i + 1)) := by
  refine LH.of h' (st_len hi h.2.1 hn v) fun k w hw => ?_
  rw [st_get hi] at hw
  by_cases e : k = i
  · rw [if_pos e] at hw
    cases hw
    subst e
    exact ⟨List.mem_cons_self, hc, ho⟩
  · rw [if_neg e] at hw
    obtain ⟨h1, h2, h3⟩ := h.2.2 k w hw
    refine ⟨List.mem_cons_of_mem _ (List.mem_filter.mpr ⟨lvl_mem.mpr ⟨w, hw, rfl⟩, ?_⟩), h2, h3⟩
    simp [e, rv_cat h2]
theorem LH.take {ls : Array Slot} {n : Nat} {L : List aV} (h : LH ls n L) (j : Nat) : LH ls n (L.take j) :=
  ⟨h.1, by rw [List.length_take]; have := h.2.1; omega, fun k v hv => h.2.2 k v (by
    by_cases e : k < j
    · rw [← hv, List.getElem?_take_of_lt e]
    · rw [List.getElem?_take_eq_none (by omega)] at hv; cases hv)⟩
