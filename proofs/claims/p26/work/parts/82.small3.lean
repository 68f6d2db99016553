/-! new objects -/
/-- a new array, kept at the place k of x -/
def arS (g g' : aH) (x t n k : Nat) : Prop :=
  hnx g' = hnx g + 1 ∧ hks g' = hks g + n ∧ (Fre g → Fre g') ∧ hiv g' = hiv g ∧ (∀ y, y ≠ hnx g → hsh g' y = hsh g y) ∧ hsh g' (hnx g) = (t, n) ∧ hrf g' x k = some (hnx g) ∧ ∀ y j, ¬ (y = x ∧ j = k) → hrf g' y j = hrf g y j
theorem arS_mk {g : aH} {x t n k : Nat} : arS g (hwr (hnw g t n) x k (some (hnx g))) x t n k :=
  ⟨rfl, rfl, fun F => F.nw (t := t) (n := n), rfl, fun y hy => hsh_nw_ne hy, hsh_nw_at, hwr_at, fun y j hn => hwr_ne hn⟩
/-- a new object with what its constructor makes, kept at the place k of x -/
def obS (g g' : aH) (x k m K : Nat) : Prop :=
  hnx g' = hnx g + m ∧ hks g' ≤ hks g + K ∧ Fre g' ∧ (∀ y, y < hnx g → hsh g' y = hsh g y ∧ hiv g' y = hiv g y ∧ ∀ j, ¬ (y = x ∧ j = k) → hrf g' y j = hrf g y j) ∧ hrf g' x k = some (hnx g)
theorem obS_mk {g g2 : aH} {x t n k m K : Nat} (f : con (hnw g t n) g2 (hnx g) m K) : obS g (hwr g2 x k (some (hnx g))) x k m (n + K) := by
  obtain ⟨f1, f2, f3, f4⟩ := f
  refine ⟨f1, ?_, f4, fun y hy => ⟨(f3 y hy).1.trans (hsh_nw_ne (by omega)), (f3 y hy).2.1, fun j hn => (hwr_ne hn).trans (congrFun (f3 y hy).2.2 j)⟩, hwr_at⟩
  show hks g2 ≤ hks g + (n + K)
  have : hks (hnw g t n) = hks g + n := rfl
  omega
theorem hwr_ax {g : aH} {x k a b : Nat} {v : Option Nat} (h : x < a ∨ b ≤ x) : agx g (hwr g x k v) a b := fun y h1 h2 => ⟨rfl, rfl, funext fun j => hwr_ne (by omega)⟩
def S0 : St := (fun _ => C0, fun _ => 0, fun _ => 0, 0, -1, [])
theorem okL_nil : okL [] := ⟨Nat.zero_le _, (fun i j e f he => by cases he), fun i e he => by cases he⟩
theorem okS0 : okS S0 := by
  refine ⟨fun i _ => ⟨fun s _ => okL_nil, fun g f _ _ => ⟨Int.le_refl _, (by decide : (-1 : Int) ≤ 99)⟩⟩, fun c _ => ⟨Or.inl rfl, Nat.le_refl _⟩, Nat.zero_le _, Or.inl rfl, Nat.zero_le _, fun i r hr => by cases hr⟩
