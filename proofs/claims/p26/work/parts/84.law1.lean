/-! THE LAW: its own methods, and what lies where in its run -/
section TL
variable {μ : aM} {pc : Nat} {L S : List aV} {h h' : aH} {Q : aR → Prop}
theorem kh_of {E t pc' j : Nat} (h1 : am_hd (am_hh μ) pc E = some t) (h2 : am_ha μ t = some (pc', j)) (kk : amT μ pc' (L.take j) [] h' Q) : kQ μ pc L S Q (.inr E, h') := by
  simp only [kQ, h1, h2]
  exact kk
theorem kh_n {E t : Nat} {k : Fin 4} (h1 : am_hd (am_hh μ) pc E = some t) (d : decode (am_cc μ) t = .ok (.astore_n k, 1)) (hk : k.val < am_mx μ) (kk : amT μ (t + 1) (L.take k.val) [] h' Q) : kQ μ pc L S Q (.inr E, h') := by
  refine kh_of h1 (pc' := t + 1) (j := k.val) ?_ kk
  unfold am_ha
  rw [d]
  exact if_pos hk
theorem kh_s {E t k : Nat} (h1 : am_hd (am_hh μ) pc E = some t) (d : decode (am_cc μ) t = .ok (.astore k, 2)) (hk : k < am_mx μ) (kk : amT μ (t + 2) (L.take k) [] h' Q) : kQ μ pc L S Q (.inr E, h') := by
  refine kh_of h1 (pc' := t + 2) (j := k) ?_ kk
  unfold am_ha
  rw [d]
  exact if_pos hk
end TL
theorem EnC.ax {h h' : aH} {e : Nat} {x : Ent} (H : EnC h e x) (f : agx h h' e (e + 2)) : EnC h' e x :=
  ⟨H.1.ax f, by rw [(f e (by omega) (by omega)).2.1]; exact H.2.1, by rw [(f (e + 1) (by omega) (by omega)).2.1]; exact H.2.2⟩
theorem SeB.ax {h h' : aH} {σ : Nat} {p : Nat → Nat} (H : SeB h σ p) (f : agx h h' σ (σ + 14)) : SeB h' σ p := by
  obtain ⟨a1, a2, a3, a4, a5, a6⟩ := H
  exact ⟨by rw [(f σ (by omega) (by omega)).1]; exact a1, by rw [(f σ (by omega) (by omega)).2.2]; exact a2, by rw [(f (σ + 1) (by omega) (by omega)).1]; exact a3, fun i hi => (a4 i hi).ax (f.up (by omega) (by omega)), fun i hi => by rw [(f (σ + 1) (by omega) (by omega)).2.2]; exact a5 i hi, a6⟩
theorem SeC.ax {h h' : aH} {σ : Nat} {l : List Ent} (H : SeC h σ l) (f : agx h h' σ (σ + 14)) : SeC h' σ l := by
  obtain ⟨p, B, c1, c2, c3⟩ := H
  refine ⟨p, B.ax f, by rw [(f σ (by omega) (by omega)).2.1]; exact c1, c2, fun i e he => ?_⟩
  have hi := (List.getElem?_eq_some_iff.mp he).1
  have := (B.2.2.2.2.1 i (by omega)).2
  exact (c3 i e he).ax (f.up (by omega) (by omega))
theorem CfC.ax {h h' : aH} {κ : Nat} {c : Cfg} (H : CfC h κ c) (f : agx h h' κ (κ + 48)) : CfC h' κ c :=
  ⟨H.1.ax (f.up (by omega) (by omega)), fun i hi => (H.2.1 i hi).ax (f.up (by omega) (by omega)), fun g j hg hj => by rw [(f (κ + 3 + g) (by omega) (by omega)).2.1]; exact H.2.2 g j hg hj⟩
theorem CfX.ax {h h' : aH} {κ : Nat} (H : CfX h κ) (f : agx h h' κ (κ + 48)) : CfX h' κ :=
  ⟨H.1.ax (f.up (by omega) (by omega)), fun i hi => (H.2 i hi).elim fun p hp => ⟨p, hp.ax (f.up (by omega) (by omega))⟩⟩
theorem RuC.ax {h h' : aH} {ρ : Nat} {r : Rul} (H : RuC h ρ r) (f : agx h h' ρ (ρ + 1)) : RuC h' ρ r := by
  unfold RuC at *
  rw [(f ρ (by omega) (by omega)).1, (f ρ (by omega) (by omega)).2.1]
  exact H
theorem DeR.ax {h h' : aH} {x : Nat} {S : St} (H : DeR h x S) (f : agx h h' x (x + 1899)) : DeR h' x S := by
  obtain ⟨⟨a1, a2, a3, a4, a5, a6, a7, a8, a9, b0, b1, b2, b3⟩, c1, c2, c3, c4, c5, c6, c7, ⟨q, d1⟩, ⟨p, d2⟩, d3, d4⟩ := H
  obtain ⟨f1, f2, f3⟩ := f x (by omega) (by omega)
  have s : ∀ y, y < 1899 → hsh h' (x + y) = hsh h (x + y) := fun y hy => (f (x + y) (by omega) (by omega)).1
  have r : ∀ y, y < 1899 → hrf h' (x + y) = hrf h (x + y) := fun y hy => (f (x + y) (by omega) (by omega)).2.2
  refine ⟨⟨by rw [f1]; exact a1, by rw [f3]; exact a2, by rw [s 1 (by omega)]; exact a3, by rw [f3]; exact a4, by rw [s 2 (by omega)]; exact a5, by rw [f3]; exact a6, by rw [s 3 (by omega)]; exact a7, by rw [f3]; exact a8, by rw [f3]; exact a9, by rw [f3]; exact b0, fun i hi => ?_, fun i hi => by rw [r 2 (by omega)]; exact b2 i hi, fun i hi => ?_⟩, fun t ht => (c1 t ht).ax (f.up (by have := kp_rng (x := x) ht; omega) (by have := kp_rng (x := x) ht; omega)), fun c hc => ?_, by rw [f2]; exact c3, by rw [f2]; exact c4, by rw [f2]; exact c5, fun hw => by rw [f2]; exact c6 hw, fun i r' hr => ⟨(c7 i r' hr).1, (c7 i r' hr).2.ax (f.up (by omega) (by have := (c7 i r' hr).1; omega))⟩, ⟨q, d1.ax (f.up (by omega) (by omega))⟩, ⟨p, d2.ax (f.up (by omega) (by omega))⟩, d3.ax (f.up (by omega) (by omega)), d4.ax (f.up (by omega) (by omega))⟩
  · rw [r 1 (by omega), (f (x + 304 + 49 * i) (by omega) (by omega)).1, (f (x + 304 + 49 * i) (by omega) (by omega)).2.2]
    exact b1 i hi
  · rw [r 3 (by omega), (f (x + 1891 + i) (by omega) (by omega)).1]
    exact b3 i hi
  · rw [(f (x + 304 + 49 * c) (by omega) (by omega)).2.1]
    exact c2 c hc

theorem bw_max (x : Int) : ∃ n : Nat, am_bw 0 x 2147483647 = (n : Int) := by
  have hl : ((Int32.ofInt x).toBitVec.toNat &&& 2147483647) ≤ 2147483647 := Nat.and_le_right
  refine ⟨(Int32.ofInt x).toBitVec.toNat &&& 2147483647, ?_⟩
  show (Int32.ofInt x &&& Int32.ofInt 2147483647).toInt = _
  have e : Int32.ofInt x &&& Int32.ofInt 2147483647 = nI ((Int32.ofInt x).toBitVec.toNat &&& 2147483647) := by
    rw [← Int32.toBitVec_inj]
    apply BitVec.eq_of_toNat_eq
    rw [Int32.toBitVec_and, BitVec.toNat_and, nI_bv (by omega), show (Int32.ofInt 2147483647).toBitVec.toNat = 2147483647 from by decide]
  rw [e, nI_to (by omega)]
/-- what 'low' answers -/
def lw (x n : Int) : Int := am_bw 0 x 2147483647 % n
theorem lw_rng {x n : Int} (h : 0 < n) : 0 ≤ lw x n ∧ lw x n < n := ⟨Int.emod_nonneg _ (by omega), Int.emod_lt_of_pos _ h⟩
theorem bw_and1 {n : Nat} (h : n < 2 ^ 31) : am_bw 0 (n : Int) 1 = ((n % 2 : Nat) : Int) := by
  rw [bw_andN (b := 1) h (by decide), Nat.and_one_is_mod]
/-- keys that were seen, as bits -/
theorem bit_see {m k : Nat} (hm : m < 1024) (hk : k ≤ 9) : am_bw 0 (am_bw 4 (m : Int) (k : Int)) 1 = ((m / 2 ^ k % 2 : Nat) : Int) := by
  have h1 : am_bw 4 (m : Int) (k : Int) = ((m / 2 ^ k : Nat) : Int) := by
    refine bw_shr (by omega) k ?_
    rcases (by omega : k = 0 ∨ k = 1 ∨ k = 2 ∨ k = 3 ∨ k = 4 ∨ k = 5 ∨ k = 6 ∨ k = 7 ∨ k = 8 ∨ k = 9) with rfl | rfl | rfl | rfl | rfl | rfl | rfl | rfl | rfl | rfl <;> decide
  rw [h1]
  exact bw_and1 (Nat.lt_of_le_of_lt (Nat.div_le_self _ _) (by omega))
theorem bit_note {m k : Nat} (hm : m < 1024) (hk : k ≤ 9) : am_bw 1 (m : Int) (am_bw 3 1 (k : Int)) = ((m ||| 2 ^ k : Nat) : Int) ∧ (m ||| 2 ^ k) < 1024 := by
  have h1 : am_bw 3 1 (k : Int) = ((2 ^ k : Nat) : Int) := by
    rcases (by omega : k = 0 ∨ k = 1 ∨ k = 2 ∨ k = 3 ∨ k = 4 ∨ k = 5 ∨ k = 6 ∨ k = 7 ∨ k = 8 ∨ k = 9) with rfl | rfl | rfl | rfl | rfl | rfl | rfl | rfl | rfl | rfl <;> decide
  have h2 : 2 ^ k < 1024 := by
    rcases (by omega : k = 0 ∨ k = 1 ∨ k = 2 ∨ k = 3 ∨ k = 4 ∨ k = 5 ∨ k = 6 ∨ k = 7 ∨ k = 8 ∨ k = 9) with rfl | rfl | rfl | rfl | rfl | rfl | rfl | rfl | rfl | rfl <;> decide
  have h3 : (m ||| 2 ^ k) < 2 ^ 10 := Nat.or_lt_two_pow (by omega) (by omega)
  rw [h1, bw_or (by omega) (by omega)]
  exact ⟨rfl, by omega⟩
theorem tb_one {m k : Nat} : m / 2 ^ k % 2 = 1 ↔ m.testBit k = true := by
  rw [Nat.testBit_eq_decide_div_mod_eq]
  exact decide_eq_true_iff.symm
/-- which of the candidates 0 and 1 are open -/
theorem op_get {p q c : Int} (hp : p = 0 ∨ p = 1) (hq : q = 0 ∨ q = 1) (hc : c = 0 ∨ c = 1) : am_bw 0 (am_bw 4 (p + 2 * q) c) 1 = if c = 0 then p else q := by
  rcases hp with rfl | rfl <;> rcases hq with rfl | rfl <;> rcases hc with rfl | rfl <;> decide
theorem op_set {p q c : Int} (hp : p = 0 ∨ p = 1) (hq : q = 0 ∨ q = 1) (hc : c = 0 ∨ c = 1) : am_bw 1 (p + 2 * q) (am_bw 3 1 c) = if c = 0 then 1 + 2 * q else p + 2 := by
  rcases hp with rfl | rfl <;> rcases hq with rfl | rfl <;> rcases hc with rfl | rfl <;> decide
theorem op_and {p q : Int} (hp : p = 0 ∨ p = 1) (hq : q = 0 ∨ q = 1) : am_bw 0 (p + 2 * q) 3 = p + 2 * q := by
  rcases hp with rfl | rfl <;> rcases hq with rfl | rfl <;> decide
theorem op_clr {p q c : Int} (hp : p = 0 ∨ p = 1) (hq : q = 0 ∨ q = 1) (hc : c = 0 ∨ c = 1) : am_bw 0 (p + 2 * q) (am_bw 2 (am_bw 3 1 c) (-1)) = if c = 0 then 2 * q else p := by
  rcases hp with rfl | rfl <;> rcases hq with rfl | rfl <;> rcases hc with rfl | rfl <;> decide
/-- only the desk's cells may change, but for exceptions that were made -/
def frx (n : Nat) (h h' : aH) (a b : Nat) : Prop := hsh h' = hsh h ∧ hnx h' ≤ hnx h + n ∧ hks h' ≤ hks h + 6 * n ∧ ∀ y, y < a ∨ b ≤ y → hiv h' y = hiv h y ∧ hrf h' y = hrf h y
theorem fro.x {h h' : aH} {a b : Nat} (n : Nat) (f : fro h h' a b) : frx n h h' a b := ⟨f.1, by rw [f.2.1]; omega, by rw [f.2.2.1]; omega, f.2.2.2⟩
theorem fro.th {h h' : aH} {a b : Nat} (f : fro h h' a b) : frx 1 h (hth h') a b := by
  refine ⟨f.1, ?_, ?_, f.2.2.2⟩
  · show hnx h' + 1 ≤ _
    rw [f.2.1]
    omega
  · show hks h' + 6 ≤ _
    rw [f.2.2.1]
    omega
theorem frx.tr {h h' h'' : aH} {a b n m k : Nat} (f : frx n h h' a b) (g : frx m h' h'' a b) (hk : n + m ≤ k) : frx k h h'' a b :=
  ⟨g.1.trans f.1, by have := f.2.1; have := g.2.1; omega, by have := f.2.2.1; have := g.2.2.1; omega, fun y hy => ⟨(g.2.2.2 y hy).1.trans (f.2.2.2 y hy).1, (g.2.2.2 y hy).2.trans (f.2.2.2 y hy).2⟩⟩
theorem DeR.th {h : aH} {x : Nat} {S : St} (H : DeR h x S) : DeR (hth h) x S := H.ag ⟨rfl, fun _ _ _ => ⟨rfl, rfl⟩⟩
theorem sx0 {v0 : Int} {S0 S : St} {t : Int} {r : Res} (ht : ¬ (0 : Int) = t) (h1 : r = (0, v0, S0)) (h2 : r = sx S t) : False := ht (congrArg Prod.fst (h1.symm.trans h2))
