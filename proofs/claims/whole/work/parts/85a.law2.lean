/-! WHAT HOLDS ahead of each call of the law -/
def LI (z b L : Nat) (xs : Nat → Int) (S : St) (c : Nat) (h : aH) : Prop :=
  okS S ∧ DeR h z S ∧ MS h (z + 1899) ∧ ModR (hiv h) (z + 1899) S ∧ hsh h (z + 1913) = (21, 1) ∧ hsh h b = (50, L) ∧ b < z ∧ (∀ k, hiv h b k = xs k) ∧ (∀ k, inr32 (xs k)) ∧ L ≤ 3072 ∧ hnx h ≤ z + 1914 + c ∧ hks h ≤ 8000 + 6 * c
section XR
variable {z b L c : Nat} {xs : Nat → Int} {S : St} {h h1 : aH}
theorem LI.mid {r : Res} {kk : Int} (J : LI z b L xs S c h) (O : LO r z h h1 kk) : MS h1 (z + 1899) ∧ ModR (hiv h1) (z + 1899) S ∧ hsh h1 (z + 1913) = (21, 1) ∧ hsh h1 b = (50, L) ∧ ∀ k, hiv h1 b k = xs k := by
  obtain ⟨HS, D, M, R, so, sb, hb, hx, hr, hL, n1, n2⟩ := J
  obtain ⟨D1, e1, sh1, n3, k3, rf1, iv1⟩ := O
  exact ⟨M.to sh1 (rf1 _ (by omega)), R.to fun a h1 h2 => iv1 a (by omega) (by omega), by rw [sh1]; exact so, by rw [sh1]; exact sb, fun k => by rw [iv1 b (by omega) (by omega)]; exact hx k⟩
theorem LI.next {r : Res} {kk b' : Int} {I' : Nat → Nat → Int} (J : LI z b L xs S c h) (O : LO r z h h1 kk) (O2 : MO r (hiv h1) I' (z + 1899) b') (hS : okS r.2.2) : LI z b L xs r.2.2 (c + 1) (hI h1 I') := by
  obtain ⟨M1, -, so1, sb1, hx1⟩ := J.mid O
  obtain ⟨HS, D, M, R, so, sb, hb, hx, hr, hL, n1, n2⟩ := J
  obtain ⟨D1, e1, sh1, n3, k3, rf1, iv1⟩ := O
  obtain ⟨R2, th, hv, fr⟩ := O2
  refine ⟨hS, D1.ag ⟨rfl, fun y h1 h2 => ⟨fr y (by omega), rfl⟩⟩, M1, R2, so1, sb1, hb, fun k => ?_, hr, hL, ?_, ?_⟩
  · show I' b k = xs k
    rw [fr b (by omega)]
    exact hx1 k
  · show hnx h1 ≤ _
    omega
  · show hks h1 ≤ _
    omega
/-- a question that the class answers without a change -/
theorem LI.stay {v b' : Int} {I' : Nat → Nat → Int} (J : LI z b L xs S c h) (O2 : MO (0, v, S) (hiv h) I' (z + 1899) b') : LI z b L xs S (c + 1) (hI h I') :=
  J.next (kk := 0) (r := (0, v, S)) ⟨J.2.1, rfl, rfl, Nat.le_succ _, by omega, fun _ _ => rfl, fun _ _ _ => rfl⟩ O2 J.1
theorem LI.up (J : LI z b L xs S c h) : LI z b L xs S (c + 1) h := by
  obtain ⟨HS, D, M, R, so, sb, hb, hx, hr, hL, n1, n2⟩ := J
  exact ⟨HS, D, M, R, so, sb, hb, hx, hr, hL, by omega, by omega⟩
end XR
theorem lc_0 {v : Int} : (if v < v then (1 : Int) else if v = v then 0 else -1) = 0 := by simp
section XS
variable {S : St}
theorem okS_faults (H : okS S) (w : Int) : okS (sp_faults S w).2.2 := by unfold sp_faults; split <;> exact H
theorem okS_size (H : okS S) (w s : Int) : okS (sp_size S w s).2.2 := by unfold sp_size; split <;> exact H
theorem okS_keyAt (H : okS S) (w s p : Int) : okS (sp_keyAt S w s p).2.2 := by unfold sp_keyAt; split <;> exact H
theorem okS_shown (H : okS S) (w s p f : Int) : okS (sp_shown S w s p f).2.2 := by unfold sp_shown; split <;> exact H
theorem okS_own (H : okS S) (w s p : Int) : okS (sp_own S w s p).2.2 := by unfold sp_own; split <;> exact H
theorem okS_same (H : okS S) (a b : Int) : okS (sp_same S a b).2.2 := by unfold sp_same; split <;> exact H
theorem okS_edits (H : okS S) (a b : Int) : okS (sp_edits S a b).2.2 := by unfold sp_edits; split <;> exact H
theorem okS_editAt (H : okS S) (a b k : Int) : okS (sp_editAt S a b k).2.2 := by unfold sp_editAt; split <;> exact H
end XS
