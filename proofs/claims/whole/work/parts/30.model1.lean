/-! THE REFERENCE, its small methods: what each answers of the rows -/
/-- the reference's object at m: its arrays stand behind it -/
def MS (h : aH) (m : Nat) : Prop :=
  hsh h m = (9, 18) ∧ hrf h m 0 = some (m + 1) ∧ hsh h (m + 1) = (20, 945) ∧ hrf h m 1 = some (m + 2) ∧ hsh h (m + 2) = (20, 3) ∧ hrf h m 2 = some (m + 3) ∧ hsh h (m + 3) = (20, 3) ∧
  hrf h m 6 = some (m + 4) ∧ hsh h (m + 4) = (20, 100) ∧ hrf h m 7 = some (m + 5) ∧ hsh h (m + 5) = (20, 100) ∧ hrf h m 8 = some (m + 6) ∧ hsh h (m + 6) = (20, 100) ∧ hrf h m 9 = some (m + 7) ∧ hsh h (m + 7) = (20, 100) ∧ hrf h m 10 = some (m + 8) ∧ hsh h (m + 8) = (20, 100) ∧ hrf h m 11 = some (m + 9) ∧ hsh h (m + 9) = (20, 100) ∧
  hrf h m 13 = some (m + 10) ∧ hsh h (m + 10) = (20, 8) ∧ hrf h m 14 = some (m + 11) ∧ hsh h (m + 11) = (20, 8) ∧ hrf h m 15 = some (m + 12) ∧ hsh h (m + 12) = (20, 8) ∧ hrf h m 16 = some (m + 13) ∧ hsh h (m + 13) = (20, 8)
section M1
variable {h : aH} {m : Nat} {Q : aR → Prop}
theorem MS.o (M : MS h m) : hsh h m = (9, 18) := M.1
theorem MS.r (M : MS h m) : hrf h m 0 = some (m + 1) ∧ hsh h (m + 1) = (20, 945) := ⟨M.2.1, M.2.2.1⟩
theorem m_thrown (M : MS h m) (k : Q (.inl (some (vI (hiv h m 17))), h)) : amT mX8_thrown 0 [vR m] [] h Q := by
  have h0 := M.o
  refine kr_aload_n (pc := 0) dX8_thrown_0 rfl ?_
  refine kr_geti (pc := 1) dX8_thrown_1 rfl (by decide) (by assumption) rfl ?_
  refine kr_ireturn (pc := 4) dX8_thrown_4 rfl ?_
  exact k
theorem m_fails {x : Int} (M : MS h m) (k : Q (.inl (some (vI 0)), hwi h m 17 x)) : amT mX8_fails 0 [vR m, vI x] [] h Q := by
  have h0 := M.o
  refine kr_aload_n (pc := 0) dX8_fails_0 rfl ?_
  refine kr_iload_n (pc := 1) dX8_fails_1 rfl ?_
  refine kr_puti (pc := 2) dX8_fails_2 rfl (Or.inl rfl) (by decide) (by assumption) ?_
  refine kr_iconst (pc := 5) dX8_fails_5 (by decide) ?_
  refine kr_ireturn (pc := 6) dX8_fails_6 rfl ?_
  exact k
theorem m_in {v lo hi : Int} (k : Q (.inl (some (vI (if lo ≤ v ∧ v ≤ hi then 1 else 0))), h)) : amT mX8_in 0 [vI v, vI lo, vI hi] [] h Q := by
  refine kr_iload_n (pc := 0) dX8_in_0 rfl ?_
  refine kr_iload_n (pc := 1) dX8_in_1 rfl ?_
  refine kr_icmp_lt (pc := 2) dX8_in_2 rfl (fun h1 => ?_) (fun h1 => ?_)
  · refine kr_iconst (pc := 14) dX8_in_14 (by decide) ?_
    refine kr_ireturn (pc := 15) dX8_in_15 rfl ?_
    rw [if_neg (by omega)] at k
    exact k
  · refine kr_iload_n (pc := 5) dX8_in_5 rfl ?_
    refine kr_iload_n (pc := 6) dX8_in_6 rfl ?_
    refine kr_icmp_gt (pc := 7) dX8_in_7 rfl (fun h2 => ?_) (fun h2 => ?_)
    · refine kr_iconst (pc := 14) dX8_in_14 (by decide) ?_
      refine kr_ireturn (pc := 15) dX8_in_15 rfl ?_
      rw [if_neg (by omega)] at k
      exact k
    · refine kr_iconst (pc := 10) dX8_in_10 (by decide) ?_
      refine kr_goto (pc := 11) dX8_in_11 rfl ?_
      refine kr_ireturn (pc := 15) dX8_in_15 rfl ?_
      rw [if_pos (by omega)] at k
      exact k
theorem m_at {s c p : Int} (hs : 0 ≤ s ∧ s ≤ 34) (hc : 0 ≤ c ∧ c ≤ 2) (hp : 0 ≤ p ∧ p ≤ 6) (k : Q (.inl (some (vI (27 * s + 3 + 6 * c + p))), h)) : amT mX8_at 0 [vI s, vI c, vI p] [] h Q := by
  refine kr_bipush (pc := 0) dX8_at_0 (by decide) ?_
  refine kr_iload_n (pc := 2) dX8_at_2 rfl ?_
  refine kr_imul (pc := 3) dX8_at_3 ⟨by omega, by omega⟩ ?_
  refine kr_iconst (pc := 4) dX8_at_4 (by decide) ?_
  refine kr_iadd (pc := 5) dX8_at_5 ⟨by omega, by omega⟩ ?_
  refine kr_bipush (pc := 6) dX8_at_6 (by decide) ?_
  refine kr_iload_n (pc := 8) dX8_at_8 rfl ?_
  refine kr_imul (pc := 9) dX8_at_9 ⟨by omega, by omega⟩ ?_
  refine kr_iadd (pc := 10) dX8_at_10 ⟨by omega, by omega⟩ ?_
  refine kr_iload_n (pc := 11) dX8_at_11 rfl ?_
  refine kr_iadd (pc := 12) dX8_at_12 ⟨by omega, by omega⟩ ?_
  refine kr_ireturn (pc := 13) dX8_at_13 rfl ?_
  exact k
theorem m_many {s c : Int} (M : MS h m) (hs : 0 ≤ s ∧ s ≤ 34) (hc : 0 ≤ c ∧ c ≤ 2) (k : Q (.inl (some (vI (hiv h (m + 1) (27 * s + c).toNat))), h)) : amT mX8_many 0 [vR m, vI s, vI c] [] h Q := by
  have h0 := M.o
  obtain ⟨h1, h2⟩ := M.r
  refine kr_aload_n (pc := 0) dX8_many_0 rfl ?_
  refine kr_getr (pc := 1) dX8_many_1 rfl rfl (by assumption) (by assumption) ?_
  refine kr_bipush (pc := 4) dX8_many_4 (by decide) ?_
  refine kr_iload_n (pc := 6) dX8_many_6 rfl ?_
  refine kr_imul (pc := 7) dX8_many_7 ⟨by omega, by omega⟩ ?_
  refine kr_iload_n (pc := 8) dX8_many_8 rfl ?_
  refine kr_iadd (pc := 9) dX8_many_9 ⟨by omega, by omega⟩ ?_
  refine kr_iald (pc := 10) dX8_many_10 (by assumption) (by omega) (by omega) rfl ?_
  refine kr_ireturn (pc := 11) dX8_many_11 rfl ?_
  exact k
theorem m_groupAt {s g f : Int} (hs : 0 ≤ s ∧ s ≤ 34) (hg : 0 ≤ g ∧ g ≤ 2) (hf : 0 ≤ f ∧ f ≤ 1) (k : Q (.inl (some (vI (27 * s + 21 + 2 * g + f))), h)) : amT mX8_groupAt 0 [vI s, vI g, vI f] [] h Q := by
  refine kr_bipush (pc := 0) dX8_groupAt_0 (by decide) ?_
  refine kr_iload_n (pc := 2) dX8_groupAt_2 rfl ?_
  refine kr_imul (pc := 3) dX8_groupAt_3 ⟨by omega, by omega⟩ ?_
  refine kr_bipush (pc := 4) dX8_groupAt_4 (by decide) ?_
  refine kr_iadd (pc := 6) dX8_groupAt_6 ⟨by omega, by omega⟩ ?_
  refine kr_iconst (pc := 7) dX8_groupAt_7 (by decide) ?_
  refine kr_iload_n (pc := 8) dX8_groupAt_8 rfl ?_
  refine kr_imul (pc := 9) dX8_groupAt_9 ⟨by omega, by omega⟩ ?_
  refine kr_iadd (pc := 10) dX8_groupAt_10 ⟨by omega, by omega⟩ ?_
  refine kr_iload_n (pc := 11) dX8_groupAt_11 rfl ?_
  refine kr_iadd (pc := 12) dX8_groupAt_12 ⟨by omega, by omega⟩ ?_
  refine kr_ireturn (pc := 13) dX8_groupAt_13 rfl ?_
  exact k
theorem m_key {x : Int} (hx : 0 ≤ x) (k : Q (.inl (some (vI (x % 16))), h)) : amT mX8_key 0 [vI x] [] h Q := by
  refine kr_iload_n (pc := 0) dX8_key_0 rfl ?_
  refine kr_bipush (pc := 1) dX8_key_1 (by decide) ?_
  refine kr_irem (pc := 3) dX8_key_3 ⟨by omega, by omega⟩ ?_
  refine kr_ireturn (pc := 4) dX8_key_4 rfl ?_
  exact k
end M1
