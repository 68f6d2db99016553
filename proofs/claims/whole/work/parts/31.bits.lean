/-! ENTRIES IN ONE NUMBER, as the reference keeps them -/
/-- key, the two fields, the group -/
abbrev Ent : Type := Int × Int × Int × Int
def pk (e : Ent) : Int := e.1 + 16 * (e.2.1 + 1) + 2048 * (e.2.2.1 + 1) + 262144 * (e.2.2.2 + 1)
def okE (e : Ent) : Prop := 0 ≤ e.1 ∧ e.1 ≤ 9 ∧ -1 ≤ e.2.1 ∧ e.2.1 ≤ 99 ∧ -1 ≤ e.2.2.1 ∧ e.2.2.1 ≤ 99 ∧ -1 ≤ e.2.2.2 ∧ e.2.2.2 ≤ 2
theorem pk_key {e : Ent} (h : okE e) : pk e % 16 = e.1 := by
  unfold okE at h
  unfold pk
  omega
theorem pk_rng {e : Ent} (h : okE e) : 0 ≤ pk e ∧ pk e < 2147483647 := by
  unfold okE at h
  unfold pk
  omega
theorem pk_inj {e f : Ent} (he : okE e) (hf : okE f) (h : pk e = pk f) : e = f := by
  obtain ⟨a, b, c, d⟩ := e
  obtain ⟨a', b', c', d'⟩ := f
  simp only [okE, pk] at *
  have h1 : a = a' := by omega
  have h2 : b = b' := by omega
  have h3 : c = c' := by omega
  have h4 : d = d' := by omega
  rw [h1, h2, h3, h4]
theorem ofInt_nat (n : Nat) : Int32.ofInt (n : Int) = nI n := Int32.ofInt_eq_ofNat
theorem nI_to {n : Nat} (h : n < 2 ^ 31) : (nI n).toInt = (n : Int) := nI_toInt h
theorem bw_shr {n : Nat} (h : n < 2 ^ 31) (k : Nat) (hs : ((Int32.ofInt (k : Int) &&& 31).toBitVec.smod 32).toNat = k) : am_bw 4 (n : Int) (k : Int) = ((n / 2 ^ k : Nat) : Int) := by
  show (Int32.ofInt (n : Int) >>> (Int32.ofInt (k : Int) &&& 31)).toInt = _
  rw [ofInt_nat, pk_shrN h _ k hs, nI_to (Nat.lt_of_le_of_lt (Nat.div_le_self _ _) h)]
theorem bw_shl {n : Nat} (k : Nat) (hs : ((Int32.ofInt (k : Int) &&& 31).toBitVec.smod 32).toNat = k) (h : n * 2 ^ k < 2 ^ 31) : am_bw 3 (n : Int) (k : Int) = ((n * 2 ^ k : Nat) : Int) := by
  show (Int32.ofInt (n : Int) <<< (Int32.ofInt (k : Int) &&& 31)).toInt = _
  rw [ofInt_nat, pk_shlN _ k hs (by omega), nI_to h]
theorem bw_and127 {n : Nat} (h : n < 2 ^ 31) : am_bw 0 (n : Int) 127 = ((n % 128 : Nat) : Int) := by
  show (Int32.ofInt (n : Int) &&& Int32.ofInt 127).toInt = _
  rw [ofInt_nat, pk_andN (by omega) 7 (by decide), nI_to (by omega)]
theorem bw_and18 {n : Nat} (h : n < 2 ^ 31) : am_bw 0 (n : Int) 262143 = ((n % 262144 : Nat) : Int) := by
  show (Int32.ofInt (n : Int) &&& Int32.ofInt 262143).toInt = _
  rw [ofInt_nat, pk_andN (by omega) 18 (by decide), nI_to (by omega)]
theorem nI_bv {n : Nat} (h : n < 2 ^ 32) : (nI n).toBitVec.toNat = n := pk_tn h
theorem bw_or {a b : Nat} (ha : a < 2 ^ 31) (hb : b < 2 ^ 31) : am_bw 1 (a : Int) (b : Int) = ((a ||| b : Nat) : Int) := by
  have hab : a ||| b < 2 ^ 31 := Nat.or_lt_two_pow ha hb
  show (Int32.ofInt (a : Int) ||| Int32.ofInt (b : Int)).toInt = _
  have e : Int32.ofInt (a : Int) ||| Int32.ofInt (b : Int) = nI (a ||| b) := by
    rw [ofInt_nat, ofInt_nat, ← Int32.toBitVec_inj]
    apply BitVec.eq_of_toNat_eq
    rw [Int32.toBitVec_or, BitVec.toNat_or, nI_bv (by omega), nI_bv (by omega), nI_bv (by omega)]
  rw [e, nI_to hab]
theorem bw_andN {a : Nat} {y : Int} {b : Nat} (ha : a < 2 ^ 31) (hy : (Int32.ofInt y).toBitVec.toNat = b) : am_bw 0 (a : Int) y = ((a &&& b : Nat) : Int) := by
  have hab : a &&& b < 2 ^ 31 := Nat.lt_of_le_of_lt Nat.and_le_left ha
  show (Int32.ofInt (a : Int) &&& Int32.ofInt y).toInt = _
  have e : Int32.ofInt (a : Int) &&& Int32.ofInt y = nI (a &&& b) := by
    rw [ofInt_nat, ← Int32.toBitVec_inj]
    apply BitVec.eq_of_toNat_eq
    rw [Int32.toBitVec_and, BitVec.toNat_and, nI_bv (by omega), hy, nI_bv (by omega)]
  rw [e, nI_to hab]
/-- seven bits at s are cleared -/
theorem nb_and (s hi mid lo : Nat) (hs : s ≤ 25) (hlo : lo < 2 ^ s) (hmid : mid < 2 ^ 7) (hhi : hi < 2 ^ (25 - s)) :
    (2 ^ s * (2 ^ 7 * hi + mid) + lo) &&& (2 ^ s * (2 ^ 7 * (2 ^ (25 - s) - 1) + 0) + (2 ^ s - 1)) = 2 ^ s * (2 ^ 7 * hi + 0) + lo := by
  apply Nat.eq_of_testBit_eq
  intro i
  have hp : 0 < 2 ^ s := Nat.two_pow_pos s
  rw [Nat.testBit_and, Nat.testBit_two_pow_mul_add _ hlo, Nat.testBit_two_pow_mul_add _ (by omega : 2 ^ s - 1 < 2 ^ s), Nat.testBit_two_pow_mul_add _ hlo]
  by_cases h1 : i < s
  · rw [if_pos h1, if_pos h1, if_pos h1, Nat.testBit_two_pow_sub_one]
    simp [h1]
  · rw [if_neg h1, if_neg h1, if_neg h1, Nat.testBit_two_pow_mul_add _ hmid, Nat.testBit_two_pow_mul_add _ (by omega : 0 < 2 ^ 7), Nat.testBit_two_pow_mul_add _ (by omega : 0 < 2 ^ 7)]
    by_cases h2 : i - s < 7
    · rw [if_pos h2, if_pos h2, if_pos h2]
      simp
    · rw [if_neg h2, if_neg h2, if_neg h2, Nat.testBit_two_pow_sub_one]
      by_cases h3 : i - s - 7 < 25 - s
      · simp [h3]
      · rw [Nat.testBit_lt_two_pow (Nat.lt_of_lt_of_le hhi (Nat.pow_le_pow_right (by omega) (by omega)))]
        rfl
/-- .. and set -/
theorem nb_or (s hi v lo : Nat) (hlo : lo < 2 ^ s) (hv : v < 2 ^ 7) : (2 ^ s * (2 ^ 7 * hi + 0) + lo) ||| (v * 2 ^ s) = 2 ^ s * (2 ^ 7 * hi + v) + lo := by
  apply Nat.eq_of_testBit_eq
  intro i
  rw [Nat.testBit_or, Nat.testBit_two_pow_mul_add _ hlo, Nat.testBit_two_pow_mul_add _ hlo, Nat.mul_comm v, show 2 ^ s * v = 2 ^ s * v + 0 from rfl, Nat.testBit_two_pow_mul_add _ (Nat.two_pow_pos s)]
  by_cases h1 : i < s
  · rw [if_pos h1, if_pos h1, if_pos h1]
    simp
  · rw [if_neg h1, if_neg h1, if_neg h1, Nat.testBit_two_pow_mul_add _ hv, Nat.testBit_two_pow_mul_add _ (by omega : 0 < 2 ^ 7)]
    by_cases h2 : i - s < 7
    · rw [if_pos h2, if_pos h2]
      simp
    · rw [if_neg h2, if_neg h2, Nat.testBit_lt_two_pow (Nat.lt_of_lt_of_le hv (Nat.pow_le_pow_right (by omega) (by omega)))]
      simp
def fieldE (e : Ent) (f : Int) : Int := if f = 0 then e.2.1 else e.2.2.1
def withFE (e : Ent) (f v : Int) : Ent := if f = 0 then (e.1, v, e.2.2.1, e.2.2.2) else (e.1, e.2.1, v, e.2.2.2)
def withGE (e : Ent) (g : Int) : Ent := (e.1, e.2.1, e.2.2.1, g)
theorem pk_nat {e : Ent} (h : okE e) : ∃ n : Nat, pk e = (n : Int) ∧ n < 2 ^ 31 ∧ n = (2 ^ 4 * (2 ^ 7 * ((e.2.2.1 + 1).toNat + 128 * (e.2.2.2 + 1).toNat) + (e.2.1 + 1).toNat) + e.1.toNat) := by
  refine ⟨_, ?_, ?_, rfl⟩
  · unfold okE at h
    unfold pk
    omega
  · unfold okE at h
    omega
section M2
variable {h : aH} {m : Nat} {Q : aR → Prop}
theorem m_field {e : Ent} {f : Int} (he : okE e) (hf : f = 0 ∨ f = 1) (k : Q (.inl (some (vI (fieldE e f + 1))), h)) : amT mX8_field 0 [vI (pk e), vI f] [] h Q := by
  obtain ⟨n, e1, e2, e3⟩ := pk_nat he
  unfold okE at he
  rw [e1]
  rcases hf with rfl | rfl
  · refine kr_iload_n (pc := 0) dX8_field_0 rfl ?_
    refine kr_iconst (pc := 1) dX8_field_1 (by decide) ?_
    refine kr_bipush (pc := 2) dX8_field_2 (by decide) ?_
    refine kr_iload_n (pc := 4) dX8_field_4 rfl ?_
    refine kr_imul (pc := 5) dX8_field_5 ⟨by omega, by omega⟩ ?_
    refine kr_iadd (pc := 6) dX8_field_6 ⟨by omega, by omega⟩ ?_
    refine kr_ishr (pc := 7) dX8_field_7 ?_
    refine kr_bipush (pc := 8) dX8_field_8 (by decide) ?_
    refine kr_iand (pc := 10) dX8_field_10 ?_
    rw [show (4 + 7 * 0 : Int) = ((4 : Nat) : Int) by rfl, bw_shr e2 4 (by decide), bw_and127 (by omega)]
    refine kr_ireturn (pc := 11) dX8_field_11 rfl ?_
    have e4 : ((n / 2 ^ 4 % 128 : Nat) : Int) = fieldE e 0 + 1 := by
      unfold fieldE
      rw [if_pos rfl]
      omega
    rw [e4]
    exact k
  · refine kr_iload_n (pc := 0) dX8_field_0 rfl ?_
    refine kr_iconst (pc := 1) dX8_field_1 (by decide) ?_
    refine kr_bipush (pc := 2) dX8_field_2 (by decide) ?_
    refine kr_iload_n (pc := 4) dX8_field_4 rfl ?_
    refine kr_imul (pc := 5) dX8_field_5 ⟨by omega, by omega⟩ ?_
    refine kr_iadd (pc := 6) dX8_field_6 ⟨by omega, by omega⟩ ?_
    refine kr_ishr (pc := 7) dX8_field_7 ?_
    refine kr_bipush (pc := 8) dX8_field_8 (by decide) ?_
    refine kr_iand (pc := 10) dX8_field_10 ?_
    rw [show (4 + 7 * 1 : Int) = ((11 : Nat) : Int) by rfl, bw_shr e2 11 (by decide), bw_and127 (by omega)]
    refine kr_ireturn (pc := 11) dX8_field_11 rfl ?_
    have e4 : ((n / 2 ^ 11 % 128 : Nat) : Int) = fieldE e 1 + 1 := by
      unfold fieldE
      rw [if_neg (by decide)]
      omega
    rw [e4]
    exact k
theorem m_group {e : Ent} (he : okE e) (k : Q (.inl (some (vI (e.2.2.2 + 1))), h)) : amT mX8_group 0 [vI (pk e)] [] h Q := by
  obtain ⟨n, e1, e2, e3⟩ := pk_nat he
  unfold okE at he
  rw [e1]
  refine kr_iload_n (pc := 0) dX8_group_0 rfl ?_
  refine kr_bipush (pc := 1) dX8_group_1 (by decide) ?_
  refine kr_ishr (pc := 3) dX8_group_3 ?_
  rw [show (18 : Int) = ((18 : Nat) : Int) by rfl, bw_shr e2 18 (by decide)]
  refine kr_ireturn (pc := 4) dX8_group_4 rfl ?_
  have e4 : ((n / 2 ^ 18 : Nat) : Int) = e.2.2.2 + 1 := by omega
  rw [e4]
  exact k
theorem m_withGroup {e : Ent} {g : Int} (he : okE e) (hg : -1 ≤ g ∧ g ≤ 2) (k : Q (.inl (some (vI (pk (withGE e g)))), h)) : amT mX8_withGroup 0 [vI (pk e), vI (g + 1)] [] h Q := by
  obtain ⟨n, e1, e2, e3⟩ := pk_nat he
  unfold okE at he
  rw [e1]
  obtain ⟨w, hw⟩ : ∃ w : Nat, g + 1 = (w : Int) := ⟨(g + 1).toNat, by omega⟩
  rw [hw]
  refine kr_iload_n (pc := 0) dX8_withGroup_0 rfl ?_
  refine kr_ldc (pc := 1) dX8_withGroup_1 rfl ?_
  refine kr_iand (pc := 3) dX8_withGroup_3 ?_
  refine kr_iload_n (pc := 4) dX8_withGroup_4 rfl ?_
  refine kr_bipush (pc := 5) dX8_withGroup_5 (by decide) ?_
  refine kr_ishl (pc := 7) dX8_withGroup_7 ?_
  refine kr_ior (pc := 8) dX8_withGroup_8 ?_
  rw [bw_and18 e2, show (18 : Int) = ((18 : Nat) : Int) by rfl, bw_shl 18 (by decide) (by omega), bw_or (by omega) (by omega)]
  refine kr_ireturn (pc := 9) dX8_withGroup_9 rfl ?_
  have e5 : (n % 262144) ||| (w * 2 ^ 18) = 2 ^ 18 * w + n % 262144 := by
    rw [Nat.or_comm, Nat.mul_comm w]
    exact (Nat.two_pow_add_eq_or_of_lt (by omega) w).symm
  rw [e5]
  have e4 : ((2 ^ 18 * w + n % 262144 : Nat) : Int) = pk (withGE e g) := by
    unfold withGE pk
    dsimp only
    omega
  rw [e4]
  exact k
theorem m_withField {e : Ent} {f v : Int} (he : okE e) (hf : f = 0 ∨ f = 1) (hv : -1 ≤ v ∧ v ≤ 99) (k : Q (.inl (some (vI (pk (withFE e f v)))), h)) : amT mX8_withField 0 [vI (pk e), vI f, vI (v + 1)] [] h Q := by
  obtain ⟨n, e1, e2, e3⟩ := pk_nat he
  unfold okE at he
  rw [e1]
  obtain ⟨w, hw⟩ : ∃ w : Nat, v + 1 = (w : Int) := ⟨(v + 1).toNat, by omega⟩
  rw [hw]
  rcases hf with rfl | rfl
  · refine kr_iconst (pc := 0) dX8_withField_0 (by decide) ?_
    refine kr_bipush (pc := 1) dX8_withField_1 (by decide) ?_
    refine kr_iload_n (pc := 3) dX8_withField_3 rfl ?_
    refine kr_imul (pc := 4) dX8_withField_4 ⟨by omega, by omega⟩ ?_
    refine kr_iadd (pc := 5) dX8_withField_5 ⟨by omega, by omega⟩ ?_
    refine kr_istore_n (pc := 6) dX8_withField_6 (show 3 ≤ _ from by simp) (by decide) ?_
    simp only [stl, List.tail_cons, List.tail_nil]
    refine kr_iload_n (pc := 7) dX8_withField_7 rfl ?_
    refine kr_bipush (pc := 8) dX8_withField_8 (by decide) ?_
    refine kr_iload_n (pc := 10) dX8_withField_10 rfl ?_
    refine kr_ishl (pc := 11) dX8_withField_11 ?_
    refine kr_iconst (pc := 12) dX8_withField_12 (by decide) ?_
    refine kr_ixor (pc := 13) dX8_withField_13 ?_
    refine kr_iand (pc := 14) dX8_withField_14 ?_
    refine kr_iload_n (pc := 15) dX8_withField_15 rfl ?_
    refine kr_iload_n (pc := 16) dX8_withField_16 rfl ?_
    refine kr_ishl (pc := 17) dX8_withField_17 ?_
    refine kr_ior (pc := 18) dX8_withField_18 ?_
    rw [show (4 + 7 * 0 : Int) = ((4 : Nat) : Int) by rfl, bw_andN (b := 4294965263) e2 (by decide), bw_shl 4 (by decide) (by omega)]
    have e5 : n &&& 4294965263 = 2 ^ 4 * (2 ^ 7 * ((e.2.2.1 + 1).toNat + 128 * (e.2.2.2 + 1).toNat) + 0) + e.1.toNat := by
      rw [e3]
      exact nb_and 4 ((e.2.2.1 + 1).toNat + 128 * (e.2.2.2 + 1).toNat) (e.2.1 + 1).toNat e.1.toNat (by omega) (by omega) (by omega) (by omega)
    rw [e5, bw_or (by omega) (by omega), nb_or 4 _ w _ (by omega) (by omega)]
    refine kr_ireturn (pc := 19) dX8_withField_19 rfl ?_
    have e4 : ((2 ^ 4 * (2 ^ 7 * ((e.2.2.1 + 1).toNat + 128 * (e.2.2.2 + 1).toNat) + w) + e.1.toNat : Nat) : Int) = pk (withFE e 0 v) := by
      unfold withFE pk
      rw [if_pos rfl]
      dsimp only
      omega
    rw [e4]
    exact k
  · refine kr_iconst (pc := 0) dX8_withField_0 (by decide) ?_
    refine kr_bipush (pc := 1) dX8_withField_1 (by decide) ?_
    refine kr_iload_n (pc := 3) dX8_withField_3 rfl ?_
    refine kr_imul (pc := 4) dX8_withField_4 ⟨by omega, by omega⟩ ?_
    refine kr_iadd (pc := 5) dX8_withField_5 ⟨by omega, by omega⟩ ?_
    refine kr_istore_n (pc := 6) dX8_withField_6 (show 3 ≤ _ from by simp) (by decide) ?_
    simp only [stl, List.tail_cons, List.tail_nil]
    refine kr_iload_n (pc := 7) dX8_withField_7 rfl ?_
    refine kr_bipush (pc := 8) dX8_withField_8 (by decide) ?_
    refine kr_iload_n (pc := 10) dX8_withField_10 rfl ?_
    refine kr_ishl (pc := 11) dX8_withField_11 ?_
    refine kr_iconst (pc := 12) dX8_withField_12 (by decide) ?_
    refine kr_ixor (pc := 13) dX8_withField_13 ?_
    refine kr_iand (pc := 14) dX8_withField_14 ?_
    refine kr_iload_n (pc := 15) dX8_withField_15 rfl ?_
    refine kr_iload_n (pc := 16) dX8_withField_16 rfl ?_
    refine kr_ishl (pc := 17) dX8_withField_17 ?_
    refine kr_ior (pc := 18) dX8_withField_18 ?_
    rw [show (4 + 7 * 1 : Int) = ((11 : Nat) : Int) by rfl, bw_andN (b := 4294707199) e2 (by decide), bw_shl 11 (by decide) (by omega)]
    have e5 : n &&& 4294707199 = 2 ^ 11 * (2 ^ 7 * (e.2.2.2 + 1).toNat + 0) + (16 * (e.2.1 + 1).toNat + e.1.toNat) := by
      rw [show n = 2 ^ 11 * (2 ^ 7 * (e.2.2.2 + 1).toNat + (e.2.2.1 + 1).toNat) + (16 * (e.2.1 + 1).toNat + e.1.toNat) by omega]
      exact nb_and 11 (e.2.2.2 + 1).toNat (e.2.2.1 + 1).toNat (16 * (e.2.1 + 1).toNat + e.1.toNat) (by omega) (by omega) (by omega) (by omega)
    rw [e5, bw_or (by omega) (by omega), nb_or 11 _ w _ (by omega) (by omega)]
    refine kr_ireturn (pc := 19) dX8_withField_19 rfl ?_
    have e4 : ((2 ^ 11 * (2 ^ 7 * (e.2.2.2 + 1).toNat + w) + (16 * (e.2.1 + 1).toNat + e.1.toNat) : Nat) : Int) = pk (withFE e 1 v) := by
      unfold withFE pk
      rw [if_neg (by decide)]
      dsimp only
      omega
    rw [e4]
    exact k
end M2
