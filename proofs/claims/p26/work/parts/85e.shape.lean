/-! THE LAW'S 'shape' -/
section YE
variable {h : aH} {Q : aR → Prop} {S : St} {z : Nat}
theorem l_shape {w : Int} {n : Nat} (H : DeR h z S) (HS : okS S) (hw : slt S w = (n : Int)) (hn : n < 33) (hw2 : w < 2147483648) (k : ∀ h', fro h h' z (z + 1899) → DeR h' z S → Q (.inl (some (vI 1)), h')) : amT mL_shape 0 [vR z, vI w] [] h Q := by
  have oc := HS.1 n hn
  have bk := brk_rng (c := S.1 n) S.2.2.2.2.2
  have h8 := HS.2.2.2.2.1
  have hx := H.1.1
  have inner : ∀ (d p i m : Nat) (g : aH) (tl : List aV), i < 3 → p + d = ((S.1 n).1 i).length → m < 1024 → (∀ q : Nat, q ≤ 9 → m.testBit q = true → ∃ (j : Nat) (e : Ent), j < p ∧ ((S.1 n).1 i)[j]? = some e ∧ e.1 = (q : Int)) → fro h g z (z + 1899) → DeR g z S → (∀ g' tl', fro h g' z (z + 1899) → DeR g' z S → amT mL_shape 153 (vR z :: vI w :: vI 1 :: vI (i : Int) :: tl') [] g' Q) → amT mL_shape 41 (vR z :: vI w :: vI 1 :: vI (i : Int) :: vI (m : Int) :: vI (p : Int) :: tl) [] g Q := by
    intro d
    induction d with
    | zero =>
      intro p i m g tl hi hp hm hb f D k2
      have hx := D.1.1
      refine kr_iload (pc := 41) dL_shape_41 rfl ?_
      refine kr_aload_n (pc := 43) dL_shape_43 rfl ?_
      refine kr_iload_n (pc := 44) dL_shape_44 rfl ?_
      refine kr_iload_n (pc := 45) dL_shape_45 rfl ?_
      refine kr_v2 (pc := 46) dL_shape_46 rfl rfl (by assumption) (Nat.le_of_ble_eq_true rfl) rfl rfl (q_size D HS hw2 (show sp_size S w (i : Int) = (0, (((S.1 n).1 i).length : Int), S) from r_size hw (by omega)) (fun h46 f46 D46 => ?_))
      show amT _ _ _ _ _ _
      have hx46 := D46.1.1
      refine kr_icmp_ge (pc := 49) dL_shape_49 rfl (fun h49 => ?_) (fun h49 => by exfalso; omega)
      exact k2 h46 _ (f.tr f46) D46
    | succ d ih =>
      intro p i m g tl hi hp hm hb f D k2
      have hx := D.1.1
      have hl := oc.1 i hi
      have h6 := hl.1
      obtain ⟨e, he⟩ : ∃ e, ((S.1 n).1 i)[p]? = some e := ⟨_, List.getElem?_eq_getElem (by omega)⟩
      have oe := hl.2.2 p e he
      have ok := okE_key oe
      unfold okE at oe
      obtain ⟨q, hq, hq9⟩ : ∃ q : Nat, e.1 = (q : Int) ∧ q ≤ 9 := ⟨e.1.toNat, by omega, by omega⟩
      have hno : m / 2 ^ q % 2 = 0 := by
        rcases Nat.mod_two_eq_zero_or_one (m / 2 ^ q) with z0 | z0
        · exact z0
        · obtain ⟨j, x, j1, j2, j3⟩ := hb q hq9 (tb_one.mp z0)
          have := hl.2.1 j p x e j2 he (by rw [j3, hq])
          omega
      have hsee : am_bw 0 (am_bw 4 (m : Int) e.1) 1 = 0 := by
        rw [hq, bit_see hm hq9, hno]
        rfl
      obtain ⟨hnote, hm2⟩ := bit_note (m := m) (k := q) hm hq9
      rw [← hq] at hnote
      have hdiv : (10000 * (e.2.1 + 1) + 10 * (e.2.2.1 + 1) + e.2.2.2 + 1) / 10000 = 0 ∨ shw (S.1 n) e 0 = (10000 * (e.2.1 + 1) + 10 * (e.2.2.1 + 1) + e.2.2.2 + 1) / 10000 - 1 := by
        by_cases h1 : e.2.1 = -1
        · exact Or.inl (by omega)
        · rw [shw0 h1]
          exact Or.inr (by omega)
      have hb2 : ∀ q' : Nat, q' ≤ 9 → (m ||| 2 ^ q).testBit q' = true → ∃ (j : Nat) (e : Ent), j < p + 1 ∧ ((S.1 n).1 i)[j]? = some e ∧ e.1 = (q' : Int) := by
        intro q' h9 ht
        by_cases hqq : q' = q
        · exact ⟨p, e, by omega, he, by rw [hqq]; exact hq⟩
        · rw [Nat.testBit_or, Nat.testBit_two_pow_of_ne (fun z => hqq z.symm), Bool.or_false] at ht
          obtain ⟨j, x, j1, j2, j3⟩ := hb q' h9 ht
          exact ⟨j, x, by omega, j2, j3⟩
      refine kr_iload (pc := 41) dL_shape_41 rfl ?_
      refine kr_aload_n (pc := 43) dL_shape_43 rfl ?_
      refine kr_iload_n (pc := 44) dL_shape_44 rfl ?_
      refine kr_iload_n (pc := 45) dL_shape_45 rfl ?_
      refine kr_v2 (pc := 46) dL_shape_46 rfl rfl (by assumption) (Nat.le_of_ble_eq_true rfl) rfl rfl (q_size D HS hw2 (show sp_size S w (i : Int) = (0, (((S.1 n).1 i).length : Int), S) from r_size hw (by omega)) (fun h46 f46 D46 => ?_))
      show amT _ _ _ _ _ _
      have hx46 := D46.1.1
      refine kr_icmp_ge (pc := 49) dL_shape_49 rfl (fun h49 => by exfalso; omega) (fun h49 => ?_)
      refine kr_iload_n (pc := 52) dL_shape_52 rfl ?_
      refine kr_if_eq (pc := 53) dL_shape_53 rfl (fun h => absurd h (by decide)) (fun _ => ?_)
      refine kr_aload_n (pc := 56) dL_shape_56 rfl ?_
      refine kr_iload_n (pc := 57) dL_shape_57 rfl ?_
      refine kr_iload_n (pc := 58) dL_shape_58 rfl ?_
      refine kr_iload (pc := 59) dL_shape_59 rfl ?_
      refine kr_v3 (pc := 61) dL_shape_61 rfl rfl (by assumption) (Nat.le_of_ble_eq_true rfl) rfl rfl rfl (q_keyAt D46 HS hw2 (show sp_keyAt S w (i : Int) (p : Int) = (0, e.1, S) from r_keyAt hw (by omega) (by omega) he) (fun h61 f61 D61 => ?_))
      show amT _ _ _ _ _ _
      have hx61 := D61.1.1
      refine kr_istore (pc := 64) dL_shape_64 (show 6 ≤ _ from by simp) (by decide) ?_
      simp only [stl, List.tail_cons, List.tail_nil]
      refine kr_aload_n (pc := 66) dL_shape_66 rfl ?_
      refine kr_iload_n (pc := 67) dL_shape_67 rfl ?_
      refine kr_iload_n (pc := 68) dL_shape_68 rfl ?_
      refine kr_iload (pc := 69) dL_shape_69 rfl ?_
      refine kr_v3 (pc := 71) dL_shape_71 rfl rfl (by assumption) (Nat.le_of_ble_eq_true rfl) rfl rfl rfl (q_own D61 HS hw2 (show sp_own S w (i : Int) (p : Int) = (0, 10000 * (e.2.1 + 1) + 10 * (e.2.2.1 + 1) + e.2.2.2 + 1, S) from r_own hw (by omega) (by omega) he) (fun h71 f71 D71 => ?_))
      show amT _ _ _ _ _ _
      have hx71 := D71.1.1
      refine kr_istore (pc := 74) dL_shape_74 (show 7 ≤ _ from by simp) (by decide) ?_
      simp only [stl, List.tail_cons, List.tail_nil]
      refine kr_iload (pc := 76) dL_shape_76 rfl ?_
      refine kr_if_lt (pc := 78) dL_shape_78 rfl (fun h78 => by exfalso; omega) (fun h78 => ?_)
      refine kr_iload (pc := 81) dL_shape_81 rfl ?_
      refine kr_bipush (pc := 83) dL_shape_83 (by decide) ?_
      refine kr_icmp_gt (pc := 85) dL_shape_85 rfl (fun h85 => by exfalso; omega) (fun h85 => ?_)
      refine kr_iload (pc := 88) dL_shape_88 rfl ?_
      refine kr_iload (pc := 90) dL_shape_90 rfl ?_
      refine kr_ishr (pc := 92) dL_shape_92 ?_
      refine kr_iconst (pc := 93) dL_shape_93 (by decide) ?_
      refine kr_iand (pc := 94) dL_shape_94 ?_
      refine kr_if_ne (pc := 95) dL_shape_95 rfl (fun h95 => by exfalso; omega) (fun h95 => ?_)
      refine kr_iload (pc := 98) dL_shape_98 rfl ?_
      refine kr_if_lt (pc := 100) dL_shape_100 rfl (fun h100 => by exfalso; omega) (fun h100 => ?_)
      refine kr_iload (pc := 103) dL_shape_103 rfl ?_
      refine kr_sipush (pc := 105) dL_shape_105 (by decide) ?_
      refine kr_idiv (pc := 108) dL_shape_108 ⟨by omega, by omega⟩ ?_
      refine kr_if_eq (pc := 109) dL_shape_109 rfl (fun h109 => ?_) (fun h109 => ?_)
      · refine kr_iconst (pc := 132) dL_shape_132 (by decide) ?_
        refine kr_goto (pc := 133) dL_shape_133 rfl ?_
        refine kr_istore_n (pc := 137) dL_shape_137 (show 2 ≤ _ from by simp) (by decide) ?_
        simp only [stl, List.tail_cons, List.tail_nil]
        refine kr_iload (pc := 138) dL_shape_138 rfl ?_
        refine kr_iconst (pc := 140) dL_shape_140 (by decide) ?_
        refine kr_iload (pc := 141) dL_shape_141 rfl ?_
        refine kr_ishl (pc := 143) dL_shape_143 ?_
        refine kr_ior (pc := 144) dL_shape_144 ?_
        refine kr_istore (pc := 145) dL_shape_145 (show 4 ≤ _ from by simp) (by decide) ?_
        simp only [stl, List.tail_cons, List.tail_nil]
        refine kr_iinc (pc := 147) dL_shape_147 rfl ⟨⟨by omega, by omega⟩, by decide, by decide⟩ ?_
        simp only [stl, List.tail_cons, List.tail_nil]
        refine kr_goto (pc := 150) dL_shape_150 rfl ?_
        rw [hnote]
        exact ih (p + 1) i (m ||| 2 ^ q) _ _ hi (by omega) hm2 hb2 (f.tr (f46.tr (f61.tr f71))) D71 k2
      · refine kr_aload_n (pc := 112) dL_shape_112 rfl ?_
        refine kr_iload_n (pc := 113) dL_shape_113 rfl ?_
        refine kr_iload_n (pc := 114) dL_shape_114 rfl ?_
        refine kr_iload (pc := 115) dL_shape_115 rfl ?_
        refine kr_iconst (pc := 117) dL_shape_117 (by decide) ?_
        refine kr_v4 (pc := 118) dL_shape_118 rfl rfl (by assumption) (Nat.le_of_ble_eq_true rfl) rfl rfl rfl rfl (q_shown D71 HS hw2 (show sp_shown S w (i : Int) (p : Int) 0 = (0, shw (S.1 n) e 0, S) from r_shown hw (by omega) (by omega) he) (fun h118 f118 D118 => ?_))
        show amT _ _ _ _ _ _
        have hx118 := D118.1.1
        refine kr_iload (pc := 121) dL_shape_121 rfl ?_
        refine kr_sipush (pc := 123) dL_shape_123 (by decide) ?_
        refine kr_idiv (pc := 126) dL_shape_126 ⟨by omega, by omega⟩ ?_
        refine kr_iconst (pc := 127) dL_shape_127 (by decide) ?_
        refine kr_isub (pc := 128) dL_shape_128 ⟨by omega, by omega⟩ ?_
        refine kr_icmp_ne (pc := 129) dL_shape_129 rfl (fun h129 => by exfalso; omega) (fun h129 => ?_)
        refine kr_iconst (pc := 132) dL_shape_132 (by decide) ?_
        refine kr_goto (pc := 133) dL_shape_133 rfl ?_
        refine kr_istore_n (pc := 137) dL_shape_137 (show 2 ≤ _ from by simp) (by decide) ?_
        simp only [stl, List.tail_cons, List.tail_nil]
        refine kr_iload (pc := 138) dL_shape_138 rfl ?_
        refine kr_iconst (pc := 140) dL_shape_140 (by decide) ?_
        refine kr_iload (pc := 141) dL_shape_141 rfl ?_
        refine kr_ishl (pc := 143) dL_shape_143 ?_
        refine kr_ior (pc := 144) dL_shape_144 ?_
        refine kr_istore (pc := 145) dL_shape_145 (show 4 ≤ _ from by simp) (by decide) ?_
        simp only [stl, List.tail_cons, List.tail_nil]
        refine kr_iinc (pc := 147) dL_shape_147 rfl ⟨⟨by omega, by omega⟩, by decide, by decide⟩ ?_
        simp only [stl, List.tail_cons, List.tail_nil]
        refine kr_goto (pc := 150) dL_shape_150 rfl ?_
        rw [hnote]
        exact ih (p + 1) i (m ||| 2 ^ q) _ _ hi (by omega) hm2 hb2 (f.tr (f46.tr (f61.tr (f71.tr f118)))) D118 k2
  have outer : ∀ (d i : Nat) (g : aH) (tl : List aV), i + d = 3 → fro h g z (z + 1899) → DeR g z S → amT mL_shape 26 (vR z :: vI w :: vI 1 :: vI (i : Int) :: tl) [] g Q := by
    intro d
    induction d with
    | zero =>
      intro i g tl hi f D
      have hx := D.1.1
      refine kr_iload_n (pc := 26) dL_shape_26 rfl ?_
      refine kr_iconst (pc := 27) dL_shape_27 (by decide) ?_
      refine kr_icmp_ge (pc := 28) dL_shape_28 rfl (fun h28 => ?_) (fun h28 => by exfalso; omega)
      refine kr_iload_n (pc := 180) dL_shape_180 rfl ?_
      refine kr_ireturn (pc := 181) dL_shape_181 rfl ?_
      exact k g f D
    | succ d ih =>
      intro i g tl hi f D
      have hx := D.1.1
      have h6 := (oc.1 i (by omega)).1
      refine kr_iload_n (pc := 26) dL_shape_26 rfl ?_
      refine kr_iconst (pc := 27) dL_shape_27 (by decide) ?_
      refine kr_icmp_ge (pc := 28) dL_shape_28 rfl (fun h28 => by exfalso; omega) (fun h28 => ?_)
      refine kr_iload_n (pc := 31) dL_shape_31 rfl ?_
      refine kr_if_eq (pc := 32) dL_shape_32 rfl (fun h => absurd h (by decide)) (fun _ => ?_)
      refine kr_iconst (pc := 35) dL_shape_35 (by decide) ?_
      refine kr_istore (pc := 36) dL_shape_36 (show 4 ≤ _ from by simp) (by decide) ?_
      simp only [stl, List.tail_cons, List.tail_nil]
      refine kr_iconst (pc := 38) dL_shape_38 (by decide) ?_
      refine kr_istore (pc := 39) dL_shape_39 (show 5 ≤ _ from by simp) (by decide) ?_
      simp only [stl, List.tail_cons, List.tail_nil]
      refine inner _ 0 i 0 g _ (by omega) (Nat.zero_add _) (by decide) (fun q _ ht => by simp at ht) f D (fun g2 tl2 f2 D2 => ?_)
      have hx2 := D2.1.1
      refine kr_iload_n (pc := 153) dL_shape_153 rfl ?_
      refine kr_if_eq (pc := 154) dL_shape_154 rfl (fun h => absurd h (by decide)) (fun _ => ?_)
      refine kr_aload_n (pc := 157) dL_shape_157 rfl ?_
      refine kr_iload_n (pc := 158) dL_shape_158 rfl ?_
      refine kr_iload_n (pc := 159) dL_shape_159 rfl ?_
      refine kr_v2 (pc := 160) dL_shape_160 rfl rfl (by assumption) (Nat.le_of_ble_eq_true rfl) rfl rfl (q_size D2 HS hw2 (show sp_size S w (i : Int) = (0, (((S.1 n).1 i).length : Int), S) from r_size hw (by omega)) (fun h160 f160 D160 => ?_))
      show amT _ _ _ _ _ _
      have hx160 := D160.1.1
      refine kr_bipush (pc := 163) dL_shape_163 (by decide) ?_
      refine kr_icmp_gt (pc := 165) dL_shape_165 rfl (fun h165 => by exfalso; omega) (fun h165 => ?_)
      refine kr_iconst (pc := 168) dL_shape_168 (by decide) ?_
      refine kr_goto (pc := 169) dL_shape_169 rfl ?_
      refine kr_istore_n (pc := 173) dL_shape_173 (show 2 ≤ _ from by simp) (by decide) ?_
      simp only [stl, List.tail_cons, List.tail_nil]
      refine kr_iinc (pc := 174) dL_shape_174 rfl ⟨⟨by omega, by omega⟩, by decide, by decide⟩ ?_
      simp only [stl, List.tail_cons, List.tail_nil]
      refine kr_goto (pc := 177) dL_shape_177 rfl ?_
      exact ih (i + 1) _ _ (by omega) (f2.tr f160) D160
  refine kr_aload_n (pc := 0) dL_shape_0 rfl ?_
  refine kr_iload_n (pc := 1) dL_shape_1 rfl ?_
  refine kr_v1 (pc := 2) dL_shape_2 rfl rfl (by assumption) (Nat.le_of_ble_eq_true rfl) rfl (q_faults H HS hw2 (r_faults hw) (fun h2 f2 D2 => ?_))
  show amT _ _ _ _ _ _
  have hx2 := D2.1.1
  refine kr_if_lt (pc := 5) dL_shape_5 rfl (fun h5 => by exfalso; omega) (fun h5 => ?_)
  refine kr_aload_n (pc := 8) dL_shape_8 rfl ?_
  refine kr_iload_n (pc := 9) dL_shape_9 rfl ?_
  refine kr_v1 (pc := 10) dL_shape_10 rfl rfl (by assumption) (Nat.le_of_ble_eq_true rfl) rfl (q_faults D2 HS hw2 (r_faults hw) (fun h10 f10 D10 => ?_))
  show amT _ _ _ _ _ _
  have hx10 := D10.1.1
  refine kr_bipush (pc := 13) dL_shape_13 (by decide) ?_
  refine kr_icmp_gt (pc := 15) dL_shape_15 rfl (fun h15 => by exfalso; omega) (fun h15 => ?_)
  refine kr_iconst (pc := 18) dL_shape_18 (by decide) ?_
  refine kr_goto (pc := 19) dL_shape_19 rfl ?_
  refine kr_istore_n (pc := 23) dL_shape_23 (show 2 ≤ _ from by simp) (by decide) ?_
  simp only [stl, List.tail_cons, List.tail_nil]
  refine kr_iconst (pc := 24) dL_shape_24 (by decide) ?_
  refine kr_istore_n (pc := 25) dL_shape_25 (show 3 ≤ _ from by simp) (by decide) ?_
  simp only [stl, List.tail_cons, List.tail_nil]
  exact outer 3 0 _ _ rfl (f2.tr f10) D10
end YE
