section ME
variable {h : aH} {m : Nat} {S : St} {Q : aR → Prop}
theorem m_shows {s d p f : Int} {c : Cfg} (M : MS h m) (hs : 0 ≤ s) (hs4 : s ≤ 34) (hd : 0 ≤ d ∧ d ≤ 2) (C : CfgM (hiv h (m + 1)) s.toNat c) (oc : okC c) (hp : 0 ≤ p ∧ p < (c.1 d.toNat).length) (hf : 0 ≤ f ∧ f ≤ 1)
    (k : Q (.inl (some (vI (shA c d.toNat f p.toNat))), h)) : amT mX8_shows 0 [vR m, vI s, vI d, vI p, vI f] [] h Q := by
  have h0 := M.o
  have h1 := M.2.1
  have h2 := M.2.2.1
  have hl6 := (oc.1 d.toNat (by omega)).1
  obtain ⟨e, he⟩ : ∃ e, (c.1 d.toNat)[p.toNat]? = some e := ⟨_, List.getElem?_eq_getElem (by omega)⟩
  obtain ⟨x1, x2⟩ := (C.1 d.toNat (by omega)).2.2.2.2 _ _ he
  rw [show 27 * s.toNat + 3 + 6 * d.toNat + p.toNat = (27 * s + 3 + 6 * d + p).toNat by omega] at x1
  have sh : shA c d.toNat f p.toNat = shw c e f := by
    unfold shA
    rw [he]
    rfl
  rw [sh] at k
  have x3 := x2
  unfold okE at x3
  have fe : -1 ≤ fieldE e f ∧ fieldE e f ≤ 99 := by
    unfold fieldE
    split <;> omega
  have g1 : ¬ e.2.2.2 = -1 → hiv h (m + 1) (27 * s + 21 + 2 * (e.2.2.2 + 1 - 1) + f).toNat = c.2 e.2.2.2.toNat f.toNat + 1 ∧ -1 ≤ c.2 e.2.2.2.toNat f.toNat ∧ c.2 e.2.2.2.toNat f.toNat ≤ 99 := fun hg => by
    rw [show (27 * s + 21 + 2 * (e.2.2.2 + 1 - 1) + f).toNat = 27 * s.toNat + 21 + 2 * e.2.2.2.toNat + f.toNat by omega]
    exact ⟨C.2 _ _ (by omega) (by omega), oc.2 _ _ (by omega) (by omega)⟩
  have fin1 : fieldE e f ≠ -1 ∨ e.2.2.2 = -1 → Q (.inl (some (vI (fieldE e f + 1 - 1))), h) := fun hc => by
    unfold shw at k
    rw [if_pos hc] at k
    rw [show fieldE e f + 1 - 1 = fieldE e f by omega]
    exact k
  have fin2 : ¬ (fieldE e f ≠ -1 ∨ e.2.2.2 = -1) → Q (.inl (some (vI (c.2 e.2.2.2.toNat f.toNat + 1 - 1))), h) := fun hc => by
    unfold shw at k
    rw [if_neg hc] at k
    rw [show c.2 e.2.2.2.toNat f.toNat + 1 - 1 = c.2 e.2.2.2.toNat f.toNat by omega]
    exact k
  refine kr_aload_n (pc := 0) dX8_shows_0 rfl ?_
  refine kr_getr (pc := 1) dX8_shows_1 rfl rfl (by assumption) (by assumption) ?_
  refine kr_iload_n (pc := 4) dX8_shows_4 rfl ?_
  refine kr_iload_n (pc := 5) dX8_shows_5 rfl ?_
  refine kr_iload_n (pc := 6) dX8_shows_6 rfl ?_
  refine kr_s3 (pc := 7) dX8_shows_7 rfl rfl (Nat.le_of_ble_eq_true rfl) rfl rfl rfl (m_at ⟨by omega, by omega⟩ ⟨by omega, by omega⟩ ⟨by omega, by omega⟩ ?_)
  show amT _ _ _ _ _ _
  refine kr_iald (pc := 10) dX8_shows_10 (by assumption) (by omega) (by omega) rfl ?_
  rw [x1]
  refine kr_istore (pc := 11) dX8_shows_11 (show 5 ≤ _ from by simp) (by decide) ?_
  simp only [stl, List.tail_cons, List.tail_nil]
  refine kr_iload (pc := 13) dX8_shows_13 rfl ?_
  refine kr_iload (pc := 15) dX8_shows_15 rfl ?_
  refine kr_s2 (pc := 17) dX8_shows_17 rfl rfl (Nat.le_of_ble_eq_true rfl) rfl rfl (m_field x2 (by omega) ?_)
  show amT _ _ _ _ _ _
  refine kr_istore (pc := 20) dX8_shows_20 (show 6 ≤ _ from by simp) (by decide) ?_
  simp only [stl, List.tail_cons, List.tail_nil]
  refine kr_iload (pc := 22) dX8_shows_22 rfl ?_
  refine kr_if_gt (pc := 24) dX8_shows_24 rfl (fun h24 => ?_) (fun h24 => ?_)
  · refine kr_iload (pc := 35) dX8_shows_35 rfl ?_
    refine kr_goto (pc := 37) dX8_shows_37 rfl ?_
    try (obtain ⟨y1, y2⟩ := g1 (by omega); rw [y1])
    refine kr_iconst (pc := 58) dX8_shows_58 (by decide) ?_
    refine kr_isub (pc := 59) dX8_shows_59 ⟨by omega, by omega⟩ ?_
    refine kr_ireturn (pc := 60) dX8_shows_60 rfl ?_
    first | exact fin1 (by omega) | exact fin2 (by omega)
  · refine kr_iload (pc := 27) dX8_shows_27 rfl ?_
    refine kr_s1 (pc := 29) dX8_shows_29 rfl rfl (Nat.le_of_ble_eq_true rfl) rfl (m_group x2 ?_)
    show amT _ _ _ _ _ _
    refine kr_if_ne (pc := 32) dX8_shows_32 rfl (fun h32 => ?_) (fun h32 => ?_)
    · refine kr_aload_n (pc := 40) dX8_shows_40 rfl ?_
      refine kr_getr (pc := 41) dX8_shows_41 rfl rfl (by assumption) (by assumption) ?_
      refine kr_iload_n (pc := 44) dX8_shows_44 rfl ?_
      refine kr_iload (pc := 45) dX8_shows_45 rfl ?_
      refine kr_s1 (pc := 47) dX8_shows_47 rfl rfl (Nat.le_of_ble_eq_true rfl) rfl (m_group x2 ?_)
      show amT _ _ _ _ _ _
      refine kr_iconst (pc := 50) dX8_shows_50 (by decide) ?_
      refine kr_isub (pc := 51) dX8_shows_51 ⟨by omega, by omega⟩ ?_
      refine kr_iload (pc := 52) dX8_shows_52 rfl ?_
      refine kr_s3 (pc := 54) dX8_shows_54 rfl rfl (Nat.le_of_ble_eq_true rfl) rfl rfl rfl (m_groupAt ⟨by omega, by omega⟩ ⟨by omega, by omega⟩ ⟨by omega, by omega⟩ ?_)
      show amT _ _ _ _ _ _
      refine kr_iald (pc := 57) dX8_shows_57 (by assumption) (by omega) (by omega) rfl ?_
      try (obtain ⟨y1, y2⟩ := g1 (by omega); rw [y1])
      refine kr_iconst (pc := 58) dX8_shows_58 (by decide) ?_
      refine kr_isub (pc := 59) dX8_shows_59 ⟨by omega, by omega⟩ ?_
      refine kr_ireturn (pc := 60) dX8_shows_60 rfl ?_
      first | exact fin1 (by omega) | exact fin2 (by omega)
    · refine kr_iload (pc := 35) dX8_shows_35 rfl ?_
      refine kr_goto (pc := 37) dX8_shows_37 rfl ?_
      try (obtain ⟨y1, y2⟩ := g1 (by omega); rw [y1])
      refine kr_iconst (pc := 58) dX8_shows_58 (by decide) ?_
      refine kr_isub (pc := 59) dX8_shows_59 ⟨by omega, by omega⟩ ?_
      refine kr_ireturn (pc := 60) dX8_shows_60 rfl ?_
      first | exact fin1 (by omega) | exact fin2 (by omega)
theorem m_isKept {s r : Int} {ru : Rul} {c : Cfg} (M : MS h m) (hs : 0 ≤ s) (hs4 : s ≤ 34) (C : CfgM (hiv h (m + 1)) s.toNat c) (oc : okC c) (hr : 0 ≤ r ∧ r < 8) (o : okRl ru)
    (e0 : hiv h (m + 10) r.toNat = ru.1) (e1 : hiv h (m + 11) r.toNat = ru.2.1) (e2 : hiv h (m + 12) r.toNat = ru.2.2.1) (e3 : hiv h (m + 13) r.toNat = ru.2.2.2)
    (k1 : kpt c ru → Q (.inl (some (vI 1)), h)) (k0 : ¬ kpt c ru → Q (.inl (some (vI 0)), h)) : amT mX8_isKept 0 [vR m, vI s, vI r] [] h Q := by
  have h0 := M.o
  obtain ⟨a0, a1, a2, a3, a4, a5, a6, a7, a8, a9, b0, b1, b2, b3, b4, b5, b6, b7, b8, w1, w2, w3, w4, w5, w6, w7, w8⟩ := id M
  obtain ⟨kd, d, f, n⟩ := ru
  unfold okRl at o
  dsimp only at o e0 e1 e2 e3
  obtain ⟨o1, o2, o3, o4, o5⟩ := o
  have hS : SecM (hiv h (m + 1)) s.toNat d.toNat (c.1 d.toNat) := C.1 d.toNat (by omega)
  have hl6 := (oc.1 d.toNat (by omega)).1
  -- not kept
  have in0 : ∀ (j q : Nat) (v : Int) (tl : List aV), q + j = (c.1 d.toNat).length → ∀ p : Nat, p < (c.1 d.toNat).length → (∀ tl : List aV, amT mX8_isKept 213 (vR m :: vI s :: vI r :: vI d :: vI f :: vI n :: vI 0 :: vI (p : Int) :: tl) [] h Q) → amT mX8_isKept 167 (vR m :: vI s :: vI r :: vI d :: vI f :: vI n :: vI 0 :: vI (p : Int) :: vI v :: vI (q : Int) :: tl) [] h Q := by
    intro j
    induction j with
    | zero =>
      intro q v tl hq p hp k
      refine kr_iload (pc := 167) dX8_isKept_167 rfl ?_
      refine kr_iload (pc := 169) dX8_isKept_169 rfl ?_
      refine kr_icmp_ge (pc := 171) dX8_isKept_171 rfl (fun h171 => ?_) (fun h171 => by exfalso; omega)
      exact k _
    | succ j ih =>
      intro q v tl hq p hp k
      refine kr_iload (pc := 167) dX8_isKept_167 rfl ?_
      refine kr_iload (pc := 169) dX8_isKept_169 rfl ?_
      refine kr_icmp_ge (pc := 171) dX8_isKept_171 rfl (fun h171 => ?_) (fun h171 => ?_)
      · exact k _
      · refine kr_iload (pc := 174) dX8_isKept_174 rfl ?_
        refine kr_if_eq (pc := 176) dX8_isKept_176 rfl (fun _ => ?_) (fun h => absurd h (by decide))
        refine kr_iconst (pc := 204) dX8_isKept_204 (by decide) ?_
        refine kr_istore (pc := 205) dX8_isKept_205 (show 6 ≤ _ from by simp) (by decide) ?_
        simp only [stl, List.tail_cons, List.tail_nil]
        refine kr_iinc (pc := 207) dX8_isKept_207 rfl ⟨⟨by omega, by omega⟩, by decide, by decide⟩ ?_
        simp only [stl, List.tail_cons, List.tail_nil]
        refine kr_goto (pc := 210) dX8_isKept_210 rfl ?_
        exact ih (q + 1) v tl (by omega) p hp k
  have out0 : ∀ (j p : Nat) (tl : List aV), p + j = (c.1 d.toNat).length → ¬ kpt c (kd, d, f, n) → amT mX8_isKept 29 (vR m :: vI s :: vI r :: vI d :: vI f :: vI n :: vI 0 :: vI (p : Int) :: tl) [] h Q := by
    intro j
    induction j with
    | zero =>
      intro p tl hp hk
      refine kr_iload (pc := 29) dX8_isKept_29 rfl ?_
      refine kr_aload_n (pc := 31) dX8_isKept_31 rfl ?_
      refine kr_iload_n (pc := 32) dX8_isKept_32 rfl ?_
      refine kr_iload_n (pc := 33) dX8_isKept_33 rfl ?_
      refine kr_v2 (pc := 34) dX8_isKept_34 rfl rfl (by assumption) (Nat.le_of_ble_eq_true rfl) rfl rfl (m_manyI M hs (by omega) hS ?_)
      show amT _ _ _ _ _ _
      refine kr_icmp_ge (pc := 37) dX8_isKept_37 rfl (fun h37 => ?_) (fun h37 => by exfalso; omega)
      refine kr_iload (pc := 219) dX8_isKept_219 rfl ?_
      refine kr_ireturn (pc := 221) dX8_isKept_221 rfl ?_
      exact k0 hk
    | succ j ih =>
      intro p tl hp hk
      have step : ∀ tl : List aV, amT mX8_isKept 213 (vR m :: vI s :: vI r :: vI d :: vI f :: vI n :: vI 0 :: vI (p : Int) :: tl) [] h Q := by
        intro tl
        refine kr_iinc (pc := 213) dX8_isKept_213 rfl ⟨⟨by omega, by omega⟩, by decide, by decide⟩ ?_
        simp only [stl, List.tail_cons, List.tail_nil]
        refine kr_goto (pc := 216) dX8_isKept_216 rfl ?_
        exact ih (p + 1) tl (by omega) hk
      refine kr_iload (pc := 29) dX8_isKept_29 rfl ?_
      refine kr_aload_n (pc := 31) dX8_isKept_31 rfl ?_
      refine kr_iload_n (pc := 32) dX8_isKept_32 rfl ?_
      refine kr_iload_n (pc := 33) dX8_isKept_33 rfl ?_
      refine kr_v2 (pc := 34) dX8_isKept_34 rfl rfl (by assumption) (Nat.le_of_ble_eq_true rfl) rfl rfl (m_manyI M hs (by omega) hS ?_)
      show amT _ _ _ _ _ _
      refine kr_icmp_ge (pc := 37) dX8_isKept_37 rfl (fun h37 => by exfalso; omega) (fun h37 => ?_)
      refine kr_aload_n (pc := 40) dX8_isKept_40 rfl ?_
      refine kr_iload_n (pc := 41) dX8_isKept_41 rfl ?_
      refine kr_iload_n (pc := 42) dX8_isKept_42 rfl ?_
      refine kr_iload (pc := 43) dX8_isKept_43 rfl ?_
      refine kr_iload (pc := 45) dX8_isKept_45 rfl ?_
      refine kr_v4 (pc := 47) dX8_isKept_47 rfl rfl (by assumption) (Nat.le_of_ble_eq_true rfl) rfl rfl rfl rfl (m_shows M hs hs4 o2 C oc ⟨by omega, by omega⟩ o3 ?_)
      show amT _ _ _ _ _ _
      refine kr_istore (pc := 50) dX8_isKept_50 (show 8 ≤ _ from by simp) (by decide) ?_
      simp only [stl, List.tail_cons, List.tail_nil]
      refine kr_aload_n (pc := 52) dX8_isKept_52 rfl ?_
      refine kr_getr (pc := 53) dX8_isKept_53 rfl rfl (by assumption) (by assumption) ?_
      refine kr_iload_n (pc := 56) dX8_isKept_56 rfl ?_
      refine kr_iald (pc := 57) dX8_isKept_57 (by assumption) (by omega) (by omega) rfl ?_
      rw [e0]
      refine kr_if_ne (pc := 58) dX8_isKept_58 rfl (fun h58 => ?_) (fun h58 => ?_)
      · refine kr_aload_n (pc := 82) dX8_isKept_82 rfl ?_
        refine kr_getr (pc := 83) dX8_isKept_83 rfl rfl (by assumption) (by assumption) ?_
        refine kr_iload_n (pc := 86) dX8_isKept_86 rfl ?_
        refine kr_iald (pc := 87) dX8_isKept_87 (by assumption) (by omega) (by omega) rfl ?_
        rw [e0]
        refine kr_iconst (pc := 88) dX8_isKept_88 (by decide) ?_
        refine kr_icmp_ne (pc := 89) dX8_isKept_89 rfl (fun h89 => ?_) (fun h89 => ?_)
        · refine kr_aload_n (pc := 114) dX8_isKept_114 rfl ?_
          refine kr_getr (pc := 115) dX8_isKept_115 rfl rfl (by assumption) (by assumption) ?_
          refine kr_iload_n (pc := 118) dX8_isKept_118 rfl ?_
          refine kr_iald (pc := 119) dX8_isKept_119 (by assumption) (by omega) (by omega) rfl ?_
          rw [e0]
          refine kr_iconst (pc := 120) dX8_isKept_120 (by decide) ?_
          refine kr_icmp_ne (pc := 121) dX8_isKept_121 rfl (fun h121 => ?_) (fun h121 => ?_)
          · refine kr_iconst (pc := 164) dX8_isKept_164 (by decide) ?_
            refine kr_istore (pc := 165) dX8_isKept_165 (show 9 ≤ _ from by simp) (by decide) ?_
            simp only [stl, List.tail_cons, List.tail_nil]
            exact in0 (c.1 d.toNat).length 0 _ _ (by omega) p (by omega) step
          · refine kr_iload (pc := 124) dX8_isKept_124 rfl ?_
            refine kr_if_eq (pc := 126) dX8_isKept_126 rfl (fun _ => ?_) (fun h => absurd h (by decide))
            refine kr_iconst (pc := 158) dX8_isKept_158 (by decide) ?_
            refine kr_istore (pc := 159) dX8_isKept_159 (show 6 ≤ _ from by simp) (by decide) ?_
            simp only [stl, List.tail_cons, List.tail_nil]
            refine kr_goto (pc := 161) dX8_isKept_161 rfl ?_
            exact step _
        · refine kr_iload (pc := 92) dX8_isKept_92 rfl ?_
          refine kr_if_eq (pc := 94) dX8_isKept_94 rfl (fun _ => ?_) (fun h => absurd h (by decide))
          refine kr_iconst (pc := 108) dX8_isKept_108 (by decide) ?_
          refine kr_istore (pc := 109) dX8_isKept_109 (show 6 ≤ _ from by simp) (by decide) ?_
          simp only [stl, List.tail_cons, List.tail_nil]
          refine kr_goto (pc := 111) dX8_isKept_111 rfl ?_
          exact step _
      · refine kr_iload (pc := 61) dX8_isKept_61 rfl ?_
        refine kr_if_eq (pc := 63) dX8_isKept_63 rfl (fun _ => ?_) (fun h => absurd h (by decide))
        refine kr_iconst (pc := 76) dX8_isKept_76 (by decide) ?_
        refine kr_istore (pc := 77) dX8_isKept_77 (show 6 ≤ _ from by simp) (by decide) ?_
        simp only [stl, List.tail_cons, List.tail_nil]
        refine kr_goto (pc := 79) dX8_isKept_79 rfl ?_
        exact step _
  have in1 : ∀ (p : Nat) (v : Int), p < (c.1 d.toNat).length → v = shA c d.toNat f p → (∀ tl : List aV, (v = -1 ∨ ∀ i, i < p → shA c d.toNat f i ≠ v) → amT mX8_isKept 213 (vR m :: vI s :: vI r :: vI d :: vI f :: vI n :: vI 1 :: vI (p : Int) :: tl) [] h Q) →
      (∀ tl : List aV, ¬ (v = -1 ∨ ∀ i, i < p → shA c d.toNat f i ≠ v) → amT mX8_isKept 213 (vR m :: vI s :: vI r :: vI d :: vI f :: vI n :: vI 0 :: vI (p : Int) :: tl) [] h Q) →
      ∀ (j q : Nat) (tl : List aV), q + j = p → (v = -1 ∨ ∀ i, i < q → shA c d.toNat f i ≠ v) → amT mX8_isKept 167 (vR m :: vI s :: vI r :: vI d :: vI f :: vI n :: vI 1 :: vI (p : Int) :: vI v :: vI (q : Int) :: tl) [] h Q := by
    intro p v hp hv t1 t0 j
    induction j with
    | zero =>
      intro q tl hq hi
      refine kr_iload (pc := 167) dX8_isKept_167 rfl ?_
      refine kr_iload (pc := 169) dX8_isKept_169 rfl ?_
      refine kr_icmp_ge (pc := 171) dX8_isKept_171 rfl (fun h171 => ?_) (fun h171 => by exfalso; omega)
      exact t1 _ (by rw [show q = p by omega] at hi; exact hi)
    | succ j ih =>
      intro q tl hq hi
      have bad : ¬ v = -1 → shA c d.toNat f q = v → ¬ (v = -1 ∨ ∀ i, i < p → shA c d.toNat f i ≠ v) := fun q1 q2 q3 => q3.elim q1 fun q4 => q4 q (by omega) q2
      have more0 : ¬ v = -1 → shA c d.toNat f q = v → ∀ tl : List aV, amT mX8_isKept 167 (vR m :: vI s :: vI r :: vI d :: vI f :: vI n :: vI 0 :: vI (p : Int) :: vI v :: vI ((q : Int) + 1) :: tl) [] h Q := fun q1 q2 tl => in0 ((c.1 d.toNat).length - (q + 1)) (q + 1) v tl (by omega) p hp (fun tl => t0 tl (bad q1 q2))
      refine kr_iload (pc := 167) dX8_isKept_167 rfl ?_
      refine kr_iload (pc := 169) dX8_isKept_169 rfl ?_
      refine kr_icmp_ge (pc := 171) dX8_isKept_171 rfl (fun h171 => by exfalso; omega) (fun h171 => ?_)
      refine kr_iload (pc := 174) dX8_isKept_174 rfl ?_
      refine kr_if_eq (pc := 176) dX8_isKept_176 rfl (fun h => absurd h (by decide)) (fun _ => ?_)
      refine kr_iload (pc := 179) dX8_isKept_179 rfl ?_
      refine kr_iconst (pc := 181) dX8_isKept_181 (by decide) ?_
      refine kr_icmp_eq (pc := 182) dX8_isKept_182 rfl (fun h182 => ?_) (fun h182 => ?_)
      · refine kr_iconst (pc := 200) dX8_isKept_200 (by decide) ?_
        refine kr_goto (pc := 201) dX8_isKept_201 rfl ?_
        refine kr_istore (pc := 205) dX8_isKept_205 (show 6 ≤ _ from by simp) (by decide) ?_
        simp only [stl, List.tail_cons, List.tail_nil]
        refine kr_iinc (pc := 207) dX8_isKept_207 rfl ⟨⟨by omega, by omega⟩, by decide, by decide⟩ ?_
        simp only [stl, List.tail_cons, List.tail_nil]
        refine kr_goto (pc := 210) dX8_isKept_210 rfl ?_
        exact ih (q + 1) tl (by omega) (Or.inl h182)
      · refine kr_aload_n (pc := 185) dX8_isKept_185 rfl ?_
        refine kr_iload_n (pc := 186) dX8_isKept_186 rfl ?_
        refine kr_iload_n (pc := 187) dX8_isKept_187 rfl ?_
        refine kr_iload (pc := 188) dX8_isKept_188 rfl ?_
        refine kr_iload (pc := 190) dX8_isKept_190 rfl ?_
        refine kr_v4 (pc := 192) dX8_isKept_192 rfl rfl (by assumption) (Nat.le_of_ble_eq_true rfl) rfl rfl rfl rfl (m_shows M hs hs4 o2 C oc ⟨by omega, by omega⟩ o3 ?_)
        show amT _ _ _ _ _ _
        rw [show ((q : Nat) : Int).toNat = q by omega]
        refine kr_iload (pc := 195) dX8_isKept_195 rfl ?_
        refine kr_icmp_eq (pc := 197) dX8_isKept_197 rfl (fun h197 => ?_) (fun h197 => ?_)
        · refine kr_iconst (pc := 204) dX8_isKept_204 (by decide) ?_
          refine kr_istore (pc := 205) dX8_isKept_205 (show 6 ≤ _ from by simp) (by decide) ?_
          simp only [stl, List.tail_cons, List.tail_nil]
          refine kr_iinc (pc := 207) dX8_isKept_207 rfl ⟨⟨by omega, by omega⟩, by decide, by decide⟩ ?_
          simp only [stl, List.tail_cons, List.tail_nil]
          refine kr_goto (pc := 210) dX8_isKept_210 rfl ?_
          exact more0 h182 h197 _
        · refine kr_iconst (pc := 200) dX8_isKept_200 (by decide) ?_
          refine kr_goto (pc := 201) dX8_isKept_201 rfl ?_
          refine kr_istore (pc := 205) dX8_isKept_205 (show 6 ≤ _ from by simp) (by decide) ?_
          simp only [stl, List.tail_cons, List.tail_nil]
          refine kr_iinc (pc := 207) dX8_isKept_207 rfl ⟨⟨by omega, by omega⟩, by decide, by decide⟩ ?_
          simp only [stl, List.tail_cons, List.tail_nil]
          refine kr_goto (pc := 210) dX8_isKept_210 rfl ?_
          refine ih (q + 1) tl (by omega) (Or.inr fun i hiq => ?_)
          by_cases hq2 : i = q
          · subst hq2; exact h197
          · exact (hi.resolve_left h182) i (by omega)
  have out1 : ∀ (j p : Nat) (tl : List aV), p + j = (c.1 d.toNat).length → (∀ q, q < p → kpA c (kd, d, f, n) q) → amT mX8_isKept 29 (vR m :: vI s :: vI r :: vI d :: vI f :: vI n :: vI 1 :: vI (p : Int) :: tl) [] h Q := by
    intro j
    induction j with
    | zero =>
      intro p tl hp hk
      refine kr_iload (pc := 29) dX8_isKept_29 rfl ?_
      refine kr_aload_n (pc := 31) dX8_isKept_31 rfl ?_
      refine kr_iload_n (pc := 32) dX8_isKept_32 rfl ?_
      refine kr_iload_n (pc := 33) dX8_isKept_33 rfl ?_
      refine kr_v2 (pc := 34) dX8_isKept_34 rfl rfl (by assumption) (Nat.le_of_ble_eq_true rfl) rfl rfl (m_manyI M hs (by omega) hS ?_)
      show amT _ _ _ _ _ _
      refine kr_icmp_ge (pc := 37) dX8_isKept_37 rfl (fun h37 => ?_) (fun h37 => by exfalso; omega)
      refine kr_iload (pc := 219) dX8_isKept_219 rfl ?_
      refine kr_ireturn (pc := 221) dX8_isKept_221 rfl ?_
      exact k1 (fun q hq => hk q (by have : q < (c.1 d.toNat).length := hq; omega))
    | succ j ih =>
      intro p tl hp hk
      have step : kpA c (kd, d, f, n) p → ∀ tl : List aV, amT mX8_isKept 213 (vR m :: vI s :: vI r :: vI d :: vI f :: vI n :: vI 1 :: vI (p : Int) :: tl) [] h Q := by
        intro hkp tl
        refine kr_iinc (pc := 213) dX8_isKept_213 rfl ⟨⟨by omega, by omega⟩, by decide, by decide⟩ ?_
        simp only [stl, List.tail_cons, List.tail_nil]
        refine kr_goto (pc := 216) dX8_isKept_216 rfl ?_
        refine ih (p + 1) tl (by omega) fun q hq => ?_
        by_cases h : q = p
        · rw [h]; exact hkp
        · exact hk q (by omega)
      have stop : ¬ kpA c (kd, d, f, n) p → ∀ tl : List aV, amT mX8_isKept 213 (vR m :: vI s :: vI r :: vI d :: vI f :: vI n :: vI 0 :: vI (p : Int) :: tl) [] h Q := by
        intro hkp tl
        refine kr_iinc (pc := 213) dX8_isKept_213 rfl ⟨⟨by omega, by omega⟩, by decide, by decide⟩ ?_
        simp only [stl, List.tail_cons, List.tail_nil]
        refine kr_goto (pc := 216) dX8_isKept_216 rfl ?_
        exact out0 j (p + 1) tl (by omega) (fun hk => hkp (hk p (by show p < (c.1 d.toNat).length; omega)))
      unfold kpA at step stop
      dsimp only at step stop
      refine kr_iload (pc := 29) dX8_isKept_29 rfl ?_
      refine kr_aload_n (pc := 31) dX8_isKept_31 rfl ?_
      refine kr_iload_n (pc := 32) dX8_isKept_32 rfl ?_
      refine kr_iload_n (pc := 33) dX8_isKept_33 rfl ?_
      refine kr_v2 (pc := 34) dX8_isKept_34 rfl rfl (by assumption) (Nat.le_of_ble_eq_true rfl) rfl rfl (m_manyI M hs (by omega) hS ?_)
      show amT _ _ _ _ _ _
      refine kr_icmp_ge (pc := 37) dX8_isKept_37 rfl (fun h37 => by exfalso; omega) (fun h37 => ?_)
      refine kr_aload_n (pc := 40) dX8_isKept_40 rfl ?_
      refine kr_iload_n (pc := 41) dX8_isKept_41 rfl ?_
      refine kr_iload_n (pc := 42) dX8_isKept_42 rfl ?_
      refine kr_iload (pc := 43) dX8_isKept_43 rfl ?_
      refine kr_iload (pc := 45) dX8_isKept_45 rfl ?_
      refine kr_v4 (pc := 47) dX8_isKept_47 rfl rfl (by assumption) (Nat.le_of_ble_eq_true rfl) rfl rfl rfl rfl (m_shows M hs hs4 o2 C oc ⟨by omega, by omega⟩ o3 ?_)
      show amT _ _ _ _ _ _
      rw [show ((p : Nat) : Int).toNat = p by omega]
      refine kr_istore (pc := 50) dX8_isKept_50 (show 8 ≤ _ from by simp) (by decide) ?_
      simp only [stl, List.tail_cons, List.tail_nil]
      refine kr_aload_n (pc := 52) dX8_isKept_52 rfl ?_
      refine kr_getr (pc := 53) dX8_isKept_53 rfl rfl (by assumption) (by assumption) ?_
      refine kr_iload_n (pc := 56) dX8_isKept_56 rfl ?_
      refine kr_iald (pc := 57) dX8_isKept_57 (by assumption) (by omega) (by omega) rfl ?_
      rw [e0]
      refine kr_if_ne (pc := 58) dX8_isKept_58 rfl (fun h58 => ?_) (fun h58 => ?_)
      · refine kr_aload_n (pc := 82) dX8_isKept_82 rfl ?_
        refine kr_getr (pc := 83) dX8_isKept_83 rfl rfl (by assumption) (by assumption) ?_
        refine kr_iload_n (pc := 86) dX8_isKept_86 rfl ?_
        refine kr_iald (pc := 87) dX8_isKept_87 (by assumption) (by omega) (by omega) rfl ?_
        rw [e0]
        refine kr_iconst (pc := 88) dX8_isKept_88 (by decide) ?_
        refine kr_icmp_ne (pc := 89) dX8_isKept_89 rfl (fun h89 => ?_) (fun h89 => ?_)
        · refine kr_aload_n (pc := 114) dX8_isKept_114 rfl ?_
          refine kr_getr (pc := 115) dX8_isKept_115 rfl rfl (by assumption) (by assumption) ?_
          refine kr_iload_n (pc := 118) dX8_isKept_118 rfl ?_
          refine kr_iald (pc := 119) dX8_isKept_119 (by assumption) (by omega) (by omega) rfl ?_
          rw [e0]
          refine kr_iconst (pc := 120) dX8_isKept_120 (by decide) ?_
          refine kr_icmp_ne (pc := 121) dX8_isKept_121 rfl (fun h121 => ?_) (fun h121 => ?_)
          · refine kr_iconst (pc := 164) dX8_isKept_164 (by decide) ?_
            refine kr_istore (pc := 165) dX8_isKept_165 (show 9 ≤ _ from by simp) (by decide) ?_
            simp only [stl, List.tail_cons, List.tail_nil]
            exact in1 p _ (by omega) rfl (fun tl hz => step ⟨fun _ => by omega, fun _ => by omega, fun _ => by omega, fun _ => hz⟩ tl) (fun tl hz => stop (fun ⟨z1, z2, z3, z4⟩ => hz (z4 (by omega))) tl) p 0 _ (by omega) (Or.inr fun i hi => by omega)
          · refine kr_iload (pc := 124) dX8_isKept_124 rfl ?_
            refine kr_if_eq (pc := 126) dX8_isKept_126 rfl (fun h => absurd h (by decide)) (fun _ => ?_)
            refine kr_iload (pc := 129) dX8_isKept_129 rfl ?_
            refine kr_iconst (pc := 131) dX8_isKept_131 (by decide) ?_
            refine kr_icmp_eq (pc := 132) dX8_isKept_132 rfl (fun h132 => ?_) (fun h132 => ?_)
            · refine kr_iconst (pc := 154) dX8_isKept_154 (by decide) ?_
              refine kr_goto (pc := 155) dX8_isKept_155 rfl ?_
              refine kr_istore (pc := 159) dX8_isKept_159 (show 6 ≤ _ from by simp) (by decide) ?_
              simp only [stl, List.tail_cons, List.tail_nil]
              refine kr_goto (pc := 161) dX8_isKept_161 rfl ?_
              first | exact step ⟨fun _ => by omega, fun _ => by omega, fun _ => by omega, fun _ => by omega⟩ _ | exact stop (fun ⟨z1, z2, z3, z4⟩ => by omega) _
            · refine kr_iload (pc := 135) dX8_isKept_135 rfl ?_
              refine kr_iconst (pc := 137) dX8_isKept_137 (by decide) ?_
              refine kr_icmp_ge (pc := 138) dX8_isKept_138 rfl (fun h138 => ?_) (fun h138 => ?_)
              · refine kr_iconst (pc := 158) dX8_isKept_158 (by decide) ?_
                refine kr_istore (pc := 159) dX8_isKept_159 (show 6 ≤ _ from by simp) (by decide) ?_
                simp only [stl, List.tail_cons, List.tail_nil]
                refine kr_goto (pc := 161) dX8_isKept_161 rfl ?_
                first | exact step ⟨fun _ => by omega, fun _ => by omega, fun _ => by omega, fun _ => by omega⟩ _ | exact stop (fun ⟨z1, z2, z3, z4⟩ => by omega) _
              · refine kr_aload_n (pc := 141) dX8_isKept_141 rfl ?_
                refine kr_iload_n (pc := 142) dX8_isKept_142 rfl ?_
                refine kr_iload (pc := 143) dX8_isKept_143 rfl ?_
                refine kr_iload (pc := 145) dX8_isKept_145 rfl ?_
                refine kr_v3 (pc := 147) dX8_isKept_147 rfl rfl (by assumption) (Nat.le_of_ble_eq_true rfl) rfl rfl rfl (m_findI M hs (by omega) (C.1 n.toNat (by omega)) ?_)
                show amT _ _ _ _ _ _
                refine kr_iconst (pc := 150) dX8_isKept_150 (by decide) ?_
                refine kr_icmp_eq (pc := 151) dX8_isKept_151 rfl (fun h151 => ?_) (fun h151 => ?_)
                · refine kr_iconst (pc := 158) dX8_isKept_158 (by decide) ?_
                  refine kr_istore (pc := 159) dX8_isKept_159 (show 6 ≤ _ from by simp) (by decide) ?_
                  simp only [stl, List.tail_cons, List.tail_nil]
                  refine kr_goto (pc := 161) dX8_isKept_161 rfl ?_
                  first | exact step ⟨fun _ => by omega, fun _ => by omega, fun _ => by omega, fun _ => by omega⟩ _ | exact stop (fun ⟨z1, z2, z3, z4⟩ => by omega) _
                · refine kr_iconst (pc := 154) dX8_isKept_154 (by decide) ?_
                  refine kr_goto (pc := 155) dX8_isKept_155 rfl ?_
                  refine kr_istore (pc := 159) dX8_isKept_159 (show 6 ≤ _ from by simp) (by decide) ?_
                  simp only [stl, List.tail_cons, List.tail_nil]
                  refine kr_goto (pc := 161) dX8_isKept_161 rfl ?_
                  first | exact step ⟨fun _ => by omega, fun _ => by omega, fun _ => by omega, fun _ => by omega⟩ _ | exact stop (fun ⟨z1, z2, z3, z4⟩ => by omega) _
        · refine kr_iload (pc := 92) dX8_isKept_92 rfl ?_
          refine kr_if_eq (pc := 94) dX8_isKept_94 rfl (fun h => absurd h (by decide)) (fun _ => ?_)
          refine kr_iload (pc := 97) dX8_isKept_97 rfl ?_
          refine kr_iload (pc := 99) dX8_isKept_99 rfl ?_
          refine kr_icmp_gt (pc := 101) dX8_isKept_101 rfl (fun h101 => ?_) (fun h101 => ?_)
          · refine kr_iconst (pc := 108) dX8_isKept_108 (by decide) ?_
            refine kr_istore (pc := 109) dX8_isKept_109 (show 6 ≤ _ from by simp) (by decide) ?_
            simp only [stl, List.tail_cons, List.tail_nil]
            refine kr_goto (pc := 111) dX8_isKept_111 rfl ?_
            first | exact step ⟨fun _ => by omega, fun _ => by omega, fun _ => by omega, fun _ => by omega⟩ _ | exact stop (fun ⟨z1, z2, z3, z4⟩ => by omega) _
          · refine kr_iconst (pc := 104) dX8_isKept_104 (by decide) ?_
            refine kr_goto (pc := 105) dX8_isKept_105 rfl ?_
            refine kr_istore (pc := 109) dX8_isKept_109 (show 6 ≤ _ from by simp) (by decide) ?_
            simp only [stl, List.tail_cons, List.tail_nil]
            refine kr_goto (pc := 111) dX8_isKept_111 rfl ?_
            first | exact step ⟨fun _ => by omega, fun _ => by omega, fun _ => by omega, fun _ => by omega⟩ _ | exact stop (fun ⟨z1, z2, z3, z4⟩ => by omega) _
      · refine kr_iload (pc := 61) dX8_isKept_61 rfl ?_
        refine kr_if_eq (pc := 63) dX8_isKept_63 rfl (fun h => absurd h (by decide)) (fun _ => ?_)
        refine kr_iload (pc := 66) dX8_isKept_66 rfl ?_
        refine kr_iconst (pc := 68) dX8_isKept_68 (by decide) ?_
        refine kr_icmp_eq (pc := 69) dX8_isKept_69 rfl (fun h69 => ?_) (fun h69 => ?_)
        · refine kr_iconst (pc := 76) dX8_isKept_76 (by decide) ?_
          refine kr_istore (pc := 77) dX8_isKept_77 (show 6 ≤ _ from by simp) (by decide) ?_
          simp only [stl, List.tail_cons, List.tail_nil]
          refine kr_goto (pc := 79) dX8_isKept_79 rfl ?_
          first | exact step ⟨fun _ => by omega, fun _ => by omega, fun _ => by omega, fun _ => by omega⟩ _ | exact stop (fun ⟨z1, z2, z3, z4⟩ => by omega) _
        · refine kr_iconst (pc := 72) dX8_isKept_72 (by decide) ?_
          refine kr_goto (pc := 73) dX8_isKept_73 rfl ?_
          refine kr_istore (pc := 77) dX8_isKept_77 (show 6 ≤ _ from by simp) (by decide) ?_
          simp only [stl, List.tail_cons, List.tail_nil]
          refine kr_goto (pc := 79) dX8_isKept_79 rfl ?_
          first | exact step ⟨fun _ => by omega, fun _ => by omega, fun _ => by omega, fun _ => by omega⟩ _ | exact stop (fun ⟨z1, z2, z3, z4⟩ => by omega) _
  refine kr_aload_n (pc := 0) dX8_isKept_0 rfl ?_
  refine kr_getr (pc := 1) dX8_isKept_1 rfl rfl (by assumption) (by assumption) ?_
  refine kr_iload_n (pc := 4) dX8_isKept_4 rfl ?_
  refine kr_iald (pc := 5) dX8_isKept_5 (by assumption) (by omega) (by omega) rfl ?_
  rw [e1]
  refine kr_istore_n (pc := 6) dX8_isKept_6 (show 3 ≤ _ from by simp) (by decide) ?_
  simp only [stl, List.tail_cons, List.tail_nil]
  refine kr_aload_n (pc := 7) dX8_isKept_7 rfl ?_
  refine kr_getr (pc := 8) dX8_isKept_8 rfl rfl (by assumption) (by assumption) ?_
  refine kr_iload_n (pc := 11) dX8_isKept_11 rfl ?_
  refine kr_iald (pc := 12) dX8_isKept_12 (by assumption) (by omega) (by omega) rfl ?_
  rw [e2]
  refine kr_istore (pc := 13) dX8_isKept_13 (show 4 ≤ _ from by simp) (by decide) ?_
  simp only [stl, List.tail_cons, List.tail_nil]
  refine kr_aload_n (pc := 15) dX8_isKept_15 rfl ?_
  refine kr_getr (pc := 16) dX8_isKept_16 rfl rfl (by assumption) (by assumption) ?_
  refine kr_iload_n (pc := 19) dX8_isKept_19 rfl ?_
  refine kr_iald (pc := 20) dX8_isKept_20 (by assumption) (by omega) (by omega) rfl ?_
  rw [e3]
  refine kr_istore (pc := 21) dX8_isKept_21 (show 5 ≤ _ from by simp) (by decide) ?_
  simp only [stl, List.tail_cons, List.tail_nil]
  refine kr_iconst (pc := 23) dX8_isKept_23 (by decide) ?_
  refine kr_istore (pc := 24) dX8_isKept_24 (show 6 ≤ _ from by simp) (by decide) ?_
  simp only [stl, List.tail_cons, List.tail_nil]
  refine kr_iconst (pc := 26) dX8_isKept_26 (by decide) ?_
  refine kr_istore (pc := 27) dX8_isKept_27 (show 7 ≤ _ from by simp) (by decide) ?_
  simp only [stl, List.tail_cons, List.tail_nil]
  exact out1 (c.1 d.toNat).length 0 [] (by omega) fun q hq => by omega
end ME
