/-! THE REFERENCE APPLIES an edit, and a list of them -/
theorem ap1_none {b : Bool} {k s y f t : Int} {n : Ent} {c : Cfg} (h : k < 7) (h' : apS b k y f t n (c.1 s.toNat) = none) : ap1 b (k, s, y, f, t, n) c = none := by
  unfold ap1
  dsimp only
  rw [if_neg (by omega), h']
theorem ap1_some {b : Bool} {k s y f t : Int} {n : Ent} {c : Cfg} {l : List Ent} (h : k < 7) (h' : apS b k y f t n (c.1 s.toNat) = some l) : ap1 b (k, s, y, f, t, n) c = some (upS c s.toNat l) := by
  unfold ap1
  dsimp only
  rw [if_neg (by omega), h']
/-- loosely, as a number -/
def lob (lo : Int) (b : Bool) : Prop := (lo = 0 ∧ b = false) ∨ (lo = 1 ∧ b = true)
theorem apS2 {lo : Int} {b : Bool} (hb : lob lo b) {y f t : Int} {n : Ent} {l : List Ent} : apS b 2 y f t n l = if kix l y ≠ -1 ∨ 6 ≤ l.length ∨ (lo = 0 ∧ (l.length : Int) < t) then none else some (l.insertIdx (min t l.length).toNat n) := by
  rcases hb with ⟨rfl, rfl⟩ | ⟨rfl, rfl⟩
  · unfold apS
    rw [if_pos rfl]
    simp
  · unfold apS
    rw [if_pos rfl]
    simp
theorem apSn {b : Bool} {k y f t : Int} {n : Ent} {l : List Ent} (h2 : k ≠ 2) (h : kix l y = -1) : apS b k y f t n l = none := by
  unfold apS
  rw [if_neg h2, if_pos h]
theorem apS1 {lo : Int} {b : Bool} (hb : lob lo b) {y f t : Int} {n : Ent} {l : List Ent} (h : kix l y ≠ -1) : apS b 1 y f t n l = if (lo = 0 ∧ kix l y ≠ f) ∨ gt l y ≠ n then none else some (l.eraseIdx (kix l y).toNat) := by
  rcases hb with ⟨rfl, rfl⟩ | ⟨rfl, rfl⟩
  · unfold apS
    rw [if_neg (by decide), if_neg h, if_pos rfl]
    simp
  · unfold apS
    rw [if_neg (by decide), if_neg h, if_pos rfl]
    simp
theorem apS3 {lo : Int} {b : Bool} (hb : lob lo b) {y f t : Int} {n : Ent} {l : List Ent} (h : kix l y ≠ -1) : apS b 3 y f t n l = if lo = 0 ∧ (kix l y ≠ f ∨ (l.length : Int) ≤ t) then none else some (mv l (kix l y).toNat (min t ((l.length : Int) - 1)).toNat) := by
  rcases hb with ⟨rfl, rfl⟩ | ⟨rfl, rfl⟩
  · unfold apS
    rw [if_neg (by decide), if_neg h, if_neg (by decide), if_pos rfl]
    simp
  · unfold apS
    rw [if_neg (by decide), if_neg h, if_neg (by decide), if_pos rfl]
    simp
theorem apS4 {b : Bool} {k y f t : Int} {n : Ent} {l : List Ent} (hk : 4 ≤ k) (h : kix l y ≠ -1) : apS b k y f t n l = if sg (gt l y) (k - 4) ≠ f then none else some (l.set (kix l y).toNat (ws (gt l y) (k - 4) t)) := by
  unfold apS
  rw [if_neg (by omega), if_neg h, if_neg (by omega), if_neg (by omega)]
section MA
variable {h : aH} {m : Nat} {S : St} {Q : aR → Prop}
theorem sec_e {R : Nat → Int} {s y : Int} {l : List Ent} (hs : 0 ≤ s ∧ s ≤ 2) (HS : SecM R (34 : Int).toNat s.toNat l) (hk : kix l y ≠ -1) : R (27 * 34 + 3 + 6 * s + kix l y).toNat = pk (gt l y) ∧ okE (gt l y) := by
  have := HS.2.2.2.2 _ _ (gt_at hk).1
  have rk := kix_rng l y
  rw [show (27 * 34 + 3 + 6 * s + kix l y).toNat = 27 * (34 : Int).toNat + 3 + 6 * s.toNat + (kix l y).toNat by omega]
  exact this
theorem sec_f {d s y f t : Int} {n : Ent} {b : Bool} {l : List Ent} (hd : 4 ≤ d) (hd6 : d ≤ 6) (hs : 0 ≤ s ∧ s ≤ 2) (HS : SecM (hiv h (m + 1)) (34 : Int).toNat s.toNat l) (hk : kix l y ≠ -1) (ht : -1 ≤ t ∧ t ≤ 99 ∧ (d = 6 → t ≤ 2)) (hsg : sg (gt l y) (d - 4) = f)
    (fin : ∀ (l' : List Ent) (R' : Nat → Int), apS b d y f t n l = some l' → SecM R' 34 s.toNat l' → (∀ j, offS 34 s.toNat j → R' j = hiv h (m + 1) j) → Q (.inl (some (vI 1)), sa h (m + 1) R')) :
    Q (.inl (some (vI 1)), hwi h (m + 1) (27 * 34 + 3 + 6 * s + kix l y).toNat (pk (ws (gt l y) (d - 4) t))) := by
  have rk := kix_rng l y
  have hl7 := HS.2.2.1
  rw [hwi_of, show (27 * 34 + 3 + 6 * s + kix l y).toNat = 27 * 34 + 3 + 6 * s.toNat + (kix l y).toNat by omega]
  have b3 := okE_ws (j := d - 4) (v := t) (sec_e hs HS hk).2 (by omega) (by omega) (by omega)
  refine fin _ _ (by rw [apS4 hd hk, if_neg (fun h => h hsg)]) (HS.st (gt_at hk).1 b3.1) fun j hj => ?_
  unfold offS at hj
  exact if_neg (by omega)
theorem m_does2 {k inv lo s y f t : Int} {n : Ent} {b : Bool} {l : List Ent} (M : MS h m) (hk : 0 ≤ k ∧ k < 100) (hb : lob lo b) (hs : 0 ≤ s ∧ s ≤ 2) (HS : SecM (hiv h (m + 1)) (34 : Int).toNat s.toNat l) (hy : hiv h (m + 6) k.toNat = y) (hn : hiv h (m + 9) k.toNat = pk n) (okn : okE n) (ht : 0 ≤ t)
    (fin : ∀ (l' : List Ent) (R' : Nat → Int), apS b 2 y f t n l = some l' → SecM R' 34 s.toNat l' → (∀ j, offS 34 s.toNat j → R' j = hiv h (m + 1) j) → Q (.inl (some (vI 1)), sa h (m + 1) R')) (fin0 : apS b 2 y f t n l = none → Q (.inl (some (vI 0)), h)) :
    amT mX8_does 83 [vR m, vI 34, vI k, vI inv, vI lo, vI s, vI t, vI t, vI 2] [] h Q := by
  have h0 := M.o
  have h1 := M.2.1
  have h2 := M.2.2.1
  obtain ⟨⟨p1, p2⟩, ⟨p3, p4⟩, ⟨p5, p6⟩, ⟨p7, p8⟩, ⟨p9, q0⟩, ⟨q1, q2⟩⟩ := M.e
  have hlo : lo = 0 ∨ lo = 1 := by rcases hb with h | h <;> omega
  have hl6 := HS.2.2.1
  have rk := kix_rng l y
  refine kr_iload (pc := 83) dX8_does_83 rfl ?_
  refine kr_bipush (pc := 85) dX8_does_85 (by decide) ?_
  refine kr_icmp_ne (pc := 87) dX8_does_87 rfl (fun _ => ?_) (fun h => absurd h (by decide))
  refine kr_aload_n (pc := 150) dX8_does_150 rfl ?_
  refine kr_iload_n (pc := 151) dX8_does_151 rfl ?_
  refine kr_iload (pc := 152) dX8_does_152 rfl ?_
  refine kr_v2 (pc := 154) dX8_does_154 rfl rfl (by assumption) (Nat.le_of_ble_eq_true rfl) rfl rfl (m_manyI M (by decide) (by omega) HS ?_)
  show amT _ _ _ _ _ _
  refine kr_istore (pc := 157) dX8_does_157 (show 9 ≤ _ from by simp) (by decide) ?_
  simp only [stl, List.tail_cons, List.tail_nil]
  refine kr_aload_n (pc := 159) dX8_does_159 rfl ?_
  refine kr_iload_n (pc := 160) dX8_does_160 rfl ?_
  refine kr_iload (pc := 161) dX8_does_161 rfl ?_
  refine kr_aload_n (pc := 163) dX8_does_163 rfl ?_
  refine kr_getr (pc := 164) dX8_does_164 rfl rfl (by assumption) (by assumption) ?_
  refine kr_iload_n (pc := 167) dX8_does_167 rfl ?_
  refine kr_iald (pc := 168) dX8_does_168 (by assumption) (by omega) (by omega) rfl ?_
  rw [hy]
  refine kr_v3 (pc := 169) dX8_does_169 rfl rfl (by assumption) (Nat.le_of_ble_eq_true rfl) rfl rfl rfl (m_findI M (by decide) (by omega) HS ?_)
  show amT _ _ _ _ _ _
  refine kr_istore (pc := 172) dX8_does_172 (show 10 ≤ _ from by simp) (by decide) ?_
  simp only [stl, List.tail_cons, List.tail_nil]
  refine kr_iload (pc := 174) dX8_does_174 rfl ?_
  refine kr_iconst (pc := 176) dX8_does_176 (by decide) ?_
  refine kr_icmp_ne (pc := 177) dX8_does_177 rfl (fun h => absurd h (by decide)) (fun _ => ?_)
  refine kr_iload (pc := 180) dX8_does_180 rfl ?_
  refine kr_iload (pc := 182) dX8_does_182 rfl ?_
  refine kr_icmp_ge (pc := 184) dX8_does_184 rfl (fun h184 => ?_) (fun h184 => ?_)
  · refine kr_iload (pc := 192) dX8_does_192 rfl ?_
    refine kr_istore (pc := 194) dX8_does_194 (show 11 ≤ _ from by simp) (by decide) ?_
    simp only [stl, List.tail_cons, List.tail_nil]
    refine kr_iload (pc := 196) dX8_does_196 rfl ?_
    refine kr_iconst (pc := 198) dX8_does_198 (by decide) ?_
    refine kr_icmp_ne (pc := 199) dX8_does_199 rfl (fun h199 => ?_) (fun h199 => ?_)
    · refine kr_iconst (pc := 221) dX8_does_221 (by decide) ?_
      refine kr_ireturn (pc := 222) dX8_does_222 rfl ?_
      first | exact fin0 (by rw [apS2 hb, if_pos (by omega)]) | exact fin _ R' (by rw [apS2 hb, if_neg (by omega), show min t (l.length : Int) = (l.length : Int) by omega]) H2 hf | exact fin _ R' (by rw [apS2 hb, if_neg (by omega), show min t (l.length : Int) = t by omega]) H2 hf
    · refine kr_iload (pc := 202) dX8_does_202 rfl ?_
      refine kr_bipush (pc := 204) dX8_does_204 (by decide) ?_
      refine kr_icmp_eq (pc := 206) dX8_does_206 rfl (fun h206 => ?_) (fun h206 => ?_)
      · refine kr_iconst (pc := 221) dX8_does_221 (by decide) ?_
        refine kr_ireturn (pc := 222) dX8_does_222 rfl ?_
        first | exact fin0 (by rw [apS2 hb, if_pos (by omega)]) | exact fin _ R' (by rw [apS2 hb, if_neg (by omega), show min t (l.length : Int) = (l.length : Int) by omega]) H2 hf | exact fin _ R' (by rw [apS2 hb, if_neg (by omega), show min t (l.length : Int) = t by omega]) H2 hf
      · refine kr_iload (pc := 209) dX8_does_209 rfl ?_
        refine kr_if_ne (pc := 211) dX8_does_211 rfl (fun h211 => ?_) (fun h211 => ?_)
        · refine kr_aload_n (pc := 223) dX8_does_223 rfl ?_
          refine kr_iload_n (pc := 224) dX8_does_224 rfl ?_
          refine kr_iload (pc := 225) dX8_does_225 rfl ?_
          refine kr_iload (pc := 227) dX8_does_227 rfl ?_
          refine kr_aload_n (pc := 229) dX8_does_229 rfl ?_
          refine kr_getr (pc := 230) dX8_does_230 rfl rfl (by assumption) (by assumption) ?_
          refine kr_iload_n (pc := 233) dX8_does_233 rfl ?_
          refine kr_iald (pc := 234) dX8_does_234 (by assumption) (by omega) (by omega) rfl ?_
          rw [hn]
          refine kr_v4 (pc := 235) dX8_does_235 rfl rfl (by assumption) (Nat.le_of_ble_eq_true rfl) rfl rfl rfl rfl (m_putsI (l := l) M (by decide) (by omega) HS (by omega) (by omega) okn fun R' H2 hf => ?_)
          show amT _ _ _ _ _ _
          refine kr_iconst (pc := 238) dX8_does_238 (by decide) ?_
          refine kr_ireturn (pc := 239) dX8_does_239 rfl ?_
          first | exact fin0 (by rw [apS2 hb, if_pos (by omega)]) | exact fin _ R' (by rw [apS2 hb, if_neg (by omega), show min t (l.length : Int) = (l.length : Int) by omega]) H2 hf | exact fin _ R' (by rw [apS2 hb, if_neg (by omega), show min t (l.length : Int) = t by omega]) H2 hf
        · refine kr_iload (pc := 214) dX8_does_214 rfl ?_
          refine kr_iload (pc := 216) dX8_does_216 rfl ?_
          refine kr_icmp_eq (pc := 218) dX8_does_218 rfl (fun h218 => ?_) (fun h218 => ?_)
          · refine kr_aload_n (pc := 223) dX8_does_223 rfl ?_
            refine kr_iload_n (pc := 224) dX8_does_224 rfl ?_
            refine kr_iload (pc := 225) dX8_does_225 rfl ?_
            refine kr_iload (pc := 227) dX8_does_227 rfl ?_
            refine kr_aload_n (pc := 229) dX8_does_229 rfl ?_
            refine kr_getr (pc := 230) dX8_does_230 rfl rfl (by assumption) (by assumption) ?_
            refine kr_iload_n (pc := 233) dX8_does_233 rfl ?_
            refine kr_iald (pc := 234) dX8_does_234 (by assumption) (by omega) (by omega) rfl ?_
            rw [hn]
            refine kr_v4 (pc := 235) dX8_does_235 rfl rfl (by assumption) (Nat.le_of_ble_eq_true rfl) rfl rfl rfl rfl (m_putsI (l := l) M (by decide) (by omega) HS (by omega) (by omega) okn fun R' H2 hf => ?_)
            show amT _ _ _ _ _ _
            refine kr_iconst (pc := 238) dX8_does_238 (by decide) ?_
            refine kr_ireturn (pc := 239) dX8_does_239 rfl ?_
            first | exact fin0 (by rw [apS2 hb, if_pos (by omega)]) | exact fin _ R' (by rw [apS2 hb, if_neg (by omega), show min t (l.length : Int) = (l.length : Int) by omega]) H2 hf | exact fin _ R' (by rw [apS2 hb, if_neg (by omega), show min t (l.length : Int) = t by omega]) H2 hf
          · refine kr_iconst (pc := 221) dX8_does_221 (by decide) ?_
            refine kr_ireturn (pc := 222) dX8_does_222 rfl ?_
            first | exact fin0 (by rw [apS2 hb, if_pos (by omega)]) | exact fin _ R' (by rw [apS2 hb, if_neg (by omega), show min t (l.length : Int) = (l.length : Int) by omega]) H2 hf | exact fin _ R' (by rw [apS2 hb, if_neg (by omega), show min t (l.length : Int) = t by omega]) H2 hf
  · refine kr_iload (pc := 187) dX8_does_187 rfl ?_
    refine kr_goto (pc := 189) dX8_does_189 rfl ?_
    refine kr_istore (pc := 194) dX8_does_194 (show 11 ≤ _ from by simp) (by decide) ?_
    simp only [stl, List.tail_cons, List.tail_nil]
    refine kr_iload (pc := 196) dX8_does_196 rfl ?_
    refine kr_iconst (pc := 198) dX8_does_198 (by decide) ?_
    refine kr_icmp_ne (pc := 199) dX8_does_199 rfl (fun h199 => ?_) (fun h199 => ?_)
    · refine kr_iconst (pc := 221) dX8_does_221 (by decide) ?_
      refine kr_ireturn (pc := 222) dX8_does_222 rfl ?_
      first | exact fin0 (by rw [apS2 hb, if_pos (by omega)]) | exact fin _ R' (by rw [apS2 hb, if_neg (by omega), show min t (l.length : Int) = (l.length : Int) by omega]) H2 hf | exact fin _ R' (by rw [apS2 hb, if_neg (by omega), show min t (l.length : Int) = t by omega]) H2 hf
    · refine kr_iload (pc := 202) dX8_does_202 rfl ?_
      refine kr_bipush (pc := 204) dX8_does_204 (by decide) ?_
      refine kr_icmp_eq (pc := 206) dX8_does_206 rfl (fun h206 => ?_) (fun h206 => ?_)
      · refine kr_iconst (pc := 221) dX8_does_221 (by decide) ?_
        refine kr_ireturn (pc := 222) dX8_does_222 rfl ?_
        first | exact fin0 (by rw [apS2 hb, if_pos (by omega)]) | exact fin _ R' (by rw [apS2 hb, if_neg (by omega), show min t (l.length : Int) = (l.length : Int) by omega]) H2 hf | exact fin _ R' (by rw [apS2 hb, if_neg (by omega), show min t (l.length : Int) = t by omega]) H2 hf
      · refine kr_iload (pc := 209) dX8_does_209 rfl ?_
        refine kr_if_ne (pc := 211) dX8_does_211 rfl (fun h211 => ?_) (fun h211 => ?_)
        · refine kr_aload_n (pc := 223) dX8_does_223 rfl ?_
          refine kr_iload_n (pc := 224) dX8_does_224 rfl ?_
          refine kr_iload (pc := 225) dX8_does_225 rfl ?_
          refine kr_iload (pc := 227) dX8_does_227 rfl ?_
          refine kr_aload_n (pc := 229) dX8_does_229 rfl ?_
          refine kr_getr (pc := 230) dX8_does_230 rfl rfl (by assumption) (by assumption) ?_
          refine kr_iload_n (pc := 233) dX8_does_233 rfl ?_
          refine kr_iald (pc := 234) dX8_does_234 (by assumption) (by omega) (by omega) rfl ?_
          rw [hn]
          refine kr_v4 (pc := 235) dX8_does_235 rfl rfl (by assumption) (Nat.le_of_ble_eq_true rfl) rfl rfl rfl rfl (m_putsI (l := l) M (by decide) (by omega) HS (by omega) (by omega) okn fun R' H2 hf => ?_)
          show amT _ _ _ _ _ _
          refine kr_iconst (pc := 238) dX8_does_238 (by decide) ?_
          refine kr_ireturn (pc := 239) dX8_does_239 rfl ?_
          first | exact fin0 (by rw [apS2 hb, if_pos (by omega)]) | exact fin _ R' (by rw [apS2 hb, if_neg (by omega), show min t (l.length : Int) = (l.length : Int) by omega]) H2 hf | exact fin _ R' (by rw [apS2 hb, if_neg (by omega), show min t (l.length : Int) = t by omega]) H2 hf
        · refine kr_iload (pc := 214) dX8_does_214 rfl ?_
          refine kr_iload (pc := 216) dX8_does_216 rfl ?_
          refine kr_icmp_eq (pc := 218) dX8_does_218 rfl (fun h218 => ?_) (fun h218 => ?_)
          · refine kr_aload_n (pc := 223) dX8_does_223 rfl ?_
            refine kr_iload_n (pc := 224) dX8_does_224 rfl ?_
            refine kr_iload (pc := 225) dX8_does_225 rfl ?_
            refine kr_iload (pc := 227) dX8_does_227 rfl ?_
            refine kr_aload_n (pc := 229) dX8_does_229 rfl ?_
            refine kr_getr (pc := 230) dX8_does_230 rfl rfl (by assumption) (by assumption) ?_
            refine kr_iload_n (pc := 233) dX8_does_233 rfl ?_
            refine kr_iald (pc := 234) dX8_does_234 (by assumption) (by omega) (by omega) rfl ?_
            rw [hn]
            refine kr_v4 (pc := 235) dX8_does_235 rfl rfl (by assumption) (Nat.le_of_ble_eq_true rfl) rfl rfl rfl rfl (m_putsI (l := l) M (by decide) (by omega) HS (by omega) (by omega) okn fun R' H2 hf => ?_)
            show amT _ _ _ _ _ _
            refine kr_iconst (pc := 238) dX8_does_238 (by decide) ?_
            refine kr_ireturn (pc := 239) dX8_does_239 rfl ?_
            first | exact fin0 (by rw [apS2 hb, if_pos (by omega)]) | exact fin _ R' (by rw [apS2 hb, if_neg (by omega), show min t (l.length : Int) = (l.length : Int) by omega]) H2 hf | exact fin _ R' (by rw [apS2 hb, if_neg (by omega), show min t (l.length : Int) = t by omega]) H2 hf
          · refine kr_iconst (pc := 221) dX8_does_221 (by decide) ?_
            refine kr_ireturn (pc := 222) dX8_does_222 rfl ?_
            first | exact fin0 (by rw [apS2 hb, if_pos (by omega)]) | exact fin _ R' (by rw [apS2 hb, if_neg (by omega), show min t (l.length : Int) = (l.length : Int) by omega]) H2 hf | exact fin _ R' (by rw [apS2 hb, if_neg (by omega), show min t (l.length : Int) = t by omega]) H2 hf
theorem m_does1 {k inv lo s y f t : Int} {n : Ent} {b : Bool} {l : List Ent} (M : MS h m) (hk : 0 ≤ k ∧ k < 100) (hb : lob lo b) (hs : 0 ≤ s ∧ s ≤ 2) (HS : SecM (hiv h (m + 1)) (34 : Int).toNat s.toNat l) (hy : hiv h (m + 6) k.toNat = y) (hn : hiv h (m + 9) k.toNat = pk n) (okn : okE n)
    (fin : ∀ (l' : List Ent) (R' : Nat → Int), apS b 1 y f t n l = some l' → SecM R' 34 s.toNat l' → (∀ j, offS 34 s.toNat j → R' j = hiv h (m + 1) j) → Q (.inl (some (vI 1)), sa h (m + 1) R')) (fin0 : apS b 1 y f t n l = none → Q (.inl (some (vI 0)), h)) :
    amT mX8_does 83 [vR m, vI 34, vI k, vI inv, vI lo, vI s, vI f, vI f, vI 1] [] h Q := by
  have h0 := M.o
  have h1 := M.2.1
  have h2 := M.2.2.1
  obtain ⟨⟨p1, p2⟩, ⟨p3, p4⟩, ⟨p5, p6⟩, ⟨p7, p8⟩, ⟨p9, q0⟩, ⟨q1, q2⟩⟩ := M.e
  have hlo : lo = 0 ∨ lo = 1 := by rcases hb with h | h <;> omega
  have hl6 := HS.2.2.1
  have rk := kix_rng l y
  refine kr_iload (pc := 83) dX8_does_83 rfl ?_
  refine kr_bipush (pc := 85) dX8_does_85 (by decide) ?_
  refine kr_icmp_ne (pc := 87) dX8_does_87 rfl (fun _ => ?_) (fun h => absurd h (by decide))
  refine kr_aload_n (pc := 150) dX8_does_150 rfl ?_
  refine kr_iload_n (pc := 151) dX8_does_151 rfl ?_
  refine kr_iload (pc := 152) dX8_does_152 rfl ?_
  refine kr_v2 (pc := 154) dX8_does_154 rfl rfl (by assumption) (Nat.le_of_ble_eq_true rfl) rfl rfl (m_manyI M (by decide) (by omega) HS ?_)
  show amT _ _ _ _ _ _
  refine kr_istore (pc := 157) dX8_does_157 (show 9 ≤ _ from by simp) (by decide) ?_
  simp only [stl, List.tail_cons, List.tail_nil]
  refine kr_aload_n (pc := 159) dX8_does_159 rfl ?_
  refine kr_iload_n (pc := 160) dX8_does_160 rfl ?_
  refine kr_iload (pc := 161) dX8_does_161 rfl ?_
  refine kr_aload_n (pc := 163) dX8_does_163 rfl ?_
  refine kr_getr (pc := 164) dX8_does_164 rfl rfl (by assumption) (by assumption) ?_
  refine kr_iload_n (pc := 167) dX8_does_167 rfl ?_
  refine kr_iald (pc := 168) dX8_does_168 (by assumption) (by omega) (by omega) rfl ?_
  rw [hy]
  refine kr_v3 (pc := 169) dX8_does_169 rfl rfl (by assumption) (Nat.le_of_ble_eq_true rfl) rfl rfl rfl (m_findI M (by decide) (by omega) HS ?_)
  show amT _ _ _ _ _ _
  refine kr_istore (pc := 172) dX8_does_172 (show 10 ≤ _ from by simp) (by decide) ?_
  simp only [stl, List.tail_cons, List.tail_nil]
  refine kr_iload (pc := 174) dX8_does_174 rfl ?_
  refine kr_iconst (pc := 176) dX8_does_176 (by decide) ?_
  refine kr_icmp_ne (pc := 177) dX8_does_177 rfl (fun _ => ?_) (fun h => absurd h (by decide))
  refine kr_iload (pc := 240) dX8_does_240 rfl ?_
  refine kr_iconst (pc := 242) dX8_does_242 (by decide) ?_
  refine kr_icmp_ne (pc := 243) dX8_does_243 rfl (fun h243 => ?_) (fun h243 => ?_)
  · refine kr_iload (pc := 248) dX8_does_248 rfl ?_
    refine kr_iconst (pc := 250) dX8_does_250 (by decide) ?_
    refine kr_icmp_ne (pc := 251) dX8_does_251 rfl (fun h => absurd h (by decide)) (fun _ => ?_)
    refine kr_aload_n (pc := 254) dX8_does_254 rfl ?_
    refine kr_getr (pc := 255) dX8_does_255 rfl rfl (by assumption) (by assumption) ?_
    refine kr_iload_n (pc := 258) dX8_does_258 rfl ?_
    refine kr_iload (pc := 259) dX8_does_259 rfl ?_
    refine kr_iload (pc := 261) dX8_does_261 rfl ?_
    refine kr_s3 (pc := 263) dX8_does_263 rfl rfl (Nat.le_of_ble_eq_true rfl) rfl rfl rfl (m_at ⟨by omega, by omega⟩ ⟨by omega, by omega⟩ ⟨by omega, by omega⟩ ?_)
    show amT _ _ _ _ _ _
    refine kr_iald (pc := 266) dX8_does_266 (by assumption) (by omega) (by omega) rfl ?_
    rw [(sec_e hs HS (by omega)).1]
    refine kr_aload_n (pc := 267) dX8_does_267 rfl ?_
    refine kr_getr (pc := 268) dX8_does_268 rfl rfl (by assumption) (by assumption) ?_
    refine kr_iload_n (pc := 271) dX8_does_271 rfl ?_
    refine kr_iald (pc := 272) dX8_does_272 (by assumption) (by omega) (by omega) rfl ?_
    rw [hn]
    refine kr_icmp_ne (pc := 273) dX8_does_273 rfl (fun h273 => ?_) (fun h273 => ?_)
    · refine kr_iconst (pc := 288) dX8_does_288 (by decide) ?_
      refine kr_ireturn (pc := 289) dX8_does_289 rfl ?_
      first | exact fin0 (apSn (by decide) (by omega)) | exact fin0 (by rw [apS1 hb (by omega), if_pos (Or.inl (by omega))]) | exact fin0 (by rw [apS1 hb (by omega), if_pos (Or.inr (fun hg => h273 (by rw [hg])))]) | exact fin _ R' (by rw [apS1 hb (by omega), if_neg (fun hg => hg.elim (fun hg => by omega) (fun hg => hg (pk_inj (sec_e hs HS (by omega)).2 okn h273)))]) H2 hf
    · refine kr_iload (pc := 276) dX8_does_276 rfl ?_
      refine kr_if_ne (pc := 278) dX8_does_278 rfl (fun h278 => ?_) (fun h278 => ?_)
      · refine kr_aload_n (pc := 290) dX8_does_290 rfl ?_
        refine kr_iload_n (pc := 291) dX8_does_291 rfl ?_
        refine kr_iload (pc := 292) dX8_does_292 rfl ?_
        refine kr_iload (pc := 294) dX8_does_294 rfl ?_
        refine kr_v3 (pc := 296) dX8_does_296 rfl rfl (by assumption) (Nat.le_of_ble_eq_true rfl) rfl rfl rfl (m_takesI (l := l) M (by decide) (by omega) HS (by omega) fun R' H2 hf => ?_)
        show amT _ _ _ _ _ _
        refine kr_iconst (pc := 299) dX8_does_299 (by decide) ?_
        refine kr_ireturn (pc := 300) dX8_does_300 rfl ?_
        first | exact fin0 (apSn (by decide) (by omega)) | exact fin0 (by rw [apS1 hb (by omega), if_pos (Or.inl (by omega))]) | exact fin0 (by rw [apS1 hb (by omega), if_pos (Or.inr (fun hg => h273 (by rw [hg])))]) | exact fin _ R' (by rw [apS1 hb (by omega), if_neg (fun hg => hg.elim (fun hg => by omega) (fun hg => hg (pk_inj (sec_e hs HS (by omega)).2 okn h273)))]) H2 hf
      · refine kr_iload (pc := 281) dX8_does_281 rfl ?_
        refine kr_iload (pc := 283) dX8_does_283 rfl ?_
        refine kr_icmp_eq (pc := 285) dX8_does_285 rfl (fun h285 => ?_) (fun h285 => ?_)
        · refine kr_aload_n (pc := 290) dX8_does_290 rfl ?_
          refine kr_iload_n (pc := 291) dX8_does_291 rfl ?_
          refine kr_iload (pc := 292) dX8_does_292 rfl ?_
          refine kr_iload (pc := 294) dX8_does_294 rfl ?_
          refine kr_v3 (pc := 296) dX8_does_296 rfl rfl (by assumption) (Nat.le_of_ble_eq_true rfl) rfl rfl rfl (m_takesI (l := l) M (by decide) (by omega) HS (by omega) fun R' H2 hf => ?_)
          show amT _ _ _ _ _ _
          refine kr_iconst (pc := 299) dX8_does_299 (by decide) ?_
          refine kr_ireturn (pc := 300) dX8_does_300 rfl ?_
          first | exact fin0 (apSn (by decide) (by omega)) | exact fin0 (by rw [apS1 hb (by omega), if_pos (Or.inl (by omega))]) | exact fin0 (by rw [apS1 hb (by omega), if_pos (Or.inr (fun hg => h273 (by rw [hg])))]) | exact fin _ R' (by rw [apS1 hb (by omega), if_neg (fun hg => hg.elim (fun hg => by omega) (fun hg => hg (pk_inj (sec_e hs HS (by omega)).2 okn h273)))]) H2 hf
        · refine kr_iconst (pc := 288) dX8_does_288 (by decide) ?_
          refine kr_ireturn (pc := 289) dX8_does_289 rfl ?_
          first | exact fin0 (apSn (by decide) (by omega)) | exact fin0 (by rw [apS1 hb (by omega), if_pos (Or.inl (by omega))]) | exact fin0 (by rw [apS1 hb (by omega), if_pos (Or.inr (fun hg => h273 (by rw [hg])))]) | exact fin _ R' (by rw [apS1 hb (by omega), if_neg (fun hg => hg.elim (fun hg => by omega) (fun hg => hg (pk_inj (sec_e hs HS (by omega)).2 okn h273)))]) H2 hf
  · refine kr_iconst (pc := 246) dX8_does_246 (by decide) ?_
    refine kr_ireturn (pc := 247) dX8_does_247 rfl ?_
    first | exact fin0 (apSn (by decide) (by omega)) | exact fin0 (by rw [apS1 hb (by omega), if_pos (Or.inl (by omega))]) | exact fin0 (by rw [apS1 hb (by omega), if_pos (Or.inr (fun hg => h273 (by rw [hg])))]) | exact fin _ R' (by rw [apS1 hb (by omega), if_neg (fun hg => hg.elim (fun hg => by omega) (fun hg => hg (pk_inj (sec_e hs HS (by omega)).2 okn h273)))]) H2 hf
theorem m_does3 {k inv lo s y f t : Int} {n : Ent} {b : Bool} {l : List Ent} (M : MS h m) (hk : 0 ≤ k ∧ k < 100) (hb : lob lo b) (hs : 0 ≤ s ∧ s ≤ 2) (HS : SecM (hiv h (m + 1)) (34 : Int).toNat s.toNat l) (hy : hiv h (m + 6) k.toNat = y) (ht : 0 ≤ t)
    (fin : ∀ (l' : List Ent) (R' : Nat → Int), apS b 3 y f t n l = some l' → SecM R' 34 s.toNat l' → (∀ j, offS 34 s.toNat j → R' j = hiv h (m + 1) j) → Q (.inl (some (vI 1)), sa h (m + 1) R')) (fin0 : apS b 3 y f t n l = none → Q (.inl (some (vI 0)), h)) :
    amT mX8_does 83 [vR m, vI 34, vI k, vI inv, vI lo, vI s, vI f, vI t, vI 3] [] h Q := by
  have h0 := M.o
  have h1 := M.2.1
  have h2 := M.2.2.1
  obtain ⟨⟨p1, p2⟩, ⟨p3, p4⟩, ⟨p5, p6⟩, ⟨p7, p8⟩, ⟨p9, q0⟩, ⟨q1, q2⟩⟩ := M.e
  have hlo : lo = 0 ∨ lo = 1 := by rcases hb with h | h <;> omega
  have hl6 := HS.2.2.1
  have rk := kix_rng l y
  refine kr_iload (pc := 83) dX8_does_83 rfl ?_
  refine kr_bipush (pc := 85) dX8_does_85 (by decide) ?_
  refine kr_icmp_ne (pc := 87) dX8_does_87 rfl (fun _ => ?_) (fun h => absurd h (by decide))
  refine kr_aload_n (pc := 150) dX8_does_150 rfl ?_
  refine kr_iload_n (pc := 151) dX8_does_151 rfl ?_
  refine kr_iload (pc := 152) dX8_does_152 rfl ?_
  refine kr_v2 (pc := 154) dX8_does_154 rfl rfl (by assumption) (Nat.le_of_ble_eq_true rfl) rfl rfl (m_manyI M (by decide) (by omega) HS ?_)
  show amT _ _ _ _ _ _
  refine kr_istore (pc := 157) dX8_does_157 (show 9 ≤ _ from by simp) (by decide) ?_
  simp only [stl, List.tail_cons, List.tail_nil]
  refine kr_aload_n (pc := 159) dX8_does_159 rfl ?_
  refine kr_iload_n (pc := 160) dX8_does_160 rfl ?_
  refine kr_iload (pc := 161) dX8_does_161 rfl ?_
  refine kr_aload_n (pc := 163) dX8_does_163 rfl ?_
  refine kr_getr (pc := 164) dX8_does_164 rfl rfl (by assumption) (by assumption) ?_
  refine kr_iload_n (pc := 167) dX8_does_167 rfl ?_
  refine kr_iald (pc := 168) dX8_does_168 (by assumption) (by omega) (by omega) rfl ?_
  rw [hy]
  refine kr_v3 (pc := 169) dX8_does_169 rfl rfl (by assumption) (Nat.le_of_ble_eq_true rfl) rfl rfl rfl (m_findI M (by decide) (by omega) HS ?_)
  show amT _ _ _ _ _ _
  refine kr_istore (pc := 172) dX8_does_172 (show 10 ≤ _ from by simp) (by decide) ?_
  simp only [stl, List.tail_cons, List.tail_nil]
  refine kr_iload (pc := 174) dX8_does_174 rfl ?_
  refine kr_iconst (pc := 176) dX8_does_176 (by decide) ?_
  refine kr_icmp_ne (pc := 177) dX8_does_177 rfl (fun _ => ?_) (fun h => absurd h (by decide))
  refine kr_iload (pc := 240) dX8_does_240 rfl ?_
  refine kr_iconst (pc := 242) dX8_does_242 (by decide) ?_
  refine kr_icmp_ne (pc := 243) dX8_does_243 rfl (fun h243 => ?_) (fun h243 => ?_)
  · refine kr_iload (pc := 248) dX8_does_248 rfl ?_
    refine kr_iconst (pc := 250) dX8_does_250 (by decide) ?_
    refine kr_icmp_ne (pc := 251) dX8_does_251 rfl (fun _ => ?_) (fun h => absurd h (by decide))
    refine kr_iload (pc := 301) dX8_does_301 rfl ?_
    refine kr_iconst (pc := 303) dX8_does_303 (by decide) ?_
    refine kr_icmp_ne (pc := 304) dX8_does_304 rfl (fun h => absurd h (by decide)) (fun _ => ?_)
    refine kr_iload (pc := 307) dX8_does_307 rfl ?_
    refine kr_iload (pc := 309) dX8_does_309 rfl ?_
    refine kr_icmp_ge (pc := 311) dX8_does_311 rfl (fun h311 => ?_) (fun h311 => ?_)
    · refine kr_iload (pc := 319) dX8_does_319 rfl ?_
      refine kr_iconst (pc := 321) dX8_does_321 (by decide) ?_
      refine kr_isub (pc := 322) dX8_does_322 ⟨by omega, by omega⟩ ?_
      refine kr_istore (pc := 323) dX8_does_323 (show 11 ≤ _ from by simp) (by decide) ?_
      simp only [stl, List.tail_cons, List.tail_nil]
      refine kr_iload (pc := 325) dX8_does_325 rfl ?_
      refine kr_if_ne (pc := 327) dX8_does_327 rfl (fun h327 => ?_) (fun h327 => ?_)
      · refine kr_aload_n (pc := 346) dX8_does_346 rfl ?_
        refine kr_iload_n (pc := 347) dX8_does_347 rfl ?_
        refine kr_iload (pc := 348) dX8_does_348 rfl ?_
        refine kr_iload (pc := 350) dX8_does_350 rfl ?_
        refine kr_iload (pc := 352) dX8_does_352 rfl ?_
        refine kr_v4 (pc := 354) dX8_does_354 rfl rfl (by assumption) (Nat.le_of_ble_eq_true rfl) rfl rfl rfl rfl (m_shiftsI (l := l) M (by decide) (by omega) HS (by omega) (by omega) fun R' H2 hf => ?_)
        show amT _ _ _ _ _ _
        refine kr_iconst (pc := 357) dX8_does_357 (by decide) ?_
        refine kr_ireturn (pc := 358) dX8_does_358 rfl ?_
        first | exact fin0 (apSn (by decide) (by omega)) | exact fin0 (by rw [apS3 hb (by omega), if_pos (by omega)]) | exact fin _ R' (by rw [apS3 hb (by omega), if_neg (by omega), show min t ((l.length : Int) - 1) = (l.length : Int) - 1 by omega]) H2 hf | exact fin _ R' (by rw [apS3 hb (by omega), if_neg (by omega), show min t ((l.length : Int) - 1) = t by omega]) H2 hf
      · refine kr_iload (pc := 330) dX8_does_330 rfl ?_
        refine kr_iload (pc := 332) dX8_does_332 rfl ?_
        refine kr_icmp_ne (pc := 334) dX8_does_334 rfl (fun h334 => ?_) (fun h334 => ?_)
        · refine kr_iconst (pc := 344) dX8_does_344 (by decide) ?_
          refine kr_ireturn (pc := 345) dX8_does_345 rfl ?_
          first | exact fin0 (apSn (by decide) (by omega)) | exact fin0 (by rw [apS3 hb (by omega), if_pos (by omega)]) | exact fin _ R' (by rw [apS3 hb (by omega), if_neg (by omega), show min t ((l.length : Int) - 1) = (l.length : Int) - 1 by omega]) H2 hf | exact fin _ R' (by rw [apS3 hb (by omega), if_neg (by omega), show min t ((l.length : Int) - 1) = t by omega]) H2 hf
        · refine kr_iload (pc := 337) dX8_does_337 rfl ?_
          refine kr_iload (pc := 339) dX8_does_339 rfl ?_
          refine kr_icmp_eq (pc := 341) dX8_does_341 rfl (fun h341 => ?_) (fun h341 => ?_)
          · refine kr_aload_n (pc := 346) dX8_does_346 rfl ?_
            refine kr_iload_n (pc := 347) dX8_does_347 rfl ?_
            refine kr_iload (pc := 348) dX8_does_348 rfl ?_
            refine kr_iload (pc := 350) dX8_does_350 rfl ?_
            refine kr_iload (pc := 352) dX8_does_352 rfl ?_
            refine kr_v4 (pc := 354) dX8_does_354 rfl rfl (by assumption) (Nat.le_of_ble_eq_true rfl) rfl rfl rfl rfl (m_shiftsI (l := l) M (by decide) (by omega) HS (by omega) (by omega) fun R' H2 hf => ?_)
            show amT _ _ _ _ _ _
            refine kr_iconst (pc := 357) dX8_does_357 (by decide) ?_
            refine kr_ireturn (pc := 358) dX8_does_358 rfl ?_
            first | exact fin0 (apSn (by decide) (by omega)) | exact fin0 (by rw [apS3 hb (by omega), if_pos (by omega)]) | exact fin _ R' (by rw [apS3 hb (by omega), if_neg (by omega), show min t ((l.length : Int) - 1) = (l.length : Int) - 1 by omega]) H2 hf | exact fin _ R' (by rw [apS3 hb (by omega), if_neg (by omega), show min t ((l.length : Int) - 1) = t by omega]) H2 hf
          · refine kr_iconst (pc := 344) dX8_does_344 (by decide) ?_
            refine kr_ireturn (pc := 345) dX8_does_345 rfl ?_
            first | exact fin0 (apSn (by decide) (by omega)) | exact fin0 (by rw [apS3 hb (by omega), if_pos (by omega)]) | exact fin _ R' (by rw [apS3 hb (by omega), if_neg (by omega), show min t ((l.length : Int) - 1) = (l.length : Int) - 1 by omega]) H2 hf | exact fin _ R' (by rw [apS3 hb (by omega), if_neg (by omega), show min t ((l.length : Int) - 1) = t by omega]) H2 hf
    · refine kr_iload (pc := 314) dX8_does_314 rfl ?_
      refine kr_goto (pc := 316) dX8_does_316 rfl ?_
      refine kr_istore (pc := 323) dX8_does_323 (show 11 ≤ _ from by simp) (by decide) ?_
      simp only [stl, List.tail_cons, List.tail_nil]
      refine kr_iload (pc := 325) dX8_does_325 rfl ?_
      refine kr_if_ne (pc := 327) dX8_does_327 rfl (fun h327 => ?_) (fun h327 => ?_)
      · refine kr_aload_n (pc := 346) dX8_does_346 rfl ?_
        refine kr_iload_n (pc := 347) dX8_does_347 rfl ?_
        refine kr_iload (pc := 348) dX8_does_348 rfl ?_
        refine kr_iload (pc := 350) dX8_does_350 rfl ?_
        refine kr_iload (pc := 352) dX8_does_352 rfl ?_
        refine kr_v4 (pc := 354) dX8_does_354 rfl rfl (by assumption) (Nat.le_of_ble_eq_true rfl) rfl rfl rfl rfl (m_shiftsI (l := l) M (by decide) (by omega) HS (by omega) (by omega) fun R' H2 hf => ?_)
        show amT _ _ _ _ _ _
        refine kr_iconst (pc := 357) dX8_does_357 (by decide) ?_
        refine kr_ireturn (pc := 358) dX8_does_358 rfl ?_
        first | exact fin0 (apSn (by decide) (by omega)) | exact fin0 (by rw [apS3 hb (by omega), if_pos (by omega)]) | exact fin _ R' (by rw [apS3 hb (by omega), if_neg (by omega), show min t ((l.length : Int) - 1) = (l.length : Int) - 1 by omega]) H2 hf | exact fin _ R' (by rw [apS3 hb (by omega), if_neg (by omega), show min t ((l.length : Int) - 1) = t by omega]) H2 hf
      · refine kr_iload (pc := 330) dX8_does_330 rfl ?_
        refine kr_iload (pc := 332) dX8_does_332 rfl ?_
        refine kr_icmp_ne (pc := 334) dX8_does_334 rfl (fun h334 => ?_) (fun h334 => ?_)
        · refine kr_iconst (pc := 344) dX8_does_344 (by decide) ?_
          refine kr_ireturn (pc := 345) dX8_does_345 rfl ?_
          first | exact fin0 (apSn (by decide) (by omega)) | exact fin0 (by rw [apS3 hb (by omega), if_pos (by omega)]) | exact fin _ R' (by rw [apS3 hb (by omega), if_neg (by omega), show min t ((l.length : Int) - 1) = (l.length : Int) - 1 by omega]) H2 hf | exact fin _ R' (by rw [apS3 hb (by omega), if_neg (by omega), show min t ((l.length : Int) - 1) = t by omega]) H2 hf
        · refine kr_iload (pc := 337) dX8_does_337 rfl ?_
          refine kr_iload (pc := 339) dX8_does_339 rfl ?_
          refine kr_icmp_eq (pc := 341) dX8_does_341 rfl (fun h341 => ?_) (fun h341 => ?_)
          · refine kr_aload_n (pc := 346) dX8_does_346 rfl ?_
            refine kr_iload_n (pc := 347) dX8_does_347 rfl ?_
            refine kr_iload (pc := 348) dX8_does_348 rfl ?_
            refine kr_iload (pc := 350) dX8_does_350 rfl ?_
            refine kr_iload (pc := 352) dX8_does_352 rfl ?_
            refine kr_v4 (pc := 354) dX8_does_354 rfl rfl (by assumption) (Nat.le_of_ble_eq_true rfl) rfl rfl rfl rfl (m_shiftsI (l := l) M (by decide) (by omega) HS (by omega) (by omega) fun R' H2 hf => ?_)
            show amT _ _ _ _ _ _
            refine kr_iconst (pc := 357) dX8_does_357 (by decide) ?_
            refine kr_ireturn (pc := 358) dX8_does_358 rfl ?_
            first | exact fin0 (apSn (by decide) (by omega)) | exact fin0 (by rw [apS3 hb (by omega), if_pos (by omega)]) | exact fin _ R' (by rw [apS3 hb (by omega), if_neg (by omega), show min t ((l.length : Int) - 1) = (l.length : Int) - 1 by omega]) H2 hf | exact fin _ R' (by rw [apS3 hb (by omega), if_neg (by omega), show min t ((l.length : Int) - 1) = t by omega]) H2 hf
          · refine kr_iconst (pc := 344) dX8_does_344 (by decide) ?_
            refine kr_ireturn (pc := 345) dX8_does_345 rfl ?_
            first | exact fin0 (apSn (by decide) (by omega)) | exact fin0 (by rw [apS3 hb (by omega), if_pos (by omega)]) | exact fin _ R' (by rw [apS3 hb (by omega), if_neg (by omega), show min t ((l.length : Int) - 1) = (l.length : Int) - 1 by omega]) H2 hf | exact fin _ R' (by rw [apS3 hb (by omega), if_neg (by omega), show min t ((l.length : Int) - 1) = t by omega]) H2 hf
  · refine kr_iconst (pc := 246) dX8_does_246 (by decide) ?_
    refine kr_ireturn (pc := 247) dX8_does_247 rfl ?_
    first | exact fin0 (apSn (by decide) (by omega)) | exact fin0 (by rw [apS3 hb (by omega), if_pos (by omega)]) | exact fin _ R' (by rw [apS3 hb (by omega), if_neg (by omega), show min t ((l.length : Int) - 1) = (l.length : Int) - 1 by omega]) H2 hf | exact fin _ R' (by rw [apS3 hb (by omega), if_neg (by omega), show min t ((l.length : Int) - 1) = t by omega]) H2 hf
theorem m_does4 {k inv lo s y f t : Int} {n : Ent} {b : Bool} {l : List Ent} (M : MS h m) (hk : 0 ≤ k ∧ k < 100) (hb : lob lo b) (hs : 0 ≤ s ∧ s ≤ 2) (HS : SecM (hiv h (m + 1)) (34 : Int).toNat s.toNat l) (hy : hiv h (m + 6) k.toNat = y) (ht : -1 ≤ t ∧ t ≤ 99)
    (fin : ∀ (l' : List Ent) (R' : Nat → Int), apS b 4 y f t n l = some l' → SecM R' 34 s.toNat l' → (∀ j, offS 34 s.toNat j → R' j = hiv h (m + 1) j) → Q (.inl (some (vI 1)), sa h (m + 1) R')) (fin0 : apS b 4 y f t n l = none → Q (.inl (some (vI 0)), h)) :
    amT mX8_does 83 [vR m, vI 34, vI k, vI inv, vI lo, vI s, vI (f + 1), vI (t + 1), vI 4] [] h Q := by
  have h0 := M.o
  have h1 := M.2.1
  have h2 := M.2.2.1
  obtain ⟨⟨p1, p2⟩, ⟨p3, p4⟩, ⟨p5, p6⟩, ⟨p7, p8⟩, ⟨p9, q0⟩, ⟨q1, q2⟩⟩ := M.e
  have hlo : lo = 0 ∨ lo = 1 := by rcases hb with h | h <;> omega
  have hl6 := HS.2.2.1
  have rk := kix_rng l y
  refine kr_iload (pc := 83) dX8_does_83 rfl ?_
  refine kr_bipush (pc := 85) dX8_does_85 (by decide) ?_
  refine kr_icmp_ne (pc := 87) dX8_does_87 rfl (fun _ => ?_) (fun h => absurd h (by decide))
  refine kr_aload_n (pc := 150) dX8_does_150 rfl ?_
  refine kr_iload_n (pc := 151) dX8_does_151 rfl ?_
  refine kr_iload (pc := 152) dX8_does_152 rfl ?_
  refine kr_v2 (pc := 154) dX8_does_154 rfl rfl (by assumption) (Nat.le_of_ble_eq_true rfl) rfl rfl (m_manyI M (by decide) (by omega) HS ?_)
  show amT _ _ _ _ _ _
  refine kr_istore (pc := 157) dX8_does_157 (show 9 ≤ _ from by simp) (by decide) ?_
  simp only [stl, List.tail_cons, List.tail_nil]
  refine kr_aload_n (pc := 159) dX8_does_159 rfl ?_
  refine kr_iload_n (pc := 160) dX8_does_160 rfl ?_
  refine kr_iload (pc := 161) dX8_does_161 rfl ?_
  refine kr_aload_n (pc := 163) dX8_does_163 rfl ?_
  refine kr_getr (pc := 164) dX8_does_164 rfl rfl (by assumption) (by assumption) ?_
  refine kr_iload_n (pc := 167) dX8_does_167 rfl ?_
  refine kr_iald (pc := 168) dX8_does_168 (by assumption) (by omega) (by omega) rfl ?_
  rw [hy]
  refine kr_v3 (pc := 169) dX8_does_169 rfl rfl (by assumption) (Nat.le_of_ble_eq_true rfl) rfl rfl rfl (m_findI M (by decide) (by omega) HS ?_)
  show amT _ _ _ _ _ _
  refine kr_istore (pc := 172) dX8_does_172 (show 10 ≤ _ from by simp) (by decide) ?_
  simp only [stl, List.tail_cons, List.tail_nil]
  refine kr_iload (pc := 174) dX8_does_174 rfl ?_
  refine kr_iconst (pc := 176) dX8_does_176 (by decide) ?_
  refine kr_icmp_ne (pc := 177) dX8_does_177 rfl (fun _ => ?_) (fun h => absurd h (by decide))
  refine kr_iload (pc := 240) dX8_does_240 rfl ?_
  refine kr_iconst (pc := 242) dX8_does_242 (by decide) ?_
  refine kr_icmp_ne (pc := 243) dX8_does_243 rfl (fun h243 => ?_) (fun h243 => ?_)
  · refine kr_iload (pc := 248) dX8_does_248 rfl ?_
    refine kr_iconst (pc := 250) dX8_does_250 (by decide) ?_
    refine kr_icmp_ne (pc := 251) dX8_does_251 rfl (fun _ => ?_) (fun h => absurd h (by decide))
    refine kr_iload (pc := 301) dX8_does_301 rfl ?_
    refine kr_iconst (pc := 303) dX8_does_303 (by decide) ?_
    refine kr_icmp_ne (pc := 304) dX8_does_304 rfl (fun _ => ?_) (fun h => absurd h (by decide))
    refine kr_iload_n (pc := 359) dX8_does_359 rfl ?_
    refine kr_iload (pc := 360) dX8_does_360 rfl ?_
    refine kr_iload (pc := 362) dX8_does_362 rfl ?_
    refine kr_s3 (pc := 364) dX8_does_364 rfl rfl (Nat.le_of_ble_eq_true rfl) rfl rfl rfl (m_at ⟨by omega, by omega⟩ ⟨by omega, by omega⟩ ⟨by omega, by omega⟩ ?_)
    show amT _ _ _ _ _ _
    refine kr_istore (pc := 367) dX8_does_367 (show 11 ≤ _ from by simp) (by decide) ?_
    simp only [stl, List.tail_cons, List.tail_nil]
    refine kr_iload (pc := 369) dX8_does_369 rfl ?_
    refine kr_bipush (pc := 371) dX8_does_371 (by decide) ?_
    refine kr_icmp_ne (pc := 373) dX8_does_373 rfl (fun _ => ?_) (fun h => absurd h (by decide))
    refine kr_aload_n (pc := 389) dX8_does_389 rfl ?_
    refine kr_getr (pc := 390) dX8_does_390 rfl rfl (by assumption) (by assumption) ?_
    refine kr_iload (pc := 393) dX8_does_393 rfl ?_
    refine kr_iald (pc := 395) dX8_does_395 (by assumption) (by omega) (by omega) rfl ?_
    rw [(sec_e hs HS (by omega)).1]
    refine kr_iload (pc := 396) dX8_does_396 rfl ?_
    refine kr_iconst (pc := 398) dX8_does_398 (by decide) ?_
    refine kr_isub (pc := 399) dX8_does_399 ⟨by omega, by omega⟩ ?_
    refine kr_s2 (pc := 400) dX8_does_400 rfl rfl (Nat.le_of_ble_eq_true rfl) rfl rfl (m_field (sec_e hs HS (by omega)).2 (by decide) ?_)
    show amT _ _ _ _ _ _
    refine kr_istore (pc := 403) dX8_does_403 (show 12 ≤ _ from by simp) (by decide) ?_
    simp only [stl, List.tail_cons, List.tail_nil]
    refine kr_iload (pc := 405) dX8_does_405 rfl ?_
    refine kr_iload (pc := 407) dX8_does_407 rfl ?_
    refine kr_icmp_eq (pc := 409) dX8_does_409 rfl (fun h409 => ?_) (fun h409 => ?_)
    · refine kr_aload_n (pc := 414) dX8_does_414 rfl ?_
      refine kr_getr (pc := 415) dX8_does_415 rfl rfl (by assumption) (by assumption) ?_
      refine kr_iload (pc := 418) dX8_does_418 rfl ?_
      refine kr_iload (pc := 420) dX8_does_420 rfl ?_
      refine kr_bipush (pc := 422) dX8_does_422 (by decide) ?_
      refine kr_icmp_ne (pc := 424) dX8_does_424 rfl (fun _ => ?_) (fun h => absurd h (by decide))
      refine kr_aload_n (pc := 442) dX8_does_442 rfl ?_
      refine kr_getr (pc := 443) dX8_does_443 rfl rfl (by assumption) (by assumption) ?_
      refine kr_iload (pc := 446) dX8_does_446 rfl ?_
      refine kr_iald (pc := 448) dX8_does_448 (by assumption) (by omega) (by omega) rfl ?_
      rw [(sec_e hs HS (by omega)).1]
      refine kr_iload (pc := 449) dX8_does_449 rfl ?_
      refine kr_iconst (pc := 451) dX8_does_451 (by decide) ?_
      refine kr_isub (pc := 452) dX8_does_452 ⟨by omega, by omega⟩ ?_
      refine kr_iload (pc := 453) dX8_does_453 rfl ?_
      refine kr_s3 (pc := 455) dX8_does_455 rfl rfl (Nat.le_of_ble_eq_true rfl) rfl rfl rfl (m_withField (sec_e hs HS (by omega)).2 (by decide) (by omega) ?_)
      show amT _ _ _ _ _ _
      refine kr_iast (pc := 458) dX8_does_458 (by assumption) (by omega) (by omega) ?_
      refine kr_iconst (pc := 459) dX8_does_459 (by decide) ?_
      refine kr_ireturn (pc := 460) dX8_does_460 rfl ?_
      first | exact fin0 (apSn (by decide) (by omega)) | exact fin0 (by rw [apS4 (by decide) (by omega), if_pos (fun hg => h409 (by rw [← hg]; rfl))]) | exact sec_f (by decide) (by decide) hs HS (by omega) (by omega) (by have h9 : fieldE (gt l y) (4 - 4) = f := (by omega); exact h9) fin
    · refine kr_iconst (pc := 412) dX8_does_412 (by decide) ?_
      refine kr_ireturn (pc := 413) dX8_does_413 rfl ?_
      first | exact fin0 (apSn (by decide) (by omega)) | exact fin0 (by rw [apS4 (by decide) (by omega), if_pos (fun hg => h409 (by rw [← hg]; rfl))]) | exact sec_f (by decide) (by decide) hs HS (by omega) (by omega) (by have h9 : fieldE (gt l y) (4 - 4) = f := (by omega); exact h9) fin
  · refine kr_iconst (pc := 246) dX8_does_246 (by decide) ?_
    refine kr_ireturn (pc := 247) dX8_does_247 rfl ?_
    first | exact fin0 (apSn (by decide) (by omega)) | exact fin0 (by rw [apS4 (by decide) (by omega), if_pos (fun hg => h409 (by rw [← hg]; rfl))]) | exact sec_f (by decide) (by decide) hs HS (by omega) (by omega) (by have h9 : fieldE (gt l y) (4 - 4) = f := (by omega); exact h9) fin
theorem m_does5 {k inv lo s y f t : Int} {n : Ent} {b : Bool} {l : List Ent} (M : MS h m) (hk : 0 ≤ k ∧ k < 100) (hb : lob lo b) (hs : 0 ≤ s ∧ s ≤ 2) (HS : SecM (hiv h (m + 1)) (34 : Int).toNat s.toNat l) (hy : hiv h (m + 6) k.toNat = y) (ht : -1 ≤ t ∧ t ≤ 99)
    (fin : ∀ (l' : List Ent) (R' : Nat → Int), apS b 5 y f t n l = some l' → SecM R' 34 s.toNat l' → (∀ j, offS 34 s.toNat j → R' j = hiv h (m + 1) j) → Q (.inl (some (vI 1)), sa h (m + 1) R')) (fin0 : apS b 5 y f t n l = none → Q (.inl (some (vI 0)), h)) :
    amT mX8_does 83 [vR m, vI 34, vI k, vI inv, vI lo, vI s, vI (f + 1), vI (t + 1), vI 5] [] h Q := by
  have h0 := M.o
  have h1 := M.2.1
  have h2 := M.2.2.1
  obtain ⟨⟨p1, p2⟩, ⟨p3, p4⟩, ⟨p5, p6⟩, ⟨p7, p8⟩, ⟨p9, q0⟩, ⟨q1, q2⟩⟩ := M.e
  have hlo : lo = 0 ∨ lo = 1 := by rcases hb with h | h <;> omega
  have hl6 := HS.2.2.1
  have rk := kix_rng l y
  refine kr_iload (pc := 83) dX8_does_83 rfl ?_
  refine kr_bipush (pc := 85) dX8_does_85 (by decide) ?_
  refine kr_icmp_ne (pc := 87) dX8_does_87 rfl (fun _ => ?_) (fun h => absurd h (by decide))
  refine kr_aload_n (pc := 150) dX8_does_150 rfl ?_
  refine kr_iload_n (pc := 151) dX8_does_151 rfl ?_
  refine kr_iload (pc := 152) dX8_does_152 rfl ?_
  refine kr_v2 (pc := 154) dX8_does_154 rfl rfl (by assumption) (Nat.le_of_ble_eq_true rfl) rfl rfl (m_manyI M (by decide) (by omega) HS ?_)
  show amT _ _ _ _ _ _
  refine kr_istore (pc := 157) dX8_does_157 (show 9 ≤ _ from by simp) (by decide) ?_
  simp only [stl, List.tail_cons, List.tail_nil]
  refine kr_aload_n (pc := 159) dX8_does_159 rfl ?_
  refine kr_iload_n (pc := 160) dX8_does_160 rfl ?_
  refine kr_iload (pc := 161) dX8_does_161 rfl ?_
  refine kr_aload_n (pc := 163) dX8_does_163 rfl ?_
  refine kr_getr (pc := 164) dX8_does_164 rfl rfl (by assumption) (by assumption) ?_
  refine kr_iload_n (pc := 167) dX8_does_167 rfl ?_
  refine kr_iald (pc := 168) dX8_does_168 (by assumption) (by omega) (by omega) rfl ?_
  rw [hy]
  refine kr_v3 (pc := 169) dX8_does_169 rfl rfl (by assumption) (Nat.le_of_ble_eq_true rfl) rfl rfl rfl (m_findI M (by decide) (by omega) HS ?_)
  show amT _ _ _ _ _ _
  refine kr_istore (pc := 172) dX8_does_172 (show 10 ≤ _ from by simp) (by decide) ?_
  simp only [stl, List.tail_cons, List.tail_nil]
  refine kr_iload (pc := 174) dX8_does_174 rfl ?_
  refine kr_iconst (pc := 176) dX8_does_176 (by decide) ?_
  refine kr_icmp_ne (pc := 177) dX8_does_177 rfl (fun _ => ?_) (fun h => absurd h (by decide))
  refine kr_iload (pc := 240) dX8_does_240 rfl ?_
  refine kr_iconst (pc := 242) dX8_does_242 (by decide) ?_
  refine kr_icmp_ne (pc := 243) dX8_does_243 rfl (fun h243 => ?_) (fun h243 => ?_)
  · refine kr_iload (pc := 248) dX8_does_248 rfl ?_
    refine kr_iconst (pc := 250) dX8_does_250 (by decide) ?_
    refine kr_icmp_ne (pc := 251) dX8_does_251 rfl (fun _ => ?_) (fun h => absurd h (by decide))
    refine kr_iload (pc := 301) dX8_does_301 rfl ?_
    refine kr_iconst (pc := 303) dX8_does_303 (by decide) ?_
    refine kr_icmp_ne (pc := 304) dX8_does_304 rfl (fun _ => ?_) (fun h => absurd h (by decide))
    refine kr_iload_n (pc := 359) dX8_does_359 rfl ?_
    refine kr_iload (pc := 360) dX8_does_360 rfl ?_
    refine kr_iload (pc := 362) dX8_does_362 rfl ?_
    refine kr_s3 (pc := 364) dX8_does_364 rfl rfl (Nat.le_of_ble_eq_true rfl) rfl rfl rfl (m_at ⟨by omega, by omega⟩ ⟨by omega, by omega⟩ ⟨by omega, by omega⟩ ?_)
    show amT _ _ _ _ _ _
    refine kr_istore (pc := 367) dX8_does_367 (show 11 ≤ _ from by simp) (by decide) ?_
    simp only [stl, List.tail_cons, List.tail_nil]
    refine kr_iload (pc := 369) dX8_does_369 rfl ?_
    refine kr_bipush (pc := 371) dX8_does_371 (by decide) ?_
    refine kr_icmp_ne (pc := 373) dX8_does_373 rfl (fun _ => ?_) (fun h => absurd h (by decide))
    refine kr_aload_n (pc := 389) dX8_does_389 rfl ?_
    refine kr_getr (pc := 390) dX8_does_390 rfl rfl (by assumption) (by assumption) ?_
    refine kr_iload (pc := 393) dX8_does_393 rfl ?_
    refine kr_iald (pc := 395) dX8_does_395 (by assumption) (by omega) (by omega) rfl ?_
    rw [(sec_e hs HS (by omega)).1]
    refine kr_iload (pc := 396) dX8_does_396 rfl ?_
    refine kr_iconst (pc := 398) dX8_does_398 (by decide) ?_
    refine kr_isub (pc := 399) dX8_does_399 ⟨by omega, by omega⟩ ?_
    refine kr_s2 (pc := 400) dX8_does_400 rfl rfl (Nat.le_of_ble_eq_true rfl) rfl rfl (m_field (sec_e hs HS (by omega)).2 (by decide) ?_)
    show amT _ _ _ _ _ _
    refine kr_istore (pc := 403) dX8_does_403 (show 12 ≤ _ from by simp) (by decide) ?_
    simp only [stl, List.tail_cons, List.tail_nil]
    refine kr_iload (pc := 405) dX8_does_405 rfl ?_
    refine kr_iload (pc := 407) dX8_does_407 rfl ?_
    refine kr_icmp_eq (pc := 409) dX8_does_409 rfl (fun h409 => ?_) (fun h409 => ?_)
    · refine kr_aload_n (pc := 414) dX8_does_414 rfl ?_
      refine kr_getr (pc := 415) dX8_does_415 rfl rfl (by assumption) (by assumption) ?_
      refine kr_iload (pc := 418) dX8_does_418 rfl ?_
      refine kr_iload (pc := 420) dX8_does_420 rfl ?_
      refine kr_bipush (pc := 422) dX8_does_422 (by decide) ?_
      refine kr_icmp_ne (pc := 424) dX8_does_424 rfl (fun _ => ?_) (fun h => absurd h (by decide))
      refine kr_aload_n (pc := 442) dX8_does_442 rfl ?_
      refine kr_getr (pc := 443) dX8_does_443 rfl rfl (by assumption) (by assumption) ?_
      refine kr_iload (pc := 446) dX8_does_446 rfl ?_
      refine kr_iald (pc := 448) dX8_does_448 (by assumption) (by omega) (by omega) rfl ?_
      rw [(sec_e hs HS (by omega)).1]
      refine kr_iload (pc := 449) dX8_does_449 rfl ?_
      refine kr_iconst (pc := 451) dX8_does_451 (by decide) ?_
      refine kr_isub (pc := 452) dX8_does_452 ⟨by omega, by omega⟩ ?_
      refine kr_iload (pc := 453) dX8_does_453 rfl ?_
      refine kr_s3 (pc := 455) dX8_does_455 rfl rfl (Nat.le_of_ble_eq_true rfl) rfl rfl rfl (m_withField (sec_e hs HS (by omega)).2 (by decide) (by omega) ?_)
      show amT _ _ _ _ _ _
      refine kr_iast (pc := 458) dX8_does_458 (by assumption) (by omega) (by omega) ?_
      refine kr_iconst (pc := 459) dX8_does_459 (by decide) ?_
      refine kr_ireturn (pc := 460) dX8_does_460 rfl ?_
      first | exact fin0 (apSn (by decide) (by omega)) | exact fin0 (by rw [apS4 (by decide) (by omega), if_pos (fun hg => h409 (by rw [← hg]; rfl))]) | exact sec_f (by decide) (by decide) hs HS (by omega) (by omega) (by have h9 : fieldE (gt l y) (5 - 4) = f := (by omega); exact h9) fin
    · refine kr_iconst (pc := 412) dX8_does_412 (by decide) ?_
      refine kr_ireturn (pc := 413) dX8_does_413 rfl ?_
      first | exact fin0 (apSn (by decide) (by omega)) | exact fin0 (by rw [apS4 (by decide) (by omega), if_pos (fun hg => h409 (by rw [← hg]; rfl))]) | exact sec_f (by decide) (by decide) hs HS (by omega) (by omega) (by have h9 : fieldE (gt l y) (5 - 4) = f := (by omega); exact h9) fin
  · refine kr_iconst (pc := 246) dX8_does_246 (by decide) ?_
    refine kr_ireturn (pc := 247) dX8_does_247 rfl ?_
    first | exact fin0 (apSn (by decide) (by omega)) | exact fin0 (by rw [apS4 (by decide) (by omega), if_pos (fun hg => h409 (by rw [← hg]; rfl))]) | exact sec_f (by decide) (by decide) hs HS (by omega) (by omega) (by have h9 : fieldE (gt l y) (5 - 4) = f := (by omega); exact h9) fin
theorem m_does6 {k inv lo s y f t : Int} {n : Ent} {b : Bool} {l : List Ent} (M : MS h m) (hk : 0 ≤ k ∧ k < 100) (hb : lob lo b) (hs : 0 ≤ s ∧ s ≤ 2) (HS : SecM (hiv h (m + 1)) (34 : Int).toNat s.toNat l) (hy : hiv h (m + 6) k.toNat = y) (ht : -1 ≤ t ∧ t ≤ 2)
    (fin : ∀ (l' : List Ent) (R' : Nat → Int), apS b 6 y f t n l = some l' → SecM R' 34 s.toNat l' → (∀ j, offS 34 s.toNat j → R' j = hiv h (m + 1) j) → Q (.inl (some (vI 1)), sa h (m + 1) R')) (fin0 : apS b 6 y f t n l = none → Q (.inl (some (vI 0)), h)) :
    amT mX8_does 83 [vR m, vI 34, vI k, vI inv, vI lo, vI s, vI (f + 1), vI (t + 1), vI 6] [] h Q := by
  have h0 := M.o
  have h1 := M.2.1
  have h2 := M.2.2.1
  obtain ⟨⟨p1, p2⟩, ⟨p3, p4⟩, ⟨p5, p6⟩, ⟨p7, p8⟩, ⟨p9, q0⟩, ⟨q1, q2⟩⟩ := M.e
  have hlo : lo = 0 ∨ lo = 1 := by rcases hb with h | h <;> omega
  have hl6 := HS.2.2.1
  have rk := kix_rng l y
  refine kr_iload (pc := 83) dX8_does_83 rfl ?_
  refine kr_bipush (pc := 85) dX8_does_85 (by decide) ?_
  refine kr_icmp_ne (pc := 87) dX8_does_87 rfl (fun _ => ?_) (fun h => absurd h (by decide))
  refine kr_aload_n (pc := 150) dX8_does_150 rfl ?_
  refine kr_iload_n (pc := 151) dX8_does_151 rfl ?_
  refine kr_iload (pc := 152) dX8_does_152 rfl ?_
  refine kr_v2 (pc := 154) dX8_does_154 rfl rfl (by assumption) (Nat.le_of_ble_eq_true rfl) rfl rfl (m_manyI M (by decide) (by omega) HS ?_)
  show amT _ _ _ _ _ _
  refine kr_istore (pc := 157) dX8_does_157 (show 9 ≤ _ from by simp) (by decide) ?_
  simp only [stl, List.tail_cons, List.tail_nil]
  refine kr_aload_n (pc := 159) dX8_does_159 rfl ?_
  refine kr_iload_n (pc := 160) dX8_does_160 rfl ?_
  refine kr_iload (pc := 161) dX8_does_161 rfl ?_
  refine kr_aload_n (pc := 163) dX8_does_163 rfl ?_
  refine kr_getr (pc := 164) dX8_does_164 rfl rfl (by assumption) (by assumption) ?_
  refine kr_iload_n (pc := 167) dX8_does_167 rfl ?_
  refine kr_iald (pc := 168) dX8_does_168 (by assumption) (by omega) (by omega) rfl ?_
  rw [hy]
  refine kr_v3 (pc := 169) dX8_does_169 rfl rfl (by assumption) (Nat.le_of_ble_eq_true rfl) rfl rfl rfl (m_findI M (by decide) (by omega) HS ?_)
  show amT _ _ _ _ _ _
  refine kr_istore (pc := 172) dX8_does_172 (show 10 ≤ _ from by simp) (by decide) ?_
  simp only [stl, List.tail_cons, List.tail_nil]
  refine kr_iload (pc := 174) dX8_does_174 rfl ?_
  refine kr_iconst (pc := 176) dX8_does_176 (by decide) ?_
  refine kr_icmp_ne (pc := 177) dX8_does_177 rfl (fun _ => ?_) (fun h => absurd h (by decide))
  refine kr_iload (pc := 240) dX8_does_240 rfl ?_
  refine kr_iconst (pc := 242) dX8_does_242 (by decide) ?_
  refine kr_icmp_ne (pc := 243) dX8_does_243 rfl (fun h243 => ?_) (fun h243 => ?_)
  · refine kr_iload (pc := 248) dX8_does_248 rfl ?_
    refine kr_iconst (pc := 250) dX8_does_250 (by decide) ?_
    refine kr_icmp_ne (pc := 251) dX8_does_251 rfl (fun _ => ?_) (fun h => absurd h (by decide))
    refine kr_iload (pc := 301) dX8_does_301 rfl ?_
    refine kr_iconst (pc := 303) dX8_does_303 (by decide) ?_
    refine kr_icmp_ne (pc := 304) dX8_does_304 rfl (fun _ => ?_) (fun h => absurd h (by decide))
    refine kr_iload_n (pc := 359) dX8_does_359 rfl ?_
    refine kr_iload (pc := 360) dX8_does_360 rfl ?_
    refine kr_iload (pc := 362) dX8_does_362 rfl ?_
    refine kr_s3 (pc := 364) dX8_does_364 rfl rfl (Nat.le_of_ble_eq_true rfl) rfl rfl rfl (m_at ⟨by omega, by omega⟩ ⟨by omega, by omega⟩ ⟨by omega, by omega⟩ ?_)
    show amT _ _ _ _ _ _
    refine kr_istore (pc := 367) dX8_does_367 (show 11 ≤ _ from by simp) (by decide) ?_
    simp only [stl, List.tail_cons, List.tail_nil]
    refine kr_iload (pc := 369) dX8_does_369 rfl ?_
    refine kr_bipush (pc := 371) dX8_does_371 (by decide) ?_
    refine kr_icmp_ne (pc := 373) dX8_does_373 rfl (fun h => absurd h (by decide)) (fun _ => ?_)
    refine kr_aload_n (pc := 376) dX8_does_376 rfl ?_
    refine kr_getr (pc := 377) dX8_does_377 rfl rfl (by assumption) (by assumption) ?_
    refine kr_iload (pc := 380) dX8_does_380 rfl ?_
    refine kr_iald (pc := 382) dX8_does_382 (by assumption) (by omega) (by omega) rfl ?_
    rw [(sec_e hs HS (by omega)).1]
    refine kr_s1 (pc := 383) dX8_does_383 rfl rfl (Nat.le_of_ble_eq_true rfl) rfl (m_group (sec_e hs HS (by omega)).2 ?_)
    show amT _ _ _ _ _ _
    refine kr_goto (pc := 386) dX8_does_386 rfl ?_
    refine kr_istore (pc := 403) dX8_does_403 (show 12 ≤ _ from by simp) (by decide) ?_
    simp only [stl, List.tail_cons, List.tail_nil]
    refine kr_iload (pc := 405) dX8_does_405 rfl ?_
    refine kr_iload (pc := 407) dX8_does_407 rfl ?_
    refine kr_icmp_eq (pc := 409) dX8_does_409 rfl (fun h409 => ?_) (fun h409 => ?_)
    · refine kr_aload_n (pc := 414) dX8_does_414 rfl ?_
      refine kr_getr (pc := 415) dX8_does_415 rfl rfl (by assumption) (by assumption) ?_
      refine kr_iload (pc := 418) dX8_does_418 rfl ?_
      refine kr_iload (pc := 420) dX8_does_420 rfl ?_
      refine kr_bipush (pc := 422) dX8_does_422 (by decide) ?_
      refine kr_icmp_ne (pc := 424) dX8_does_424 rfl (fun h => absurd h (by decide)) (fun _ => ?_)
      refine kr_aload_n (pc := 427) dX8_does_427 rfl ?_
      refine kr_getr (pc := 428) dX8_does_428 rfl rfl (by assumption) (by assumption) ?_
      refine kr_iload (pc := 431) dX8_does_431 rfl ?_
      refine kr_iald (pc := 433) dX8_does_433 (by assumption) (by omega) (by omega) rfl ?_
      rw [(sec_e hs HS (by omega)).1]
      refine kr_iload (pc := 434) dX8_does_434 rfl ?_
      refine kr_s2 (pc := 436) dX8_does_436 rfl rfl (Nat.le_of_ble_eq_true rfl) rfl rfl (m_withGroup (sec_e hs HS (by omega)).2 (by omega) ?_)
      show amT _ _ _ _ _ _
      refine kr_goto (pc := 439) dX8_does_439 rfl ?_
      refine kr_iast (pc := 458) dX8_does_458 (by assumption) (by omega) (by omega) ?_
      refine kr_iconst (pc := 459) dX8_does_459 (by decide) ?_
      refine kr_ireturn (pc := 460) dX8_does_460 rfl ?_
      first | exact fin0 (apSn (by decide) (by omega)) | exact fin0 (by rw [apS4 (by decide) (by omega), if_pos (fun hg => h409 (by rw [← hg]; rfl))]) | exact sec_f (by decide) (by decide) hs HS (by omega) (by omega) (by have h9 : (gt l y).2.2.2 = f := (by omega); exact h9) fin
    · refine kr_iconst (pc := 412) dX8_does_412 (by decide) ?_
      refine kr_ireturn (pc := 413) dX8_does_413 rfl ?_
      first | exact fin0 (apSn (by decide) (by omega)) | exact fin0 (by rw [apS4 (by decide) (by omega), if_pos (fun hg => h409 (by rw [← hg]; rfl))]) | exact sec_f (by decide) (by decide) hs HS (by omega) (by omega) (by have h9 : (gt l y).2.2.2 = f := (by omega); exact h9) fin
  · refine kr_iconst (pc := 246) dX8_does_246 (by decide) ?_
    refine kr_ireturn (pc := 247) dX8_does_247 rfl ?_
    first | exact fin0 (apSn (by decide) (by omega)) | exact fin0 (by rw [apS4 (by decide) (by omega), if_pos (fun hg => h409 (by rw [← hg]; rfl))]) | exact sec_f (by decide) (by decide) hs HS (by omega) (by omega) (by have h9 : (gt l y).2.2.2 = f := (by omega); exact h9) fin
end MA
