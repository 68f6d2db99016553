/-! THE STEPS that look at the heap or change it -/
section AS2
variable {Γ : aG} {μ : aM} {p : Program} {l : Launch} {e : Env} {R : Room} {s : State} {m : MethodId} {args : Array Value} {below : List Frame} {meth : Method} {c : Code} {H : Heap} {locs : List Loc} {cells slots : Nat} {Q : State → Prop}
variable {pc len : Nat} {ls : Array Slot} {L S : List aV} {h : aH} {q : aC}
theorem SF.hts (F : SF Γ) (C : CX Γ μ p R s m args meth c) : ∀ w ∈ gW, w.before args s = true := fun w hw => F.1 w hw args s C.2.2.2.2.2.2.2.2.2.2.1
theorem SF.tb (F : SF Γ) (C : CX Γ μ p R s m args meth c) {w : Cond} (h : w ∈ lw_tbl) (g : goodWord w = true) : w.before args s = true := F.hts C w (gW_mem h g)
theorem SF.K (F : SF Γ) (C : CX Γ μ p R s m args meth c) : va_K Γ.2.1 vwCl [] s := F.2.1.moved C.2.2.2.2.2.2.2.2.2.2.1.alike
theorem SF.lays (F : SF Γ) : ∀ k, k ≤ 8 → ∀ w ∈ u_ws (am_cn k) (am_TT k) (am_fN k), w ∈ gW := fun k hk w hw => gW_mem (tw_l k hk w hw).1 (tw_l k hk w hw).2
theorem HP.obj (hP : HP Γ h H) {a k : Nat} (hk : k ≤ 8) (hs : hsh h a = (k + 1, am_fN k)) : gb Γ ≤ a ∧ t_OB a (Γ.2.1.1 k) (am_fN k) (Γ.2.1.2 k) H (fun j => am_fv k j (hiv h a j) (hrf h a j)) := by
  have e1 : (hsh h a).1 = k + 1 := by rw [hs]
  have e2 : (hsh h a).2 = am_fN k := by rw [hs]
  obtain ⟨p1, -, hc⟩ := hP.2.2.2.2.1 a (by omega) (by omega)
  refine ⟨p1, ?_⟩
  rcases hc with ⟨h1, h2, h3, h4⟩ | ⟨h1, h2⟩ | ⟨h1, h2⟩ | ⟨h1, h2⟩ | ⟨h1, h2, h3, h4⟩
  · rw [e1, e2] at h4
    simpa using h4
  all_goals omega
theorem as_gf {ix : Nat} (F : SF Γ) (C : CX Γ μ p R s m args meth c) (hP : HP Γ h H) (hC : LC Γ locs) (hL : LH ls (am_mx μ) L) (hV : ∀ v ∈ S, okv v) (hd : decode (am_cc μ) pc = .ok (.getfield ix, 3))
    (hi : am_gf (am_own μ) pc L S h ix = some q) : AG Γ μ p l e R s m args below meth c H locs cells slots Q pc ls S h q := by
  unfold am_gf at hi
  split at hi
  · rename_i a S' cc k hlk
    obtain ⟨hc8, hk, hw⟩ := tw_f _ _ (am_lk_mem hlk)
    dsimp only at hc8 hk hw
    split at hi
    · rename_i hs
      obtain ⟨-, cell, q1, q2, q3, q4⟩ := hP.obj hc8 hs
      obtain ⟨hS, hfc, kC, hkC, hkind⟩ := (F.K C).1 cc _ (tw_cl cc hc8)
      obtain ⟨cf, kf, fi, f, hf, hsl⟩ := hS k hk
      have hst := (u_facts hfc hkC (u_lays (F.hts C) (F.lays cc hc8) hk) hf).1
      have key : ∀ v : Value, am_fv cc k (hiv h a k) (hrf h a k) = v → W p l e R s m args below meth c H locs cells slots Q (F0 m (pc + 3) ls (v :: S'.map rv)) → W p l e R s m args below meth c H locs cells slots Q (F0 m pc ls (.ref a :: S'.map rv)) := by
        intro v hv kk
        refine W.getf C.1 C.2.1 C.2.2.2.2.1 (F.tb C hw rfl) hf hst q1 (by rw [q3]; exact fun z => by cases z) (v := v) ?_ rfl rfl hd kk
        rw [hsl, q4 k hk]
        exact congrArg some hv
      obtain ⟨v1, v2⟩ := okc hV
      split at hi
      · rename_i hz
        split at hi
        · rename_i b hb
          cases hi
          exact AG.same hP hC fun kk => key (.ref b) (by rw [am_fv, if_pos hz, hb]; rfl) (kk ls hL (okn (show okv (.inr (.inr b)) from trivial) v2))
        · cases hi
      · rename_i hz
        cases hi
        exact AG.same hP hC fun kk => key (.int (Int32.ofInt (hiv h a k))) (by rw [am_fv, if_neg hz]) (kk ls hL (okn (show okv (.inl (hiv h a k)) from hP.2.2.2.2.2.1 a k) v2))
    · cases hi
  · cases hi
theorem apart9 (F : SF Γ) (C : CX Γ μ p R s m args meth c) {k : Nat} (hk : k ≤ 8) : ∀ x y, x < am_fN k → y < am_fN k → x ≠ y → (Γ.2.1.2 k) x ≠ (Γ.2.1.2 k) y :=
  va_apart (own := am_cn k) (F.hts C) (F.lays k hk) (am_ty k) (tw_ty k hk) (tw_nm k hk) (F.K C) (tw_cl k hk)
/-- a field is written: the machine's part, for a value that fits -/
theorem as_put {ix a cc k : Nat} {v : Value} {st : List Value} (F : SF Γ) (C : CX Γ μ p R s m args meth c) (hP : HP Γ h H) (hd : decode (am_cc μ) pc = .ok (.putfield ix, 3)) (hlk : am_lk ix (am_frT (am_own μ)) = some (cc, k)) (hs : hsh h a = (cc + 1, am_fN cc))
    (hf : am_ff cc k = true → am_ini μ = true ∧ cc = am_own μ) (hn : narrow (am_ty cc k) v = v) (hfit : fits (am_ty cc k) v = true)
    (kk : ∀ (H' : Heap) (q : Loc), gb Γ ≤ q.base → H'.size = H.size → (∀ b, b ≠ a → H'[b]? = H[b]?) → t_OB a (Γ.2.1.1 cc) (am_fN cc) (Γ.2.1.2 cc) H' (updV (fun j => am_fv cc j (hiv h a j) (hrf h a j)) k v) → W p l e R s m args below meth c H' (locs ++ [q]) cells slots Q (F0 m (pc + 3) ls st)) :
    W p l e R s m args below meth c H locs cells slots Q (F0 m pc ls (v :: .ref a :: st)) := by
  obtain ⟨hc8, hk, hw⟩ := tw_f _ _ (am_lk_mem hlk)
  dsimp only at hc8 hk hw
  obtain ⟨hb, cell, q1, q2, q3, q4⟩ := hP.obj hc8 hs
  obtain ⟨hS, hfc, kC, hkC, hkind⟩ := (F.K C).1 cc _ (tw_cl cc hc8)
  obtain ⟨cf, kf, fi, f, hf9, hsl⟩ := hS k hk
  have hlay := F.hts C _ (F.lays cc hc8 _ (u_in_lay hk))
  have hst := (u_facts hfc hkC (u_lays (F.hts C) (F.lays cc hc8) hk) hf9).1
  obtain ⟨-, hff, hdc⟩ := tw_fk cc hc8 k hk
  have fin : ∀ (H' : Heap), H'[a]? = some (cell.setSlot f.slot v) → H'.size = H.size → (∀ q, q ≠ a → H'[q]? = H[q]?) → W p l e R s m args below meth c H' (locs ++ [⟨a, f.slot⟩]) cells slots Q (F0 m (pc + 3) ls st) := by
    intro H' e1 e2 e3
    rw [hsl] at e1
    exact kk H' _ hb e2 e3 ⟨_, e1, q2, q3, t_set q4 (apart9 F C hc8) hk v⟩
  by_cases hfin : am_ff cc k = true
  · obtain ⟨hini, ho⟩ := hf hfin
    unfold u_lay at hlay
    rw [if_pos (by rw [hff]; exact hfin)] at hlay
    have hcf : m.cls = cf := by
      obtain ⟨_, _, c', _, _, _, -, -, hf', -, -, -, hown2, -⟩ := Cond.laysFinal_spec hlay
      have e1 : c' = cf := by have := hf9.symm.trans hf'; simp at this; exact this.1.symm
      have e2 : s.vm.findClass (am_TT cc k).1 = some m.cls := by rw [hdc, ho]; exact C.2.2.2.2.1
      rw [← e1]
      exact Option.some.inj (e2.symm.trans hown2)
    refine W.putFinK C.1 C.2.1 C.2.2.2.2.1 (F.tb C hw rfl) hf9 hst hcf (C.2.2.2.2.2.2.2.1 hini) (by rw [q2]; exact u_fits hfc hkC hkind (Or.inr hlay) hf9 (tw_ty cc hc8 k hk) hn hfit) q1 q3 (by rw [hsl]; exact k2_hasslot (q4 k hk)) rfl rfl hd fin
  · unfold u_lay at hlay
    rw [if_neg (by rw [hff]; exact hfin)] at hlay
    refine W.putK C.1 C.2.1 (f := f) ⟨C.2.2.2.2.1, F.tb C hw rfl, ⟨_, _, _, hf9⟩, hst⟩ (by rw [q2]; exact u_store hfc hkC hkind hlay hf9 (tw_ty cc hc8 k hk) hn hfit) q1 q3 (by rw [hsl]; exact k2_hasslot (q4 k hk)) rfl rfl hd fin
theorem as_pf {ix : Nat} (F : SF Γ) (C : CX Γ μ p R s m args meth c) (hP : HP Γ h H) (hC : LC Γ locs) (hL : LH ls (am_mx μ) L) (hV : ∀ v ∈ S, okv v) (hd : decode (am_cc μ) pc = .ok (.putfield ix, 3))
    (hi : am_pf (am_own μ) (am_ini μ) pc L S h ix = some q) : AG Γ μ p l e R s m args below meth c H locs cells slots Q pc ls S h q := by
  unfold am_pf at hi
  split at hi
  · rename_i x a S' cc k hlk
    obtain ⟨hc8, hk, hw⟩ := tw_f _ _ (am_lk_mem hlk)
    dsimp only at hc8 hk hw
    split at hi
    · rename_i hs
      obtain ⟨hs, hty, hf⟩ := hs
      cases hi
      obtain ⟨v1, v2⟩ := okc hV
      obtain ⟨-, v3⟩ := okc v2
      intro _ _ kk
      have hz : am_fk cc k ≠ 0 := by omega
      have e1 : (hsh h a).1 = cc + 1 := by rw [hs]
      have e2 : (hsh h a).2 = am_fN cc := by rw [hs]
      refine as_put F C hP hd hlk hs hf ?_ ?_ fun H' q9 hq hsz ho hob => ?_
      · obtain ⟨ht, -, -⟩ := tw_fk cc hc8 k hk
        rcases hty with h1 | ⟨h1, h2⟩ <;> rcases ht with ⟨g1, -⟩ | ⟨g1, g2⟩ | ⟨g1, g2⟩ <;> first | omega | skip
        · rw [g2]; rfl
        · rw [g2]; rcases h2 with rfl | rfl <;> rfl
      · obtain ⟨ht, -, -⟩ := tw_fk cc hc8 k hk
        rcases hty with h1 | ⟨h1, h2⟩ <;> rcases ht with ⟨g1, -⟩ | ⟨g1, g2⟩ | ⟨g1, g2⟩ <;> first | omega | skip
        · rw [g2]; rfl
        · rw [g2]; rcases h2 with rfl | rfl <;> rfl
      · have k9 := kk H' (locs ++ [q9]) ls (hP.puti v1 (by omega) (by omega) hsz ho ?_) hL v3 (hC.snoc hq) (Nat.le_refl _) (Nat.le_refl _)
        · simpa [hwi, hnx, hks] using k9
        · rw [e1, e2]
          refine Or.inl ⟨by omega, by omega, rfl, ?_⟩
          refine hob.to fun j _ => ?_
          show (if j = k then _ else _) = am_fv cc j (if j = k then x else hiv h a j) (hrf h a j)
          by_cases hj : j = k
          · subst hj
            rw [if_pos rfl, if_pos rfl, am_fv, if_neg hz]
            rfl
          · rw [if_neg hj, if_neg hj]
    · cases hi
  · rename_i b a S' cc k hlk
    obtain ⟨hc8, hk, hw⟩ := tw_f _ _ (am_lk_mem hlk)
    dsimp only at hc8 hk hw
    split at hi
    · rename_i hs
      obtain ⟨hs, hz, hf⟩ := hs
      cases hi
      obtain ⟨v1, v2⟩ := okc hV
      obtain ⟨-, v3⟩ := okc v2
      intro _ _ kk
      have e1 : (hsh h a).1 = cc + 1 := by rw [hs]
      have e2 : (hsh h a).2 = am_fN cc := by rw [hs]
      have hrt : am_rty (am_ty cc k) = true := by
        obtain ⟨ht, -, -⟩ := tw_fk cc hc8 k hk
        rcases ht with ⟨-, g⟩ | ⟨g1, g2⟩ | ⟨g1, g2⟩
        · exact g
        · omega
        · omega
      refine as_put F C hP hd hlk hs hf ?_ ?_ fun H' q9 hq hsz ho hob => ?_
      · generalize am_ty cc k = t at hrt
        cases t <;> first | rfl | cases hrt
      · generalize am_ty cc k = t at hrt
        cases t <;> first | rfl | cases hrt
      · have k9 := kk H' (locs ++ [q9]) ls (hP.putr (by omega) (by omega) hsz ho ?_) hL v3 (hC.snoc hq) (Nat.le_refl _) (Nat.le_refl _)
        · simpa [hwr, hnx, hks] using k9
        · rw [e1, e2]
          refine Or.inl ⟨by omega, by omega, rfl, ?_⟩
          refine hob.to fun j _ => ?_
          show (if j = k then _ else _) = am_fv cc j (hiv h a j) (if j = k then some b else hrf h a j)
          by_cases hj : j = k
          · subst hj
            rw [if_pos rfl, if_pos rfl, am_fv, if_pos hz]
            rfl
          · rw [if_neg hj, if_neg hj]
    · cases hi
  · cases hi
end AS2
