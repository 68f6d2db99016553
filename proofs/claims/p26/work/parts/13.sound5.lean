/-! THE STEPS on arrays; new cells -/
section AS3
variable {Γ : aG} {μ : aM} {p : Program} {l : Launch} {e : Env} {R : Room} {s : State} {m : MethodId} {args : Array Value} {below : List Frame} {meth : Method} {c : Code} {H : Heap} {locs : List Loc} {cells slots : Nat} {Q : State → Prop}
variable {pc len : Nat} {ls : Array Slot} {L S : List aV} {h : aH} {q : aC}
theorem HP.ints (hP : HP Γ h H) {a : Nat} (hs : (hsh h a).1 = 20) : gb Γ ≤ a ∧ H[a]? = some (arrV Γ.2.2.1.1 (hsh h a).2 (fun j => .int (Int32.ofInt (hiv h a j)))) := by
  obtain ⟨p1, -, hc⟩ := hP.2.2.2.2.1 a (by omega) (by omega)
  refine ⟨p1, ?_⟩
  rcases hc with ⟨h1, h2, h3, h4⟩ | ⟨h1, h2⟩ | ⟨h1, h2⟩ | ⟨h1, h2⟩ | ⟨h1, h2, h3, h4⟩ <;> first | exact h2 | omega
theorem HP.longs (hP : HP Γ h H) {a : Nat} (hs : (hsh h a).1 = 21) : gb Γ ≤ a ∧ H[a]? = some (arrV Γ.2.2.1.2.1 (hsh h a).2 (fun j => .long (Int64.ofInt (hiv h a j)))) := by
  obtain ⟨p1, -, hc⟩ := hP.2.2.2.2.1 a (by omega) (by omega)
  refine ⟨p1, ?_⟩
  rcases hc with ⟨h1, h2, h3, h4⟩ | ⟨h1, h2⟩ | ⟨h1, h2⟩ | ⟨h1, h2⟩ | ⟨h1, h2, h3, h4⟩ <;> first | exact h2 | omega
theorem HP.rows (hP : HP Γ h H) {a : Nat} (hs : (hsh h a).1 = 40) : gb Γ ≤ a ∧ H[a]? = some (arrV Γ.2.2.1.2.2 (hsh h a).2 (fun j => va_rf (hrf h a j))) := by
  obtain ⟨p1, -, hc⟩ := hP.2.2.2.2.1 a (by omega) (by omega)
  refine ⟨p1, ?_⟩
  rcases hc with ⟨h1, h2, h3, h4⟩ | ⟨h1, h2⟩ | ⟨h1, h2⟩ | ⟨h1, h2⟩ | ⟨h1, h2, h3, h4⟩ <;> first | exact h2 | omega
theorem HP.refs (hP : HP Γ h H) {a : Nat} (h1 : 22 ≤ (hsh h a).1) (h2 : (hsh h a).1 ≤ 30) : gb Γ ≤ a ∧ am_ac ((hsh h a).1 - 22) = true ∧ H[a]? = some (arrV (Γ.2.2.2 ((hsh h a).1 - 22)) (hsh h a).2 (fun j => va_rf (hrf h a j))) := by
  obtain ⟨p1, -, hc⟩ := hP.2.2.2.2.1 a (by omega) (by omega)
  refine ⟨p1, ?_⟩
  rcases hc with ⟨h1, h2, h3, h4⟩ | ⟨h1, h2⟩ | ⟨h1, h2⟩ | ⟨h1, h2⟩ | ⟨h1, h2, h3, h4⟩ <;> first | exact ⟨h3, h4⟩ | omega
theorem SF.arr (F : SF Γ) (C : CX Γ μ p R s m args meth c) : ArrOfT s Γ.2.2.1.1 .int ∧ ArrOfT s Γ.2.2.1.2.1 .int ∧ ArrOfT s Γ.2.2.1.2.2 (.array .int) :=
  have ha := C.2.2.2.2.2.2.2.2.2.2.1.alike
  ⟨arrOfT_moved ha F.2.2.1.1, arrOfT_moved ha F.2.2.2.1.1, arrOfT_moved ha F.2.2.2.2.1.1⟩
theorem HP.script (hP : HP Γ h H) (C : CX Γ μ p R s m args meth c) {a : Nat} (hs : (hsh h a).1 = 50) : ∃ scr : Cell, H[a]? = some scr ∧ s.isArrayOf scr .int ∧ scr.vm ≠ .unknown ∧ scr.slots.size = (hsh h a).2 ∧ ∀ j : Nat, j < (hsh h a).2 → scr.slots[j]? = some (.int (Int32.ofInt (hiv h a j))) := by
  obtain ⟨p1, hX, -⟩ := hP.2.2.2.1 a hs
  obtain ⟨scr, h1, h2, h3, h4, h5⟩ := hX.moved C.2.2.2.2.2.2.2.2.2.2.1.alike
  exact ⟨scr, by rw [hP.2.2.1 a p1]; exact h1, h2, h3, h4, h5⟩
theorem as_al (F : SF Γ) (C : CX Γ μ p R s m args meth c) (hP : HP Γ h H) (hC : LC Γ locs) (hL : LH ls (am_mx μ) L) (hV : ∀ v ∈ S, okv v) (hd : decode (am_cc μ) pc = .ok (.arraylength, 1))
    (hi : am_al pc L S h = some q) : AG Γ μ p l e R s m args below meth c H locs cells slots Q pc ls S h q := by
  unfold am_al at hi
  split at hi
  · rename_i a S'
    split at hi
    · rename_i hs
      cases hi
      obtain ⟨v1, v2⟩ := okc hV
      obtain ⟨A1, A2, A3⟩ := F.arr C
      refine AG.same hP hC fun kk => ?_
      by_cases h5 : (hsh h a).1 = 50
      · have hsz := (hP.2.2.2.1 a h5).2.2
        obtain ⟨scr, g1, g2, g3, g4, g5⟩ := hP.script C h5
        refine W.alen (n := Int32.ofInt ((hsh h a).2 : Int)) C.1 C.2.1 g1 g2 (by rw [g4]; exact Int32.ofInt_eq_ofNat.symm) rfl rfl hd (kk ls hL (okn (show inr32 _ by constructor <;> omega) v2))
      · have hsz := (hP.2.2.2.2.1 a (by omega) h5).2.1
        have key : ∀ (cA : ClassId) (g : Nat → Value) (ty : FieldType), H[a]? = some (arrV cA (hsh h a).2 g) → s.isArrayOf (arrV cA (hsh h a).2 g) ty → W p l e R s m args below meth c H locs cells slots Q (F0 m pc ls (.ref a :: S'.map rv)) := fun cA g ty g1 g2 =>
          W.alen (n := Int32.ofInt ((hsh h a).2 : Int)) C.1 C.2.1 g1 g2 (by rw [arrV_size]; exact Int32.ofInt_eq_ofNat.symm) rfl rfl hd (kk ls hL (okn (show inr32 _ by constructor <;> omega) v2))
        obtain ⟨-, -, hc⟩ := hP.2.2.2.2.1 a (by omega) h5
        rcases hc with ⟨h1, h2, h3, h4⟩ | ⟨h1, h2⟩ | ⟨h1, h2⟩ | ⟨h1, h2⟩ | ⟨h1, h2, h3, h4⟩
        · omega
        · exact key _ _ _ h2 (A1 _ _)
        · exact key _ _ _ h2 (A2 _ _)
        · exact key _ _ _ h2 (A3 _ _)
        · exact key _ _ _ h4 (arrOfT_moved C.2.2.2.2.2.2.2.2.2.2.1.alike (F.2.2.2.2.2.1 _ h3).1.1 _ _)
    · cases hi
  · cases hi
theorem as_il (F : SF Γ) (C : CX Γ μ p R s m args meth c) (hP : HP Γ h H) (hC : LC Γ locs) (hL : LH ls (am_mx μ) L) (hV : ∀ v ∈ S, okv v) (hd : decode (am_cc μ) pc = .ok (.iaload, 1))
    (hi : am_il pc L S h = some q) : AG Γ μ p l e R s m args below meth c H locs cells slots Q pc ls S h q := by
  unfold am_il at hi
  split at hi
  · rename_i i a S'
    split at hi
    · rename_i hs
      cases hi
      obtain ⟨v1, v2⟩ := okc hV
      obtain ⟨-, v3⟩ := okc v2
      have w1 : inr32 i := v1
      obtain ⟨A1, A2, A3⟩ := F.arr C
      have hin := i32_in w1 hs.2.1 hs.2.2
      have hlt : i.toNat < (hsh h a).2 := by omega
      refine AG.same hP hC fun kk => ?_
      have k9 := kk ls hL (okn (show okv (.inl (hiv h a i.toNat)) from hP.2.2.2.2.2.1 a _) v3)
      by_cases h5 : (hsh h a).1 = 50
      · obtain ⟨scr, g1, g2, g3, g4, g5⟩ := hP.script C h5
        exact W.iald (v := .int (Int32.ofInt (hiv h a i.toNat))) C.1 C.2.1 g1 g2 g3 (by rw [g4]; exact hin) (by rw [i32_nat w1]; exact g5 _ hlt) rfl rfl hd k9
      · have h2 := (hP.ints (hs.1.resolve_right h5)).2
        exact W.iald (v := .int (Int32.ofInt (hiv h a i.toNat))) C.1 C.2.1 h2 (A1 _ _) (fun z => by cases z) (by rw [arrV_size]; exact hin) (by rw [i32_nat w1]; exact arrV_read _ _ hlt) rfl rfl hd k9
    · cases hi
  · cases hi
theorem as_rl (F : SF Γ) (C : CX Γ μ p R s m args meth c) (hP : HP Γ h H) (hC : LC Γ locs) (hL : LH ls (am_mx μ) L) (hV : ∀ v ∈ S, okv v) (hd : decode (am_cc μ) pc = .ok (.aaload, 1))
    (hi : am_rl pc L S h = some q) : AG Γ μ p l e R s m args below meth c H locs cells slots Q pc ls S h q := by
  unfold am_rl at hi
  split at hi
  · rename_i i a S'
    split at hi
    · rename_i hs
      split at hi
      · rename_i b hb
        cases hi
        obtain ⟨v1, v2⟩ := okc hV
        obtain ⟨-, v3⟩ := okc v2
        have w1 : inr32 i := v1
        obtain ⟨A1, A2, A3⟩ := F.arr C
        have hin := i32_in w1 hs.2.1 hs.2.2
        have hlt : i.toNat < (hsh h a).2 := by omega
        refine AG.same hP hC fun kk => ?_
        have k9 := kk ls hL (okn (show okv (.inr (.inr b)) from trivial) v3)
        have hv : va_rf (hrf h a i.toNat) = .ref b := by rw [hb]; rfl
        by_cases h5 : (hsh h a).1 = 40
        · have h2 := (hP.rows h5).2
          exact W.aald (v := .ref b) (ty := .array .int) C.1 C.2.1 h2 (A3 _ _) rfl (fun z => by cases z) (by rw [arrV_size]; exact hin) (by rw [i32_nat w1, arrV_read _ _ hlt, hv]) rfl rfl hd k9
        · have h6 := hs.1.resolve_left h5
          obtain ⟨-, h3, h2⟩ := hP.refs h6.1 h6.2
          exact W.aald (v := .ref b) (ty := .object (am_cn ((hsh h a).1 - 22))) C.1 C.2.1 h2 (arrOfT_moved C.2.2.2.2.2.2.2.2.2.2.1.alike (F.2.2.2.2.2.1 _ h3).1.1 _ _) rfl (fun z => by cases z) (by rw [arrV_size]; exact hin) (by rw [i32_nat w1, arrV_read _ _ hlt, hv]) rfl rfl hd k9
      · cases hi
    · cases hi
  · cases hi
theorem as_is (F : SF Γ) (C : CX Γ μ p R s m args meth c) (hP : HP Γ h H) (hC : LC Γ locs) (hL : LH ls (am_mx μ) L) (hV : ∀ v ∈ S, okv v) (hd : decode (am_cc μ) pc = .ok (.iastore, 1))
    (hi : am_is pc L S h = some q) : AG Γ μ p l e R s m args below meth c H locs cells slots Q pc ls S h q := by
  unfold am_is at hi
  split at hi
  · rename_i x i a S'
    split at hi
    · rename_i hs
      cases hi
      obtain ⟨v0, v1⟩ := okc hV
      obtain ⟨v1, v2⟩ := okc v1
      obtain ⟨-, v3⟩ := okc v2
      have w0 : inr32 x := v0
      have w1 : inr32 i := v1
      obtain ⟨A1, A2, A3⟩ := F.arr C
      have hin := i32_in w1 hs.2.1 hs.2.2
      obtain ⟨hb, h2⟩ := hP.ints hs.1
      intro _ _ kk
      refine W.iast C.1 C.2.1 h2 (A1 _ _) (fun z => by cases z) (by rw [arrV_size]; exact hin) rfl rfl hd fun H1 e1 z1 oq => ?_
      have k9 := kk H1 (locs ++ [⟨a, (Int32.ofInt i).toNatClampNeg⟩]) ls (hP.puti (k := i.toNat) w0 (by omega) (by omega) z1 oq (Or.inr (Or.inl ⟨hs.1, ?_⟩))) hL v3 (hC.snoc hb) (Nat.le_refl _) (Nat.le_refl _)
      · simpa [hwi, hnx, hks] using k9
      · rw [e1, arrV_store, i32_nat w1]
        congr 2
        funext j
        unfold updV
        by_cases hj : j = i.toNat
        · simp [hj]
        · simp [hj]
    · cases hi
  · cases hi
theorem as_rs (F : SF Γ) (C : CX Γ μ p R s m args meth c) (hP : HP Γ h H) (hC : LC Γ locs) (hL : LH ls (am_mx μ) L) (hV : ∀ v ∈ S, okv v) (hd : decode (am_cc μ) pc = .ok (.aastore, 1))
    (hi : am_rs pc L S h = some q) : AG Γ μ p l e R s m args below meth c H locs cells slots Q pc ls S h q := by
  unfold am_rs at hi
  split at hi
  · rename_i b i a S'
    split at hi
    · rename_i hs
      cases hi
      obtain ⟨r1, r2, r3, r4, r5⟩ := hs
      obtain ⟨v0, v1⟩ := okc hV
      obtain ⟨v1, v2⟩ := okc v1
      obtain ⟨-, v3⟩ := okc v2
      have w1 : inr32 i := v1
      have hin := i32_in w1 r4 r5
      obtain ⟨hb, hac, h2⟩ := hP.refs r1 r2
      generalize hk : (hsh h a).1 - 22 = k at hac h2 r3
      have hk8 : k ≤ 8 := by omega
      obtain ⟨-, cellV, g1, g2, g3, -⟩ := hP.obj hk8 r3
      have hcls := ((F.K C).1 k _ (tw_cl k hk8)).2
      obtain ⟨kA, comp, k1, k2, k3, -⟩ := va_RA.moved C.2.2.2.2.2.2.2.2.2.2.1.alike (F.2.2.2.2.2.1 k hac).1.2
      have hcomp : comp = Γ.2.1.1 k := Option.some.inj (k3.symm.trans hcls.1)
      subst hcomp
      obtain ⟨kC, hkC, -⟩ := hcls.2
      intro _ _ kk
      refine W.aast C.1 C.2.1 h2 (fun q h => by cases h) (fun h => by cases h) k1 k2 rfl hkC ⟨fun z => hin (Or.inl z), by rw [arrV_size]; exact Nat.not_le.mp fun z => hin (Or.inr z)⟩ g1 (fun q h => by rw [g3] at h; cases h) (by rw [g2]; exact hkC) (by rw [g2]; exact va_assign hcls) rfl rfl hd fun H1 e1 z1 oq => ?_
      have k9 := kk H1 (locs ++ [⟨a, (Int32.ofInt i).toNatClampNeg⟩]) ls (hP.putr (k := i.toNat) (x := some b) (by omega) (by omega) z1 oq (Or.inr (Or.inr (Or.inr (Or.inr ⟨r1, r2, by rw [hk]; exact hac, ?_⟩))))) hL v3 (hC.snoc hb) (Nat.le_refl _) (Nat.le_refl _)
      · simpa [hwr, hnx, hks] using k9
      · rw [e1, arrV_store, i32_nat w1, hk]
        congr 2
        funext j
        unfold updV
        by_cases hj : j = i.toNat
        · simp [hj, va_rf]
        · simp [hj]
    · cases hi
  · cases hi
theorem as_d2 (C : CX Γ μ p R s m args meth c) (hP : HP Γ h H) (hC : LC Γ locs) (hL : LH ls (am_mx μ) L) (hV : ∀ v ∈ S, okv v) (hd : decode (am_cc μ) pc = .ok (.dup2, 1))
    (hi : am_d2 pc L S h = some q) : AG Γ μ p l e R s m args below meth c H locs cells slots Q pc ls S h q := by
  unfold am_d2 at hi
  split at hi
  · rename_i y x S'
    split at hi
    · rename_i hc
      cases hi
      obtain ⟨v1, v2⟩ := okc hV
      obtain ⟨v2, v3⟩ := okc v2
      refine AG.same hP hC fun kk => ?_
      exact lv_dup2_11 C.1 C.2.1 hd (rv_cat hc.2) (rv_cat hc.1) (kk ls hL (okn v1 (okn v2 hV)))
    · cases hi
  · cases hi
theorem as_ob {ix : Nat} (F : SF Γ) (C : CX Γ μ p R s m args meth c) (hP : HP Γ h H) (hC : LC Γ locs) (hL : LH ls (am_mx μ) L) (hV : ∀ v ∈ S, okv v) (hd : decode (am_cc μ) pc = .ok (.invokespecial ix, 3))
    (hi : am_ob (am_own μ) (am_nF μ) (am_nL μ) pc L S h ix = some q) : AG Γ μ p l e R s m args below meth c H locs cells slots Q pc ls S h q := by
  unfold am_ob at hi
  split at hi
  · rename_i a S'
    split at hi
    · rename_i hc
      cases hi
      obtain ⟨ho, rfl, h1, h2, h3⟩ := hc
      obtain ⟨v1, v2⟩ := okc hV
      obtain ⟨g1, g2, g3, -⟩ := tw_g
      have f1 := C.2.2.2.2.2.2.2.2.1
      have f2 := C.2.2.2.2.2.2.2.2.2.1
      refine AG.same hP hC fun kk => ?_
      refine W.objInit C.1 C.2.1 C.2.2.2.2.1 (F.tb C (tw_ob _ ho) rfl) (F.tb C g1 rfl) (F.tb C g2 g3) rfl (by rw [C.2.2.2.1]; exact hL.1.1) rfl hd (by omega) ?_ (kk ls hL v2)
      rw [rv_wd]
      show 0 + am_wd S' + 12 ≤ R.locals
      omega
    · cases hi
  · cases hi
theorem as_mn {ix : Nat} (F : SF Γ) (C : CX Γ μ p R s m args meth c) (hP : HP Γ h H) (hC : LC Γ locs) (hL : LH ls (am_mx μ) L) (hV : ∀ v ∈ S, okv v) (hc1 : cells ≤ R.cells) (hs1 : slots ≤ R.slots) (hd : decode (am_cc μ) pc = .ok (.invokestatic ix, 3))
    (hi : am_mn (am_own μ) (am_nF μ) (am_nL μ) pc L S h ix = some q) : AG Γ μ p l e R s m args below meth c H locs cells slots Q pc ls S h q := by
  unfold am_mn at hi
  split at hi
  · rename_i y x S'
    split at hi
    · rename_i hc
      cases hi
      obtain ⟨ho, rfl, h1, h2, h3⟩ := hc
      obtain ⟨v1, v2⟩ := okc hV
      obtain ⟨v2, v3⟩ := okc v2
      have w1 : inr32 y := v1
      have w2 : inr32 x := v2
      obtain ⟨g1, g2, g3, g4, g5⟩ := tw_mn
      have f1 := C.2.2.2.2.2.2.2.2.1
      have f2 := C.2.2.2.2.2.2.2.2.2.1
      have hown : s.vm.findClass RX2 = some m.cls := by have h9 := C.2.2.2.2.1; rw [ho] at h9; exact h9
      refine AG.same hP hC fun kk => ?_
      have hr : okv (.inl (if y < x then y else x)) := by
        show inr32 _
        split
        · exact w1
        · exact w2
      have k9 := kk ls hL (okn hr v3)
      refine va_mmin C.1 C.2.1 (by rw [C.2.2.2.1]; exact hL.1.1.symm) hown (F.tb C g1 rfl) (F.tb C g2 rfl) (F.tb C g3 rfl) (F.tb C g4 g5) (by omega) (by rw [rv_wd]; omega) hc1 hs1 hd ?_
      have e : (if Int32.ofInt y < Int32.ofInt x then Int32.ofInt y else Int32.ofInt x) = Int32.ofInt (if y < x then y else x) := by
        by_cases h : y < x
        · rw [if_pos h, if_pos ((i32_lt w1 w2).mpr h)]
        · rw [if_neg h, if_neg (fun z => h ((i32_lt w1 w2).mp z))]
      rw [e]
      exact k9
    · cases hi
  · cases hi
theorem as_ldc {ix : Nat} (F : SF Γ) (C : CX Γ μ p R s m args meth c) (hP : HP Γ h H) (hC : LC Γ locs) (hL : LH ls (am_mx μ) L) (hV : ∀ v ∈ S, okv v) (hd : decode (am_cc μ) pc = .ok (.ldc ix, 2))
    (hi : am_lc2 (am_own μ) pc L S h ix = some q) : AG Γ μ p l e R s m args below meth c H locs cells slots Q pc ls S h q := by
  unfold am_lc2 at hi
  split at hi
  · rename_i x hlk
    cases hi
    obtain ⟨w1, w2, w3⟩ := tw_n _ _ (am_lk_mem hlk)
    refine AG.same hP hC fun kk => ?_
    exact lv_ldc (v := Int32.ofInt x) C.1 C.2.1 C.2.2.2.2.1 (F.tb C w2 w3) hd (kk ls hL (okn w1 hV))
  · cases hi
theorem as_nw {ix : Nat} (F : SF Γ) (C : CX Γ μ p R s m args meth c) (hP : HP Γ h H) (hC : LC Γ locs) (hL : LH ls (am_mx μ) L) (hV : ∀ v ∈ S, okv v) (hd : decode (am_cc μ) pc = .ok (.new ix, 3))
    (hi : am_nw (am_own μ) pc L S h ix = some q) : AG Γ μ p l e R s m args below meth c H locs cells slots Q pc ls S h q := by
  unfold am_nw at hi
  split at hi
  · rename_i k hlk
    cases hi
    obtain ⟨hk8, hw⟩ := tw_c _ _ (am_lk_mem hlk)
    dsimp only at hk8 hw
    obtain ⟨o1, o2⟩ := tw_o k hk8
    have hKn := (F.K C).1 k _ (tw_cl k hk8)
    intro r1 r2 kk
    have e1 : hnx (hnw h (k + 1) (am_fN k)) = hnx h + 1 := rfl
    have e2 : hks (hnw h (k + 1) (am_fN k)) = hks h + am_fN k := rfl
    dsimp only at r1 r2 kk
    rw [e1] at r1
    rw [e2] at r2
    have hN : am_fN k ≤ 1000 := by
      refine Nat.le_trans (m := 18) ?_ (by omega)
      exact c8 (P := fun k => am_fN k ≤ 18) (by decide) (by decide) (by decide) (by decide) (by decide) (by decide) (by decide) (by decide) (by decide) k hk8
    refine W.newcK C.1 C.2.1 C.2.2.2.2.1 (F.tb C hw rfl) (F.tb C o1 rfl) (F.tb C o2 rfl) rfl hd (by omega) (by omega) hKn.2.1 rfl fun H1 kC hkC b1 z1 o9 => ?_
    have k9 := kk H1 locs ls (hP.new z1 o9 (Nat.succ_ne_zero k) (by omega) hN (Or.inl ⟨by omega, by omega, rfl, ?_⟩)) hL (okn (show okv (.inr (.inr (hnx h))) from trivial) hV) hC (by rw [e1]; omega) (by rw [e2]; omega)
    · rw [e1, e2, show hnx h + 1 - hnx h = 1 by omega, show hks h + am_fN k - hks h = am_fN k by omega] at k9
      rw [hP.size]
      exact k9
    · refine (u_born (am_ty k) (F.hts C) (F.lays k hk8) hKn hkC b1 (tw_ty k hk8)).to fun j hj => ?_
      show defaultValue (am_ty k j) = am_fv k j 0 none
      obtain ⟨ht, -, -⟩ := tw_fk k hk8 j hj
      rcases ht with ⟨g1, g2⟩ | ⟨g1, g2⟩ | ⟨g1, g2⟩
      · rw [am_fv, if_pos g1]
        generalize am_ty k j = t at g2
        cases t <;> first | rfl | cases g2
      · rw [am_fv, if_neg (by omega), g2]; rfl
      · rw [am_fv, if_neg (by omega), g2]; rfl
  · cases hi
theorem as_na1 {t : ArrayType} (F : SF Γ) (C : CX Γ μ p R s m args meth c) (hP : HP Γ h H) (hC : LC Γ locs) (hL : LH ls (am_mx μ) L) (hV : ∀ v ∈ S, okv v) (hd : decode (am_cc μ) pc = .ok (.newarray t, 2))
    (hi : am_na1 pc L S h t = some q) : AG Γ μ p l e R s m args below meth c H locs cells slots Q pc ls S h q := by
  obtain ⟨-, -, -, gi, gl, -⟩ := tw_g
  have ha := C.2.2.2.2.2.2.2.2.2.2.1.alike
  unfold am_na1 at hi
  split at hi
  · rename_i n S'
    split at hi
    · rename_i hn
      cases hi
      obtain ⟨v1, v2⟩ := okc hV
      have w1 : inr32 n := v1
      intro r1 r2 kk
      have e1 : hnx (hnw h 20 n.toNat) = hnx h + 1 := rfl
      have e2 : hks (hnw h 20 n.toNat) = hks h + n.toNat := rfl
      dsimp only at r1 r2 kk
      rw [e1] at r1
      rw [e2] at r2
      refine va_newaK (atype := .int) C.1 C.2.1 (F.tb C gi rfl) rfl hd rfl (by rw [show (0 : Int32) = Int32.ofInt 0 from rfl, i32_lt w1 i32_0]; omega) (i32_nat w1) (by show n.toNat * 4 ≤ _; omega) (by omega) (by omega) rfl fun H1 cA b1 z1 o1 hA hN => ?_
      have hcA : cA = Γ.2.2.1.1 := by
        have h9 : s.vm.findClass ("[" ++ (FieldType.int).toString) = some Γ.2.2.1.1 := va_RA.moved ha F.2.2.1.2
        exact Option.some.inj (hN.symm.trans h9)
      subst hcA
      have k9 := kk H1 locs ls (hP.new z1 o1 (by omega) (by omega) (by omega) (Or.inr (Or.inl ⟨rfl, b1⟩))) hL (okn (show okv (.inr (.inr (hnx h))) from trivial) v2) hC (by rw [e1]; omega) (by rw [e2]; omega)
      rw [e1, e2, show hnx h + 1 - hnx h = 1 by omega, show hks h + n.toNat - hks h = n.toNat by omega] at k9
      rw [hP.size]
      exact k9
    · cases hi
  · cases hi
theorem as_na2 {ix : Nat} (F : SF Γ) (C : CX Γ μ p R s m args meth c) (hP : HP Γ h H) (hC : LC Γ locs) (hL : LH ls (am_mx μ) L) (hV : ∀ v ∈ S, okv v) (hd : decode (am_cc μ) pc = .ok (.anewarray ix, 3))
    (hi : am_na2 (am_own μ) pc L S h ix = some q) : AG Γ μ p l e R s m args below meth c H locs cells slots Q pc ls S h q := by
  have ha := C.2.2.2.2.2.2.2.2.2.2.1.alike
  unfold am_na2 at hi
  split at hi
  · rename_i n S' k hlk
    obtain ⟨hk8, hac, hw⟩ := tw_a _ _ (am_lk_mem hlk)
    dsimp only at hk8 hac hw
    obtain ⟨⟨q1, q2⟩, q3⟩ := F.2.2.2.2.2.1 k hac
    split at hi
    · rename_i hn
      cases hi
      obtain ⟨v1, v2⟩ := okc hV
      have w1 : inr32 n := v1
      intro r1 r2 kk
      have e1 : hnx (hnw h (22 + k) n.toNat) = hnx h + 1 := rfl
      have e2 : hks (hnw h (22 + k) n.toNat) = hks h + n.toNat := rfl
      dsimp only at r1 r2 kk
      rw [e1] at r1
      rw [e2] at r2
      refine W.anew C.1 C.2.1 C.2.2.2.2.1 (F.tb C hw rfl) (va_AO.use (va_AO.moved ha q3)) rfl hd rfl (by rw [show (0 : Int32) = Int32.ofInt 0 from rfl, i32_lt w1 i32_0]; omega) (by rw [i32_nat w1]; omega) (by omega) (by rw [i32_nat w1]; omega) fun cA kA comp f1 f2 f3 f4 => ?_
      have hcA : cA = Γ.2.2.2 k := by
        obtain ⟨_, _, _, _, _, g5⟩ := va_RA.moved ha q2
        exact Option.some.inj (f1.symm.trans g5)
      subst hcA
      rw [i32_nat w1]
      generalize hH1 : H.push ({ cls := Γ.2.2.2 k, slots := Array.replicate n.toNat .null, vm := .none } : Cell) = H1
      have z1 : H1.size = H.size + 1 := by rw [← hH1, Array.size_push]
      have b1 : H1[H.size]? = some (arrV (Γ.2.2.2 k) n.toNat (fun _ => .null)) := by rw [← hH1, Array.getElem?_push_size, ← arrV_new]
      have o1 : ∀ q : Nat, q < H.size → H1[q]? = H[q]? := fun q hq => by rw [← hH1, Array.getElem?_push, if_neg (Nat.ne_of_lt hq)]
      have k9 := kk H1 locs ls (hP.new z1 o1 (by omega) (by omega) (by omega) (Or.inr (Or.inr (Or.inr (Or.inr ⟨by omega, by omega, by rw [show 22 + k - 22 = k by omega]; exact hac, by rw [show 22 + k - 22 = k by omega]; exact b1⟩))))) hL (okn (show okv (.inr (.inr (hnx h))) from trivial) v2) hC (by rw [e1]; omega) (by rw [e2]; omega)
      rw [e1, e2, show hnx h + 1 - hnx h = 1 by omega, show hks h + n.toNat - hks h = n.toNat by omega] at k9
      rw [hP.size]
      exact k9
    · cases hi
  · cases hi
end AS3
