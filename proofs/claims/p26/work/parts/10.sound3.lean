/-! EACH STEP of the abstract machine is a step of the machine -/
section AS
variable {Γ : aG} {μ : aM} {p : Program} {l : Launch} {e : Env} {R : Room} {s : State} {m : MethodId} {args : Array Value} {below : List Frame} {meth : Method} {c : Code} {H : Heap} {locs : List Loc} {cells slots : Nat} {Q : State → Prop}
variable {pc len : Nat} {ls : Array Slot} {L S : List aV} {h : aH} {q : aC}
/-- what is to be shown of a step that leads to q -/
def AG (Γ : aG) (μ : aM) (p : Program) (l : Launch) (e : Env) (R : Room) (s : State) (m : MethodId) (args : Array Value) (below : List Frame) (meth : Method) (c : Code) (H : Heap) (locs : List Loc) (cells slots : Nat) (Q : State → Prop) (pc : Nat) (ls : Array Slot) (S : List aV) (h : aH) (q : aC) : Prop :=
  cells + (hnx q.2.2.2 - hnx h) ≤ R.cells → slots + (hks q.2.2.2 - hks h) ≤ R.slots →
  (∀ (H' : Heap) (locs' : List Loc) (ls' : Array Slot), HP Γ q.2.2.2 H' → LH ls' (am_mx μ) q.2.1 → (∀ v ∈ q.2.2.1, okv v) → LC Γ locs' → hnx h ≤ hnx q.2.2.2 → hks h ≤ hks q.2.2.2 → W p l e R s m args below meth c H' locs' (cells + (hnx q.2.2.2 - hnx h)) (slots + (hks q.2.2.2 - hks h)) Q (F0 m q.1 ls' (q.2.2.1.map rv))) →
  W p l e R s m args below meth c H locs cells slots Q (F0 m pc ls (S.map rv))
/-- a step that leaves the heap as it is -/
theorem AG.same {pc' : Nat} {L' S' : List aV} (hP : HP Γ h H) (hC : LC Γ locs)
    (k : (∀ (ls' : Array Slot), LH ls' (am_mx μ) L' → (∀ v ∈ S', okv v) → W p l e R s m args below meth c H locs cells slots Q (F0 m pc' ls' (S'.map rv))) → W p l e R s m args below meth c H locs cells slots Q (F0 m pc ls (S.map rv))) :
    AG Γ μ p l e R s m args below meth c H locs cells slots Q pc ls S h (pc', L', S', h) := by
  intro _ _ kk
  refine k fun ls' h1 h2 => ?_
  have := kk H locs ls' hP h1 h2 hC (Nat.le_refl _) (Nat.le_refl _)
  simpa using this
theorem okc {v : aV} {S : List aV} (h : ∀ w ∈ v :: S, okv w) : okv v ∧ ∀ w ∈ S, okv w := ⟨h v List.mem_cons_self, fun w hw => h w (List.mem_cons_of_mem _ hw)⟩
theorem okn {v : aV} {S : List aV} (h1 : okv v) (h : ∀ w ∈ S, okv w) : ∀ w ∈ v :: S, okv w := fun w hw => by
  rcases List.mem_cons.mp hw with e | e
  · rw [e]; exact h1
  · exact h w e
theorem tg_of {pc t : Nat} {off : Int} (h : am_tg pc off = some t) : (pc : Int) + off = (t : Int) := by
  unfold am_tg at h
  split at h
  · cases h
    omega
  · cases h
theorem as_iconst {n : Int} (C : CX Γ μ p R s m args meth c) (hP : HP Γ h H) (hC : LC Γ locs) (hL : LH ls (am_mx μ) L) (hV : ∀ v ∈ S, okv v) (hd : decode (am_cc μ) pc = .ok (.iconst n, 1)) (hn : inr32 n) : AG Γ μ p l e R s m args below meth c H locs cells slots Q pc ls S h (pc + 1, L, .inl n :: S, h) :=
  AG.same hP hC fun kk => lv_iconst (v := Int32.ofInt n) C.1 C.2.1 hd rfl (kk ls hL (okn hn hV))
theorem as_bipush {n : Int} (C : CX Γ μ p R s m args meth c) (hP : HP Γ h H) (hC : LC Γ locs) (hL : LH ls (am_mx μ) L) (hV : ∀ v ∈ S, okv v) (hd : decode (am_cc μ) pc = .ok (.bipush n, 2)) (hn : -128 ≤ n ∧ n ≤ 127) : AG Γ μ p l e R s m args below meth c H locs cells slots Q pc ls S h (pc + 2, L, .inl n :: S, h) :=
  AG.same hP hC fun kk => lv_bipush (v := Int32.ofInt n) C.1 C.2.1 hd (by
    rw [← Int32.toInt_inj, Int8.toInt_toInt32, Int8.toInt_ofInt_of_le (by omega) (by omega), i32_to (by constructor <;> omega)]) (kk ls hL (okn (show inr32 n by constructor <;> omega) hV))
theorem as_sipush {n : Int} (C : CX Γ μ p R s m args meth c) (hP : HP Γ h H) (hC : LC Γ locs) (hL : LH ls (am_mx μ) L) (hV : ∀ v ∈ S, okv v) (hd : decode (am_cc μ) pc = .ok (.sipush n, 3)) (hn : -32768 ≤ n ∧ n ≤ 32767) : AG Γ μ p l e R s m args below meth c H locs cells slots Q pc ls S h (pc + 3, L, .inl n :: S, h) :=
  AG.same hP hC fun kk => lv_sipush (v := Int32.ofInt n) C.1 C.2.1 hd (by
    rw [← Int32.toInt_inj, Int16.toInt_toInt32, Int16.toInt_ofInt_of_le (by omega) (by omega), i32_to (by constructor <;> omega)]) (kk ls hL (okn (show inr32 n by constructor <;> omega) hV))
theorem as_lconst {n : Fin 2} (C : CX Γ μ p R s m args meth c) (hP : HP Γ h H) (hC : LC Γ locs) (hL : LH ls (am_mx μ) L) (hV : ∀ v ∈ S, okv v) (hd : decode (am_cc μ) pc = .ok (.lconst n, 1)) : AG Γ μ p l e R s m args below meth c H locs cells slots Q pc ls S h (pc + 1, L, .inr (.inl (n.val : Int)) :: S, h) :=
  AG.same hP hC fun kk => lv_lconst (v := Int64.ofInt (n.val : Int)) C.1 C.2.1 hd Int64.ofInt_eq_ofNat.symm (kk ls hL (okn (show inr32 (n.val : Int) by have := n.isLt; constructor <;> omega) hV))
theorem as_ld {i : Nat} {num : Bool} (C : CX Γ μ p R s m args meth c) (hP : HP Γ h H) (hC : LC Γ locs) (hL : LH ls (am_mx μ) L) (hV : ∀ v ∈ S, okv v)
    (hd : (num = true ∧ len = 1 ∧ ∃ k : Fin 4, k.val = i ∧ decode (am_cc μ) pc = .ok (.iload_n k, 1)) ∨ (num = true ∧ len = 2 ∧ decode (am_cc μ) pc = .ok (.iload i, 2)) ∨ (num = false ∧ len = 1 ∧ ∃ k : Fin 4, k.val = i ∧ decode (am_cc μ) pc = .ok (.aload_n k, 1)) ∨ (num = false ∧ len = 2 ∧ decode (am_cc μ) pc = .ok (.aload i, 2)))
    (hi : am_ld pc L S h i len num = some q) : AG Γ μ p l e R s m args below meth c H locs cells slots Q pc ls S h q := by
  unfold am_ld at hi
  split at hi
  · rename_i x hx
    split at hi
    · rename_i hn
      cases hi
      obtain ⟨g1, g2, g3⟩ := hL.2.2 _ _ hx
      refine AG.same hP hC fun kk => ?_
      rcases hd with ⟨-, rfl, k, rfl, d⟩ | ⟨-, rfl, d⟩ | ⟨h1, -⟩ | ⟨h1, -⟩
      · exact lv_iload_n C.1 C.2.1 d rfl g1 (kk ls hL (okn g3 hV))
      · exact lv_iload C.1 C.2.1 d g1 (kk ls hL (okn g3 hV))
      · rw [h1] at hn; cases hn
      · rw [h1] at hn; cases hn
    · cases hi
  · rename_i a hx
    split at hi
    · cases hi
    · rename_i hn
      cases hi
      obtain ⟨g1, g2, g3⟩ := hL.2.2 _ _ hx
      refine AG.same hP hC fun kk => ?_
      rcases hd with ⟨h1, -⟩ | ⟨h1, -⟩ | ⟨-, rfl, k, rfl, d⟩ | ⟨-, rfl, d⟩
      · exact absurd h1 hn
      · exact absurd h1 hn
      · exact lv_aload_n C.1 C.2.1 d rfl g1 (kk ls hL (okn g3 hV))
      · exact lv_aload C.1 C.2.1 d g1 (kk ls hL (okn g3 hV))
  · cases hi
theorem as_sv {i : Nat} {num : Bool} (C : CX Γ μ p R s m args meth c) (hP : HP Γ h H) (hC : LC Γ locs) (hL : LH ls (am_mx μ) L) (hV : ∀ v ∈ S, okv v)
    (hd : (num = true ∧ len = 1 ∧ ∃ k : Fin 4, k.val = i ∧ decode (am_cc μ) pc = .ok (.istore_n k, 1)) ∨ (num = true ∧ len = 2 ∧ decode (am_cc μ) pc = .ok (.istore i, 2)) ∨ (num = false ∧ len = 1 ∧ ∃ k : Fin 4, k.val = i ∧ decode (am_cc μ) pc = .ok (.astore_n k, 1)) ∨ (num = false ∧ len = 2 ∧ decode (am_cc μ) pc = .ok (.astore i, 2)))
    (hi : am_sv pc L S h i len (am_mx μ) num = some q) : AG Γ μ p l e R s m args below meth c H locs cells slots Q pc ls S h q := by
  unfold am_sv at hi
  split at hi
  · rename_i x S'
    split at hi
    · rename_i hn
      unfold am_st at hi
      split at hi
      · rename_i hle
        cases hi
        obtain ⟨v1, v2⟩ := okc hV
        refine AG.same hP hC fun kk => ?_
        rcases hd with ⟨-, rfl, k, rfl, d⟩ | ⟨-, rfl, d⟩ | ⟨h1, -⟩ | ⟨h1, -⟩
        · exact lv_istore_n C.1 C.2.1 d rfl hL.has hn.2 rfl (fun ls' h' => kk ls' (hL.set hle hn.2 rfl v1 h') v2)
        · exact lv_istore C.1 C.2.1 d hL.has hn.2 rfl (fun ls' h' => kk ls' (hL.set hle hn.2 rfl v1 h') v2)
        · rw [h1] at hn; cases hn.1
        · rw [h1] at hn; cases hn.1
      · cases hi
    · cases hi
  · rename_i a S'
    split at hi
    · rename_i hn
      unfold am_st at hi
      split at hi
      · rename_i hle
        cases hi
        obtain ⟨v1, v2⟩ := okc hV
        refine AG.same hP hC fun kk => ?_
        rcases hd with ⟨h1, -⟩ | ⟨h1, -⟩ | ⟨-, rfl, k, rfl, d⟩ | ⟨-, rfl, d⟩
        · exact absurd h1 hn.1
        · exact absurd h1 hn.1
        · exact lv_astore_n C.1 C.2.1 d rfl hL.has hn.2 rfl (fun ls' h' => kk ls' (hL.set hle hn.2 rfl v1 h') v2)
        · exact lv_astore C.1 C.2.1 d hL.has hn.2 rfl (fun ls' h' => kk ls' (hL.set hle hn.2 rfl v1 h') v2)
      · cases hi
    · cases hi
  · cases hi
theorem as_ic {i : Nat} {n : Int} (C : CX Γ μ p R s m args meth c) (hP : HP Γ h H) (hC : LC Γ locs) (hL : LH ls (am_mx μ) L) (hV : ∀ v ∈ S, okv v) (hd : decode (am_cc μ) pc = .ok (.iinc i n, 3))
    (hi : am_ic pc L S h i n (am_mx μ) = some q) : AG Γ μ p l e R s m args below meth c H locs cells slots Q pc ls S h q := by
  unfold am_ic at hi
  split at hi
  · rename_i x hx
    split at hi
    · rename_i hn
      cases hi
      have hlt : i < L.length := (List.getElem?_eq_some_iff.mp hx).1
      obtain ⟨k, hk⟩ := List.getElem?_of_mem (lvl_mem.mpr ⟨_, hx, rfl⟩)
      refine AG.same hP hC fun kk => ?_
      exact lv_iinc (v := Int32.ofInt (x + n)) C.1 C.2.1 hd hL.has hk (Int32.ofInt_add _ _).symm hn.2.2 rfl (fun ls' h' => kk ls' (hL.set (v := .inl (x + n)) (Nat.le_of_lt hlt) hn.2.2 rfl hn.1 h') hV)
    · cases hi
  · cases hi
theorem as_ar {f : Int → Int → Int} (C : CX Γ μ p R s m args meth c) (hP : HP Γ h H) (hC : LC Γ locs) (hL : LH ls (am_mx μ) L) (hV : ∀ v ∈ S, okv v)
    (hd : (decode (am_cc μ) pc = .ok (.iadd, 1) ∧ f = fun x y => x + y) ∨ (decode (am_cc μ) pc = .ok (.isub, 1) ∧ f = fun x y => x - y) ∨ (decode (am_cc μ) pc = .ok (.imul, 1) ∧ f = fun x y => x * y))
    (hi : am_ar pc L S h f = some q) : AG Γ μ p l e R s m args below meth c H locs cells slots Q pc ls S h q := by
  unfold am_ar at hi
  split at hi
  · rename_i y x S'
    split at hi
    · rename_i hn
      cases hi
      obtain ⟨v1, v2⟩ := okc hV
      obtain ⟨v2, v3⟩ := okc v2
      refine AG.same hP hC fun kk => ?_
      have k9 := kk ls hL (okn (show okv (.inl (f x y)) from hn) v3)
      rcases hd with ⟨d, rfl⟩ | ⟨d, rfl⟩ | ⟨d, rfl⟩
      · refine lv_iadd C.1 C.2.1 d ?_
        rw [← Int32.ofInt_add]
        exact k9
      · refine lv_isub C.1 C.2.1 d ?_
        rw [← Int32.ofInt_sub]
        exact k9
      · refine lv_imul C.1 C.2.1 d ?_
        rw [← Int32.ofInt_mul]
        exact k9
    · cases hi
  · cases hi
theorem as_dv (C : CX Γ μ p R s m args meth c) (hP : HP Γ h H) (hC : LC Γ locs) (hL : LH ls (am_mx μ) L) (hV : ∀ v ∈ S, okv v) (hd : decode (am_cc μ) pc = .ok (.idiv, 1))
    (hi : am_dv pc L S h = some q) : AG Γ μ p l e R s m args below meth c H locs cells slots Q pc ls S h q := by
  unfold am_dv at hi
  split at hi
  · rename_i y x S'
    split at hi
    · rename_i hn
      cases hi
      obtain ⟨v1, v2⟩ := okc hV
      obtain ⟨v2, v3⟩ := okc v2
      have w1 : inr32 y := v1
      have w2 : inr32 x := v2
      have b3 := Int.ediv_nonneg hn.1 (Int.le_of_lt hn.2)
      have b4 := Int.ediv_le_self y hn.1
      have w3 : inr32 (x / y) := ⟨by omega, by have := w2.2; omega⟩
      refine AG.same hP hC fun kk => ?_
      have k9 := kk ls hL (okn (show okv (.inl (x / y)) from w3) v3)
      refine lv_idiv C.1 C.2.1 hd (fun z => ?_) ?_
      · have := (i32_eq w1 i32_0).mp z
        omega
      · have e0 : Int32.ofInt x / Int32.ofInt y = Int32.ofInt (x / y) := by
          rw [← Int32.toInt_inj, Int32.toInt_div_of_ne_right _ _ (fun z => by have := (i32_eq w1 (show inr32 (-1) by decide)).mp z; omega), i32_to w1, i32_to w2, i32_to w3, Int.tdiv_eq_ediv_of_nonneg hn.1]
        rw [e0]
        exact k9
    · cases hi
  · cases hi
theorem as_pp (C : CX Γ μ p R s m args meth c) (hP : HP Γ h H) (hC : LC Γ locs) (hL : LH ls (am_mx μ) L) (hV : ∀ v ∈ S, okv v) (hd : decode (am_cc μ) pc = .ok (.pop, 1))
    (hi : am_pp pc L S h = some q) : AG Γ μ p l e R s m args below meth c H locs cells slots Q pc ls S h q := by
  unfold am_pp at hi
  split at hi
  · rename_i v S'
    split at hi
    · rename_i hc
      cases hi
      refine AG.same hP hC fun kk => ?_
      exact lv_pop C.1 C.2.1 hd (rv_cat hc) (kk ls hL (okc hV).2)
    · cases hi
  · cases hi
theorem as_rm (C : CX Γ μ p R s m args meth c) (hP : HP Γ h H) (hC : LC Γ locs) (hL : LH ls (am_mx μ) L) (hV : ∀ v ∈ S, okv v) (hd : decode (am_cc μ) pc = .ok (.irem, 1))
    (hi : am_rm pc L S h = some q) : AG Γ μ p l e R s m args below meth c H locs cells slots Q pc ls S h q := by
  unfold am_rm at hi
  split at hi
  · rename_i y x S'
    split at hi
    · rename_i hn
      cases hi
      obtain ⟨v1, v2⟩ := okc hV
      obtain ⟨v2, v3⟩ := okc v2
      have b1 := Int.emod_nonneg x (show y ≠ 0 by omega)
      have b2 := Int.emod_lt_of_pos x hn.2
      have w1 : inr32 y := v1
      have w2 : inr32 x := v2
      have hr : inr32 (x % y) := ⟨by omega, by have := w1.2; omega⟩
      refine AG.same hP hC fun kk => ?_
      have k9 := kk ls hL (okn (show okv (.inl (x % y)) from hr) v3)
      refine lv_irem C.1 C.2.1 hd (fun z => ?_) ?_
      · have := (i32_eq w1 i32_0).mp z
        omega
      · have e : Int32.ofInt x % Int32.ofInt y = Int32.ofInt (x % y) := by
          rw [← Int32.toInt_inj, Int32.toInt_mod, i32_to w1, i32_to w2, i32_to hr, Int.tmod_eq_emod_of_nonneg hn.1]
        have e0 : Int32.ofInt x / Int32.ofInt y = Int32.ofInt (x / y) := by
          have b3 := Int.ediv_nonneg hn.1 (Int.le_of_lt hn.2)
          have b4 := Int.ediv_le_self y hn.1
          have w3 : inr32 (x / y) := ⟨by omega, by have := w2.2; omega⟩
          rw [← Int32.toInt_inj, Int32.toInt_div_of_ne_right _ _ (fun z => by have := (i32_eq w1 (show inr32 (-1) by decide)).mp z; omega), i32_to w1, i32_to w2, i32_to w3, Int.tdiv_eq_ediv_of_nonneg hn.1]
        rw [e0, ← Int32.ofInt_mul, ← Int32.ofInt_sub, show x - x / y * y = x % y by rw [Int.emod_def, Int.mul_comm]]
        exact k9
    · cases hi
  · cases hi
theorem as_bo {k : Nat} (C : CX Γ μ p R s m args meth c) (hP : HP Γ h H) (hC : LC Γ locs) (hL : LH ls (am_mx μ) L) (hV : ∀ v ∈ S, okv v)
    (hd : (k = 0 ∧ decode (am_cc μ) pc = .ok (.iand, 1)) ∨ (k = 1 ∧ decode (am_cc μ) pc = .ok (.ior, 1)) ∨ (k = 2 ∧ decode (am_cc μ) pc = .ok (.ixor, 1)) ∨ (k = 3 ∧ decode (am_cc μ) pc = .ok (.ishl, 1)) ∨ (k = 4 ∧ decode (am_cc μ) pc = .ok (.ishr, 1)))
    (hi : am_bo pc L S h k = some q) : AG Γ μ p l e R s m args below meth c H locs cells slots Q pc ls S h q := by
  unfold am_bo at hi
  split at hi
  · rename_i y x S'
    cases hi
    obtain ⟨v1, v2⟩ := okc hV
    obtain ⟨v2, v3⟩ := okc v2
    refine AG.same hP hC fun kk => ?_
    have hr : okv (.inl (am_bw k x y)) := by
      show inr32 (am_bw k x y)
      unfold am_bw
      split <;> exact i32_any _
    have k9 := kk ls hL (okn hr v3)
    have e : rv (.inl (am_bw k x y)) = .int (Int32.ofInt (am_bw k x y)) := rfl
    rw [List.map_cons, e] at k9
    rcases hd with ⟨rfl, d⟩ | ⟨rfl, d⟩ | ⟨rfl, d⟩ | ⟨rfl, d⟩ | ⟨rfl, d⟩
    · refine lv_iand C.1 C.2.1 d ?_
      rw [show am_bw 0 x y = (Int32.ofInt x &&& Int32.ofInt y).toInt from rfl, Int32.ofInt_toInt] at k9
      exact k9
    · refine lv_ior C.1 C.2.1 d ?_
      rw [show am_bw 1 x y = (Int32.ofInt x ||| Int32.ofInt y).toInt from rfl, Int32.ofInt_toInt] at k9
      exact k9
    · refine lv_ixor C.1 C.2.1 d ?_
      rw [show am_bw 2 x y = (Int32.ofInt x ^^^ Int32.ofInt y).toInt from rfl, Int32.ofInt_toInt] at k9
      exact k9
    · refine lv_ishl C.1 C.2.1 d ?_
      rw [show am_bw 3 x y = (Int32.ofInt x <<< (Int32.ofInt y &&& 31)).toInt from rfl, Int32.ofInt_toInt] at k9
      exact k9
    · refine lv_ishr C.1 C.2.1 d ?_
      rw [show am_bw 4 x y = (Int32.ofInt x >>> (Int32.ofInt y &&& 31)).toInt from rfl, Int32.ofInt_toInt] at k9
      exact k9
  · cases hi
theorem as_i2l (C : CX Γ μ p R s m args meth c) (hP : HP Γ h H) (hC : LC Γ locs) (hL : LH ls (am_mx μ) L) (hV : ∀ v ∈ S, okv v) (hd : decode (am_cc μ) pc = .ok (.i2l, 1))
    (hi : am_i2l pc L S h = some q) : AG Γ μ p l e R s m args below meth c H locs cells slots Q pc ls S h q := by
  unfold am_i2l at hi
  split at hi
  · rename_i x S'
    cases hi
    obtain ⟨v1, v2⟩ := okc hV
    have w1 : inr32 x := v1
    refine AG.same hP hC fun kk => ?_
    exact lv_i2l (v := Int64.ofInt x) C.1 C.2.1 hd (by rw [← Int64.ofInt_int32ToInt, i32_to w1]) (kk ls hL (okn (show okv (.inr (.inl x)) from w1) v2))
  · cases hi
theorem as_lc (C : CX Γ μ p R s m args meth c) (hP : HP Γ h H) (hC : LC Γ locs) (hL : LH ls (am_mx μ) L) (hV : ∀ v ∈ S, okv v) (hd : decode (am_cc μ) pc = .ok (.lcmp, 1))
    (hi : am_lc pc L S h = some q) : AG Γ μ p l e R s m args below meth c H locs cells slots Q pc ls S h q := by
  unfold am_lc at hi
  split at hi
  · rename_i y x S'
    cases hi
    obtain ⟨v1, v2⟩ := okc hV
    obtain ⟨v2, v3⟩ := okc v2
    have w1 : inr32 y := v1
    have w2 : inr32 x := v2
    refine AG.same hP hC fun kk => ?_
    have hr : okv (.inl (if y < x then 1 else if x = y then 0 else -1)) := by
      show inr32 _
      split
      · decide
      · split <;> decide
    refine W.lcmp C.1 C.2.1 hd ?_
    have k9 := kk ls hL (okn hr v3)
    have e : lg_cmp (Int64.ofInt x) (Int64.ofInt y) = Int32.ofInt (if y < x then 1 else if x = y then 0 else -1) := by
      have e1 : (Int64.ofInt x > Int64.ofInt y) ↔ y < x := by
        rw [gt_iff_lt, Int64.lt_iff_toInt_lt, i64_to w1, i64_to w2]
      have e2 : (Int64.ofInt x = Int64.ofInt y) ↔ x = y := ⟨fun z => by rw [← i64_to w1, ← i64_to w2, z], fun z => by rw [z]⟩
      unfold lg_cmp
      by_cases h1 : y < x
      · rw [if_pos (e1.mpr h1), if_pos h1]; rfl
      · rw [if_neg (fun z => h1 (e1.mp z)), if_neg h1]
        by_cases h2 : x = y
        · rw [if_pos (e2.mpr h2), if_pos h2]; rfl
        · rw [if_neg (fun z => h2 (e2.mp z)), if_neg h2]; rfl
    rw [e]
    exact k9
  · cases hi
theorem as_d1 (C : CX Γ μ p R s m args meth c) (hP : HP Γ h H) (hC : LC Γ locs) (hL : LH ls (am_mx μ) L) (hV : ∀ v ∈ S, okv v) (hd : decode (am_cc μ) pc = .ok (.dup, 1))
    (hi : am_d1 pc L S h = some q) : AG Γ μ p l e R s m args below meth c H locs cells slots Q pc ls S h q := by
  unfold am_d1 at hi
  split at hi
  · rename_i v S'
    split at hi
    · rename_i hc
      cases hi
      refine AG.same hP hC fun kk => ?_
      exact lv_dup C.1 C.2.1 hd (rv_cat hc) (kk ls hL (okn (okc hV).1 hV))
    · cases hi
  · cases hi
theorem as_go {off : Int} {t : Nat} (C : CX Γ μ p R s m args meth c) (hP : HP Γ h H) (hC : LC Γ locs) (hL : LH ls (am_mx μ) L) (hV : ∀ v ∈ S, okv v) (hd : decode (am_cc μ) pc = .ok (.goto off, 3)) (ht : am_tg pc off = some t) : AG Γ μ p l e R s m args below meth c H locs cells slots Q pc ls S h (t, L, S, h) :=
  AG.same hP hC fun kk => lv_goto C.1 C.2.1 hd (tg_of ht) (kk ls hL hV)
theorem as_if1 {cd : ClassFile.Cond} {off : Int} (C : CX Γ μ p R s m args meth c) (hP : HP Γ h H) (hC : LC Γ locs) (hL : LH ls (am_mx μ) L) (hV : ∀ v ∈ S, okv v) (hd : decode (am_cc μ) pc = .ok (.ifCond cd off, 3))
    (hi : am_if1 pc L S h cd off = some q) : AG Γ μ p l e R s m args below meth c H locs cells slots Q pc ls S h q := by
  unfold am_if1 at hi
  split at hi
  · rename_i x S' t ht
    obtain ⟨v1, v2⟩ := okc hV
    have w1 : inr32 x := v1
    have t9 := tg_of ht
    have i1 := i32_eq w1 i32_0
    have i2 := i32_lt w1 i32_0
    have i3 := i32_le i32_0 w1
    have i4 := i32_lt i32_0 w1
    have i5 := i32_le w1 i32_0
    cases hi
    refine AG.same hP hC fun kk => ?_
    have k9 := kk ls hL v2
    cases cd <;> simp only [am_cd, decide_eq_true_eq] at k9
    · exact lv_if_eq C.1 C.2.1 hd t9 (fun z => by rw [if_pos (i1.mp z)] at k9; exact k9) (fun z => by rw [if_neg (fun y => z (i1.mpr y))] at k9; exact k9)
    · exact lv_if_ne C.1 C.2.1 hd t9 (fun z => by rw [if_pos (fun y => z (i1.mpr y))] at k9; exact k9) (fun z => by rw [if_neg (fun y => y (i1.mp z))] at k9; exact k9)
    · exact lv_if_lt C.1 C.2.1 hd t9 (fun z => by rw [if_pos (i2.mp z)] at k9; exact k9) (fun z => by rw [if_neg (fun y => z (i2.mpr y))] at k9; exact k9)
    · exact lv_if_ge C.1 C.2.1 hd t9 (fun z => by rw [if_pos (i3.mp z)] at k9; exact k9) (fun z => by rw [if_neg (fun y => z (i3.mpr y))] at k9; exact k9)
    · exact lv_if_gt C.1 C.2.1 hd t9 (fun z => by rw [if_pos (i4.mp z)] at k9; exact k9) (fun z => by rw [if_neg (fun y => z (i4.mpr y))] at k9; exact k9)
    · exact lv_if_le C.1 C.2.1 hd t9 (fun z => by rw [if_pos (i5.mp z)] at k9; exact k9) (fun z => by rw [if_neg (fun y => z (i5.mpr y))] at k9; exact k9)
  · cases hi
theorem as_if2 {cd : ClassFile.Cond} {off : Int} (C : CX Γ μ p R s m args meth c) (hP : HP Γ h H) (hC : LC Γ locs) (hL : LH ls (am_mx μ) L) (hV : ∀ v ∈ S, okv v) (hd : decode (am_cc μ) pc = .ok (.if_icmp cd off, 3))
    (hi : am_if2 pc L S h cd off = some q) : AG Γ μ p l e R s m args below meth c H locs cells slots Q pc ls S h q := by
  unfold am_if2 at hi
  split at hi
  · rename_i y x S' t ht
    obtain ⟨v1, v2⟩ := okc hV
    obtain ⟨v2, v3⟩ := okc v2
    have w1 : inr32 y := v1
    have w2 : inr32 x := v2
    have t9 := tg_of ht
    have i1 := i32_eq w2 w1
    have i2 := i32_lt w2 w1
    have i3 := i32_le w1 w2
    have i4 := i32_lt w1 w2
    have i5 := i32_le w2 w1
    cases hi
    refine AG.same hP hC fun kk => ?_
    have k9 := kk ls hL v3
    cases cd <;> simp only [am_cd, decide_eq_true_eq] at k9
    · exact lv_icmp_eq C.1 C.2.1 hd t9 (fun z => by rw [if_pos (i1.mp z)] at k9; exact k9) (fun z => by rw [if_neg (fun y => z (i1.mpr y))] at k9; exact k9)
    · exact lv_icmp_ne C.1 C.2.1 hd t9 (fun z => by rw [if_pos (fun y => z (i1.mpr y))] at k9; exact k9) (fun z => by rw [if_neg (fun y => y (i1.mp z))] at k9; exact k9)
    · exact lv_icmp_lt C.1 C.2.1 hd t9 (fun z => by rw [if_pos (i2.mp z)] at k9; exact k9) (fun z => by rw [if_neg (fun y => z (i2.mpr y))] at k9; exact k9)
    · exact lv_icmp_ge C.1 C.2.1 hd t9 (fun z => by rw [if_pos (i3.mp z)] at k9; exact k9) (fun z => by rw [if_neg (fun y => z (i3.mpr y))] at k9; exact k9)
    · exact lv_icmp_gt C.1 C.2.1 hd t9 (fun z => by rw [if_pos (i4.mp z)] at k9; exact k9) (fun z => by rw [if_neg (fun y => z (i4.mpr y))] at k9; exact k9)
    · exact lv_icmp_le C.1 C.2.1 hd t9 (fun z => by rw [if_pos (i5.mp z)] at k9; exact k9) (fun z => by rw [if_neg (fun y => z (i5.mpr y))] at k9; exact k9)
  · cases hi
theorem as_sw {d lo hi9 : Int} {offs : Array Int} (C : CX Γ μ p R s m args meth c) (hP : HP Γ h H) (hC : LC Γ locs) (hL : LH ls (am_mx μ) L) (hV : ∀ v ∈ S, okv v) (hd : decode (am_cc μ) pc = .ok (.tableswitch d lo hi9 offs, len))
    (hi : am_sw pc L S h d lo hi9 offs = some q) : AG Γ μ p l e R s m args below meth c H locs cells slots Q pc ls S h q := by
  unfold am_sw at hi
  split at hi
  · rename_i x S'
    obtain ⟨v1, v2⟩ := okc hV
    have w1 : inr32 x := v1
    have e9 := i32_to w1
    split at hi
    · rename_i hx
      rw [Option.map_eq_some_iff] at hi
      obtain ⟨t, ht, rfl⟩ := hi
      refine AG.same hP hC fun kk => ?_
      exact lv_tableOut C.1 C.2.1 hd (by rw [e9]; exact hx) (tg_of ht) (kk ls hL v2)
    · rename_i hx
      split at hi
      · rename_i off ho
        rw [Option.map_eq_some_iff] at hi
        obtain ⟨t, ht, rfl⟩ := hi
        refine AG.same hP hC fun kk => ?_
        exact lv_tableIn C.1 C.2.1 hd (by rw [e9]; exact fun z => hx (Or.inl z)) (by rw [e9]; exact fun z => hx (Or.inr z)) (by rw [e9]; exact ho) (tg_of ht) (kk ls hL v2)
      · cases hi
  · cases hi
end AS
