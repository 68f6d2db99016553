/-! new int[n][k]; every step -/
theorem va_AOA.moved {t : FieldType} {u U : State} (hvm : u.vm.Alike U.vm) (h : va_AOA t u) : va_AOA t U := by
  obtain ⟨comp, c, k, h1, h2, h3, h4, h5⟩ := arrayOverA_spec h
  obtain ⟨k', hk', he⟩ := hvm.2.2 _ _ h3
  have hi : (U.vm.classes.findIdx? fun (x : Class) => match x.kind with | .array component _ => component == comp | _ => false) = some c := by
    have hb : U.vm.bare = u.vm.bare := by first | exact hvm.bare_eq | exact hvm.bare_eq.symm
    have h9 := va_idx_bare U.vm comp
    rw [hb] at h9
    exact h9.symm.trans ((va_idx_bare u.vm comp).trans h2)
  have hkind : k'.kind = .array comp (.array t) := by rw [he]; exact h4
  have f1 : U.vm.findClass (FieldType.array t).toString = some comp := by rw [hvm.findClass]; exact h1
  have f2 : U.vm.findClass ("[" ++ (FieldType.array t).toString) = some c := by rw [hvm.findClass]; exact h5
  unfold va_AOA Cond.before Cond.holds
  simp only [Cond.value]
  rw [f1, Option.bind_some]
  refine (congrArg (fun o : Option Nat => (o.bind (fun c => (U.vm.classes[c]?).map fun (k : Class) => match k.kind with | .array _ ty => decide (ty = FieldType.array t) && decide (U.vm.findClass ("[" ++ (FieldType.array t).toString) = some c) | _ => false) == some true)) hi).trans ?_
  simp [hk', hkind, f2]
section AS4
variable {Γ : aG} {μ : aM} {p : Program} {l : Launch} {e : Env} {R : Room} {s : State} {m : MethodId} {args : Array Value} {below : List Frame} {meth : Method} {c : Code} {H : Heap} {locs : List Loc} {cells slots : Nat} {Q : State → Prop}
variable {pc len : Nat} {ls : Array Slot} {L S : List aV} {h : aH} {q : aC}
theorem HP.multi (hP : HP Γ h H) {H' : Heap} {n k : Nat} (hn : n ≤ 1000) (hk : k ≤ 1000) (hz : H'.size = H.size + 1 + n) (ho : ∀ q, q < H.size → H'[q]? = H[q]?) (h0 : H'[H.size]? = some (arrV Γ.2.2.1.2.2 n (fun j => va_rf (if j < n then some (H.size + 1 + j) else none))))
    (hr : ∀ j, j < n → H'[H.size + 1 + j]? = some (arrV Γ.2.2.1.1 k (fun _ => .int 0))) : HP Γ (hml h n k) H' := by
  obtain ⟨p1, p2, p3, p4, p5, p6, p7⟩ := id hP
  have e0 : hsh (hml h n k) (hnx h) = (40, n) := if_pos rfl
  have e1 : ∀ b, hnx h < b → b ≤ hnx h + n → hsh (hml h n k) b = (20, k) := fun b h1 h2 => by
    show (if b = hnx h then _ else if hnx h < b ∧ b ≤ hnx h + n then _ else _) = _
    rw [if_neg (by omega), if_pos ⟨h1, h2⟩]
  have e2 : ∀ b, b < hnx h ∨ hnx h + n < b → hsh (hml h n k) b = hsh h b := fun b h1 => by
    show (if b = hnx h then _ else if hnx h < b ∧ b ≤ hnx h + n then _ else _) = _
    rw [if_neg (by omega), if_neg (by omega)]
    rfl
  have g1 : ∀ b j, b ≠ hnx h → hrf (hml h n k) b j = hrf h b j := fun b j hb => by
    show (if b = hnx h ∧ j < n then _ else _) = _
    rw [if_neg (fun z => hb z.1)]
    rfl
  have en : hnx (hml h n k) = hnx h + 1 + n := rfl
  refine ⟨by rw [hz, p1, en], by rw [en]; omega, fun q hq => by rw [ho q (by omega)]; exact p3 q hq, fun b hb => ?_, fun b hb hb2 => ?_, p6, fun b hb => ?_⟩
  · rcases Nat.lt_or_ge b (hnx h) with c1 | c1
    · rw [e2 b (Or.inl c1)] at hb ⊢
      exact p4 b hb
    · rcases Nat.lt_or_ge (hnx h + n) b with c2 | c2
      · rw [e2 b (Or.inr c2)] at hb ⊢
        exact p4 b hb
      · by_cases c3 : b = hnx h
        · rw [c3, e0] at hb; cases hb
        · rw [e1 b (by omega) c2] at hb; cases hb
  · rcases Nat.lt_or_ge b (hnx h) with c1 | c1
    · rw [e2 b (Or.inl c1)] at hb hb2 ⊢
      obtain ⟨r1, r2, r3⟩ := p5 b hb hb2
      rw [show hrf (hml h n k) b = hrf h b from funext fun j => g1 b j (by omega)]
      exact ⟨r1, r2, r3.kept (ho b r3.lt)⟩
    · rcases Nat.lt_or_ge (hnx h + n) b with c2 | c2
      · rw [e2 b (Or.inr c2)] at hb
        exact absurd (hP.tag c1) hb
      · by_cases c3 : b = hnx h
        · rw [c3, e0]
          refine ⟨by omega, hn, Or.inr (Or.inr (Or.inr (Or.inl ⟨rfl, ?_⟩)))⟩
          rw [← p1, h0]
          congr 2
          funext j
          show va_rf _ = va_rf (if H.size = hnx h ∧ j < n then some (hnx h + 1 + j) else hrf h H.size j)
          rw [(p7 H.size (by omega)).2 j, p1]
          simp
        · rw [e1 b (by omega) c2]
          refine ⟨by omega, hk, Or.inr (Or.inl ⟨rfl, ?_⟩)⟩
          have h9 := hr (b - hnx h - 1) (by omega)
          rw [show H.size + 1 + (b - hnx h - 1) = b by omega] at h9
          rw [h9]
          congr 2
          funext j
          show Value.int 0 = Value.int (Int32.ofInt (hiv h b j))
          rw [(p7 b c1).1 j]
          rfl
  · rw [en] at hb
    exact ⟨(p7 b (by omega)).1, fun j => by rw [g1 b j (by omega)]; exact (p7 b (by omega)).2 j⟩
theorem as_nm {ix d : Nat} (F : SF Γ) (C : CX Γ μ p R s m args meth c) (hP : HP Γ h H) (hC : LC Γ locs) (hL : LH ls (am_mx μ) L) (hV : ∀ v ∈ S, okv v) (hd : decode (am_cc μ) pc = .ok (.multianewarray ix d, 4))
    (hi : am_nm (am_own μ) pc L S h ix d = some q) : AG Γ μ p l e R s m args below meth c H locs cells slots Q pc ls S h q := by
  have ha := C.2.2.2.2.2.2.2.2.2.2.1.alike
  unfold am_nm at hi
  split at hi
  · rename_i k n S'
    split at hi
    · rename_i hn
      cases hi
      obtain ⟨ho, rfl, rfl, n0, n1, k0, k1⟩ := hn
      obtain ⟨v1, v2⟩ := okc hV
      obtain ⟨v2, v3⟩ := okc v2
      have w1 : inr32 k := v1
      have w2 : inr32 n := v2
      obtain ⟨-, -, -, gi, -, gm⟩ := tw_g
      intro r1 r2 kk
      have e1 : hnx (hml h n.toNat k.toNat) = hnx h + 1 + n.toNat := rfl
      have e2 : hks (hml h n.toNat k.toNat) = hks h + n.toNat + n.toNat * k.toNat := rfl
      dsimp only at r1 r2 kk
      rw [e1] at r1
      rw [e2] at r2
      have hlink : (Cond.classLink RX1 17 ("[" ++ (FieldType.array .int).toString)).before args s = true := F.tb C gm rfl
      have hown : s.vm.findClass RX1 = some m.cls := by have h9 := C.2.2.2.2.1; rw [ho] at h9; exact h9
      have z1 := i32_nat w1
      have z2 := i32_nat w2
      intro T hT Xs
      obtain ⟨vm₁, cA, comp, -, fA, fC, hO, -, X', step⟩ := Xs.multianewarray2F C.1 hown hlink (va_AOA.use (va_AOA.moved ha F.2.2.2.2.2.2.1)) (F.tb C gi rfl) (g := F0 m pc ls (.int (Int32.ofInt k) :: .int (Int32.ofInt n) :: S'.map rv)) rfl (by rw [C.2.1]; exact hd) rfl
        (by rw [show (0 : Int32) = Int32.ofInt 0 from rfl, i32_lt w2 i32_0]; omega) (by rw [show (0 : Int32) = Int32.ofInt 0 from rfl, i32_lt w1 i32_0]; omega) (by rw [z2]; omega) (by rw [z1]; show k.toNat * 4 ≤ _; omega) (by rw [z1]; omega) rfl rfl (by rw [z2]; omega) (by rw [z1, z2]; omega)
      rw [z1, z2] at X' step
      have ec : comp = Γ.2.2.1.1 := by
        have h9 : s.vm.findClass ("[" ++ (FieldType.int).toString) = some Γ.2.2.1.1 := va_RA.moved ha F.2.2.1.2
        exact Option.some.inj (fC.symm.trans h9)
      have eA : cA = Γ.2.2.1.2.2 := by
        have h9 : s.vm.findClass ("[" ++ (FieldType.array .int).toString) = some Γ.2.2.1.2.2 := va_RA.moved ha F.2.2.2.2.1.2
        exact Option.some.inj (fA.symm.trans h9)
      subst ec
      subst eA
      generalize hF : Jvm.Free.Multi.fill (T.setVm vm₁) Γ.2.2.1.2.2 Γ.2.2.1.1 n.toNat k.toNat (defaultValue .int) n.toNat = G at X' step
      have hTh : (T.setVm vm₁).heap = H := hT
      obtain ⟨f1, f2, -, -⟩ := Jvm.Free.Multi.fill_facts (T.setVm vm₁) Γ.2.2.1.2.2 Γ.2.2.1.1 n.toNat k.toNat (defaultValue .int) n.toNat
      rw [hF, hTh] at f1 f2
      have hold : ∀ x : Nat, x < H.size → G.heap[x]? = H[x]? := fun x hx => by
        have := Jvm.Free.Multi.fill_old (T.setVm vm₁) Γ.2.2.1.2.2 Γ.2.2.1.1 n.toNat k.toNat (defaultValue .int) (a := x) (by rw [hTh]; exact hx) n.toNat
        rw [hF, hTh] at this
        exact this
      have hrow : ∀ j : Nat, j < n.toNat → G.heap[H.size + 1 + j]? = some (arrV Γ.2.2.1.1 k.toNat (fun _ => .int 0)) := fun j hj => by
        have := Jvm.Free.Multi.fill_inner (T.setVm vm₁) Γ.2.2.1.2.2 Γ.2.2.1.1 n.toNat k.toNat (defaultValue .int) n.toNat j hj
        rw [hF, hTh] at this
        rw [this, ← arrV_new]
        rfl
      have k9 := kk G.heap locs ls (hP.multi (by omega) (by omega) f1 hold (by rw [f2, vr_outer]) hrow) hL (okn (show okv (.inr (.inr (hnx h))) from trivial) v3) hC (by rw [e1]; omega) (by rw [e2]; omega)
      rw [e1, e2, show cells + (hnx h + 1 + n.toNat - hnx h) = cells + 1 + n.toNat by omega, show slots + (hks h + n.toNat + n.toNat * k.toNat - hks h) = slots + n.toNat + n.toNat * k.toNat by omega] at k9
      obtain ⟨t, a1, b1⟩ := k9 G rfl X'
      refine ⟨t, step t ?_, b1⟩
      have e9 : T.heap.size = hnx h := by rw [hT]; exact hP.size
      rw [e9]
      exact a1
    · cases hi
  · cases hi
set_option maxHeartbeats 4000000 in
theorem am_step {i : Instr} (F : SF Γ) (hc1 : cells ≤ R.cells) (hs1 : slots ≤ R.slots) (C : CX Γ μ p R s m args meth c) (hP : HP Γ h H) (hC : LC Γ locs) (hL : LH ls (am_mx μ) L) (hV : ∀ v ∈ S, okv v) (hd : decode (am_cc μ) pc = .ok (i, len)) (hlo : am_lo i len = true)
    (hi : amI μ pc L S h i = some q) : AG Γ μ p l e R s m args below meth c H locs cells slots Q pc ls S h q := by
  cases i <;> (try (simp only [amI, reduceCtorEq] at hi; done)) <;> (try (have hlen := of_decide_eq_true hlo; subst hlen)) <;> unfold amI at hi
  case iconst n =>
    replace hi : (if inr32 n then some (pc + 1, L, (Sum.inl n : aV) :: S, h) else none) = some q := hi
    by_cases hn : inr32 n
    · rw [if_pos hn] at hi
      cases hi
      exact as_iconst C hP hC hL hV hd hn
    · rw [if_neg hn] at hi
      cases hi
  case bipush n =>
    replace hi : (if -128 ≤ n ∧ n ≤ 127 then some (pc + 2, L, (Sum.inl n : aV) :: S, h) else none) = some q := hi
    by_cases hn : -128 ≤ n ∧ n ≤ 127
    · rw [if_pos hn] at hi
      cases hi
      exact as_bipush C hP hC hL hV hd hn
    · rw [if_neg hn] at hi
      cases hi
  case sipush n =>
    replace hi : (if -32768 ≤ n ∧ n ≤ 32767 then some (pc + 3, L, (Sum.inl n : aV) :: S, h) else none) = some q := hi
    by_cases hn : -32768 ≤ n ∧ n ≤ 32767
    · rw [if_pos hn] at hi
      cases hi
      exact as_sipush C hP hC hL hV hd hn
    · rw [if_neg hn] at hi
      cases hi
  case lconst n => cases hi; exact as_lconst C hP hC hL hV hd
  case ldc ix => exact as_ldc F C hP hC hL hV hd hi
  case iload_n k => exact as_ld C hP hC hL hV (Or.inl ⟨rfl, rfl, k, rfl, hd⟩) hi
  case iload k => exact as_ld C hP hC hL hV (Or.inr (Or.inl ⟨rfl, rfl, hd⟩)) hi
  case aload_n k => exact as_ld C hP hC hL hV (Or.inr (Or.inr (Or.inl ⟨rfl, rfl, k, rfl, hd⟩))) hi
  case aload k => exact as_ld C hP hC hL hV (Or.inr (Or.inr (Or.inr ⟨rfl, rfl, hd⟩))) hi
  case istore_n k => exact as_sv C hP hC hL hV (Or.inl ⟨rfl, rfl, k, rfl, hd⟩) hi
  case istore k => exact as_sv C hP hC hL hV (Or.inr (Or.inl ⟨rfl, rfl, hd⟩)) hi
  case astore_n k => exact as_sv C hP hC hL hV (Or.inr (Or.inr (Or.inl ⟨rfl, rfl, k, rfl, hd⟩))) hi
  case astore k => exact as_sv C hP hC hL hV (Or.inr (Or.inr (Or.inr ⟨rfl, rfl, hd⟩))) hi
  case iinc k n => exact as_ic C hP hC hL hV hd hi
  case iadd => exact as_ar C hP hC hL hV (Or.inl ⟨hd, rfl⟩) hi
  case isub => exact as_ar C hP hC hL hV (Or.inr (Or.inl ⟨hd, rfl⟩)) hi
  case imul => exact as_ar C hP hC hL hV (Or.inr (Or.inr ⟨hd, rfl⟩)) hi
  case irem => exact as_rm C hP hC hL hV hd hi
  case idiv => exact as_dv C hP hC hL hV hd hi
  case pop => exact as_pp C hP hC hL hV hd hi
  case iand => exact as_bo C hP hC hL hV (Or.inl ⟨rfl, hd⟩) hi
  case ior => exact as_bo C hP hC hL hV (Or.inr (Or.inl ⟨rfl, hd⟩)) hi
  case ixor => exact as_bo C hP hC hL hV (Or.inr (Or.inr (Or.inl ⟨rfl, hd⟩))) hi
  case ishl => exact as_bo C hP hC hL hV (Or.inr (Or.inr (Or.inr (Or.inl ⟨rfl, hd⟩)))) hi
  case ishr => exact as_bo C hP hC hL hV (Or.inr (Or.inr (Or.inr (Or.inr ⟨rfl, hd⟩)))) hi
  case i2l => exact as_i2l C hP hC hL hV hd hi
  case lcmp => exact as_lc C hP hC hL hV hd hi
  case dup => exact as_d1 C hP hC hL hV hd hi
  case dup2 => exact as_d2 C hP hC hL hV hd hi
  case goto off =>
    rw [Option.map_eq_some_iff] at hi
    obtain ⟨t, ht, rfl⟩ := hi
    exact as_go C hP hC hL hV hd ht
  case ifCond cd off => exact as_if1 C hP hC hL hV hd hi
  case if_icmp cd off => exact as_if2 C hP hC hL hV hd hi
  case tableswitch d lo h9 offs => exact as_sw C hP hC hL hV hd hi
  case getfield ix => exact as_gf F C hP hC hL hV hd hi
  case putfield ix => exact as_pf F C hP hC hL hV hd hi
  case new ix => exact as_nw F C hP hC hL hV hd hi
  case newarray t => exact as_na1 F C hP hC hL hV hd hi
  case anewarray ix => exact as_na2 F C hP hC hL hV hd hi
  case multianewarray ix d => exact as_nm F C hP hC hL hV hd hi
  case arraylength => exact as_al F C hP hC hL hV hd hi
  case iaload => exact as_il F C hP hC hL hV hd hi
  case iastore => exact as_is F C hP hC hL hV hd hi
  case aaload => exact as_rl F C hP hC hL hV hd hi
  case aastore => exact as_rs F C hP hC hL hV hd hi
  case invokestatic ix => exact as_mn F C hP hC hL hV hc1 hs1 hd hi
  case invokespecial ix => exact as_ob F C hP hC hL hV hd hi
end AS4
