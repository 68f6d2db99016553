/-! CALLS, and the whole run -/
section CM
variable {Γ : aG} {l : Launch}
/-- a method's contract for one run of the abstract machine -/
theorem met_of {n : Nat} {ν : aM} {As : List aV} {h : aH} {r : aR} (F : SF Γ) (hfl : l.stackTraces = false) (ih : Snd Γ l n) (hx : amX n ν 0 As [] h = some r) (m1 : am_m1 ν) (hh : hhOK ν) (hc : As.all am_c1 = true) (ho : ∀ v ∈ As, okv v) (hn : As.length ≤ am_mx ν) :
    vx_Met l (am_y ν) (am_cw ν :: gW) { frames := am_nF ν, cells := hnx r.2 - hnx h, slots := hks r.2 - hks h, locals := am_nL ν } (cPc Γ As h) (cQc Γ r) (cXC Γ r) (hnx r.2 - hnx h) (hks r.2 - hks h) (fun q => gb Γ ≤ q) := by
  obtain ⟨-, -, -, hcls, hpl, -, -, -, hini⟩ := m1
  have body : ∀ (p : Program) (e : Env) (s : State) (m : MethodId) (args : Array Value) (below : List Frame) (meth : Method) (c : Code) (s₁ : State) (R : Room), R = { frames := am_nF ν, cells := hnx r.2 - hnx h, slots := hks r.2 - hks h, locals := am_nL ν } → p.tables.exec = Jvm.exec → c.code = am_cc ν → meth.sig.returnType = am_rt ν → c.maxLocals = am_mx ν → s.vm.findClass (am_y ν).cls = some m.cls → meth.locks = false → c.exceptionTable.toList = tableOf (am_hh ν) → meth.name = (am_y ν).name → cPc Γ As h args s →
      W p l e R s m args below meth c s.heap [] 0 0 (vx_MQ below (cQc Γ r) (cXC Γ r) args s (hnx r.2 - hnx h) (hks r.2 - hks h) (fun q => gb Γ ≤ q)) (entryFrame m args (am_mx ν)) := by
    intro p e s m args below meth c s₁ R hR b1 b2 b3 b4 b5 b6 b7 b8 hv
    obtain ⟨rfl, hG, hP⟩ := hv
    have C : CX Γ ν p R s m (As.map rv).toArray meth c := ⟨b1, b2, b3, b4, by rw [← hcls]; exact b5, b6, b7, fun z => by rw [b8]; exact hini z, by rw [hR]; exact Nat.le_refl _, by rw [hR]; exact Nat.le_refl _, hG⟩
    rw [lg_entry_eq]
    exact ih ν 0 As [] h r hx hh p e R s m (As.map rv).toArray below meth c s.heap [] 0 0 (hnx r.2 - hnx h) (hks r.2 - hks h) _ _ C hP (fun _ z => by cases z) (LH.entry hc ho hn) (fun _ z => by cases z) (by rw [hP.size]; exact Nat.le_refl _) (Nat.zero_add _) (Nat.zero_add _) (by rw [hR]; exact Nat.le_refl _) (by rw [hR]; exact Nat.le_refl _) (EN.met F hfl C hh (by rw [hR]; exact Nat.le_refl _) (by rw [hR]; exact Nat.le_refl _))
  by_cases he : am_hh ν = []
  · refine vx_ofW (cc := am_cc ν) (maxL := am_mx ν) (ret := am_rt ν) hpl (by rw [am_cw, if_pos he]) ?_
    intro p e s m args below meth c s₁ B hml ht hv
    refine body p e s m args below meth c s₁ _ rfl B.exec B.bytes B.returns hml (findClass_of_methodNamed B.named) B.notSynchronized ?_ (name_of_methodNamed B.named B.method).1 hv
    rw [he]
    cases h9 : c.exceptionTable.toList with
    | nil => rfl
    | cons x t => exact (ht x (by rw [h9]; exact List.mem_cons_self)).elim
  · have hcw : am_cw ν = .codeWith (am_y ν) (am_cc ν) (am_mx ν) (am_rt ν) (am_hh ν) := by rw [am_cw, if_neg he]
    refine vx_ofWH (cc := am_cc ν) (maxL := am_mx ν) (ret := am_rt ν) (hh := am_hh ν) hpl (by rw [hcw]) ?_
    intro p e s m args below meth c s₁ B hml hv
    refine body p e s m args below meth c s₁ _ rfl B.exec B.bytes B.returns hml (findClass_of_methodNamed B.named) B.notSynchronized ?_ (name_of_methodNamed B.named B.method).1 hv
    exact vx_table (x := am_y ν) B (atoms_spec (ws := am_cw ν :: gW) B.pre _ (by rw [hcw]; exact List.mem_cons_self))
theorem cPc_blind {As : List aV} {h : aH} : FrameBlind (cPc Γ As h) := fun a U g mk q => by
  obtain ⟨q1, q2, q3⟩ := q
  exact ⟨q1, q2, q3⟩
end CM
section CL
variable {Γ : aG} {μ : aM} {p : Program} {l : Launch} {e : Env} {R : Room} {s : State} {m : MethodId} {args : Array Value} {below : List Frame} {meth : Method} {c : Code} {H : Heap} {locs : List Loc} {cells slots : Nat} {Q : State → Prop}
variable {pc len : Nat} {ls : Array Slot} {L S : List aV} {h : aH}
theorem GL.warm {U : State} (hG : GL Γ s) (hP : HP Γ h H) (hU : U.heap = H) (hW : s.WarmedH U.vm) : GL Γ U := ⟨State.WarmedH.trans hG.1 hW, by rw [hU, hP.size]; exact hP.2.1, fun q hq => by rw [hU]; exact hP.2.2.1 q hq⟩
theorem split_rv (S : List aV) (n : Nat) : S.map rv = ((S.take n).reverse.map rv).reverse ++ (S.drop n).map rv := by
  rw [← List.map_reverse, List.reverse_reverse, ← List.map_append, List.take_append_drop]
theorem rc_spec {k : Nat} {ν : aM} {As : List aV} (hk : k ≠ 0) (hr : am_rc k ν As h = true) : ∃ (b : Nat) (As' : List aV), As = vR b :: As' ∧ (k = 1 → hsh h b = (am_own ν + 1, am_fN (am_own ν))) := by
  match k, As, hr with
  | 0, _, _ => exact absurd rfl hk
  | 1, .inr (.inr b) :: As', hr => exact ⟨b, As', rfl, fun _ => of_decide_eq_true hr⟩
  | k + 2, .inr (.inr b) :: As', hr => exact ⟨b, As', rfl, fun z => absurd z (by omega)⟩
  | 1, [], hr => cases hr
  | 1, .inl _ :: _, hr => cases hr
  | 1, .inr (.inl _) :: _, hr => cases hr
  | k + 2, [], hr => cases hr
  | k + 2, .inl _ :: _, hr => cases hr
  | k + 2, .inr (.inl _) :: _, hr => cases hr
/-- a call: it runs -/
theorem as_call {n k : Nat} {ν : aM} {i : Instr} {r : aR} (F : SF Γ) (hfl : l.stackTraces = false) (C : CX Γ μ p R s m args meth c) (hP : HP Γ h H) (hL : LH ls (am_mx μ) L) (hV : ∀ v ∈ S, okv v)
    (ih : Snd Γ l n) (hc : am_call (am_own μ) i = some (k, ν)) (hok : am_ok k μ ν S h) (hd : decode (am_cc μ) pc = .ok (i, 3)) (hx : amX n ν 0 (S.take (am_na ν)).reverse [] h = some r) (hC : cells + (hnx r.2 - hnx h) ≤ R.cells) (hS : slots + (hks r.2 - hks h) ≤ R.slots) :
    ∃ a : Array Value, vx_Run p l e R s m args below meth c H locs cells slots (hnx r.2 - hnx h) (hks r.2 - hks h) (F0 m pc ls (S.map rv)) ((S.drop (am_na ν)).map rv) (cQc Γ r a) (cXC Γ r) (fun q => gb Γ ≤ q) := by
  obtain ⟨ix, hmem, hcase⟩ := am_call_spec hc
  obtain ⟨o1, o2, o3, o4, o5, o6⟩ := hok
  have m1 : am_m1 ν := tw_m1 _ _ hmem
  have m2 : am_m2 (am_own μ) (ix, k, ν) := tw_m2 _ _ hmem
  have hh : hhOK ν := tw_hh _ _ hmem
  have hG := C.2.2.2.2.2.2.2.2.2.2
  have f1 := C.2.2.2.2.2.2.2.2.1
  have f2 := C.2.2.2.2.2.2.2.2.2.1
  have hlen : (S.take (am_na ν)).reverse.length = am_na ν := by rw [List.length_reverse, List.length_take]; omega
  have hM := met_of F hfl ih hx m1 hh (by rw [List.all_reverse]; exact o5) (fun v hv => hV v (List.mem_of_mem_take (List.mem_reverse.mp hv))) (by rw [hlen]; exact m1.2.2.2.2.2.2.2.1)
  have hFix : CallFix p m c (am_cc μ) (am_mx μ) s args gW (am_cn (am_own μ)) := ⟨C.1, C.2.1, C.2.2.2.1, C.2.2.2.2.1, F.hts C⟩
  have hws : ∀ w ∈ am_cw ν :: gW, ∀ (a' : Array Value) (U : State), s.WarmedH U.vm → w.before a' U = true := fun w hw a' U hW => by
    have hg : w ∈ gW := by
      rcases List.mem_cons.mp hw with e | e
      · rw [e]; exact gW_mem m1.1 m1.2.1
      · exact e
    exact F.1 w hg a' U (State.WarmedH.trans hG.1 hW)
  have hPc : ∀ U : State, U.heap = H → s.WarmedH U.vm → cPc Γ (S.take (am_na ν)).reverse h ((S.take (am_na ν)).reverse.map rv).toArray U := fun U hU hW => ⟨rfl, hG.warm hP hU hW, by rw [hU]; exact hP⟩
  have hrest : 2 * (F0 m pc ls (S.map rv)).monitorRoom + (((S.drop (am_na ν)).map rv).map fun v => v.category).sum ≤ 8 := lv_room (by rw [rv_wd]; exact o2)
  have hini : (Cond.initialized (am_y ν).cls).before args s = true := F.tb C m1.2.2.1 rfl
  have hcode : (am_cw ν).before args s = true := F.tb C m1.1 m1.2.1
  have hne := m1.2.2.2.2.2.1
  have hne2 := m1.2.2.2.2.2.2.1
  have hpar : ∀ {j : Nat}, (parseMethodDescriptor (am_y ν).desc).map (fun d => d.parameters.length) = some j → ∀ sig, parseMethodDescriptor (am_y ν).desc = some sig → j = sig.parameters.length := fun {j} h1 sig h2 => by
    rw [h2] at h1
    exact (Option.some.inj h1).symm
  have hpar1 : ∀ {j : Nat}, (parseMethodDescriptor (am_y ν).desc).map (fun d => d.parameters.length + 1) = some (j + 1) → ∀ sig, parseMethodDescriptor (am_y ν).desc = some sig → j = sig.parameters.length := fun {j} h1 sig h2 => by
    rw [h2] at h1
    have h3 : sig.parameters.length + 1 = j + 1 := Option.some.inj h1
    omega
  have recv : ∀ (b : Nat) (As : List aV), (S.take (am_na ν)).reverse = vR b :: As → S.map rv = (As.map rv).reverse ++ .ref b :: (S.drop (am_na ν)).map rv ∧ As.length + 1 = am_na ν ∧ (∀ U : State, U.heap = H → s.WarmedH U.vm → cPc Γ (S.take (am_na ν)).reverse h (Value.ref b :: As.map rv).toArray U) := fun b As he => by
    refine ⟨?_, ?_, fun U hU hW => ?_⟩
    · rw [split_rv S (am_na ν), he, List.map_cons, List.reverse_cons, List.append_assoc]
      rfl
    · rw [← hlen, he]; rfl
    · have h9 := hPc U hU hW
      rw [he] at h9 ⊢
      exact h9
  rcases hcase with ⟨rfl, rfl⟩ | ⟨rfl, rfl⟩ | ⟨hk, rfl⟩
  · obtain ⟨w1, w2, w3⟩ := m2.1 rfl
    refine ⟨((S.take (am_na ν)).reverse.map rv).toArray, ?_⟩
    by_cases he : am_hh ν = []
    · have hcw : am_cw ν = .code (am_y ν) (am_cc ν) (am_mx ν) (am_rt ν) := by rw [am_cw, if_pos he]
      rw [hcw] at hM hws hcode
      exact vx_runS hFix hM ⟨⟨rfl, rfl, by show am_nF ν + 1 ≤ R.frames; omega, by show 8 + (am_mx ν + 11) + am_nL ν ≤ R.locals; omega, hws, List.mem_cons_self, hcode, hini, ⟨hne, hne2⟩, hpar w3, F.tb C w1 rfl⟩, F.tb C w2 rfl⟩ ⟨cPc_blind, hPc⟩ rfl (by rw [List.length_map]; exact hlen) hL.1.1 (split_rv S _) hrest hd ⟨hC, hS⟩
    · have hcw : am_cw ν = .codeWith (am_y ν) (am_cc ν) (am_mx ν) (am_rt ν) (am_hh ν) := by rw [am_cw, if_neg he]
      rw [hcw] at hM hws hcode
      exact vx_runSX hFix hM ⟨⟨rfl, rfl, by show am_nF ν + 1 ≤ R.frames; omega, by show 8 + (am_mx ν + 11) + am_nL ν ≤ R.locals; omega, hws, List.mem_cons_self⟩, hcode, hini, ⟨hne, hne2⟩, hpar w3, F.tb C w1 rfl, F.tb C w2 rfl⟩ ⟨cPc_blind, hPc⟩ rfl (by rw [List.length_map]; exact hlen) hL.1.1 (split_rv S _) hrest hd ⟨hC, hS⟩
  · obtain ⟨w1, w2, w3, he, w4, w5⟩ := m2.2.1 rfl
    have hcw : am_cw ν = .code (am_y ν) (am_cc ν) (am_mx ν) (am_rt ν) := by rw [am_cw, if_pos he]
    rw [hcw] at hM hws hcode
    obtain ⟨b, As, hb, hb2⟩ := rc_spec (by omega) o6
    obtain ⟨g1, cell, g2, g3, g4, -⟩ := hP.obj w5 (hb2 rfl)
    obtain ⟨r1, r2, r3⟩ := recv b As hb
    have hfc := ((F.K C).1 _ _ (tw_cl _ w5)).2.1
    exact ⟨_, vx_runV (C := (am_y ν).cls) (As := As.map rv) hFix hM ⟨⟨rfl, rfl, by show am_nF ν + 1 ≤ R.frames; omega, by show 8 + (am_mx ν + 11) + am_nL ν ≤ R.locals; omega, hws, List.mem_cons_self, hcode, hini, ⟨hne, hne2⟩, hpar1 (by rw [r2]; exact w4), F.tb C w1 rfl⟩, F.tb C w2 rfl, F.tb C w3 rfl⟩ ⟨cPc_blind, ⟨cell, g2, by rw [g4]; rfl, by rw [g3, m1.2.2.2.1]; exact hfc⟩, r3⟩ rfl (by rw [List.length_map]) hL.1.1 r1 hrest hd ⟨hC, hS⟩⟩
  · rcases hk with rfl | rfl
    · obtain ⟨w1, w2, w3, w4, he, w5⟩ := m2.2.2.1 rfl
      have hcw : am_cw ν = .code (am_y ν) (am_cc ν) (am_mx ν) none := by rw [am_cw, if_pos he, w4]
      rw [hcw] at hM hws hcode
      obtain ⟨b, As, hb, -⟩ := rc_spec (by omega) o6
      obtain ⟨r1, r2, r3⟩ := recv b As hb
      exact ⟨_, vx_runI (As := As.map rv) hFix hM ⟨⟨rfl, rfl, by show am_nF ν + 1 ≤ R.frames; omega, by show 8 + (am_mx ν + 11) + am_nL ν ≤ R.locals; omega, hws, List.mem_cons_self, hcode, hini, ⟨hne, hne2⟩, hpar1 (by rw [r2]; exact w5), F.tb C w1 rfl⟩, w3, F.tb C w2 rfl⟩ ⟨cPc_blind, r3⟩ rfl (by rw [List.length_map]) hL.1.1 r1 hrest hd ⟨hC, hS⟩⟩
    · obtain ⟨w2, w3, w4, he, w5⟩ := m2.2.2.2 rfl
      have hcw : am_cw ν = .code (am_y ν) (am_cc ν) (am_mx ν) none := by rw [am_cw, if_pos he, w4]
      rw [hcw] at hM hws hcode
      have hnest := va_Nw.warmM hG.1 (F.2.2.2.2.2.2.2.2.2.2.1 _ _ _ hmem)
      obtain ⟨b, As, hb, -⟩ := rc_spec (by omega) o6
      obtain ⟨r1, r2, r3⟩ := recv b As hb
      exact ⟨_, vx_runIN (host := "ConfigDesk") (As := As.map rv) hFix hM ⟨⟨⟨rfl, rfl, by show am_nF ν + 1 ≤ R.frames; omega, by show 8 + (am_mx ν + 11) + am_nL ν ≤ R.locals; omega, hws, List.mem_cons_self⟩, hcode, hini, ⟨hne, hne2⟩, hpar1 (by rw [r2]; exact w5), va_Nw.use rfl hnest⟩, w3, F.tb C w2 rfl⟩ ⟨cPc_blind, r3⟩ rfl (by rw [List.length_map]) hL.1.1 r1 hrest hd ⟨hC, hS⟩⟩
end CL
