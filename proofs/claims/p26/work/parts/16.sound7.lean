/-! A THROW, with the size of the heap behind it (the kit's vx_throwS with one fact more) -/
section VT
variable {p : Program} {l : Launch} {e : Env} {R : Room} {s : State} {m : MethodId} {args : Array Value} {below : List Frame} {meth : Method} {c : Code} {H : Heap} {locs : List Loc} {cells slots : Nat} {Q : State → Prop}
variable {mc ms : Nat} {free : Addr → Prop} {A0 A1 : Nat → Prop} {H0 : Heap} {a : Array Value} {ls : Array Slot} {st0 rest : List Value}
variable {Qc : Array Value → State → Outcome → State → Prop} {XC : String → State → State → Prop}
/-- 'throw new E("text")': new; dup; ldc; invokespecial; athrow -/
theorem vt_throwS {cc : ByteArray} {pc : Nat} (hexec : p.tables.exec = Jvm.exec) (hb : c.code = cc) (hl : l.stackTraces = false) {own cls text : String} {names : List String} {ik is ic mc ms sa : Nat} {A : Nat → Prop}
    (hown : s.vm.findClass own = some m.cls) (hcls : Bundle.fit cls = true) (hnames : ∀ n ∈ names, Bundle.fit n = true)
    (hk : (Cond.classLink own ik cls).before args s = true) (hini : (Cond.initialized cls).before args s = true) (hstr : vk_R own is text sa s) (hat : ∀ w ∈ vx_atS own ic cls names, w.before args s = true)
    (hgood : ∀ w ∈ Cond.classLink own ik cls :: Cond.initialized cls :: vx_atS own ic cls names, vx_ot w = true)
    (hU : vx_Zq Bundle.tN "UNASSIGNED_STACK" Bundle.steD A s s.heap) (hN : vx_Zq Bundle.tN "SUPPRESSED_SENTINEL" Bundle.listD A s s.heap) (hS : va_S A s.heap H locs) (hsize : ls.size = c.maxLocals)
    (d0 : decode cc pc = .ok (.new ik, 3)) (d3 : decode cc (pc + 3) = .ok (.dup, 1)) (d4 : decode cc (pc + 4) = .ok (.ldc is, 2)) (d6 : decode cc (pc + 6) = .ok (.invokespecial ic, 3)) (d9 : decode cc (pc + 9) = .ok (.athrow, 1))
    (hout : ∀ x ∈ c.exceptionTable.toList, covers x (pc + 9) = false)
    (hRframes : names.length + 3 < R.frames) (hRlocals : (rest.map fun v => v.category).sum + (13 * (names.length + 1) + 43) ≤ R.locals) (hRcells : cells + 1 ≤ R.cells) (hRslots : slots + 6 ≤ R.slots) (hlocks : meth.locks = false)
    (hx : ∀ t : State, s.vm.Alike t.vm → t.heap.size = H.size + 1 → (∀ q : Nat, q < H.size → t.heap[q]? = H[q]?) → XC cls s t)
    (hf : ∀ z ∈ locs, free z.base) (hc : cells + 1 ≤ mc) (hs : slots + 6 ≤ ms) :
    W p l e R s m args below meth c H locs cells slots (vx_MQ below Qc XC args s mc ms free) (F0 m pc ls rest) := by
  intro T hT X
  have htr : e.platform.stackTraces = false := (show e.platform.stackTraces = l.stackTraces by rw [X.admits.platform]).trans hl
  have Y := vx_rebase X (R' := { frames := R.frames, locals := R.locals, cells := 1, slots := 6 }) (Nat.le_refl _) (Nat.le_refl _) hRcells hRslots
  obtain ⟨s', hA⟩ : ∃ z, z = (T.setVm s.vm).setFrames (.invoking m args :: below) := ⟨_, rfl⟩
  rw [← hA] at Y
  have hvm : s'.vm = s.vm := by rw [hA]; rfl
  have hhp : s'.heap = H := by rw [hA]; exact hT
  have hW0 : s.WarmedH s'.vm := by rw [hvm]; exact State.WarmedH.refl s
  have hat' : ∀ w ∈ vx_atS own ic cls names, w.before args s' = true := fun w hw => vx_ot_at hW0 hvm.symm (hgood w (List.mem_cons_of_mem _ (List.mem_cons_of_mem _ hw))) (hat w hw)
  have hk' : (Cond.classLink own ik cls).before args s' = true := vx_ot_at hW0 hvm.symm (hgood _ List.mem_cons_self) hk
  have hini' : (Cond.initialized cls).before args s' = true := vx_ot_at hW0 hvm.symm (hgood _ (List.mem_cons_of_mem _ List.mem_cons_self)) hini
  have hU' : vx_Zq Bundle.tN "UNASSIGNED_STACK" Bundle.steD A s' s'.heap := by rw [hhp]; exact vx_Zq.moved hW0.alike (hU.kept hS.2.1)
  have hN' : vx_Zq Bundle.tN "SUPPRESSED_SENTINEL" Bundle.listD A s' s'.heap := by rw [hhp]; exact vx_Zq.moved hW0.alike (hN.kept hS.2.1)
  have h : ∀ w ∈ Bundle.ownAtoms own ic cls names, w.before args s' = true := vx_own hat' (vx_isRefq hU'.1) (vx_isRefq hN'.1) hU'.2.word hN'.2.word
  have hown' : s'.vm.findClass own = some m.cls := by rw [hvm]; exact hown
  have hins : (Cond.instantiable cls 6).before args s' = true := h _ (by simp [Bundle.ownAtoms])
  obtain ⟨vm₁, cX, kX, hfX, hkX, -, -, X₁, st1⟩ := Y.newCold hexec (own := own) (C := cls) (index := ik) (n := 6) hown' hk' hins hini'
    (g := F0 m pc ls rest) rfl (by rw [hb]; exact d0) (Nat.le_refl _) (Nat.le_refl _)
  generalize hT1 : (T.setVm vm₁).pushCell { cls := cX, slots := kX.instanceTypes.map defaultValue, vm := .none } = T1 at X₁ st1
  have hcat : (Value.ref T.heap.size).category = 1 := rfl
  have hcellA : T1.heap[T.heap.size]? = some (freshCell cX kX) := by rw [← hT1]; exact State.heap_pushCell_size _ _
  have d3' : decode c.code (pc + 3) = .ok (.dup, 1) := by rw [hb]; exact d3
  have d4' : decode c.code (pc + 4) = .ok (.ldc is, 2) := by rw [hb]; exact d4
  have hstr' : vk_R own is text sa s' := vk_R.warm hW0 hstr
  obtain ⟨U, hsteps, hrun, hend, hW, hsame, ce, hce, hO⟩ := X₁.ctorThrowS hexec htr (own := own) (cls := cls) (names := names) (ic := ic) hown' hcls hnames h (fun x hx => nomatch hx) hfX hkX hcellA (by rw [hhp, hT]; exact Nat.le_refl _) (msg := .ref sa) rfl
    (g := { method := m, pc := pc + 6, locals := ls, stack := .ref sa :: .ref T.heap.size :: .ref T.heap.size :: rest, locked := none }) rfl hsize rfl rfl (rest := rest) rfl
    (by rw [hb]; exact d6) (by rw [hb]; exact d9) hout hRframes (by simp only [List.map_cons, List.sum_cons, hcat]; omega) hlocks
  obtain ⟨f1, f2⟩ := vx_frame hsame
  rw [hhp] at f1 f2
  have f3 : U.heap.size = H.size + 1 := by
    have g1 : U.heap.size ≤ s'.heap.size + 1 := hsame.2.2.1
    have g2 : T.heap.size < U.heap.size := (Array.getElem?_eq_some_iff.mp hce).1
    rw [hhp] at g1
    rw [hT] at g2
    omega
  have hWs : s.WarmedH U.vm := State.WarmedH.trans hW0 hW
  have hcl : s.vm.findClass cls = some ce.cls := by
    have h9 := hO.cls
    rw [hvm] at h9
    exact h9
  have hall : s.sameButNew ({ U with vm := s.vm } : State) locs mc ms := by
    subst hA
    obtain ⟨e1, e2⟩ := hsame
    rw [State.setFrames_setFrames] at e1
    have h2 : (T.setVm s.vm).sameButNew ({ U with vm := s.vm } : State) [] (0 + 1) (0 + 6) := ⟨e1, e2⟩
    have h3 := X.same.trans h2
    rw [List.append_nil] at h3
    exact h3.mono hc hs
  refine ⟨U, ?_, .threw T.heap.size, hrun, hend, Or.inr ⟨T.heap.size, rfl, cls, ce, locs, hx U hWs.alike f3 (fun q hq => f2 q hq (fun z hz => nomatch hz)), hce, hO.vm, hcl, hWs, hall, hf⟩⟩
  refine st1 _ ?_
  show Steps p.tables e below (T1.setTop { method := m, pc := pc + 3, locals := ls, stack := .ref T.heap.size :: rest, locked := none }) _
  jvm_step X₁.here [X₁.here.top, hexec, d3', Value.category]
  exact X₁.ldcString hexec (own := own) (text := text) (index := is) (a := sa) hown' hstr'.1 hstr'.2
    (g := { method := m, pc := pc + 4, locals := ls, stack := .ref T.heap.size :: .ref T.heap.size :: rest, locked := none }) rfl d4' _ hsteps
end VT
/-! RUNS of the abstract machine are runs of the machine -/
theorem amI_mono {μ : aM} {pc : Nat} {L S : List aV} {h : aH} {i : Instr} {q : aC} (hi : amI μ pc L S h i = some q) : hnx h ≤ hnx q.2.2.2 ∧ hks h ≤ hks q.2.2.2 := by
  have k1 : ∀ (q : aC), q.2.2.2 = h → hnx h ≤ hnx q.2.2.2 ∧ hks h ≤ hks q.2.2.2 := fun q e => by rw [e]; exact ⟨Nat.le_refl _, Nat.le_refl _⟩
  cases i <;> (try (simp only [amI, reduceCtorEq] at hi; done)) <;> unfold amI at hi <;>
    simp only [am_ld, am_sv, am_st, am_ar, am_rm, am_dv, am_pp, am_bo, am_if1, am_if2, am_sw, am_gf, am_pf, am_nw, am_na1, am_na2, am_nm, am_al, am_il, am_is, am_rl, am_rs, am_i2l, am_lc, am_d1, am_d2, am_ic, am_ob, am_lc2, am_mn, Option.map_eq_some_iff] at hi <;>
    (repeat' split at hi) <;>
    first
    | (cases hi; done)
    | (cases hi; exact ⟨Nat.le_refl _, Nat.le_refl _⟩)
    | (cases hi; exact ⟨Nat.le_succ _, Nat.le_add_right _ _⟩)
    | (cases hi; constructor <;> simp only [hnx, hks, hml] <;> omega)
    | (rw [Option.map_eq_some_iff] at hi; obtain ⟨t, -, rfl⟩ := hi; exact ⟨Nat.le_refl _, Nat.le_refl _⟩)
    | (obtain ⟨t, -, rfl⟩ := hi; exact ⟨Nat.le_refl _, Nat.le_refl _⟩)
    | skip
theorem amX_mono : ∀ (n : Nat) (μ : aM) (pc : Nat) (L S : List aV) (h : aH) (r : aR), amX n μ pc L S h = some r → hnx h ≤ hnx r.2 ∧ hks h ≤ hks r.2
  | 0, μ, pc, L, S, h, r, hr => by cases hr
  | n + 1, μ, pc, L, S, h, r, hr => by
    unfold amX at hr
    split at hr
    · cases hr
    · rename_i i len hd
      split at hr
      · split at hr
        · split at hr
          · cases hr; exact ⟨Nat.le_refl _, Nat.le_refl _⟩
          · cases hr
        · split at hr
          · cases hr
            exact ⟨Nat.le_succ _, Nat.le_add_right _ 6⟩
          · split at hr
            · rename_i k ν hc
              split at hr
              · rename_i hok
                split at hr
                · cases hr
                · rename_i v h' hc2
                  have i1 := amX_mono n _ _ _ _ _ _ hc2
                  have i2 := amX_mono n _ _ _ _ _ _ hr
                  exact ⟨Nat.le_trans i1.1 i2.1, Nat.le_trans i1.2 i2.2⟩
                · rename_i E h' hc2
                  have i1 := amX_mono n _ _ _ _ _ _ hc2
                  split at hr
                  · cases hr; exact i1
                  · split at hr
                    · cases hr
                    · have i2 := amX_mono n _ _ _ _ _ _ hr
                      exact ⟨Nat.le_trans i1.1 i2.1, Nat.le_trans i1.2 i2.2⟩
              · cases hr
            · split at hr
              · cases hr
              · rename_i pc' L' S' h' hi
                have i1 := amI_mono hi
                have i2 := amX_mono n _ _ _ _ _ _ hr
                exact ⟨Nat.le_trans i1.1 i2.1, Nat.le_trans i1.2 i2.2⟩
      · cases hr
/-- what the end of a run owes: a return, a throw of its own, a throw of a callee's that isn't caught -/
def EN (Γ : aG) (μ : aM) (p : Program) (l : Launch) (e : Env) (R : Room) (s : State) (m : MethodId) (args : Array Value) (below : List Frame) (meth : Method) (c : Code) (r : aR) (C' S' : Nat) (Q : State → Prop) : Prop :=
  (∀ (v : Option aV) (H' : Heap) (locs' : List Loc) (ls' : Array Slot) (pc' : Nat) (i : Instr), r.1 = .inl v → HP Γ r.2 H' → LC Γ locs' → (∀ w, v = some w → okv w) → am_okr (am_rt μ) v = true → decode (am_cc μ) pc' = .ok (i, 1) → am_ret i v.toList = some v → W p l e R s m args below meth c H' locs' C' S' Q (F0 m pc' ls' (v.toList.map rv))) ∧
  (∀ (k : Nat) (h' : aH) (H' : Heap) (locs' : List Loc) (ls' : Array Slot) (pc' : Nat) (st : List aV) (cells' slots' ik is ic : Nat), r = (.inr k, hth h') → HP Γ h' H' → LC Γ locs' → ls'.size = am_mx μ → s.heap.size ≤ hnx h' → cells' + 1 = C' → slots' + 6 = S' → ((ik, is, ic), k) ∈ am_xrT (am_own μ) →
    decode (am_cc μ) pc' = .ok (.new ik, 3) → decode (am_cc μ) (pc' + 3) = .ok (.dup, 1) → decode (am_cc μ) (pc' + 4) = .ok (.ldc is, 2) → decode (am_cc μ) (pc' + 6) = .ok (.invokespecial ic, 3) → decode (am_cc μ) (pc' + 9) = .ok (.athrow, 1) → am_hh μ = [] → am_wd st ≤ 8 → 6 ≤ am_nF μ → 90 ≤ am_nL μ →
    W p l e R s m args below meth c H' locs' cells' slots' Q (F0 m pc' ls' (st.map rv))) ∧
  (∀ (k : Nat) (H' : Heap) (locs' : List Loc) (ls' : Array Slot) (pc' : Nat) (st : List Value) (q : Addr) (ce : Cell), r.1 = .inr k → 1 ≤ k → k ≤ 3 → HP Γ r.2 H' → LC Γ locs' → am_hd (am_hh μ) pc' k = none → H'[q]? = some ce → ce.vm = .none → s.vm.findClass (am_xn k) = some ce.cls → vx_W p l e R s m args below meth c H' locs' C' S' Q (F0 m pc' ls' st) q)
abbrev hhOK (μ : aM) : Prop := ∀ q ∈ am_hh μ, 1 ≤ am_ct q.2.2.2 ∧ am_own μ = 9
def Snd (Γ : aG) (l : Launch) (n : Nat) : Prop := ∀ (μ : aM) (pc : Nat) (L S : List aV) (h : aH) (r : aR), amX n μ pc L S h = some r → hhOK μ →
  ∀ (p : Program) (e : Env) (R : Room) (s : State) (m : MethodId) (args : Array Value) (below : List Frame) (meth : Method) (c : Code) (H : Heap) (locs : List Loc) (cells slots C' S' : Nat) (Q : State → Prop) (ls : Array Slot),
  CX Γ μ p R s m args meth c → HP Γ h H → LC Γ locs → LH ls (am_mx μ) L → (∀ v ∈ S, okv v) → s.heap.size ≤ hnx h → cells + (hnx r.2 - hnx h) = C' → slots + (hks r.2 - hks h) = S' → C' ≤ R.cells → S' ≤ R.slots →
  EN Γ μ p l e R s m args below meth c r C' S' Q → W p l e R s m args below meth c H locs cells slots Q (F0 m pc ls (S.map rv))
theorem am_ret_spec {i : Instr} {S : List aV} {v : Option aV} (h : am_ret i S = some v) : S = v.toList ∧ (i = .ireturn ∨ i = .areturn ∨ i = .return_) := by
  unfold am_ret at h
  split at h
  · cases h; exact ⟨rfl, Or.inl rfl⟩
  · cases h; exact ⟨rfl, Or.inr (Or.inl rfl)⟩
  · cases h; exact ⟨rfl, Or.inr (Or.inr rfl)⟩
  · cases h
theorem am_thr_spec {μ : aM} {pc : Nat} {i : Instr} {S : List aV} {E : Nat} (h : am_thr μ pc i S = some E) : ∃ ik is ic, i = .new ik ∧ decode (am_cc μ) (pc + 3) = .ok (.dup, 1) ∧ decode (am_cc μ) (pc + 4) = .ok (.ldc is, 2) ∧ decode (am_cc μ) (pc + 6) = .ok (.invokespecial ic, 3) ∧ decode (am_cc μ) (pc + 9) = .ok (.athrow, 1) ∧ am_hh μ = [] ∧ am_wd S ≤ 8 ∧ 6 ≤ am_nF μ ∧ 90 ≤ am_nL μ ∧ ((ik, is, ic), E) ∈ am_xrT (am_own μ) := by
  unfold am_thr at h
  split at h
  · rename_i ik
    split at h
    · rename_i is ic d3 d4 d6 d9
      split at h
      · rename_i hc
        exact ⟨ik, is, ic, rfl, d3, d4, d6, d9, hc.1, hc.2.1, hc.2.2.1, hc.2.2.2, am_lk3_mem h⟩
      · cases h
    · cases h
  · cases h
theorem am_call_spec {o : Nat} {i : Instr} {k : Nat} {ν : aM} (h : am_call o i = some (k, ν)) : ∃ ix, (ix, (k, ν)) ∈ am_mrT o ∧ (k = 0 ∧ i = .invokestatic ix ∨ k = 1 ∧ i = .invokevirtual ix ∨ (k = 2 ∨ k = 3) ∧ i = .invokespecial ix) := by
  unfold am_call at h
  split at h
  · rename_i ix
    split at h
    · rename_i ν' hl
      cases h
      exact ⟨ix, am_lk_mem hl, Or.inl ⟨rfl, rfl⟩⟩
    · cases h
  · rename_i ix
    split at h
    · rename_i ν' hl
      cases h
      exact ⟨ix, am_lk_mem hl, Or.inr (Or.inl ⟨rfl, rfl⟩)⟩
    · cases h
  · rename_i ix
    split at h
    · rename_i ν' hl
      cases h
      exact ⟨ix, am_lk_mem hl, Or.inr (Or.inr ⟨Or.inl rfl, rfl⟩)⟩
    · rename_i ν' hl
      cases h
      exact ⟨ix, am_lk_mem hl, Or.inr (Or.inr ⟨Or.inr rfl, rfl⟩)⟩
    · cases h
  · cases h
theorem hd_none : ∀ {hh : List (Nat × Nat × Nat × Nat)} {pc E : Nat}, am_hd hh pc E = none → ∀ z ∈ hh, ¬ (z.1 ≤ pc ∧ pc < z.2.1 ∧ am_ct z.2.2.2 = E)
  | [], pc, E, h, z, hz => by cases hz
  | (a, b, t, k) :: r, pc, E, h, z, hz => by
    unfold am_hd at h
    split at h
    · cases h
    · rename_i hc
      rcases List.mem_cons.mp hz with rfl | hz
      · exact hc
      · exact hd_none h z hz
theorem hd_some : ∀ {hh : List (Nat × Nat × Nat × Nat)} {pc E t : Nat}, am_hd hh pc E = some t → ∃ pre x suf, hh = pre ++ x :: suf ∧ (∀ z ∈ pre, ¬ (z.1 ≤ pc ∧ pc < z.2.1 ∧ am_ct z.2.2.2 = E)) ∧ (x.1 ≤ pc ∧ pc < x.2.1 ∧ am_ct x.2.2.2 = E) ∧ x.2.2.1 = t
  | [], pc, E, t, h => by cases h
  | (a, b, t', k) :: r, pc, E, t, h => by
    unfold am_hd at h
    split at h
    · rename_i hc
      cases h
      exact ⟨[], _, r, rfl, (fun _ h => absurd h List.not_mem_nil), hc, rfl⟩
    · rename_i hc
      obtain ⟨pre, x, suf, h1, h2, h3, h4⟩ := hd_some h
      refine ⟨_ :: pre, x, suf, by rw [h1]; rfl, fun z hz => ?_, h3, h4⟩
      rcases List.mem_cons.mp hz with rfl | hz
      · exact hc
      · exact h2 z hz
theorem lv_args_mem : ∀ {As : List aV} {i : Nat}, As.all am_c1 = true → ∀ {k : Nat} {v : aV}, As[k]? = some v → (i + k, rv v) ∈ lv_args i (As.map rv)
  | [], i, _, k, v, h => by simp at h
  | w :: As, i, hc, k, v, h => by
    rw [List.all_cons, Bool.and_eq_true] at hc
    have e : lv_args i ((w :: As).map rv) = (i, rv w) :: lv_args (i + 1) (As.map rv) := by
      show (i, rv w) :: lv_args (if (rv w).category = 2 then i + 2 else i + 1) (As.map rv) = _
      rw [if_neg (by rw [rv_cat hc.1]; omega)]
    rw [e]
    cases k with
    | zero =>
      rw [List.getElem?_cons_zero] at h
      cases h
      exact List.mem_cons_self
    | succ k =>
      rw [List.getElem?_cons_succ] at h
      have := lv_args_mem (i := i + 1) hc.2 h
      rw [show i + (k + 1) = i + 1 + k by omega]
      exact List.mem_cons_of_mem _ this
theorem sl_len : ∀ {As : List aV}, As.all am_c1 = true → (lg_sl (As.map rv)).length = As.length
  | [], _ => rfl
  | w :: As, hc => by
    rw [List.all_cons, Bool.and_eq_true] at hc
    have ih := sl_len hc.2
    unfold lg_sl at ih ⊢
    rw [List.map_cons, List.flatMap_cons, List.length_append, ih, if_neg (by rw [rv_cat hc.1]; omega)]
    simp
    omega
theorem LH.entry {As : List aV} {n : Nat} (hc : As.all am_c1 = true) (ho : ∀ v ∈ As, okv v) (hn : As.length ≤ n) : LH ((lg_sl (As.map rv) ++ List.replicate (n - (lg_sl (As.map rv)).length) Slot.unset).toArray) n As := by
  refine LH.of (lv_entry (As.map rv) (by rw [sl_len hc]; exact hn)) hn fun k v hv => ⟨?_, List.all_eq_true.mp hc v (List.mem_of_getElem? hv), ho v (List.mem_of_getElem? hv)⟩
  have := lv_args_mem (i := 0) hc hv
  rwa [Nat.zero_add] at this
/-- a callee's contract out of its run -/
def cPc (Γ : aG) (As : List aV) (h : aH) : Array Value → State → Prop := fun a U => a = (As.map rv).toArray ∧ GL Γ U ∧ HP Γ h U.heap
def cQc (Γ : aG) (r : aR) : Array Value → State → Outcome → State → Prop := fun _ _ o t => ∃ v : Option aV, r.1 = .inl v ∧ o = .returned (v.map rv) ∧ HP Γ r.2 t.heap ∧ ∀ w, v = some w → okv w
def cXC (Γ : aG) (r : aR) : String → State → State → Prop := fun E _ t => ∃ k : Nat, r.1 = .inr k ∧ E = am_xn k ∧ 1 ≤ k ∧ k ≤ 3 ∧ HP Γ r.2 t.heap
theorem tw_hh : ∀ o, ∀ e ∈ am_mrT o, hhOK e.2.2 :=
  c9 (c8 (by decide +kernel) (by decide +kernel) (by decide +kernel) (by decide +kernel) (by decide +kernel) (by decide +kernel) (by decide +kernel) (by decide +kernel) (by decide +kernel)) (by decide +kernel) (fun c e he => by cases he)
theorem okr_cases {t : Option FieldType} {v : Option aV} (h : am_okr t v = true) : (t = none ∧ v = none) ∨ (t = some .int ∧ ∃ x, v = some (.inl x)) ∨ (t = some .boolean ∧ ∃ x : Int, v = some (.inl x) ∧ (x = 0 ∨ x = 1)) ∨ ((∃ n, t = some (.object n)) ∧ ∃ a, v = some (.inr (.inr a))) := by
  unfold am_okr at h
  split at h
  · exact Or.inl ⟨rfl, rfl⟩
  · exact Or.inr (Or.inl ⟨rfl, _, rfl⟩)
  · exact Or.inr (Or.inr (Or.inl ⟨rfl, _, rfl, of_decide_eq_true h⟩))
  · exact Or.inr (Or.inr (Or.inr ⟨⟨_, rfl⟩, _, rfl⟩))
  · cases h
section CT
variable {Γ : aG} {μ : aM} {p : Program} {l : Launch} {e : Env} {R : Room} {s : State} {m : MethodId} {args : Array Value} {below : List Frame} {meth : Method} {c : Code} {r : aR} {C' S' : Nat}
/-- a method's end, towards any caller -/
theorem EN.met (F : SF Γ) (hfl : l.stackTraces = false) (C : CX Γ μ p R s m args meth c) (hh : hhOK μ) (hC' : C' ≤ R.cells) (hS' : S' ≤ R.slots) : EN Γ μ p l e R s m args below meth c r C' S' (vx_MQ below (cQc Γ r) (cXC Γ r) args s C' S' (fun q => gb Γ ≤ q)) := by
  have ha := C.2.2.2.2.2.2.2.2.2.2.1.alike
  refine ⟨?_, ?_, ?_⟩
  · intro v H' locs' ls' pc' i hr hP hC ho hok hd hret
    refine vx_ret ?_
    have key : ∀ (o : Option Value), o = v.map rv → ∀ t : State, t.heap = H' → s.WarmedH t.vm → cQc Γ r args s (.returned o) t := fun o e t ht _ => ⟨v, hr, by rw [e], by rw [ht]; exact hP, ho⟩
    rcases okr_cases hok with ⟨h1, rfl⟩ | ⟨h1, x, rfl⟩ | ⟨h1, x, rfl, hx⟩ | ⟨⟨n, h1⟩, a, rfl⟩
    · have hi : i = .return_ := by
        rcases (am_ret_spec hret).2 with rfl | rfl | rfl
        · cases hret
        · cases hret
        · rfl
      subst hi
      exact W.vret C.1 C.2.1 (C.2.2.1.trans h1) (key none rfl) hC hd C.2.2.2.2.2.1
    · have hi : i = .ireturn := by
        rcases (am_ret_spec hret).2 with rfl | rfl | rfl
        · rfl
        · cases hret
        · cases hret
      subst hi
      exact W.iret C.1 C.2.1 (C.2.2.1.trans h1) (key (some (.int (Int32.ofInt x))) rfl) hC hd C.2.2.2.2.2.1
    · have hi : i = .ireturn := by
        rcases (am_ret_spec hret).2 with rfl | rfl | rfl
        · rfl
        · cases hret
        · cases hret
      subst hi
      exact W.zret C.1 C.2.1 (C.2.2.1.trans h1) (by rcases hx with rfl | rfl <;> rfl) (key (some (.int (Int32.ofInt x))) rfl) hC hd C.2.2.2.2.2.1
    · have hi : i = .areturn := by
        rcases (am_ret_spec hret).2 with rfl | rfl | rfl
        · cases hret
        · rfl
        · cases hret
      subst hi
      exact W.aret (v := .ref a) C.1 C.2.1 (C.2.2.1.trans h1) (Or.inl ⟨n, rfl⟩) (Or.inr ⟨a, rfl⟩) (key (some (.ref a)) rfl) hC hd C.2.2.2.2.2.1
  · intro k h' H' locs' ls' pc' st cells' slots' ik is ic hr hP hC hls hz hc hs hx d0 d3 d4 d6 d9 hhe hwd hF hL
    subst hr
    obtain ⟨ho, hcase⟩ := tw_xe _ _ hx
    obtain ⟨sa, tx, hstr⟩ := F.2.2.2.2.2.2.2.1 _ _ hx
    have hown : s.vm.findClass RX7 = some m.cls := by have h9 := C.2.2.2.2.1; rw [ho] at h9; exact h9
    have f1 := C.2.2.2.2.2.2.2.2.1
    have f2 := C.2.2.2.2.2.2.2.2.2.1
    have hG := C.2.2.2.2.2.2.2.2.2.2
    have hU : vx_Zq Bundle.tN "UNASSIGNED_STACK" Bundle.steD (fun q => gb Γ ≤ q) s s.heap := vx_Zq.moved ha (F.2.2.2.2.2.2.2.2.1.kept fun q h1 h2 => hG.2.2 q h1)
    have hN : vx_Zq Bundle.tN "SUPPRESSED_SENTINEL" Bundle.listD (fun q => gb Γ ≤ q) s s.heap := vx_Zq.moved ha (F.2.2.2.2.2.2.2.2.2.1.kept fun q h1 h2 => hG.2.2 q h1)
    have hS : va_S (fun q => gb Γ ≤ q) s.heap H' locs' := ⟨by rw [hP.size]; exact hz, fun q h1 h2 => by
      have h3 : q < gb Γ := Nat.not_le.mp h2
      rw [hP.2.2.1 q h3, hG.2.2 q h3], hC⟩
    have hout : ∀ x ∈ c.exceptionTable.toList, covers x (pc' + 9) = false := fun x hx => by
      rw [C.2.2.2.2.2.2.1, hhe] at hx
      cases hx
    have hxx : ∀ (k : Nat), (.inr k : Option aV ⊕ Nat) = (.inr k : Option aV ⊕ Nat) → 1 ≤ k → k ≤ 3 → ∀ t : State, s.vm.Alike t.vm → t.heap.size = H'.size + 1 → (∀ q : Nat, q < H'.size → t.heap[q]? = H'[q]?) → cXC Γ (.inr k, hth h') (am_xn k) s t := fun k _ k1 k3 t _ h1 h2 => ⟨k, rfl, rfl, k1, k3, hP.thrown h1 h2⟩
    have go : ∀ (E : Nat), 1 ≤ E → E ≤ 3 → k = E → Bundle.fit (am_xn E) = true → (Cond.classLink RX7 ik (am_xn E) ∈ lw_tbl ∧ Cond.initialized (am_xn E) ∈ lw_tbl ∧ ∀ w ∈ vx_atS RX7 ic (am_xn E) ["java/lang/RuntimeException", "java/lang/Exception"], w ∈ lw_tbl ∧ vx_ot w = true ∧ (goodWord w || am_dc w) = true) → W p l e R s m args below meth c H' locs' cells' slots' (vx_MQ below (cQc Γ (.inr k, hth h')) (cXC Γ (.inr k, hth h')) args s C' S' (fun q => gb Γ ≤ q)) (F0 m pc' ls' (st.map rv)) := by
      intro E e1 e3 hk hfit tw
      subst hk
      have hat : ∀ w ∈ vx_atS RX7 ic (am_xn k) ["java/lang/RuntimeException", "java/lang/Exception"], w.before args s = true := by
        intro w hw
        obtain ⟨g1, -, g2⟩ := tw.2.2 w hw
        rw [Bool.or_eq_true] at g2
        rcases g2 with g2 | g2
        · exact F.tb C g1 g2
        · exact F.2.2.2.2.2.2.2.2.2.2.2.2 w g1 g2 args s hG.1
      exact vt_throwS (names := ["java/lang/RuntimeException", "java/lang/Exception"]) C.1 C.2.1 hfl hown hfit (by decide +kernel) (F.tb C tw.1 rfl) (F.tb C tw.2.1 rfl) (by
          have h9 := vk_R.warm hG.1 hstr
          rw [ho] at h9
          exact h9) hat (fun w hw => by
          rcases List.mem_cons.mp hw with rfl | hw
          · rfl
          · rcases List.mem_cons.mp hw with rfl | hw
            · rfl
            · exact (tw.2.2 w hw).2.1) hU hN hS (hls.trans C.2.2.2.1.symm) d0 d3 d4 d6 d9 hout (by show 2 + 3 < R.frames; omega) (by rw [rv_wd]; show am_wd st + (13 * (2 + 1) + 43) ≤ R.locals; omega) (by omega) (by omega) C.2.2.2.2.2.1
        (hxx k rfl e1 e3) hC (by omega) (by omega)
    rcases hcase with ⟨c1, c2, c3⟩ | ⟨c1, c2, c3⟩ | ⟨c1, c2, c3⟩
    · refine go 1 (by omega) (by omega) c3 (by decide +kernel) ?_
      dsimp only at c1 c2
      rw [c1, c2]
      exact tw_x1
    · refine go 2 (by omega) (by omega) c3 (by decide +kernel) ?_
      dsimp only at c1 c2
      rw [c1, c2]
      exact tw_x2
    · refine go 3 (by omega) (by omega) c3 (by decide +kernel) ?_
      dsimp only at c1 c2
      rw [c1, c2]
      exact tw_x3
  · intro k H' locs' ls' pc' st q ce hr k1 k3 hP hC hhd hcell hv hcl
    refine vx_outP C.2.2.2.2.1 C.2.2.2.2.2.1 (fun z hz => ?_) hcell hv hcl (fun t ht _ => ⟨k, hr, rfl, k1, k3, by rw [ht]; exact hP⟩) hC (Nat.le_refl _) (Nat.le_refl _)
    rw [C.2.2.2.2.2.2.1] at hz
    obtain ⟨z0, hz0, rfl⟩ := List.mem_map.mp hz
    obtain ⟨hct, ho⟩ := hh z0 hz0
    have hn := hd_none hhd z0 hz0
    by_cases hcov : z0.1 ≤ pc' ∧ pc' < z0.2.1
    · obtain ⟨w1, w2, w3⟩ := tw_h _ hct
      refine Or.inr ⟨w3, _, F.tb C (by rw [ho]; exact w1) rfl, va_Nc.moved ha (F.2.2.2.2.2.2.2.2.2.2.2.1 k z0.2.2.2 k1 k3 hct (fun z => hn ⟨hcov.1, hcov.2, z.symm⟩))⟩
    · left
      by_cases h1 : z0.1 ≤ pc'
      · have h2 : ¬ pc' < z0.2.1 := fun z => hcov ⟨h1, z⟩
        simp [covers, h2]
      · simp [covers, h1]
end CT
