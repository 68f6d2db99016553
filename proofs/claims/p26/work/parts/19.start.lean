/-! THE LAW'S START: what the Statement gives is what the abstract machine's runs need -/
def R_law : String := "ConfigDeskLaw"
theorem fl_x : ∀ w ∈ [Cond.isRef (.static "java/lang/Throwable" "UNASSIGNED_STACK" "[Ljava/lang/StackTraceElement;"), Cond.isRef (.static "java/lang/Throwable" "SUPPRESSED_SENTINEL" "Ljava/util/List;")], w ∈ flatC (Jvm.Cond.and given_1 narrow_1) := by decide +kernel
theorem fl_n : ∀ E : Nat, E ≤ 3 → 1 ≤ E → ∀ k : Nat, k = 2 → E ≠ k → Cond.not (.castable (am_xn E) (am_xn k)) ∈ flatC (Jvm.Cond.and given_1 narrow_1) := fun E h1 h2 k hk => by
  subst hk
  exact match E, h1, h2 with
  | 1, _, _ => fun _ => by decide +kernel
  | 2, _, _ => fun h => absurd rfl h
  | 3, _, _ => fun _ => by decide +kernel
theorem fl_s : ∀ e ∈ am_xrT 7, Cond.exactly (.string RX7 e.1.2.1) "java/lang/String" ∈ flatC (Jvm.Cond.and given_1 narrow_1) := by decide +kernel
def st_tx : Nat → String := fun k => match k with
  | 217 => "there is none with this number"
  | 225 => "the candidate is not open"
  | 93 => "the key is there, or the section is full"
  | 222 => "an argument is out of range"
  | 227 => "there is no entry with the key"
  | 141 => "an edit cannot be applied exactly"
  | 147 => "there are 8 rules"
  | 168 => "a commit waits, or there are 29 versions"
  | 170 => "an edit cannot be applied loosely"
  | 172 => "the new version would not keep a rule"
  | _ => "no commit waits"
theorem tw_st : ∀ e ∈ am_xrT 7, Cond.stringRef RX7 e.1.2.1 (st_tx e.1.2.1) ∈ lw_tbl := by decide +kernel
theorem tw_ao : ∀ c, c ≤ 8 → am_ac c = true → Cond.arrayOver (.object (am_cn c)) ∈ lw_tbl := c8 (fun _ => by decide +kernel) (fun _ => by decide +kernel) (fun _ => by decide +kernel) (fun h => by cases h) (fun _ => by decide +kernel) (fun _ => by decide +kernel) (fun _ => by decide +kernel) (fun h => by cases h) (fun h => by cases h)
theorem ac8 {c : Nat} (h : am_ac c = true) : c ≤ 8 := by
  unfold am_ac at h
  split at h <;> first | omega | cases h
theorem tw_z : Cond.arrayOver (.array .int) ∈ lw_tbl ∧ Cond.laysStatic Bundle.tN "UNASSIGNED_STACK" Bundle.steD ∈ lw_tbl ∧ Cond.laysStatic Bundle.tN "SUPPRESSED_SENTINEL" Bundle.listD ∈ lw_tbl ∧ Cond.initialized Bundle.tN ∈ lw_tbl := by decide +kernel
abbrev am_ns (o : Nat) (e : Nat × Nat × aM) : Prop := e.2.1 = 3 → Cond.methodLinkNest (am_cn o) e.1 (am_y e.2.2) "ConfigDesk" ∈ lw_tbl
theorem tw_ns : ∀ o, ∀ e ∈ am_mrT o, am_ns o e :=
  c9 (c8 (by decide +kernel) (by decide +kernel) (by decide +kernel) (by decide +kernel) (by decide +kernel) (by decide +kernel) (by decide +kernel) (by decide +kernel) (by decide +kernel)) (by decide +kernel) (fun c e he => by cases he)
theorem u_ex {s : State} {b : Nat} (hts : ∀ w ∈ lw_tbl, w.before #[Value.ref b] s = true) : ∃ D : va_G, va_K D vwCl [] s := by
  have h : ∀ c : Nat, ∃ (cC : ClassId) (iS : Nat → Nat), c ≤ 8 → u_Kn s (am_cn c) (am_TT c) (am_fN c) cC iS := by
    intro c
    by_cases hc : c ≤ 8
    · obtain ⟨cC, iS, h⟩ := u_known (C := am_cn c) (T := am_TT c) (N := am_fN c) (n := am_fN c) hts (fun w hw => (tw_l c hc w hw).1) (hts _ (tw_o c hc).1)
      exact ⟨cC, iS, fun _ => h⟩
    · exact ⟨0, fun _ => 0, fun h => absurd h hc⟩
  refine ⟨(fun c => Classical.choose (h c), fun c => Classical.choose (Classical.choose_spec (h c))), fun c q hq => ?_, fun k q hk => by simp at hk⟩
  have hc : c ≤ 8 := by
    have := (List.getElem?_eq_some_iff.mp hq).1
    simp [vwCl] at this
    omega
  have e := tw_cl c hc
  rw [hq] at e
  cases e
  exact Classical.choose_spec (Classical.choose_spec (h c)) hc
theorem ar_of {s : State} {a : Array Value} {t : FieldType} (h : (Cond.arrayClass t).before a s = true) (hn : ∀ n, t ≠ .object n) : ∃ cA : ClassId, ArrOfT s cA t ∧ va_RA s cA t := by
  obtain ⟨cA, k, comp, h1, h2, h3⟩ := Cond.arrayClass_spec h
  refine ⟨cA, fun n z => ⟨(fun k h => by cases h), k, h2, comp, h3⟩, ?_⟩
  cases t <;> first | exact h1 | exact absurd rfl (hn _)
theorem ar_int2 {s : State} {a : Array Value} (h : (Cond.arrayOver (.array .int)).before a s = true) : ∃ cA : ClassId, ArrOfT s cA (.array .int) ∧ va_RA s cA (.array .int) := by
  obtain ⟨comp, cA, k, h1, h2, h3, h4, h5⟩ := arrayOverA_spec h
  exact ⟨cA, fun n z => ⟨(fun k h => by cases h), k, h3, comp, h4⟩, h5⟩
theorem ar_obj {s : State} {a : Array Value} {C : String} (h : (Cond.arrayOver (.object C)).before a s = true) : ∃ cA : ClassId, ArrOfT s cA (.object C) ∧ va_RA s cA (.object C) := by
  obtain ⟨comp, cA, k, h1, h2, h3, h4, h5⟩ := Cond.arrayOver_spec h
  exact ⟨cA, fun n z => ⟨(fun k h => by cases h), k, h3, comp, h4⟩, k, comp, h3, h4, h1, h5⟩
/-- the launch's facts at the law's start -/
theorem sf_start {s : State} {b : Nat} (hts : ∀ w ∈ lw_tbl, w.before #[Value.ref b] s = true) (hgv : (Jvm.Cond.and given_1 narrow_1).before #[Value.ref b] s = true) : ∃ Γ : aG, gs Γ = s ∧ SF Γ := by
  have hfl := flat_of_before _ hgv
  obtain ⟨D, hD⟩ := u_ex hts
  obtain ⟨-, -, -, gi, gl, -⟩ := tw_g
  obtain ⟨z1, z2, z3, z4⟩ := tw_z
  obtain ⟨cI, hI⟩ := ar_of (hts _ gi) (fun n h => by cases h)
  obtain ⟨cL, hL⟩ := ar_of (hts _ gl) (fun n h => by cases h)
  obtain ⟨cG, hG⟩ := ar_int2 (hts _ z1)
  have hO : ∀ c : Nat, ∃ cA : ClassId, am_ac c = true → ArrOfT s cA (.object (am_cn c)) ∧ va_RA s cA (.object (am_cn c)) := by
    intro c
    by_cases hc : am_ac c = true
    · obtain ⟨cA, h⟩ := ar_obj (hts _ (tw_ao c (ac8 hc) hc))
      exact ⟨cA, fun _ => h⟩
    · exact ⟨0, fun h => absurd h hc⟩
  refine ⟨(s, D, (cI, cL, cG), fun c => Classical.choose (hO c)), rfl, ?_, hD, hI, hL, hG, fun c hc => ⟨Classical.choose_spec (hO c) hc, va_AO.of (hts _ (tw_ao c (ac8 hc) hc))⟩, hts _ z1, ?_, ?_, ?_, ?_, ?_, ?_⟩
  · exact fun w hw a U hW => word_at hW (gW_good hw) (hts w (List.mem_filter.mp hw).1)
  · intro o e he
    obtain ⟨ho, -⟩ := tw_xe o e he
    subst ho
    obtain ⟨a, -, -, -, h1, -⟩ := Cond.exactly_spec (hfl _ (fl_s e he))
    exact ⟨a, _, vk_R.of (hts _ (tw_st e he)) h1⟩
  · exact vx_Zqof (hts _ z2) (hts _ z4) (hfl _ (fl_x _ List.mem_cons_self)) (fun a h1 h2 => absurd h1 (Nat.not_lt.mpr h2))
  · exact vx_Zqof (hts _ z3) (hts _ z4) (hfl _ (fl_x _ (List.mem_cons_of_mem _ List.mem_cons_self))) (fun a h1 h2 => absurd h1 (Nat.not_lt.mpr h2))
  · intro o ix ν hm
    exact va_Nw.of rfl (hts _ (tw_ns o _ hm rfl))
  · intro E ct h1 h3 hct hne
    exact va_Nc.of (hfl _ (fl_n E h3 h1 _ (tw_h2 ct hct) hne))
  · intro w hw hd a U hW
    unfold am_dc at hd
    split at hd
    · exact va_Nw.use rfl (va_Nw.warmD hW (va_Nw.of rfl (hts _ hw)))
    · exact va_Nw.use rfl (va_Nw.warmC hW (va_Nw.of rfl (hts _ hw)))
    · cases hd
/-- the heap at the law's start: the script alone -/
def hstart (b L n0 : Nat) (xs : Nat → Int32) : aH := (fun a => if a = b then (50, L) else (0, 0), fun a k => if a = b then (xs k).toInt else 0, fun _ _ => none, n0, 0)
theorem hp_start {Γ : aG} {b L : Nat} {xs : Nat → Int32} (hX : va_X b L xs (gs Γ) (gs Γ).heap) (hb : b < gb Γ) (hL : L ≤ 260) : HP Γ (hstart b L (gb Γ) xs) (gs Γ).heap := by
  have e1 : ∀ a, hsh (hstart b L (gb Γ) xs) a = if a = b then (50, L) else (0, 0) := fun _ => rfl
  have e2 : ∀ a k, hiv (hstart b L (gb Γ) xs) a k = if a = b then (xs k).toInt else 0 := fun _ _ => rfl
  refine ⟨rfl, Nat.le_refl _, fun _ _ => rfl, fun a ha => ?_, fun a ha ha2 => ?_, fun a k => ?_, fun a ha => ⟨fun k => ?_, fun k => rfl⟩⟩
  · rw [e1] at ha ⊢
    by_cases h : a = b
    · subst h
      rw [if_pos rfl]
      refine ⟨hb, ?_, by show L ≤ 4096; omega⟩
      obtain ⟨scr, h1, h2, h3, h4, h5⟩ := hX
      refine ⟨scr, h1, h2, h3, h4, fun j hj => ?_⟩
      rw [h5 j hj]
      show some (Value.int (xs j)) = some (.int (Int32.ofInt (hiv (hstart a L (gb Γ) xs) a j)))
      rw [e2, if_pos rfl, Int32.ofInt_toInt]
    · rw [if_neg h] at ha
      cases ha
  · rw [e1] at ha ha2
    by_cases h : a = b
    · rw [if_pos h] at ha2
      exact absurd rfl ha2
    · rw [if_neg h] at ha
      exact absurd rfl ha
  · rw [e2]
    split
    · exact i32_any _
    · exact i32_0
  · rw [e2, if_neg (by have : gb Γ ≤ a := ha; omega)]
/-- THE LAW, from its entry, out of its run in the abstract machine -/
theorem start_of {p : Program} {e : Env} {s : State} {m : MethodId} {below : List Frame} {meth : Method} {c : Code} (l : Launch) (hflags : l.stackTraces = false) {b L : Nat} {xs : Nat → Int32} (hL : L ≤ 260)
    (hx : p.tables.exec = Jvm.exec) (hb : c.code = code) (hr : meth.sig.returnType = ret) (hml : c.maxLocals = 13) (hown : s.vm.findClass R_law = some m.cls) (hts : ∀ w ∈ lw_tbl, w.before #[Value.ref b] s = true) (hX : va_X b L xs s s.heap) (hbl : b < s.heap.size) (hlocks : meth.locks = false) (hgv : (Jvm.Cond.and given_1 narrow_1).before #[Value.ref b] s = true) (htab : c.exceptionTable.toList = []) {Q : State → Prop}
    (hend : ∀ (pc : Nat) (H : Heap) (ls : Array Slot), decode code pc = .ok (.ireturn, 1) → W p l e room_1 s m #[Value.ref b] below meth c H [] 864591 6507926 Q (F0 m pc ls [.int 1]))
    (hrun : amT mL_law 0 [vR b] [] (hstart b L s.heap.size xs) (fun r => r.1 = .inl (some (vI 1)) ∧ hnx r.2 ≤ s.heap.size + 864591 ∧ hks r.2 ≤ 6507926)) :
    W p l e room_1 s m #[Value.ref b] below meth c s.heap [] 0 0 Q (entryFrame m ([Value.ref b] : List Value).toArray 13) := by
  obtain ⟨Γ, hs, F⟩ := sf_start hts hgv
  obtain ⟨n, r, hrun, hr1, hr2, hr3⟩ := hrun
  have hg : gb Γ = s.heap.size := by rw [← hs]; rfl
  have hP := hp_start (Γ := Γ) (b := b) (L := L) (xs := xs) (by rw [hs]; exact hX) (by rw [hg]; exact hbl) hL
  rw [hg, hs] at hP
  have hG : GL Γ s := ⟨by rw [hs]; exact State.WarmedH.refl s, by rw [hg]; exact Nat.le_refl _, fun q _ => by rw [hs]⟩
  have C : CX Γ mL_law p room_1 s m #[Value.ref b] meth c := ⟨hx, hb, hr, hml, hown, hlocks, htab, (fun h => by cases h), by decide, by decide, hG⟩
  have hmono := amX_mono _ _ _ _ _ _ _ hrun
  have e1 : hnx (hstart b L s.heap.size xs) = s.heap.size := rfl
  have e2 : hks (hstart b L s.heap.size xs) = 0 := rfl
  rw [e1, e2] at hmono
  rw [lg_entry_eq]
  have hLH : LH ((lg_sl ([vR b].map rv) ++ List.replicate (13 - (lg_sl ([vR b].map rv)).length) Slot.unset).toArray) 13 [vR b] := LH.entry rfl (fun v hv => by rw [List.mem_singleton.mp hv]; trivial) (Nat.le_of_ble_eq_true rfl)
  refine am_sound F hflags n mL_law 0 [vR b] [] _ r hrun (fun q hq => by cases hq) p e room_1 s m #[Value.ref b] below meth c s.heap [] 0 0 (hnx r.2 - s.heap.size) (hks r.2) Q _ C hP (fun _ h => by cases h) hLH (fun _ h => by cases h) (Nat.le_refl _) (by rw [e1, Nat.zero_add]) (by rw [e2, Nat.zero_add, Nat.sub_zero]) (by show _ ≤ 864591; omega) (by show _ ≤ 6507926; omega) ⟨?_, ?_, ?_⟩
  · intro v H' locs' ls' pc' i hv hP' hC' ho hok hd hret
    rw [hr1] at hv
    cases hv
    have hi : i = .ireturn := by
      rcases (am_ret_spec hret).2 with rfl | rfl | rfl
      · rfl
      · cases hret
      · cases hret
    subst hi
    refine va_forget (fun q hq => by rw [← hg]; exact hC' q hq) ?_
    refine W.widen (k := 864591) (n := 6507926) (by omega) (by omega) ?_
    exact hend pc' H' ls' hd
  · intro k h' H' locs' ls' pc' st cells' slots' ik is ic hr9
    rw [hr9] at hr1
    cases hr1
  · intro k H' locs' ls' pc' st q ce hr9
    rw [hr9] at hr1
    cases hr1
