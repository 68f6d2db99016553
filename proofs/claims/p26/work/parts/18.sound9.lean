/-! THE RUN of the abstract machine is the machine's -/
theorem am_sound {Γ : aG} {l : Launch} (F : SF Γ) (hfl : l.stackTraces = false) : ∀ n : Nat, Snd Γ l n
  | 0 => fun μ pc L S h r hr => by cases hr
  | n + 1 => by
    have ih := am_sound F hfl n
    intro μ pc L S h r hr hh p e R s m args below meth c H locs cells slots C' S' Q ls C hP hC hL hV hz hc1 hs1 hc2 hs2 en
    have mono := amX_mono _ _ _ _ _ _ _ hr
    unfold amX at hr
    split at hr
    · cases hr
    · rename_i i len hd
      split at hr
      · rename_i hlo
        split at hr
        · -- a return
          rename_i v hret
          split at hr
          · rename_i hok
            cases hr
            obtain ⟨rfl, hi⟩ := am_ret_spec hret
            have hlen : len = 1 := by rcases hi with rfl | rfl | rfl <;> exact of_decide_eq_true hlo
            subst hlen
            have k9 := en.1 v H locs ls pc i rfl hP hC (fun w hw => hV w (by rw [hw]; exact List.mem_cons_self)) hok hd hret
            dsimp only at hc1 hs1
            rw [Nat.sub_self, Nat.add_zero] at hc1 hs1
            rw [hc1, hs1]
            exact k9
          · cases hr
        · split at hr
          · -- a throw
            rename_i E hthr
            cases hr
            obtain ⟨ik, is, ic, rfl, d3, d4, d6, d9, t1, t2, t3, t4, t5⟩ := am_thr_spec hthr
            have hlen : len = 3 := of_decide_eq_true hlo
            subst hlen
            have e1 : hnx (hth h) = hnx h + 1 := rfl
            have e2 : hks (hth h) = hks h + 6 := rfl
            dsimp only at hc1 hs1
            rw [e1] at hc1
            rw [e2] at hs1
            exact en.2.1 E h H locs ls pc S cells slots ik is ic rfl hP hC hL.1.1 hz (by omega) (by omega) t5 hd d3 d4 d6 d9 t1 t2 t3 t4
          · split at hr
            · -- a call
              rename_i k ν hcall
              split at hr
              · rename_i hok
                obtain ⟨ix, hmem, hcase⟩ := am_call_spec hcall
                have hlen : len = 3 := by
                  rcases hcase with ⟨-, rfl⟩ | ⟨-, rfl⟩ | ⟨-, rfl⟩ <;> exact of_decide_eq_true hlo
                subst hlen
                split at hr
                · cases hr
                · -- it returns
                  rename_i v h' hx
                  have m1 := amX_mono _ _ _ _ _ _ _ hx
                  have m2 := amX_mono _ _ _ _ _ _ _ hr
                  dsimp only at m1
                  obtain ⟨a, hrun⟩ := as_call (e := e) (below := below) (locs := locs) (cells := cells) (slots := slots) F hfl C hP hL hV ih hcall hok hd hx (by dsimp only; omega) (by dsimp only; omega)
                  intro T hT X
                  rcases hrun T hT X with ⟨v', st₀, t, T', L', h0, X', hL', e1, e2, ⟨w, q1, q2, q3, q4⟩, go⟩ | ⟨q, st₀, t, T', L', E, ce, h0, X', hL', e1, e2, ⟨k9, q1, -⟩, -⟩
                  · cases q1
                    cases q2
                    have hVV : ∀ x ∈ v.toList ++ S.drop (am_na ν), okv x := fun x hx => by
                      rcases List.mem_append.mp hx with hx | hx
                      · cases v with
                        | none => cases hx
                        | some w => rw [List.mem_singleton.mp hx]; exact q4 w rfl
                      · exact hV x (List.mem_of_mem_drop hx)
                    have k9 := ih μ (pc + 3) L (v.toList ++ S.drop (am_na ν)) h' r hr hh p e R s m args below meth c t.heap (locs ++ L') (cells + (hnx h' - hnx h)) (slots + (hks h' - hks h)) C' S' Q ls C q3
                      (fun x hx => by
                        rcases List.mem_append.mp hx with hx | hx
                        · exact hC x hx
                        · exact hL' x hx) hL hVV (by omega) (by omega) (by omega) hc2 hs2 en
                    obtain ⟨t2, a1, b1⟩ := k9 T' e1 X'
                    refine ⟨t2, go t2 ?_, b1⟩
                    have e9 : (v.toList ++ S.drop (am_na ν)).map rv = (v.map rv).toList ++ (S.drop (am_na ν)).map rv := by
                      rw [List.map_append]
                      cases v <;> rfl
                    rw [e9] at a1
                    exact a1
                  · cases q1
                · -- it throws
                  rename_i E h' hx
                  have m1 := amX_mono _ _ _ _ _ _ _ hx
                  dsimp only at m1
                  have m2 : hnx h' ≤ hnx r.2 ∧ hks h' ≤ hks r.2 := by
                    split at hr
                    · cases hr; exact ⟨Nat.le_refl _, Nat.le_refl _⟩
                    · split at hr
                      · cases hr
                      · exact amX_mono _ _ _ _ _ _ _ hr
                  obtain ⟨a, hrun⟩ := as_call (e := e) (below := below) (locs := locs) (cells := cells) (slots := slots) F hfl C hP hL hV ih hcall hok hd hx (by dsimp only; omega) (by dsimp only; omega)
                  intro T hT X
                  rcases hrun T hT X with ⟨v', st₀, t, T', L', h0, X', hL', e1, e2, ⟨w, q1, -⟩, go⟩ | ⟨q, st₀, t, T', L', E9, ce, h0, X', hL', e1, e2, ⟨k9, q1, rfl, k1, k3, q3⟩, g1, g2, g3, go⟩
                  · cases q1
                  · cases q1
                    have hCC : LC Γ (locs ++ L') := fun x hx => by
                      rcases List.mem_append.mp hx with hx | hx
                      · exact hC x hx
                      · exact hL' x hx
                    have hG := C.2.2.2.2.2.2.2.2.2.2
                    have ha := hG.1.alike
                    have fin : vx_W p l e R s m args below meth c t.heap (locs ++ L') (cells + (hnx h' - hnx h)) (slots + (hks h' - hks h)) Q (F0 m pc ls ((S.drop (am_na ν)).map rv)) q := by
                      split at hr
                      · rename_i hhd
                        cases hr
                        have k8 := en.2.2 E t.heap (locs ++ L') ls pc ((S.drop (am_na ν)).map rv) q ce rfl k1 k3 q3 hCC hhd g1 g2 g3
                        dsimp only at hc1 hs1
                        rw [hc1, hs1]
                        exact k8
                      · rename_i tt hhd
                        split at hr
                        · cases hr
                        · rename_i pc' j hha
                          obtain ⟨pre, x, suf, s1, s2, s3, s4⟩ := hd_some hhd
                          have hx1 := hh x (by rw [s1]; exact List.mem_append_right _ List.mem_cons_self)
                          obtain ⟨w1, w2, w3⟩ := tw_h _ hx1.1
                          have htab : c.exceptionTable.toList = tableOf pre ++ (⟨x.1, x.2.1, x.2.2.1, x.2.2.2⟩ : ExceptionTableEntry) :: tableOf suf := by
                            rw [C.2.2.2.2.2.2.1, s1]
                            unfold tableOf
                            rw [List.map_append, List.map_cons]
                          have hnm : am_xn E = am_xn (am_ct x.2.2.2) := by rw [s3.2.2]
                          refine vx_catch (own := am_cn (am_own μ)) (name := am_xn (am_ct x.2.2.2)) (E := am_xn E) C.2.2.2.2.1 (tableOf pre) (⟨x.1, x.2.1, x.2.2.1, x.2.2.2⟩ : ExceptionTableEntry) (tableOf suf) htab ?_ ?_ w3 (F.tb C (by rw [hx1.2]; exact w1) rfl) ?_ g1 g2 g3 ?_
                          · intro z hz
                            obtain ⟨z0, hz0, rfl⟩ := List.mem_map.mp hz
                            obtain ⟨hct, ho⟩ := hh z0 (by rw [s1]; exact List.mem_append_left _ hz0)
                            have hn := s2 z0 hz0
                            by_cases hcov : z0.1 ≤ pc ∧ pc < z0.2.1
                            · obtain ⟨y1, y2, y3⟩ := tw_h _ hct
                              exact Or.inr ⟨y3, _, F.tb C (by rw [ho]; exact y1) rfl, va_Nc.moved ha (F.2.2.2.2.2.2.2.2.2.2.2.1 E z0.2.2.2 k1 k3 hct (fun z => hn ⟨hcov.1, hcov.2, z.symm⟩))⟩
                            · left
                              by_cases h1 : z0.1 ≤ pc
                              · have h2 : ¬ pc < z0.2.1 := fun z => hcov ⟨h1, z⟩
                                simp [covers, h2]
                              · simp [covers, h1]
                          · show covers _ pc = true
                            simp [covers, s3.1, s3.2.1]
                          · rw [← hnm]
                            exact F.2.2.2.2.2.2.2.2.2.2.2.2 _ (tw_ca E k3 k1) rfl args s hG.1
                          · show W p l e R s m args below meth c t.heap (locs ++ L') (cells + (hnx h' - hnx h)) (slots + (hks h' - hks h)) Q (F0 m x.2.2.1 ls [.ref q])
                            rw [s4]
                            have key : ∀ (ls' : Array Slot), lv_has ls' (am_mx μ) ((j, .ref q) :: (lvl L).filter (fun q => !(q.1 == j) && !(q.1 + 1 == j && q.2.category == 2))) → W p l e R s m args below meth c t.heap (locs ++ L') (cells + (hnx h' - hnx h)) (slots + (hks h' - hks h)) Q (F0 m pc' ls' []) := by
                              intro ls' h9
                              refine ih μ pc' (L.take j) [] h' r hr hh p e R s m args below meth c t.heap (locs ++ L') (cells + (hnx h' - hnx h)) (slots + (hks h' - hks h)) C' S' Q ls' C q3 hCC (LH.of h9 (by have := hL.2.1; rw [List.length_take]; omega) fun i v hv => ?_) (fun _ z => by cases z) (by omega) (by omega) (by omega) hc2 hs2 en
                              have hij : i < j := by
                                have := (List.getElem?_eq_some_iff.mp hv).1
                                rw [List.length_take] at this
                                omega
                              rw [List.getElem?_take_of_lt hij] at hv
                              obtain ⟨_, y2, y3⟩ := hL.2.2 i v hv
                              refine ⟨List.mem_cons_of_mem _ (List.mem_filter.mpr ⟨lvl_mem.mpr ⟨v, hv, rfl⟩, ?_⟩), y2, y3⟩
                              have hne : ¬ i = j := by omega
                              simp [hne, rv_cat y2]
                            unfold am_ha at hha
                            split at hha
                            · rename_i k0 hdk
                              split at hha
                              · rename_i hk
                                cases hha
                                exact lv_astore_n C.1 C.2.1 hdk rfl hL.has hk rfl (fun ls' h9 => key ls' h9)
                              · cases hha
                            · rename_i k0 hdk
                              split at hha
                              · rename_i hk
                                cases hha
                                exact lv_astore C.1 C.2.1 hdk hL.has hk rfl (fun ls' h9 => key ls' h9)
                              · cases hha
                            · cases hha
                    obtain ⟨t2, a1, b1⟩ := fin T' e1 X'
                    exact ⟨t2, go.trans a1, b1⟩
              · cases hr
            · -- any other instruction
              split at hr
              · cases hr
              · rename_i pc' L' S'' h' hi
                have m1 := amI_mono hi
                have m2 := amX_mono _ _ _ _ _ _ _ hr
                dsimp only at m1
                refine am_step F (by omega) (by omega) C hP hC hL hV hd hlo hi (by dsimp only; omega) (by dsimp only; omega) fun H' locs' ls' k1 k2 k3 k4 k5 k6 => ?_
                exact ih μ pc' L' S'' h' r hr hh p e R s m args below meth c H' locs' _ _ C' S' Q ls' C k1 k4 k2 k3 (by dsimp only at k5; omega) (by dsimp only; omega) (by dsimp only; omega) hc2 hs2 en
      · cases hr
