/-! RULES for runs of the abstract machine, an instruction a rule -/
section TR
variable {μ : aM} {pc : Nat} {L S : List aV} {h : aH} {Q : aR → Prop}
theorem t_step {i : Instr} {len : Nat} {q : aC} (d : decode (am_cc μ) pc = .ok (i, len)) (h1 : am_lo i len = true) (h2 : am_ret i S = none) (h3 : am_thr μ pc i S = none) (h4 : am_call (am_own μ) i = none) (h5 : amI μ pc L S h i = some q) (k : amT μ q.1 q.2.1 q.2.2.1 q.2.2.2 Q) : amT μ pc L S h Q := by
  obtain ⟨n, r, hr, hq⟩ := k
  refine ⟨n + 1, r, ?_, hq⟩
  unfold amX
  rw [d]
  dsimp only
  rw [if_pos h1, h2]
  dsimp only
  rw [h3]
  dsimp only
  rw [h4]
  dsimp only
  rw [h5]
  exact hr
theorem amX_more : ∀ (n : Nat) (μ : aM) (pc : Nat) (L S : List aV) (h : aH) (r : aR), amX n μ pc L S h = some r → amX (n + 1) μ pc L S h = some r
  | 0, μ, pc, L, S, h, r, hr => by cases hr
  | n + 1, μ, pc, L, S, h, r, hr => by
    unfold amX at hr ⊢
    split at hr
    · cases hr
    · rename_i i len hd
      try rw [hd]
      try dsimp only
      split at hr
      · rename_i hlo
        try rw [if_pos hlo]
        split at hr
        · rename_i v hret
          try rw [hret]
          try dsimp only
          exact hr
        · rename_i hret
          try rw [hret]
          try dsimp only
          split at hr
          · rename_i E hthr
            try rw [hthr]
            exact hr
          · rename_i hthr
            try rw [hthr]
            try dsimp only
            split at hr
            · rename_i k ν hc
              try rw [hc]
              try dsimp only
              split at hr
              · rename_i hok
                try rw [if_pos hok]
                split at hr
                · cases hr
                · rename_i v h' hx
                  try rw [amX_more n _ _ _ _ _ _ hx]
                  try dsimp only
                  exact amX_more n _ _ _ _ _ _ hr
                · rename_i E h' hx
                  try rw [amX_more n _ _ _ _ _ _ hx]
                  try dsimp only
                  split at hr
                  · rename_i hhd
                    try rw [hhd]
                    exact hr
                  · rename_i t hhd
                    try rw [hhd]
                    try dsimp only
                    split at hr
                    · cases hr
                    · rename_i pc' j hha
                      try rw [hha]
                      exact amX_more n _ _ _ _ _ _ hr
              · cases hr
            · rename_i hc
              try rw [hc]
              try dsimp only
              split at hr
              · cases hr
              · rename_i pc' L' S' h' hi
                try rw [hi]
                exact amX_more n _ _ _ _ _ _ hr
      · cases hr
theorem amX_le {n k : Nat} (hnk : n ≤ k) {μ : aM} {pc : Nat} {L S : List aV} {h : aH} {r : aR} (hr : amX n μ pc L S h = some r) : amX k μ pc L S h = some r := by
  induction hnk with
  | refl => exact hr
  | step _ ih => exact amX_more _ _ _ _ _ _ _ ih
theorem amT.mono {Q' : aR → Prop} (k : amT μ pc L S h Q) (hq : ∀ r, Q r → Q' r) : amT μ pc L S h Q' := by
  obtain ⟨n, r, hr, h1⟩ := k
  exact ⟨n, r, hr, hq r h1⟩
/-- behind a call: what it answers goes on the stack; what it throws goes to a handler or out -/
def tQ (μ : aM) (ν : aM) (pc : Nat) (L S : List aV) (Q : aR → Prop) : aR → Prop := fun r => match r with
  | (.inl v, h') => amT μ (pc + 3) L (v.toList ++ S.drop (am_na ν)) h' Q
  | (.inr E, h') => match am_hd (am_hh μ) pc E with
    | none => Q (.inr E, h')
    | some t => match am_ha μ t with
      | none => False
      | some (pc', j) => amT μ pc' (L.take j) [] h' Q
theorem t_call {i : Instr} {k : Nat} {ν : aM} (d : decode (am_cc μ) pc = .ok (i, 3)) (h1 : am_lo i 3 = true) (h2 : am_ret i S = none) (h3 : am_thr μ pc i S = none) (h4 : am_call (am_own μ) i = some (k, ν)) (hok : am_ok k μ ν S h)
    (c : amT ν 0 (S.take (am_na ν)).reverse [] h (tQ μ ν pc L S Q)) : amT μ pc L S h Q := by
  obtain ⟨n, r, hr, hq⟩ := c
  have base : ∀ (n2 : Nat) (r2 : aR), (match amX (n + n2) ν 0 (S.take (am_na ν)).reverse [] h with
              | none => none
              | some (.inl v, h') => amX (n + n2) μ (pc + 3) L (v.toList ++ S.drop (am_na ν)) h'
              | some (.inr E, h') => match am_hd (am_hh μ) pc E with
                | none => some (.inr E, h')
                | some t => match am_ha μ t with
                  | none => none
                  | some (pc', j) => amX (n + n2) μ pc' (L.take j) [] h') = some r2 → amX (n + n2 + 1) μ pc L S h = some r2 := by
    intro n2 r2 h9
    unfold amX
    rw [d]
    dsimp only
    rw [if_pos h1, h2]
    dsimp only
    rw [h3]
    dsimp only
    rw [h4]
    dsimp only
    rw [if_pos hok]
    exact h9
  obtain ⟨o, h'⟩ := r
  cases o with
  | inl v =>
    obtain ⟨n2, r2, hr2, hq2⟩ : amT μ (pc + 3) L (v.toList ++ S.drop (am_na ν)) h' Q := hq
    refine ⟨n + n2 + 1, r2, base n2 r2 ?_, hq2⟩
    rw [amX_le (Nat.le_add_right n n2) hr]
    exact amX_le (Nat.le_add_left n2 n) hr2
  | inr E =>
    unfold tQ at hq
    dsimp only at hq
    split at hq
    · rename_i hhd
      refine ⟨n + 0 + 1, _, base 0 _ ?_, hq⟩
      rw [amX_le (Nat.le_add_right n 0) hr]
      dsimp only
      rw [hhd]
    · rename_i t hhd
      split at hq
      · exact hq.elim
      · rename_i pc' j hha
        obtain ⟨n2, r2, hr2, hq2⟩ := hq
        refine ⟨n + n2 + 1, r2, base n2 r2 ?_, hq2⟩
        rw [amX_le (Nat.le_add_right n n2) hr]
        dsimp only
        rw [hhd]
        dsimp only
        rw [hha]
        exact amX_le (Nat.le_add_left n2 n) hr2
theorem t_ret {i : Instr} {len : Nat} {v : Option aV} (d : decode (am_cc μ) pc = .ok (i, len)) (h1 : am_lo i len = true) (h2 : am_ret i S = some v) (h3 : am_okr (am_rt μ) v = true) (k : Q (.inl v, h)) : amT μ pc L S h Q := by
  refine ⟨1, (.inl v, h), ?_, k⟩
  unfold amX
  rw [d]
  dsimp only
  rw [if_pos h1, h2]
  dsimp only
  rw [if_pos h3]
theorem t_thr {ik E is ic : Nat} (d : decode (am_cc μ) pc = .ok (.new ik, 3)) (d3 : decode (am_cc μ) (pc + 3) = .ok (.dup, 1)) (d4 : decode (am_cc μ) (pc + 4) = .ok (.ldc is, 2)) (d6 : decode (am_cc μ) (pc + 6) = .ok (.invokespecial ic, 3)) (d9 : decode (am_cc μ) (pc + 9) = .ok (.athrow, 1))
    (hh : am_hh μ = []) (hw : am_wd S ≤ 8) (hF : 6 ≤ am_nF μ) (hL : 90 ≤ am_nL μ) (hx : am_lk3 (ik, is, ic) (am_xrT (am_own μ)) = some E) (k : Q (.inr E, hth h)) : amT μ pc L S h Q := by
  refine ⟨1, (.inr E, hth h), ?_, k⟩
  have h3 : am_thr μ pc (.new ik) S = some E := by
    unfold am_thr
    rw [d3, d4, d6, d9]
    show (if am_hh μ = [] ∧ am_wd S ≤ 8 ∧ 6 ≤ am_nF μ ∧ 90 ≤ am_nL μ then am_lk3 (ik, is, ic) (am_xrT (am_own μ)) else none) = some E
    rw [if_pos ⟨hh, hw, hF, hL⟩]
    exact hx
  unfold amX
  rw [d]
  dsimp only
  rw [if_pos (show am_lo (.new ik) 3 = true from rfl), show am_ret (.new ik) S = none from rfl]
  dsimp only
  rw [h3]
end TR
