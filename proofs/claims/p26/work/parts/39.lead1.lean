/-! EDITS LEAD from one configuration to another one, and back -/
theorem apA_cons {lo : Bool} {e : Edt} {A : List Edt} {c : Cfg} : apA lo (e :: A) c = (match ap1 lo e c with | none => none | some c' => apA lo A c') := rfl
theorem apA_one {lo : Bool} {e : Edt} {A : List Edt} {c c1 : Cfg} (h : ap1 lo e c = some c1) : apA lo (e :: A) c = apA lo A c1 := by
  have e1 := apA_cons (lo := lo) (e := e) (A := A) (c := c)
  rw [h] at e1
  exact e1
theorem apA_app {lo : Bool} : ∀ (A B : List Edt) (c c1 : Cfg), apA lo A c = some c1 → apA lo (A ++ B) c = apA lo B c1
  | [], B, c, c1, h => by cases h; rfl
  | e :: A, B, c, c1, h => by
    rw [apA_cons] at h
    cases h2 : ap1 lo e c with
    | none => rw [h2] at h; cases h
    | some c2 =>
      rw [h2] at h
      rw [List.cons_append, apA_one h2]
      exact apA_app A B c2 c1 h
/-- edits of one section -/
def apL : List Edt → List Ent → Option (List Ent)
  | [], l => some l
  | e :: t, l => match apS false e.1 e.2.2.1 e.2.2.2.1 e.2.2.2.2.1 e.2.2.2.2.2 l with
    | none => none
    | some l' => apL t l'
theorem apL_cons {e : Edt} {A : List Edt} {l : List Ent} : apL (e :: A) l = (match apS false e.1 e.2.2.1 e.2.2.2.1 e.2.2.2.2.1 e.2.2.2.2.2 l with | none => none | some l' => apL A l') := rfl
theorem apL_one {e : Edt} {A : List Edt} {l l1 : List Ent} (h : apS false e.1 e.2.2.1 e.2.2.2.1 e.2.2.2.2.1 e.2.2.2.2.2 l = some l1) : apL (e :: A) l = apL A l1 := by
  have e1 := apL_cons (e := e) (A := A) (l := l)
  rw [h] at e1
  exact e1
theorem apL_app : ∀ (A B : List Edt) (l l1 : List Ent), apL A l = some l1 → apL (A ++ B) l = apL B l1
  | [], B, l, l1, h => by cases h; rfl
  | e :: A, B, l, l1, h => by
    rw [apL_cons] at h
    cases h2 : apS false e.1 e.2.2.1 e.2.2.2.1 e.2.2.2.2.1 e.2.2.2.2.2 l with
    | none => rw [h2] at h; cases h
    | some l2 =>
      rw [h2] at h
      rw [List.cons_append, apL_one h2]
      exact apL_app A B l2 l1 h
theorem upS_self {c : Cfg} {s : Nat} : upS c s (c.1 s) = c := Prod.ext (funext fun i => by
    show (if i = s then c.1 s else c.1 i) = c.1 i
    by_cases h : i = s
    · rw [if_pos h, h]
    · rw [if_neg h]) rfl
theorem upS_at {c : Cfg} {s : Nat} {l : List Ent} : (upS c s l).1 s = l := if_pos rfl
theorem upS_two {c : Cfg} {s : Nat} {l l' : List Ent} : upS (upS c s l) s l' = upS c s l' := Prod.ext (funext fun i => by
    show (if i = s then l' else if i = s then l else c.1 i) = if i = s then l' else c.1 i
    by_cases h : i = s
    · rw [if_pos h, if_pos h]
    · rw [if_neg h, if_neg h, if_neg h]) rfl
theorem upG_self {c : Cfg} {g f : Nat} : upG c g f (c.2 g f) = c := Prod.ext rfl (funext fun i => funext fun j => by
    show (if i = g ∧ j = f then c.2 g f else c.2 i j) = c.2 i j
    by_cases h : i = g ∧ j = f
    · rw [if_pos h, h.1, h.2]
    · rw [if_neg h])
theorem upG_back {c : Cfg} {g f : Nat} {v : Int} : upG (upG c g f v) g f (c.2 g f) = c := Prod.ext rfl (funext fun i => funext fun j => by
    show (if i = g ∧ j = f then c.2 g f else if i = g ∧ j = f then v else c.2 i j) = c.2 i j
    by_cases h : i = g ∧ j = f
    · rw [if_pos h, h.1, h.2]
    · rw [if_neg h, if_neg h])
theorem upG_ne {c : Cfg} {g f i j : Nat} {v : Int} (h : ¬ (i = g ∧ j = f)) : (upG c g f v).2 i j = c.2 i j := if_neg h
theorem apL_apA {s : Nat} : ∀ (A : List Edt) (c : Cfg) (l : List Ent), (∀ e, e ∈ A → e.1 ≤ 6 ∧ e.2.1 = (s : Int)) → apL A (c.1 s) = some l → apA false A c = some (upS c s l)
  | [], c, l, _, h => by
    cases h
    show some c = some (upS c s (c.1 s))
    rw [upS_self]
  | e :: A, c, l, hA, h => by
    obtain ⟨h6, hs⟩ := hA e List.mem_cons_self
    rw [apL_cons] at h
    cases h2 : apS false e.1 e.2.2.1 e.2.2.2.1 e.2.2.2.2.1 e.2.2.2.2.2 (c.1 s) with
    | none => rw [h2] at h; cases h
    | some l1 =>
      rw [h2] at h
      have h3 : ap1 false e c = some (upS c s l1) := by
        obtain ⟨k, s', y, f, t, n⟩ := e
        dsimp only at h6 hs h2
        subst hs
        exact ap1_some (by omega) h2
      rw [apA_one h3]
      have ih := apL_apA (s := s) A (upS c s l1) l (fun x hx => hA x (List.mem_cons_of_mem _ hx)) (by rw [upS_at]; exact h)
      rw [ih, upS_two]
/-! back -/
theorem er_ins {l : List Ent} {p : Nat} {e : Ent} : (l.insertIdx p e).eraseIdx p = l ∨ l.length < p := by
  by_cases hp : l.length < p
  · exact Or.inr hp
  · refine Or.inl (List.ext_getElem? fun j => ?_)
    rw [List.getElem?_eraseIdx]
    split
    · rename_i h
      rw [List.getElem?_insertIdx, if_pos h]
    · rename_i h
      rw [List.getElem?_insertIdx, if_neg (by omega), if_neg (by omega), show j + 1 - 1 = j by omega]
theorem er_ins' {l : List Ent} {p : Nat} {e : Ent} (hp : p ≤ l.length) : (l.insertIdx p e).eraseIdx p = l := er_ins.elim id (fun h => absurd h (by omega))
theorem ins_er {l : List Ent} {p : Nat} {e : Ent} (h : l[p]? = some e) : (l.eraseIdx p).insertIdx p e = l := by
  have hp := (List.getElem?_eq_some_iff.mp h).1
  have hl : (l.eraseIdx p).length = l.length - 1 := List.length_eraseIdx_of_lt hp
  refine List.ext_getElem? fun j => ?_
  rw [List.getElem?_insertIdx]
  by_cases h1 : j < p
  · rw [if_pos h1, List.getElem?_eraseIdx, if_pos h1]
  · rw [if_neg h1]
    by_cases h2 : j = p
    · rw [if_pos h2, if_pos (by omega), h2, h]
    · rw [if_neg h2, List.getElem?_eraseIdx, if_neg (by omega), show j - 1 + 1 = j by omega]
theorem set_back {l : List Ent} {p : Nat} {e : Ent} (h : l[p]? = some e) : l.set p e = l := by
  refine List.ext_getElem? fun j => ?_
  rw [List.getElem?_set]
  by_cases hj : p = j
  · rw [if_pos hj, if_pos (List.getElem?_eq_some_iff.mp h).1, ← hj, h]
  · rw [if_neg hj]
theorem kix_cons {e : Ent} {l : List Ent} {k : Int} : kix (e :: l) k = if e.1 = k then 0 else if kix l k = -1 then -1 else kix l k + 1 := rfl
theorem kix_set : ∀ {l : List Ent} {p : Nat} {e f : Ent} {k : Int}, l[p]? = some e → f.1 = e.1 → kix (l.set p f) k = kix l k
  | [], p, e, f, k, h, _ => by simp at h
  | x :: l, 0, e, f, k, h, hk => by
    cases h
    show kix (f :: l) k = kix (x :: l) k
    rw [kix_cons, kix_cons, hk]
  | x :: l, p + 1, e, f, k, h, hk => by
    have ih := kix_set (l := l) (p := p) (e := e) (f := f) (k := k) h hk
    show kix (x :: l.set p f) k = kix (x :: l) k
    rw [kix_cons, kix_cons, ih]
theorem gt_of {l : List Ent} (H : KD l) {j : Nat} {e : Ent} (h : l[j]? = some e) : gt l e.1 = e := by
  unfold gt
  rw [kix_eq H h, show ((j : Int)).toNat = j by omega, h]
  rfl
theorem gt_set_at {l : List Ent} {y : Int} {f : Ent} (h : kix l y ≠ -1) (hf : f.1 = y) : gt (l.set (kix l y).toNat f) y = f := by
  obtain ⟨h1, h2⟩ := gt_at h
  have hl := (List.getElem?_eq_some_iff.mp h1).1
  have hx : kix (l.set (kix l y).toNat f) y = kix l y := kix_set h1 (by rw [h2, hf])
  unfold gt
  rw [hx, List.getElem?_set, if_pos rfl, if_pos hl]
  rfl
theorem gt_set_ne {l : List Ent} {y k : Int} {f : Ent} (h : kix l y ≠ -1) (hf : f.1 = y) (hk : k ≠ y) (hk2 : kix l k ≠ -1) : gt (l.set (kix l y).toNat f) k = gt l k := by
  obtain ⟨h1, h2⟩ := gt_at h
  obtain ⟨g1, g2⟩ := gt_at hk2
  have hx : kix (l.set (kix l y).toNat f) k = kix l k := kix_set h1 (by rw [h2, hf])
  have hne : ¬ (kix l y).toNat = (kix l k).toNat := by
    intro z
    rw [z, g1] at h1
    have := Option.some.inj h1
    rw [this] at g2
    exact hk (g2.symm.trans h2)
  unfold gt
  rw [hx, List.getElem?_set, if_neg hne]
theorem ws_key {e : Ent} {j v : Int} : (ws e j v).1 = e.1 := by
  unfold ws
  split
  · rfl
  · split <;> rfl
theorem sg_ws {e : Ent} {j v : Int} : sg (ws e j v) j = v := by
  unfold sg ws
  by_cases h0 : j = 0
  · rw [if_pos h0, if_pos h0]
  · rw [if_neg h0, if_neg h0]
    by_cases h1 : j = 1
    · rw [if_pos h1, if_pos h1]
    · rw [if_neg h1, if_neg h1]
theorem ws_sg {e : Ent} {j : Int} : ws e j (sg e j) = e := by
  unfold sg ws
  by_cases h0 : j = 0
  · rw [if_pos h0, if_pos h0]
  · rw [if_neg h0, if_neg h0]
    by_cases h1 : j = 1
    · rw [if_pos h1, if_pos h1]
    · rw [if_neg h1, if_neg h1]
theorem ws_ws {e : Ent} {j a b : Int} : ws (ws e j a) j b = ws e j b := by
  unfold ws
  by_cases h0 : j = 0
  · rw [if_pos h0, if_pos h0, if_pos h0]
  · rw [if_neg h0, if_neg h0, if_neg h0]
    by_cases h1 : j = 1
    · rw [if_pos h1, if_pos h1, if_pos h1]
    · rw [if_neg h1, if_neg h1, if_neg h1]
theorem lo0 : lob 0 false := Or.inl ⟨rfl, rfl⟩
theorem rev_2 {y f t : Int} {n : Ent} {l l' : List Ent} (hn : n.1 = y) (ht : 0 ≤ t) (h : apS false 2 y f t n l = some l') : apS false 1 y t f n l' = some l := by
  rw [apS2 lo0] at h
  split at h
  · cases h
  · rename_i h1
    have hm : (min t (l.length : Int)).toNat = t.toNat := by omega
    rw [hm] at h
    cases h
    have hk : kix l y = -1 := by omega
    have hp : t.toNat ≤ l.length := by omega
    have hg : (l.insertIdx t.toNat n)[t.toNat]? = some n := by rw [List.getElem?_insertIdx, if_neg (by omega), if_pos rfl, if_pos hp]
    have hx : kix (l.insertIdx t.toNat n) y = (t.toNat : Nat) := kix_some hg hn fun j e' hj he' hk' => by
      rcases ins_get he' with ⟨a1, a2⟩ | ⟨a1, a2⟩ | ⟨a1, a2⟩
      · exact kix_none.mp hk j e' a2 hk'
      · omega
      · omega
    have hgt : gt (l.insertIdx t.toNat n) y = n := by
      unfold gt
      rw [hx, show ((t.toNat : Nat) : Int).toNat = t.toNat by omega, hg]
      rfl
    have hpp : (kix (l.insertIdx t.toNat n) y).toNat = t.toNat := by omega
    rw [apS1 lo0 (by omega), if_neg (fun z => z.elim (fun z => z.2 (by omega)) (fun z => z hgt)), hpp, er_ins' hp]
theorem rev_1 {y f t : Int} {n : Ent} {l l' : List Ent} (hl : okL l) (hn : n.1 = y) (h : apS false 1 y f t n l = some l') : apS false 2 y t f n l' = some l := by
  by_cases hk : kix l y = -1
  · rw [apSn (by decide) hk] at h
    cases h
  · rw [apS1 lo0 hk] at h
    split at h
    · cases h
    · rename_i h1
      cases h
      have hf : kix l y = f := Classical.byContradiction fun z => h1 (Or.inl ⟨rfl, z⟩)
      have hg : gt l y = n := Classical.byContradiction fun z => h1 (Or.inr z)
      obtain ⟨g1, g2⟩ := gt_at hk
      rw [hg] at g1
      have hlt := (List.getElem?_eq_some_iff.mp g1).1
      have he : kix (l.eraseIdx (kix l y).toNat) y = -1 := by
        have := kix_erase hl.2.1 g1
        rw [hn] at this
        exact this
      have hlen : (l.eraseIdx (kix l y).toNat).length = l.length - 1 := List.length_eraseIdx_of_lt hlt
      have h6 := hl.1
      have rk := kix_rng l y
      have hm : (min f ((l.eraseIdx (kix l y).toNat).length : Int)).toNat = (kix l y).toNat := by omega
      rw [apS2 lo0, if_neg (by omega), hm, ins_er g1]
theorem rev_3 {y f t : Int} {n n' : Ent} {l l' : List Ent} (hl : KD l) (ht : 0 ≤ t) (h : apS false 3 y f t n l = some l') : apS false 3 y t f n' l' = some l := by
  by_cases hk : kix l y = -1
  · rw [apSn (by decide) hk] at h
    cases h
  · rw [apS3 lo0 hk] at h
    split at h
    · cases h
    · rename_i h1
      have rk := kix_rng l y
      obtain ⟨e, g1, g2, g3, g4⟩ := kix_at hk
      have hm : (min t ((l.length : Int) - 1)).toNat = t.toNat := by omega
      rw [hm] at h
      cases h
      have hq : t.toNat < l.length := by omega
      have hlen : (mv l (kix l y).toNat t.toNat).length = l.length := mv_len g4 hq
      have hel : (l.eraseIdx (kix l y).toNat).length = l.length - 1 := List.length_eraseIdx_of_lt g4
      have hg : (mv l (kix l y).toNat t.toNat)[t.toNat]? = some e := by
        rw [mv_some g1, List.getElem?_insertIdx, if_neg (by omega), if_pos rfl, if_pos (by omega)]
      have hx : kix (mv l (kix l y).toNat t.toNat) y = (t.toNat : Nat) := by
        have := kix_eq (hl.mvd (kix l y).toNat t.toNat) hg
        rw [g2] at this
        exact this
      have hp1 : (kix (mv l (kix l y).toNat t.toNat) y).toNat = t.toNat := by omega
      have hp2 : (min f (((mv l (kix l y).toNat t.toNat).length : Int) - 1)).toNat = (kix l y).toNat := by omega
      rw [apS3 lo0 (by omega), if_neg (by omega), hp1, hp2, mv_some hg, mv_some g1, er_ins' (by omega), ins_er g1]
theorem rev_4 {k y f t : Int} {n n' : Ent} {l l' : List Ent} (hk : 4 ≤ k) (h : apS false k y f t n l = some l') : apS false k y t f n' l' = some l := by
  by_cases hx : kix l y = -1
  · rw [apSn (by omega) hx] at h
    cases h
  · rw [apS4 hk hx] at h
    split at h
    · cases h
    · rename_i h1
      cases h
      have h2 : sg (gt l y) (k - 4) = f := Classical.byContradiction h1
      obtain ⟨g1, g2⟩ := gt_at hx
      have wk : (ws (gt l y) (k - 4) t).1 = y := by rw [ws_key, g2]
      have kx : kix (l.set (kix l y).toNat (ws (gt l y) (k - 4) t)) y = kix l y := kix_set g1 ws_key
      rw [apS4 hk (by rw [kx]; exact hx), gt_set_at hx wk, sg_ws, if_neg (fun z => z rfl), kx, ws_ws, ← h2, ws_sg, List.set_set, set_back g1]
theorem rev1 {e : Edt} {c c' : Cfg} (he : okEd e) (hc : okC c) (h : ap1 false e c = some c') : ap1 false (inv1 e) c' = some c := by
  obtain ⟨k, s, y, f, t, n⟩ := e
  unfold okEd at he
  dsimp only at he
  by_cases h7 : 7 ≤ k
  · unfold ap1 at h
    dsimp only at h
    rw [if_pos h7] at h
    split at h
    · cases h
    · rename_i h1
      cases h
      have e1 : inv1 (k, s, y, f, t, n) = (k, s, y, t, f, n) := by
        unfold inv1
        dsimp only
        rw [if_neg (by omega), if_neg (by omega)]
      have h2 : c.2 y.toNat (k - 7).toNat = f := Classical.byContradiction h1
      have h3 : (upG c y.toNat (k - 7).toNat t).2 y.toNat (k - 7).toNat = t := if_pos ⟨rfl, rfl⟩
      rw [e1]
      unfold ap1
      dsimp only
      rw [if_pos h7, h3, if_neg (fun z => z rfl), ← h2, upG_back]
  · have hk : k < 7 := by omega
    rcases he with he | he
    · have hs : s.toNat < 3 := by omega
      have hl := hc.1 s.toNat hs
      cases hS : apS false k y f t n (c.1 s.toNat) with
      | none => rw [ap1_none hk hS] at h; cases h
      | some l =>
        rw [ap1_some hk hS] at h
        cases h
        have key : ∀ k', inv1 (k, s, y, f, t, n) = (k', s, y, t, f, n) → k' < 7 → apS false k' y t f n l = some (c.1 s.toNat) → ap1 false (inv1 (k, s, y, f, t, n)) (upS c s.toNat l) = some c := by
          intro k' e1 hk' hr
          rw [e1, ap1_some (l := c.1 s.toNat) hk' (by rw [upS_at]; exact hr), upS_two, upS_self]
        rcases (by omega : k = 1 ∨ k = 2 ∨ k = 3 ∨ 4 ≤ k) with h1 | h1 | h1 | h4
        · refine key 2 ?_ (by decide) ?_
          · unfold inv1
            dsimp only
            rw [if_pos h1]
          · rw [h1] at hS
            exact rev_1 hl (he.2.2.2.2.2.2.1 (by omega)).2 hS
        · refine key 1 ?_ (by decide) ?_
          · unfold inv1
            dsimp only
            rw [if_neg (by omega), if_pos h1]
          · rw [h1] at hS
            exact rev_2 (he.2.2.2.2.2.2.1 (by omega)).2 (he.2.2.2.2.2.2.2.2.1 h1).1 hS
        · refine key 3 ?_ (by decide) ?_
          · unfold inv1
            dsimp only
            rw [if_neg (by omega), if_neg (by omega), h1]
          · rw [h1] at hS
            exact rev_3 hl.2.1 (he.2.2.2.2.2.2.2.2.2.1 h1).2.2.1 hS
        · refine key k ?_ hk ?_
          · unfold inv1
            dsimp only
            rw [if_neg (by omega), if_neg (by omega)]
          · exact rev_4 h4 hS
    · omega
theorem rev_all : ∀ {L : List Edt} {c c' : Cfg}, (∀ e, e ∈ L → okEd e) → okC c → apA false L c = some c' → apA false (invL L) c' = some c
  | [], c, c', _, _, h => by cases h; rfl
  | e :: L, c, c', hL, hc, h => by
    rw [apA_cons] at h
    cases h2 : ap1 false e c with
    | none => rw [h2] at h; cases h
    | some c1 =>
      rw [h2] at h
      have he := hL e List.mem_cons_self
      have hc1 := ap1_ok he hc h2
      have ih := rev_all (fun x hx => hL x (List.mem_cons_of_mem _ hx)) hc1 h
      have e1 : invL (e :: L) = invL L ++ [inv1 e] := by
        unfold invL
        rw [List.reverse_cons, List.map_append]
        rfl
      rw [e1, apA_app _ _ _ _ ih]
      exact apA_one (rev1 he hc h2)
