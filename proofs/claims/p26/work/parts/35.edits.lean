/-! EDITS: what they are made of, how many there are, that there are none just if both are the same -/
def okEd (e : Edt) : Prop :=
  (1 ≤ e.1 ∧ e.1 ≤ 6 ∧ 0 ≤ e.2.1 ∧ e.2.1 ≤ 2 ∧ 0 ≤ e.2.2.1 ∧ e.2.2.1 ≤ 9 ∧ (e.1 ≤ 2 → okE e.2.2.2.2.2 ∧ e.2.2.2.2.2.1 = e.2.2.1) ∧ (e.1 = 1 → 0 ≤ e.2.2.2.1 ∧ e.2.2.2.1 ≤ 5) ∧ (e.1 = 2 → 0 ≤ e.2.2.2.2.1 ∧ e.2.2.2.2.1 ≤ 5) ∧
    (e.1 = 3 → 0 ≤ e.2.2.2.1 ∧ e.2.2.2.1 ≤ 5 ∧ 0 ≤ e.2.2.2.2.1 ∧ e.2.2.2.2.1 ≤ 5) ∧ (4 ≤ e.1 → -1 ≤ e.2.2.2.1 ∧ e.2.2.2.1 ≤ 99 ∧ -1 ≤ e.2.2.2.2.1 ∧ e.2.2.2.2.1 ≤ 99) ∧ (e.1 = 6 → e.2.2.2.1 ≤ 2 ∧ e.2.2.2.2.1 ≤ 2)) ∨
  (7 ≤ e.1 ∧ e.1 ≤ 8 ∧ e.2.1 = 0 ∧ 0 ≤ e.2.2.1 ∧ e.2.2.1 ≤ 2 ∧ -1 ≤ e.2.2.2.1 ∧ e.2.2.2.1 ≤ 99 ∧ -1 ≤ e.2.2.2.2.1 ∧ e.2.2.2.2.1 ≤ 99)
theorem okEd_inv {e : Edt} (H : okEd e) : okEd (inv1 e) := by
  obtain ⟨k, s, y, f, t, n⟩ := e
  unfold okEd inv1 at *
  dsimp only at *
  by_cases h1 : k = 1
  · rw [if_pos h1]
    refine Or.inl ?_
    rcases H with H | H
    · refine ⟨by omega, by omega, by omega, by omega, by omega, by omega, fun _ => H.2.2.2.2.2.2.1 (by omega), by omega, fun _ => H.2.2.2.2.2.2.2.1 h1, by omega, by omega, by omega⟩
    · omega
  · rw [if_neg h1]
    by_cases h2 : k = 2
    · rw [if_pos h2]
      refine Or.inl ?_
      rcases H with H | H
      · refine ⟨by omega, by omega, by omega, by omega, by omega, by omega, fun _ => H.2.2.2.2.2.2.1 (by omega), fun _ => H.2.2.2.2.2.2.2.2.1 h2, by omega, by omega, by omega, by omega⟩
      · omega
    · rw [if_neg h2]
      rcases H with H | H
      · refine Or.inl ⟨by omega, by omega, by omega, by omega, by omega, by omega, fun _ => by omega, by omega, by omega, ?_, ?_, ?_⟩
        · intro h3
          have := H.2.2.2.2.2.2.2.2.2.1 h3
          omega
        · intro h3
          have := H.2.2.2.2.2.2.2.2.2.2.1 h3
          omega
        · intro h3
          have := H.2.2.2.2.2.2.2.2.2.2.2 h3
          omega
      · refine Or.inr ?_
        omega
/-- a configuration as it may be -/
def okC (c : Cfg) : Prop := (∀ s, s < 3 → okL (c.1 s)) ∧ ∀ g f, g < 3 → f < 2 → -1 ≤ c.2 g f ∧ c.2 g f ≤ 99
theorem okE_ws {e : Ent} {j v : Int} (h : okE e) (hj : 0 ≤ j ∧ j ≤ 2) (hv : -1 ≤ v ∧ v ≤ 99) (hg : j = 2 → v ≤ 2) : okE (ws e j v) ∧ (ws e j v).1 = e.1 := by
  unfold ws okE at *
  by_cases h0 : j = 0
  · rw [if_pos h0]
    dsimp only
    omega
  · rw [if_neg h0]
    by_cases h1 : j = 1
    · rw [if_pos h1]
      dsimp only
      omega
    · rw [if_neg h1]
      have := hg (by omega)
      dsimp only
      omega
theorem apS_ok {lo : Bool} {e : Edt} {l l' : List Ent} (he : okEd e) (hl : okL l) (h : apS lo e.1 e.2.2.1 e.2.2.2.1 e.2.2.2.2.1 e.2.2.2.2.2 l = some l') (h7 : e.1 ≤ 6) : okL l' := by
  obtain ⟨k, s, y, f, t, n⟩ := e
  unfold okEd at he
  dsimp only at *
  rcases he with he | he
  · unfold apS at h
    split at h
    · rename_i h1
      split at h
      · cases h
      · rename_i h2
        cases h
        have h3 := he.2.2.2.2.2.2.1 (by omega)
        refine hl.ins (by rw [h3.2]; omega) (by omega) h3.1
    · split at h
      · cases h
      · rename_i h1 h2
        obtain ⟨e0, a1, a2, a3, a4⟩ := kix_at h2
        split at h
        · split at h
          · cases h
          · cases h
            exact hl.erase _
        · split at h
          · split at h
            · cases h
            · cases h
              rename_i h5 h6
              have := he.2.2.2.2.2.2.2.2.2.1 h5
              refine hl.mvd a4 (by omega)
          · split at h
            · cases h
            · cases h
              have b1 := gt_at h2
              have b2 := he.2.2.2.2.2.2.2.2.2.2.1 (by omega)
              have b3 := okE_ws (j := k - 4) (v := t) (hl.2.2 _ _ b1.1) (by omega) (by omega) (fun h => by
                have := he.2.2.2.2.2.2.2.2.2.2.2 (by omega)
                omega)
              exact hl.set b1.1 b3.2 b3.1
  · omega
theorem ap1_ok {lo : Bool} {e : Edt} {c c' : Cfg} (he : okEd e) (hc : okC c) (h : ap1 lo e c = some c') : okC c' := by
  unfold ap1 at h
  split at h
  · rename_i h7
    split at h
    · cases h
    · cases h
      refine ⟨hc.1, fun g f hg hf => ?_⟩
      unfold upG
      dsimp only
      split
      · rcases he with he | he <;> omega
      · exact hc.2 g f hg hf
  · rename_i h7
    split at h
    · cases h
    · rename_i l hl
      cases h
      refine ⟨fun s hs => ?_, hc.2⟩
      unfold upS
      dsimp only
      split
      · have h8 : e.2.1.toNat < 3 := by rcases he with he | he <;> omega
        exact apS_ok he (hc.1 _ h8) hl (by omega)
      · exact hc.1 s hs
theorem unl_mem {k s key a b : Int} {e : Edt} (h : e ∈ unl k s key a b) : e = (k, s, key, a, b, E0) := by
  unfold unl at h
  split at h
  · cases h
  · exact List.mem_singleton.mp h
theorem unl_len {k s key a b : Int} : (unl k s key a b).length ≤ 1 := by
  unfold unl
  split <;> simp
theorem okE_key {e : Ent} (h : okE e) : 0 ≤ e.1 ∧ e.1 ≤ 9 := by
  unfold okE at h
  omega
theorem rmv_okd {c : Int} {T : List Ent} (hc : 0 ≤ c ∧ c ≤ 2) : ∀ (n : Nat) (l : List Ent), n ≤ 6 → (∀ (i : Nat) (e : Ent), l[i]? = some e → okE e) → ∀ e, e ∈ (rmv c T n l).1 → okEd e
  | 0, _, _, _, _, h => by cases h
  | n + 1, l, hn, hl, e, h => by
    unfold rmv at h
    split at h
    · exact rmv_okd hc n l (by omega) hl e h
    · rename_i x hx
      split at h
      · rcases List.mem_cons.mp h with h | h
        · subst h
          have h1 := hl n x hx
          have h2 := okE_key h1
          exact Or.inl ⟨by dsimp only; omega, by dsimp only; omega, by dsimp only; omega, by dsimp only; omega, by dsimp only; omega, by dsimp only; omega, fun _ => ⟨h1, rfl⟩, by dsimp only; omega, by dsimp only; omega, by dsimp only; omega, by dsimp only; omega, by dsimp only; omega⟩
        · refine rmv_okd hc n (l.eraseIdx n) (by omega) (fun i y hy => ?_) e h
          rw [List.getElem?_eraseIdx] at hy
          split at hy
          · exact hl _ _ hy
          · exact hl _ _ hy
      · exact rmv_okd hc n l (by omega) hl e h
theorem plc_okd {c : Int} {T : List Ent} (hc : 0 ≤ c ∧ c ≤ 2) (hT : okL T) : ∀ (d i : Nat) (l : List Ent), i + d = T.length → PI T i l → ∀ e, e ∈ (plc c T d i l).1 → okEd e
  | 0, _, _, _, _, _, h => by cases h
  | d + 1, i, l, hd, H, e, h => by
    have h6 := hT.1
    have hle := H.le
    unfold plc at h
    split at h
    · cases h
    · rename_i x hx
      have h1 := hT.2.2 i x hx
      have h2 := okE_key h1
      split at h
      · rename_i h3
        rcases List.mem_cons.mp h with h | h
        · subst h
          exact Or.inl ⟨by dsimp only; omega, by dsimp only; omega, by dsimp only; omega, by dsimp only; omega, by dsimp only; omega, by dsimp only; omega, fun _ => ⟨h1, rfl⟩, by dsimp only; omega, by dsimp only; omega, by dsimp only; omega, by dsimp only; omega, by dsimp only; omega⟩
        · exact plc_okd hc hT d (i + 1) _ (by omega) (H.ins hx h3) e h
      · rename_i h3
        split at h
        · rename_i h4
          exact plc_okd hc hT d (i + 1) _ (by omega) (H.eq hx h4) e h
        · rcases List.mem_cons.mp h with h | h
          · subst h
            have := kix_rng l x.1
            exact Or.inl ⟨by dsimp only; omega, by dsimp only; omega, by dsimp only; omega, by dsimp only; omega, by dsimp only; omega, by dsimp only; omega, by dsimp only; omega, by dsimp only; omega, by dsimp only; omega, by dsimp only; omega, by dsimp only; omega, by dsimp only; omega⟩
          · exact plc_okd hc hT d (i + 1) _ (by omega) (H.mvd hT.2.1 hx h3) e h
theorem stK_okd {c key : Int} {F T : List Ent} (hc : 0 ≤ c ∧ c ≤ 2) (hk : 0 ≤ key ∧ key ≤ 9) (hF : okL F) (hT : okL T) : ∀ e, e ∈ stK c F T key → okEd e := by
  intro e h
  unfold stK at h
  split at h
  · cases h
  · rename_i h0
    have a1 := hF.2.2 _ _ (gt_at (l := F) (k := key) (by omega)).1
    have a2 := hT.2.2 _ _ (gt_at (l := T) (k := key) (by omega)).1
    unfold okE at a1 a2
    rcases List.mem_append.mp h with h | h
    · rw [unl_mem h]
      unfold okEd
      dsimp only
      omega
    · rcases List.mem_append.mp h with h | h
      · rw [unl_mem h]
        unfold okEd
        dsimp only
        omega
      · rw [unl_mem h]
        unfold okEd
        dsimp only
        omega
theorem stA_okd {c : Int} {F T : List Ent} (hc : 0 ≤ c ∧ c ≤ 2) (hF : okL F) (hT : okL T) : ∀ (d : Nat), d ≤ 10 → ∀ e, e ∈ stA c F T d → okEd e
  | 0, _, _, h => by cases h
  | d + 1, hd, e, h => by
    unfold stA at h
    rcases List.mem_append.mp h with h | h
    · exact stK_okd hc (by omega) hF hT e h
    · exact stA_okd hc hF hT d (by omega) e h
theorem secL_okd {c : Int} {F T : List Ent} (hc : 0 ≤ c ∧ c ≤ 2) (hF : okL F) (hT : okL T) : ∀ e, e ∈ secL c F T → okEd e := by
  intro e h
  unfold secL at h
  rcases List.mem_append.mp h with h | h
  · exact rmv_okd hc F.length F hF.1 hF.2.2 e h
  · rcases List.mem_append.mp h with h | h
    · exact plc_okd hc hT T.length 0 _ (by omega) (rmv_PI hF.2.1) e h
    · exact stA_okd hc hF hT 10 (by omega) e h
theorem grpL_okd {f t : Nat → Nat → Int} (hf : ∀ g j, g < 3 → j < 2 → -1 ≤ f g j ∧ f g j ≤ 99) (ht : ∀ g j, g < 3 → j < 2 → -1 ≤ t g j ∧ t g j ≤ 99) : ∀ e, e ∈ grpL f t → okEd e := by
  intro e h
  have f0 := hf 0 0 (by decide) (by decide)
  have f1 := hf 0 1 (by decide) (by decide)
  have f2 := hf 1 0 (by decide) (by decide)
  have f3 := hf 1 1 (by decide) (by decide)
  have f4 := hf 2 0 (by decide) (by decide)
  have f5 := hf 2 1 (by decide) (by decide)
  have t0 := ht 0 0 (by decide) (by decide)
  have t1 := ht 0 1 (by decide) (by decide)
  have t2 := ht 1 0 (by decide) (by decide)
  have t3 := ht 1 1 (by decide) (by decide)
  have t4 := ht 2 0 (by decide) (by decide)
  have t5 := ht 2 1 (by decide) (by decide)
  unfold grpL at h
  simp only [List.mem_append] at h
  rcases h with h | h | h | h | h | h <;> (rw [unl_mem h]; unfold okEd; dsimp only; omega)
theorem edL_okd {f t : Cfg} (hf : okC f) (ht : okC t) : ∀ e, e ∈ edL f t → okEd e := by
  intro e h
  unfold edL at h
  simp only [List.mem_append] at h
  rcases h with h | h | h | h
  · exact secL_okd (by decide) (hf.1 0 (by decide)) (ht.1 0 (by decide)) e h
  · exact secL_okd (by decide) (hf.1 1 (by decide)) (ht.1 1 (by decide)) e h
  · exact secL_okd (by decide) (hf.1 2 (by decide)) (ht.1 2 (by decide)) e h
  · exact grpL_okd hf.2 ht.2 e h
theorem invL_okd {L : List Edt} (h : ∀ e, e ∈ L → okEd e) : ∀ e, e ∈ invL L → okEd e := by
  intro e he
  unfold invL at he
  obtain ⟨x, h1, h2⟩ := List.mem_map.mp he
  rw [← h2]
  exact okEd_inv (h x (List.mem_reverse.mp h1))
theorem invL_len {L : List Edt} : (invL L).length = L.length := by
  unfold invL
  rw [List.length_map, List.length_reverse]
theorem apA_ok {lo : Bool} : ∀ {L : List Edt} {c c' : Cfg}, (∀ e, e ∈ L → okEd e) → okC c → apA lo L c = some c' → okC c'
  | [], c, c', _, hc, h => by cases h; exact hc
  | e :: L, c, c', hL, hc, h => by
    unfold apA at h
    split at h
    · cases h
    · rename_i c1 h1
      exact apA_ok (fun x hx => hL x (List.mem_cons_of_mem _ hx)) (ap1_ok (hL e List.mem_cons_self) hc h1) h
/-! how many -/
theorem plc_len {c : Int} {T : List Ent} : ∀ (d i : Nat) (l : List Ent), (plc c T d i l).1.length ≤ d
  | 0, _, _ => Nat.le_refl _
  | d + 1, i, l => by
    unfold plc
    split
    · exact Nat.zero_le _
    · split
      · dsimp only
        rw [List.length_cons]
        exact Nat.succ_le_succ (plc_len d (i + 1) _)
      · split
        · have := plc_len (c := c) (T := T) d (i + 1) l
          omega
        · dsimp only
          rw [List.length_cons]
          exact Nat.succ_le_succ (plc_len d (i + 1) _)
theorem stK_len {c key : Int} {F T : List Ent} : (stK c F T key).length ≤ 3 ∧ (kix F key = -1 ∨ kix T key = -1 → (stK c F T key).length = 0) := by
  unfold stK
  split
  · exact ⟨Nat.zero_le _, fun _ => rfl⟩
  · refine ⟨?_, fun h => absurd h (by assumption)⟩
    rw [List.length_append, List.length_append]
    have a := unl_len (k := 4) (s := c) (key := key) (a := (gt F key).2.1) (b := (gt T key).2.1)
    have b := unl_len (k := 5) (s := c) (key := key) (a := (gt F key).2.2.1) (b := (gt T key).2.2.1)
    have d := unl_len (k := 6) (s := c) (key := key) (a := (gt F key).2.2.2) (b := (gt T key).2.2.2)
    omega
theorem stA_len {c : Int} {F T G : List Ent} (hG : ∀ k : Int, kix F k ≠ -1 → kix T k ≠ -1 → k ∈ G.map (fun e => e.1)) : ∀ (d : Nat) (A : List Int), d ≤ 10 → A.Nodup → (∀ x, x ∈ A → x ∈ G.map (fun e => e.1) ∧ x < 10 - (d : Int)) → (stA c F T d).length + 3 * A.length ≤ 3 * G.length
  | 0, A, _, hA, hx => by
    have h := pigeon A _ hA (fun x h => (hx x h).1)
    rw [List.length_map] at h
    show 0 + 3 * A.length ≤ _
    omega
  | d + 1, A, hd, hA, hx => by
    unfold stA
    rw [List.length_append]
    have h1 := stK_len (c := c) (key := 9 - (d : Int)) (F := F) (T := T)
    by_cases h2 : kix F (9 - (d : Int)) = -1 ∨ kix T (9 - (d : Int)) = -1
    · have h3 := h1.2 h2
      have h4 := stA_len (c := c) hG d A (by omega) hA fun x h => ⟨(hx x h).1, by have := (hx x h).2; omega⟩
      omega
    · have h4 := stA_len (c := c) hG d ((9 - (d : Int)) :: A) (by omega) (List.nodup_cons.mpr ⟨fun h => by have := (hx _ h).2; omega, hA⟩) fun x h => by
        rcases List.mem_cons.mp h with h | h
        · subst h
          exact ⟨hG _ (by omega) (by omega), by omega⟩
        · exact ⟨(hx x h).1, by have := (hx x h).2; omega⟩
      rw [List.length_cons] at h4
      omega
theorem secL_len {c : Int} {F T : List Ent} (hF : okL F) (hT : okL T) : (secL c F T).length ≤ 24 := by
  unfold secL
  rw [List.length_append, List.length_append]
  obtain ⟨a1, a2, a3, a4⟩ := rmv_spec (c := c) (T := T) F.length F hF.2.1 (Nat.le_refl _) fun j e hj he => by
    have := (List.getElem?_eq_some_iff.mp he).1
    omega
  have h1 := plc_len (c := c) (T := T) T.length 0 (rmv c T F.length F).2
  have h2 := stA_len (c := c) (F := F) (T := T) (G := (rmv c T F.length F).2) (fun k hk1 hk2 => by
    obtain ⟨e, b1, b2, _⟩ := kix_at hk1
    obtain ⟨j, b3⟩ := a4 _ e b1 (by rw [b2]; exact hk2)
    exact List.mem_map.mpr ⟨e, List.mem_iff_getElem?.mpr ⟨j, b3⟩, b2⟩) 10 [] (by omega) List.nodup_nil (fun x h => by cases h)
  have h3 := hF.1
  have h4 := hT.1
  simp only [List.length_nil] at h2
  omega
theorem grpL_len {f t : Nat → Nat → Int} : (grpL f t).length ≤ 6 := by
  unfold grpL
  simp only [List.length_append]
  have a0 := unl_len (k := 7) (s := 0) (key := 0) (a := f 0 0) (b := t 0 0)
  have a1 := unl_len (k := 8) (s := 0) (key := 0) (a := f 0 1) (b := t 0 1)
  have a2 := unl_len (k := 7) (s := 0) (key := 1) (a := f 1 0) (b := t 1 0)
  have a3 := unl_len (k := 8) (s := 0) (key := 1) (a := f 1 1) (b := t 1 1)
  have a4 := unl_len (k := 7) (s := 0) (key := 2) (a := f 2 0) (b := t 2 0)
  have a5 := unl_len (k := 8) (s := 0) (key := 2) (a := f 2 1) (b := t 2 1)
  omega
theorem edL_len {f t : Cfg} (hf : okC f) (ht : okC t) : (edL f t).length ≤ 78 := by
  unfold edL
  simp only [List.length_append]
  have a0 := secL_len (c := 0) (hf.1 0 (by decide)) (ht.1 0 (by decide))
  have a1 := secL_len (c := 1) (hf.1 1 (by decide)) (ht.1 1 (by decide))
  have a2 := secL_len (c := 2) (hf.1 2 (by decide)) (ht.1 2 (by decide))
  have a3 := grpL_len (f := f.2) (t := t.2)
  omega
