/-! LISTS OF ENTRIES with keys of their own -/
def KD (l : List Ent) : Prop := ∀ (i j : Nat) (e f : Ent), l[i]? = some e → l[j]? = some f → e.1 = f.1 → i = j
theorem KD.erase {l : List Ent} (H : KD l) (p : Nat) : KD (l.eraseIdx p) := by
  intro i j e f hi hj hk
  rw [List.getElem?_eraseIdx] at hi hj
  split at hi <;> split at hj
  · exact H i j e f hi hj hk
  · have := H i (j + 1) e f hi hj hk
    omega
  · have := H (i + 1) j e f hi hj hk
    omega
  · have := H (i + 1) (j + 1) e f hi hj hk
    omega
theorem ins_get {l : List Ent} {p i : Nat} {e f : Ent} (h : (l.insertIdx p e)[i]? = some f) : (i < p ∧ l[i]? = some f) ∨ (i = p ∧ e = f) ∨ (p < i ∧ l[i - 1]? = some f) := by
  rw [List.getElem?_insertIdx] at h
  split at h
  · exact Or.inl ⟨by assumption, h⟩
  · split at h
    · split at h
      · cases h
        exact Or.inr (Or.inl ⟨by assumption, rfl⟩)
      · cases h
    · exact Or.inr (Or.inr ⟨by omega, h⟩)
theorem KD.ins {l : List Ent} {e0 : Ent} (H : KD l) (p : Nat) (h0 : kix l e0.1 = -1) : KD (l.insertIdx p e0) := by
  intro i j e f hi hj hk
  have h1 := kix_none.mp h0
  rcases ins_get hi with ⟨a1, a2⟩ | ⟨a1, a2⟩ | ⟨a1, a2⟩ <;> rcases ins_get hj with ⟨b1, b2⟩ | ⟨b1, b2⟩ | ⟨b1, b2⟩
  · exact H i j e f a2 b2 hk
  · subst b2
    exact absurd hk (h1 i e a2)
  · have := H i (j - 1) e f a2 b2 hk
    omega
  · subst a2
    exact absurd hk.symm (h1 j f b2)
  · omega
  · subst a2
    exact absurd hk.symm (h1 (j - 1) f b2)
  · have := H (i - 1) j e f a2 b2 hk
    omega
  · subst b2
    exact absurd hk (h1 (i - 1) e a2)
  · have := H (i - 1) (j - 1) e f a2 b2 hk
    omega
theorem kix_erase {l : List Ent} (H : KD l) {p : Nat} {e : Ent} (hp : l[p]? = some e) : kix (l.eraseIdx p) e.1 = -1 := by
  refine kix_none.mpr fun i f hf hk => ?_
  rw [List.getElem?_eraseIdx] at hf
  split at hf
  · have := H i p f e hf hp hk
    omega
  · have := H (i + 1) p f e hf hp hk
    omega
theorem KD.mvd {l : List Ent} (H : KD l) (p q : Nat) : KD (mv l p q) := by
  unfold mv
  split
  · rename_i e he
    exact (H.erase p).ins q (kix_erase H he)
  · exact H
theorem mv_some {l : List Ent} {p q : Nat} {e : Ent} (h : l[p]? = some e) : mv l p q = (l.eraseIdx p).insertIdx q e := by
  unfold mv
  rw [h]
theorem mv_len {l : List Ent} {p q : Nat} (hp : p < l.length) (hq : q < l.length) : (mv l p q).length = l.length := by
  rw [mv_some (List.getElem?_eq_getElem hp), List.length_insertIdx_of_le_length (by rw [List.length_eraseIdx_of_lt hp]; omega), List.length_eraseIdx_of_lt hp]
  omega
theorem kix_eq {l : List Ent} (H : KD l) {i : Nat} {e : Ent} (hi : l[i]? = some e) : kix l e.1 = i :=
  kix_some hi rfl fun j f hj hf hk => by
    have := H j i f e hf hi hk
    omega
theorem kix_at {l : List Ent} {k : Int} (h : kix l k ≠ -1) : ∃ e, l[(kix l k).toNat]? = some e ∧ e.1 = k ∧ 0 ≤ kix l k ∧ (kix l k).toNat < l.length := by
  obtain ⟨i, e, h1, h2, h3⟩ := kix_get h
  have h4 := kix_rng l k
  refine ⟨e, ?_, h3, by omega, by omega⟩
  rw [h1]
  exact h2
theorem gt_at {l : List Ent} {k : Int} (h : kix l k ≠ -1) : l[(kix l k).toNat]? = some (gt l k) ∧ (gt l k).1 = k := by
  obtain ⟨e, h1, h2, _⟩ := kix_at h
  unfold gt
  rw [h1]
  exact ⟨rfl, h2⟩
/-- the entries of a section -/
def okL (l : List Ent) : Prop := l.length ≤ 6 ∧ KD l ∧ ∀ (i : Nat) (e : Ent), l[i]? = some e → okE e
theorem okL.erase {l : List Ent} (H : okL l) (p : Nat) : okL (l.eraseIdx p) := by
  refine ⟨?_, H.2.1.erase p, fun i e he => ?_⟩
  · have := List.length_eraseIdx_le l p
    have := H.1
    omega
  · rw [List.getElem?_eraseIdx] at he
    split at he
    · exact H.2.2 _ _ he
    · exact H.2.2 _ _ he
theorem okL.ins {l : List Ent} {e0 : Ent} (H : okL l) {p : Nat} (h0 : kix l e0.1 = -1) (h6 : l.length < 6) (ho : okE e0) : okL (l.insertIdx p e0) := by
  refine ⟨?_, H.2.1.ins p h0, fun i e he => ?_⟩
  · have : (l.insertIdx p e0).length ≤ l.length + 1 := List.length_insertIdx_le_succ
    omega
  · rcases ins_get he with ⟨a1, a2⟩ | ⟨a1, a2⟩ | ⟨a1, a2⟩
    · exact H.2.2 _ _ a2
    · rw [← a2]; exact ho
    · exact H.2.2 _ _ a2
theorem okL.mvd {l : List Ent} (H : okL l) {p q : Nat} (hp : p < l.length) (hq : q < l.length) : okL (mv l p q) := by
  refine ⟨by rw [mv_len hp hq]; exact H.1, H.2.1.mvd p q, fun i e he => ?_⟩
  rw [mv_some (List.getElem?_eq_getElem hp)] at he
  rcases ins_get he with ⟨a1, a2⟩ | ⟨a1, a2⟩ | ⟨a1, a2⟩
  · exact (H.erase p).2.2 _ _ a2
  · rw [← a2]; exact H.2.2 p _ (List.getElem?_eq_getElem hp)
  · exact (H.erase p).2.2 _ _ a2
theorem okL.set {l : List Ent} (H : okL l) {p : Nat} {e f : Ent} (hp : l[p]? = some e) (hk : f.1 = e.1) (ho : okE f) : okL (l.set p f) := by
  have g : ∀ (i : Nat) (x : Ent), (l.set p f)[i]? = some x → ∃ y, l[i]? = some y ∧ y.1 = x.1 ∧ (x = f ∨ x = y) := by
    intro i x hx
    rw [List.getElem?_set] at hx
    split at hx
    · rename_i h
      subst h
      split at hx
      · cases hx
        exact ⟨e, hp, hk.symm, Or.inl rfl⟩
      · cases hx
    · exact ⟨x, hx, rfl, Or.inr rfl⟩
  refine ⟨by rw [List.length_set]; exact H.1, fun i j x y hx hy hxy => ?_, fun i x hx => ?_⟩
  · obtain ⟨x', a1, a2, _⟩ := g i x hx
    obtain ⟨y', b1, b2, _⟩ := g j y hy
    exact H.2.1 i j x' y' a1 b1 (by rw [a2, b2, hxy])
  · obtain ⟨y, a1, a2, a3⟩ := g i x hx
    rcases a3 with rfl | rfl
    · exact ho
    · exact H.2.2 i _ a1
/-- as many different ones as there are among others -/
theorem pigeon : ∀ (a b : List Int), a.Nodup → (∀ x, x ∈ a → x ∈ b) → a.length ≤ b.length
  | [], _, _, _ => Nat.zero_le _
  | x :: a, b, hn, hs => by
    obtain ⟨h1, h2⟩ := List.nodup_cons.mp hn
    have h3 := pigeon a (b.erase x) h2 fun y hy => by
      have h4 : y ≠ x := fun h => h1 (h ▸ hy)
      exact (List.mem_erase_of_ne h4).mpr (hs y (List.mem_cons_of_mem _ hy))
    have h5 := List.length_erase_of_mem (hs x List.mem_cons_self)
    have h6 : 0 < b.length := List.length_pos_of_mem (hs x List.mem_cons_self)
    rw [List.length_cons]
    omega
theorem KD.nodup {l : List Ent} (H : KD l) : (l.map (fun e => e.1)).Nodup := by
  rw [List.nodup_iff_pairwise_ne, List.pairwise_iff_getElem]
  intro i j hi hj hij h
  rw [List.length_map] at hi hj
  rw [List.getElem_map, List.getElem_map] at h
  have := H i j _ _ (List.getElem?_eq_getElem hi) (List.getElem?_eq_getElem hj) h
  omega
theorem kd_len {l T : List Ent} (H : KD l) (hs : ∀ (j : Nat) (e : Ent), l[j]? = some e → ∃ (k : Nat) (f : Ent), T[k]? = some f ∧ f.1 = e.1) : l.length ≤ T.length := by
  have h := pigeon (l.map (fun e => e.1)) (T.map (fun e => e.1)) H.nodup fun x hx => by
    obtain ⟨e, h1, h2⟩ := List.mem_map.mp hx
    obtain ⟨j, h3⟩ := List.mem_iff_getElem?.mp h1
    obtain ⟨k, f, h4, h5⟩ := hs j e h3
    exact List.mem_map.mpr ⟨f, List.mem_iff_getElem?.mpr ⟨k, h4⟩, by rw [h5, h2]⟩
  rw [List.length_map, List.length_map] at h
  exact h
/-- the first i of l are in their places -/
def PI (T : List Ent) (i : Nat) (l : List Ent) : Prop :=
  KD l ∧ (∀ j, j < i → ∃ e f : Ent, l[j]? = some e ∧ T[j]? = some f ∧ e.1 = f.1) ∧ ∀ (j : Nat) (e : Ent), l[j]? = some e → ∃ (k : Nat) (f : Ent), T[k]? = some f ∧ f.1 = e.1
theorem PI.len {T l : List Ent} {i : Nat} (H : PI T i l) : i ≤ l.length := by
  cases i with
  | zero => omega
  | succ i =>
    obtain ⟨e, f, h1, _⟩ := H.2.1 i (by omega)
    have := (List.getElem?_eq_some_iff.mp h1).1
    omega
theorem PI.le {T l : List Ent} {i : Nat} (H : PI T i l) : l.length ≤ T.length := kd_len H.1 H.2.2
theorem PI.lt {T l : List Ent} {i : Nat} {e : Ent} (H : PI T i l) (he : T[i]? = some e) (hk : kix l e.1 = -1) : l.length < T.length := by
  have h1 : KD (l.insertIdx 0 e) := H.1.ins 0 hk
  have h2 := kd_len (T := T) h1 fun j x hx => by
    rcases ins_get hx with ⟨a1, a2⟩ | ⟨a1, a2⟩ | ⟨a1, a2⟩
    · omega
    · exact ⟨i, e, he, by rw [a2]⟩
    · exact H.2.2 _ _ a2
  rw [List.length_insertIdx_of_le_length (by omega)] at h2
  omega
theorem PI.ge {T l : List Ent} {i : Nat} {e : Ent} (H : PI T i l) (HT : KD T) (he : T[i]? = some e) (hk : kix l e.1 ≠ -1) : i ≤ (kix l e.1).toNat := by
  obtain ⟨x, h1, h2, h3, h4⟩ := kix_at hk
  rcases Nat.lt_or_ge (kix l e.1).toNat i with h5 | h5
  · obtain ⟨y, z, h6, h7, h8⟩ := H.2.1 _ h5
    rw [h1] at h6
    cases h6
    have := HT _ _ z e h7 he (by rw [← h8, h2])
    omega
  · exact h5
theorem PI.ins {T l : List Ent} {i : Nat} {e : Ent} (H : PI T i l) (he : T[i]? = some e) (hk : kix l e.1 = -1) : PI T (i + 1) (l.insertIdx i e) := by
  refine ⟨H.1.ins i hk, fun j hj => ?_, fun j x hx => ?_⟩
  · by_cases h : j = i
    · subst h
      refine ⟨e, e, ?_, he, rfl⟩
      rw [List.getElem?_insertIdx, if_neg (by omega), if_pos rfl, if_pos H.len]
    · obtain ⟨x, y, h1, h2⟩ := H.2.1 j (by omega)
      refine ⟨x, y, ?_, h2⟩
      rw [List.getElem?_insertIdx, if_pos (by omega)]
      exact h1
  · rcases ins_get hx with ⟨a1, a2⟩ | ⟨a1, a2⟩ | ⟨a1, a2⟩
    · exact H.2.2 _ _ a2
    · exact ⟨i, e, he, by rw [a2]⟩
    · exact H.2.2 _ _ a2
theorem PI.eq {T l : List Ent} {i : Nat} {e : Ent} (H : PI T i l) (he : T[i]? = some e) (hk : kix l e.1 = i) : PI T (i + 1) l := by
  refine ⟨H.1, fun j hj => ?_, H.2.2⟩
  by_cases h : j = i
  · subst h
    obtain ⟨x, h1, h2, _⟩ := kix_at (l := l) (k := e.1) (by omega)
    rw [hk] at h1
    exact ⟨x, e, h1, he, h2⟩
  · exact H.2.1 j (by omega)
theorem PI.mvd {T l : List Ent} {i : Nat} {e : Ent} (H : PI T i l) (HT : KD T) (he : T[i]? = some e) (hk : kix l e.1 ≠ -1) : PI T (i + 1) (mv l (kix l e.1).toNat i) := by
  have hge := H.ge HT he hk
  obtain ⟨x, h1, h2, h3, h4⟩ := kix_at hk
  rw [mv_some h1]
  have hl : (l.eraseIdx (kix l e.1).toNat).length = l.length - 1 := List.length_eraseIdx_of_lt h4
  refine ⟨(H.1.erase _).ins i (kix_erase H.1 h1), fun j hj => ?_, fun j y hy => ?_⟩
  · by_cases h : j = i
    · subst h
      refine ⟨x, e, ?_, he, h2⟩
      rw [List.getElem?_insertIdx, if_neg (by omega), if_pos rfl, if_pos (by omega)]
    · obtain ⟨x, y, h1, h2⟩ := H.2.1 j (by omega)
      refine ⟨x, y, ?_, h2⟩
      rw [List.getElem?_insertIdx, if_pos (by omega), List.getElem?_eraseIdx, if_pos (by omega)]
      exact h1
  · rcases ins_get hy with ⟨a1, a2⟩ | ⟨a1, a2⟩ | ⟨a1, a2⟩
    · rw [List.getElem?_eraseIdx] at a2
      split at a2
      · exact H.2.2 _ _ a2
      · exact H.2.2 _ _ a2
    · rw [← a2]
      exact H.2.2 _ _ h1
    · rw [List.getElem?_eraseIdx] at a2
      split at a2
      · exact H.2.2 _ _ a2
      · exact H.2.2 _ _ a2
/-- what the removals leave -/
theorem rmv_spec {c : Int} {T : List Ent} : ∀ (n : Nat) (l : List Ent), KD l → n ≤ l.length → (∀ (j : Nat) (e : Ent), n ≤ j → l[j]? = some e → kix T e.1 ≠ -1) →
    KD (rmv c T n l).2 ∧ (rmv c T n l).2.length + (rmv c T n l).1.length = l.length ∧ (∀ (j : Nat) (e : Ent), (rmv c T n l).2[j]? = some e → kix T e.1 ≠ -1 ∧ ∃ k : Nat, l[k]? = some e) ∧
    ∀ (j : Nat) (e : Ent), l[j]? = some e → kix T e.1 ≠ -1 → ∃ k : Nat, (rmv c T n l).2[k]? = some e
  | 0, l, H, _, hb => ⟨H, rfl, fun j e he => ⟨hb j e (Nat.zero_le _) he, j, he⟩, fun j e he _ => ⟨j, he⟩⟩
  | n + 1, l, H, hn, hb => by
    have h1 : l[n]? = some l[n] := List.getElem?_eq_getElem (by omega)
    unfold rmv
    rw [h1]
    dsimp only
    by_cases h2 : kix T l[n].1 = -1
    · rw [if_pos h2]
      dsimp only
      have hl : (l.eraseIdx n).length = l.length - 1 := List.length_eraseIdx_of_lt (by omega)
      obtain ⟨a1, a2, a3, a4⟩ := rmv_spec n (l.eraseIdx n) (H.erase n) (by omega) fun j e hj he => by
        rw [List.getElem?_eraseIdx, if_neg (by omega)] at he
        exact hb (j + 1) e (by omega) he
      refine ⟨a1, by rw [List.length_cons]; omega, fun j e he => ?_, fun j e he hk => ?_⟩
      · obtain ⟨b1, k, b2⟩ := a3 j e he
        refine ⟨b1, ?_⟩
        rw [List.getElem?_eraseIdx] at b2
        split at b2
        · exact ⟨k, b2⟩
        · exact ⟨k + 1, b2⟩
      · by_cases h3 : j = n
        · subst h3
          rw [h1] at he
          cases he
          exact absurd h2 hk
        · by_cases h4 : j < n
          · refine a4 j e ?_ hk
            rw [List.getElem?_eraseIdx, if_pos h4]
            exact he
          · refine a4 (j - 1) e ?_ hk
            rw [List.getElem?_eraseIdx, if_neg (by omega), show j - 1 + 1 = j by omega]
            exact he
    · rw [if_neg h2]
      refine rmv_spec n l H (by omega) fun j e hj he => ?_
      by_cases h3 : j = n
      · subst h3
        rw [h1] at he
        cases he
        exact h2
      · exact hb j e (by omega) he
theorem rmv_PI {c : Int} {F T : List Ent} (H : KD F) : PI T 0 (rmv c T F.length F).2 := by
  obtain ⟨a1, a2, a3, a4⟩ := rmv_spec (c := c) (T := T) F.length F H (Nat.le_refl _) fun j e hj he => by
    have := (List.getElem?_eq_some_iff.mp he).1
    omega
  refine ⟨a1, fun j hj => by omega, fun j e he => ?_⟩
  obtain ⟨x, h1, h2, _⟩ := kix_at (a3 j e he).1
  exact ⟨_, x, h1, h2⟩
