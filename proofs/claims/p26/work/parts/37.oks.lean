/-! THE STATES STAY as they may be -/
theorem slt_cases (S : St) (w : Int) : slt S w = -1 ∨ ∃ n : Nat, slt S w = n ∧ n < 33 ∧ n ≤ 3 + S.2.2.2.1 ∨ 30 ≤ S.2.2.2.1 := by
  unfold slt
  by_cases h1 : 0 ≤ w ∧ w ≤ 2
  · rw [if_pos h1]
    by_cases h2 : S.2.1 w.toNat = 1
    · rw [if_pos h2]
      exact Or.inr ⟨w.toNat, by omega⟩
    · rw [if_neg h2]
      exact Or.inl rfl
  · rw [if_neg h1]
    by_cases h2 : 10 ≤ w ∧ w ≤ 10 + (S.2.2.2.1 : Int)
    · rw [if_pos h2]
      exact Or.inr ⟨(w - 7).toNat, by omega⟩
    · rw [if_neg h2]
      exact Or.inl rfl
theorem okS.slt {S : St} (H : okS S) (w : Int) : slt S w = -1 ∨ ∃ n : Nat, slt S w = n ∧ n < 33 ∧ n ≤ 3 + S.2.2.2.1 := by
  have := H.2.2.1
  rcases slt_cases S w with h | ⟨n, h | h⟩
  · exact Or.inl h
  · exact Or.inr ⟨n, h⟩
  · omega
theorem okS.cf {S : St} (H : okS S) {c : Cfg} {i : Nat} (hc : okC c) : okS (sCf S i c) := by
  refine ⟨fun j hj => ?_, H.2⟩
  unfold sCf
  dsimp only
  split
  · exact hc
  · exact H.1 j hj
theorem okC.sec {c : Cfg} (H : okC c) {s : Nat} {l : List Ent} (hl : okL l) : okC (upS c s l) := by
  refine ⟨fun j hj => ?_, H.2⟩
  unfold upS
  dsimp only
  split
  · exact hl
  · exact H.1 j hj
theorem okC.grp {c : Cfg} (H : okC c) {g f : Nat} {v : Int} (hv : -1 ≤ v ∧ v ≤ 99) : okC (upG c g f v) := by
  refine ⟨H.1, fun i j hi hj => ?_⟩
  unfold upG
  dsimp only
  split
  · exact hv
  · exact H.2 i j hi hj
theorem okS_open {S : St} (H : okS S) (c : Int) : okS (sp_open S c).2.2 := by
  unfold sp_open
  split
  · refine ⟨fun j hj => ?_, fun j hj => ?_, H.2.2⟩
    · dsimp only
      have := H.2.2.1
      split
      · exact H.1 _ (by omega)
      · exact H.1 _ hj
    · dsimp only
      refine ⟨?_, ?_⟩
      · split
        · exact Or.inr rfl
        · exact (H.2.1 j hj).1
      · split
        · exact Nat.le_refl _
        · exact (H.2.1 j hj).2
  · exact H
theorem okS.scl {S : St} (H : okS S) {c s : Int} (hc : 0 ≤ c ∧ c ≤ 2) (hs : 0 ≤ s ∧ s ≤ 2) : okL (sec S c s) := (H.1 _ (by omega)).1 _ (by omega)
theorem okS.usec {S : St} (H : okS S) {c s : Int} {l : List Ent} (hc : 0 ≤ c ∧ c ≤ 2) (hl : okL l) : okS (uSec S c s l) := H.cf ((H.1 _ (by omega)).sec hl)
theorem okS_add {S : St} (H : okS S) (c s k p : Int) : okS (sp_add S c s k p).2.2 := by
  unfold sp_add
  split
  · exact H
  · split
    · exact H
    · split
      · exact H
      · rename_i h1 h2 h3
        have hl := H.scl (c := c) (s := s) (by omega) (by omega)
        have h6 := hl.1
        refine H.usec (by omega) (hl.ins (by dsimp only; omega) (by omega) ?_)
        unfold okE
        dsimp only
        omega
theorem okS_remove {S : St} (H : okS S) (c s k : Int) : okS (sp_remove S c s k).2.2 := by
  unfold sp_remove
  split
  · exact H
  · split
    · exact H
    · rename_i h1 h2
      exact H.usec (by omega) ((H.scl (by omega) (by omega)).erase _)
theorem okS_move {S : St} (H : okS S) (c s k p : Int) : okS (sp_move S c s k p).2.2 := by
  unfold sp_move
  split
  · exact H
  · split
    · exact H
    · split
      · exact H
      · rename_i h1 h2 h3
        have := kix_rng (sec S c s) k
        exact H.usec (by omega) ((H.scl (by omega) (by omega)).mvd (by omega) (by omega))
theorem okS_xch {S : St} (H : okS S) {c s k j v : Int} (hc : 0 ≤ c ∧ c ≤ 2) (hs : 0 ≤ s ∧ s ≤ 2) (hk : kix (sec S c s) k ≠ -1) (hj : 0 ≤ j ∧ j ≤ 2) (hv : -1 ≤ v ∧ v ≤ 99) (hg : j = 2 → v ≤ 2) : okS (xch S c s k j v).2.2 := by
  have hl := H.scl hc hs
  obtain ⟨h1, h2⟩ := gt_at hk
  obtain ⟨h3, h4⟩ := okE_ws (hl.2.2 _ _ h1) hj hv hg
  exact H.usec hc (hl.set h1 h4 h3)
theorem okS_set {S : St} (H : okS S) (c s k f v : Int) : okS (sp_set S c s k f v).2.2 := by
  unfold sp_set
  split
  · exact H
  · split
    · exact H
    · split
      · exact H
      · exact okS_xch H (by omega) (by omega) (by omega) (by omega) (by omega) (by omega)
theorem okS_join {S : St} (H : okS S) (c s k g : Int) : okS (sp_join S c s k g).2.2 := by
  unfold sp_join
  split
  · exact H
  · split
    · exact H
    · split
      · exact H
      · exact okS_xch H (by omega) (by omega) (by omega) (by omega) (by omega) (by omega)
theorem okS_setGroup {S : St} (H : okS S) (c g f v : Int) : okS (sp_setGroup S c g f v).2.2 := by
  unfold sp_setGroup
  split
  · exact H
  · split
    · exact H
    · split
      · exact H
      · exact H.cf ((H.1 _ (by omega)).grp (by omega))
theorem okS_load {S : St} (H : okS S) (c v : Int) : okS (sp_load S c v).2.2 := by
  unfold sp_load
  split
  · exact H
  · split
    · exact H
    · have := H.2.2.1
      exact H.cf (H.1 _ (by omega))
theorem edS_okd {S : St} (H : okS S) {a b : Int} (ha : slt S a ≠ -1) (hb : slt S b ≠ -1) : (∀ e, e ∈ edS S a b → okEd e) ∧ (edS S a b).length ≤ 78 := by
  unfold edS
  rcases H.slt a with h | ⟨n, h, h1, _⟩
  · exact absurd h ha
  rcases H.slt b with h' | ⟨n', h', h1', _⟩
  · exact absurd h' hb
  have e1 := H.1 (slt S a).toNat (by omega)
  have e2 := H.1 (slt S b).toNat (by omega)
  exact ⟨edL_okd e1 e2, edL_len e1 e2⟩
theorem okS_apply {S : St} (H : okS S) (c a b i : Int) : okS (sp_apply S c a b i).2.2 := by
  unfold sp_apply
  split
  · exact H
  · split
    · exact H
    · split
      · exact H
      · rename_i h1 h2 c' h3
        obtain ⟨h4, _⟩ := edS_okd H (a := a) (b := b) (by omega) (by omega)
        refine H.cf (apA_ok ?_ (H.1 _ (by omega)) h3)
        split
        · exact h4
        · exact invL_okd h4
theorem okS_rule {S : St} (H : okS S) (k s f n : Int) : okS (sp_rule S k s f n).2.2 := by
  unfold sp_rule
  split
  · exact H
  · split
    · exact H
    · split
      · exact H
      · rename_i h1 h2 h3
        have h8 := H.2.2.2.2.1
        refine ⟨H.1, H.2.1, H.2.2.1, H.2.2.2.1, ?_, fun i r hr => ?_⟩
        · dsimp only
          rw [List.length_append]
          show _ + 1 ≤ 8
          omega
        · dsimp only at hr
          rw [List.getElem?_append] at hr
          split at hr
          · exact H.2.2.2.2.2 i r hr
          · rename_i h4
            by_cases h5 : i - S.2.2.2.2.2.length = 0
            · rw [h5] at hr
              cases hr
              unfold okRl
              dsimp only
              omega
            · rw [List.getElem?_eq_none (by show 1 ≤ _; omega)] at hr
              cases hr
theorem okS_commit {S : St} (H : okS S) (c m : Int) : okS (sp_commit S c m).2.2 := by
  unfold sp_commit
  split
  · exact H
  · split
    · exact H
    · split
      · exact H
      · split
        · exact H
        · split
          · exact H
          · rename_i h1 h2 h3 c' h4 h5
            have hb := (H.2.1 c.toNat (by omega)).2
            have hr := H.2.2.1
            have hc' : okC c' := apA_ok (edL_okd (H.1 _ (by omega)) (H.1 _ (by omega))) (H.1 _ (by omega)) h4
            refine ⟨fun j hj => ?_, fun j hj => ⟨?_, ?_⟩, ?_, ?_, H.2.2.2.2⟩
            · dsimp only
              split
              · exact hc'
              · exact H.1 j hj
            · dsimp only
              split
              · exact Or.inl rfl
              · exact (H.2.1 j hj).1
            · have := (H.2.1 j hj).2
              dsimp only
              omega
            · dsimp only
              omega
            · dsimp only
              split
              · exact Or.inl rfl
              · exact Or.inr (by omega)
theorem okS_confirm {S : St} (H : okS S) : okS (sp_confirm S).2.2 := by
  unfold sp_confirm
  split
  · exact H
  · exact ⟨H.1, H.2.1, H.2.2.1, Or.inl rfl, H.2.2.2.2⟩
theorem okS_advance {S : St} (H : okS S) (m : Int) : okS (sp_advance S m).2.2 := by
  unfold sp_advance
  split
  · exact H
  · split
    · exact H
    · have h4 := H.2.2.2.1
      split
      · refine ⟨fun j hj => ?_, fun j hj => ⟨(H.2.1 j hj).1, ?_⟩, ?_, Or.inl rfl, H.2.2.2.2⟩
        · dsimp only
          split
          · exact H.1 _ (by omega)
          · exact H.1 j hj
        · have := (H.2.1 j hj).2
          dsimp only
          omega
        · dsimp only
          omega
      · refine ⟨H.1, H.2.1, H.2.2.1, ?_, H.2.2.2.2⟩
        dsimp only
        omega
