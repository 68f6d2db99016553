/-! THERE ARE NO EDITS just if both configurations are the same -/
theorem rmv_same {c : Int} {T : List Ent} : ∀ (n : Nat) (l : List Ent), (∀ (j : Nat) (e : Ent), l[j]? = some e → kix T e.1 ≠ -1) → rmv c T n l = ([], l)
  | 0, _, _ => rfl
  | n + 1, l, h => by
    unfold rmv
    split
    · exact rmv_same n l h
    · rename_i e he
      rw [if_neg (h n e he)]
      exact rmv_same n l h
theorem rmv_nil {c : Int} {T : List Ent} : ∀ (n : Nat) (l : List Ent), (rmv c T n l).1 = [] → (rmv c T n l).2 = l
  | 0, _, _ => rfl
  | n + 1, l, h => by
    unfold rmv at h ⊢
    split at h
    · exact rmv_nil n l h
    · split at h
      · cases h
      · rename_i h1
        rw [if_neg h1]
        exact rmv_nil n l h
theorem plc_same {c : Int} {T : List Ent} (hT : KD T) : ∀ (d i : Nat), plc c T d i T = ([], T)
  | 0, _ => rfl
  | d + 1, i => by
    unfold plc
    split
    · rfl
    · rename_i e he
      have h1 := kix_eq hT he
      rw [if_neg (by omega), if_pos h1]
      exact plc_same hT d (i + 1)
theorem plc_nil {c : Int} {T : List Ent} : ∀ (d i : Nat) (l : List Ent), i + d = T.length → (plc c T d i l).1 = [] → ∀ (j : Nat) (e : Ent), i ≤ j → T[j]? = some e → kix l e.1 = j
  | 0, i, l, hd, _, j, e, hj, he => by
    have := (List.getElem?_eq_some_iff.mp he).1
    omega
  | d + 1, i, l, hd, h, j, e, hj, he => by
    unfold plc at h
    rw [List.getElem?_eq_getElem (show i < T.length by omega)] at h
    dsimp only at h
    split at h
    · cases h
    · split at h
      · rename_i h1 h2
        by_cases h3 : j = i
        · subst h3
          rw [List.getElem?_eq_getElem (show j < T.length by omega)] at he
          cases he
          exact h2
        · exact plc_nil d (i + 1) l (by omega) h j e (by omega) he
      · cases h
theorem unl_self {k s key a : Int} : unl k s key a a = [] := if_pos rfl
theorem unl_nil {k s key a b : Int} (h : unl k s key a b = []) : a = b := by
  unfold unl at h
  split at h
  · assumption
  · cases h
theorem stA_self {c : Int} {T : List Ent} : ∀ d, stA c T T d = []
  | 0 => rfl
  | d + 1 => by
    unfold stA stK
    split
    · exact stA_self d
    · rw [unl_self, unl_self, unl_self]
      exact stA_self d
theorem stA_nil {c : Int} {F T : List Ent} : ∀ (d : Nat), d ≤ 10 → stA c F T d = [] → ∀ k : Int, 10 - (d : Int) ≤ k → k ≤ 9 → stK c F T k = []
  | 0, _, _, k, h1, h2 => by omega
  | d + 1, hd, h, k, h1, h2 => by
    unfold stA at h
    obtain ⟨h3, h4⟩ := List.append_eq_nil_iff.mp h
    by_cases h5 : k = 9 - (d : Int)
    · rw [h5]
      exact h3
    · exact stA_nil d (by omega) h4 k (by omega) h2
theorem secL_same {c : Int} {F T : List Ent} (hF : okL F) (hT : okL T) : secL c F T = [] ↔ F = T := by
  constructor
  · intro h
    unfold secL at h
    obtain ⟨h1, h2⟩ := List.append_eq_nil_iff.mp h
    obtain ⟨h3, h4⟩ := List.append_eq_nil_iff.mp h2
    have h5 := rmv_nil _ _ h1
    have hPI := rmv_PI (c := c) (T := T) hF.2.1
    rw [h5] at h3 hPI
    have h6 := plc_nil T.length 0 F (by omega) h3
    have hle := hPI.le
    refine List.ext_getElem? fun j => ?_
    by_cases hj : j < T.length
    · have g1 : T[j]? = some T[j] := List.getElem?_eq_getElem hj
      have g2 := h6 j _ (Nat.zero_le _) g1
      have g3 := kix_eq hT.2.1 g1
      have g4 := okE_key (hT.2.2 j _ g1)
      have g5 := stA_nil 10 (Nat.le_refl _) h4 T[j].1 (by omega) (by omega)
      obtain ⟨a1, a2⟩ := gt_at (l := F) (k := T[j].1) (by omega)
      obtain ⟨b1, b2⟩ := gt_at (l := T) (k := T[j].1) (by omega)
      unfold stK at g5
      rw [if_neg (by omega)] at g5
      obtain ⟨e1, g6⟩ := List.append_eq_nil_iff.mp g5
      obtain ⟨e2, e3⟩ := List.append_eq_nil_iff.mp g6
      have e1 := unl_nil e1
      have e2 := unl_nil e2
      have e3 := unl_nil e3
      rw [g2] at a1
      rw [g3] at b1
      rw [show ((j : Int)).toNat = j by omega] at a1 b1
      rw [a1, b1]
      congr 1
      have key : ∀ a b : Ent, a.1 = b.1 → a.2.1 = b.2.1 → a.2.2.1 = b.2.2.1 → a.2.2.2 = b.2.2.2 → a = b := by
        intro a b q1 q2 q3 q4
        obtain ⟨x1, x2, x3, x4⟩ := a
        obtain ⟨y1, y2, y3, y4⟩ := b
        dsimp only at q1 q2 q3 q4
        rw [q1, q2, q3, q4]
      exact key _ _ (by rw [a2, b2]) e1 e2 e3
    · rw [List.getElem?_eq_none (by omega), List.getElem?_eq_none (by omega)]
  · intro h
    subst h
    unfold secL
    have h1 : rmv c F F.length F = ([], F) := rmv_same _ _ fun j e he => by
      have := kix_eq hF.2.1 he
      omega
    rw [h1]
    dsimp only
    rw [plc_same hF.2.1, stA_self]
    rfl
theorem edL_same {f t : Cfg} (hf : okC f) (ht : okC t) : edL f t = [] ↔ (∀ s, s < 3 → f.1 s = t.1 s) ∧ ∀ g j, g < 3 → j < 2 → f.2 g j = t.2 g j := by
  unfold edL grpL
  simp only [List.append_eq_nil_iff]
  rw [secL_same (hf.1 0 (by decide)) (ht.1 0 (by decide)), secL_same (hf.1 1 (by decide)) (ht.1 1 (by decide)), secL_same (hf.1 2 (by decide)) (ht.1 2 (by decide))]
  constructor
  · rintro ⟨a0, a1, a2, b0, b1, b2, b3, b4, b5⟩
    have b0 := unl_nil b0
    have b1 := unl_nil b1
    have b2 := unl_nil b2
    have b3 := unl_nil b3
    have b4 := unl_nil b4
    have b5 := unl_nil b5
    refine ⟨fun s hs => ?_, fun g j hg hj => ?_⟩
    · rcases (by omega : s = 0 ∨ s = 1 ∨ s = 2) with rfl | rfl | rfl <;> assumption
    · rcases (by omega : g = 0 ∨ g = 1 ∨ g = 2) with rfl | rfl | rfl <;> rcases (by omega : j = 0 ∨ j = 1) with rfl | rfl <;> assumption
  · rintro ⟨a, b⟩
    rw [b 0 0 (by decide) (by decide), b 0 1 (by decide) (by decide), b 1 0 (by decide) (by decide), b 1 1 (by decide) (by decide), b 2 0 (by decide) (by decide), b 2 1 (by decide) (by decide)]
    exact ⟨a 0 (by decide), a 1 (by decide), a 2 (by decide), unl_self, unl_self, unl_self, unl_self, unl_self, unl_self⟩
/-! THE CALLS, as plain functions: what is thrown (0: nothing; else its number in the law), the answer, the state behind it -/
/-- configurations, which candidates are open, their bases, the running version, what waits (-1: none), the rules -/
abbrev St : Type := (Nat → Cfg) × (Nat → Int) × (Nat → Nat) × Nat × Int × List Rul
abbrev Res : Type := Int × Int × St
def sCf (S : St) (i : Nat) (c : Cfg) : St := (fun j => if j = i then c else S.1 j, S.2)
def isC (c : Int) : Prop := 0 ≤ c ∧ c ≤ 2
/-- where a configuration is: candidates 0 to 2, the version v at 3 + v; -1: nowhere -/
def slt (S : St) (w : Int) : Int := if 0 ≤ w ∧ w ≤ 2 then (if S.2.1 w.toNat = 1 then w else -1) else if 10 ≤ w ∧ w ≤ 10 + (S.2.2.2.1 : Int) then w - 7 else -1
def sx (S : St) (t : Int) : Res := (t, 0, S)
def sp_open (S : St) (c : Int) : Res :=
  if 0 ≤ c ∧ c ≤ 2 then (0, S.2.2.2.1, (fun j => if j = c.toNat then S.1 (3 + S.2.2.2.1) else S.1 j, fun j => if j = c.toNat then 1 else S.2.1 j, fun j => if j = c.toNat then S.2.2.2.1 else S.2.2.1 j, S.2.2.2)) else sx S 1
def sec (S : St) (c s : Int) : List Ent := (S.1 c.toNat).1 s.toNat
def uSec (S : St) (c s : Int) (l : List Ent) : St := sCf S c.toNat (upS (S.1 c.toNat) s.toNat l)
def sp_add (S : St) (c s k p : Int) : Res :=
  if ¬ ((0 ≤ c ∧ c ≤ 2) ∧ (0 ≤ s ∧ s ≤ 2) ∧ 0 ≤ k ∧ k ≤ 9) then sx S 1
  else if S.2.1 c.toNat = 0 ∨ kix (sec S c s) k ≠ -1 ∨ (sec S c s).length = 6 then sx S 2
  else if ¬ (0 ≤ p ∧ p ≤ (sec S c s).length) then sx S 3
  else (0, (sec S c s).length + 1, uSec S c s ((sec S c s).insertIdx p.toNat (k, -1, -1, -1)))
def sp_remove (S : St) (c s k : Int) : Res :=
  if ¬ ((0 ≤ c ∧ c ≤ 2) ∧ (0 ≤ s ∧ s ≤ 2) ∧ 0 ≤ k ∧ k ≤ 9) then sx S 1
  else if S.2.1 c.toNat = 0 ∨ kix (sec S c s) k = -1 then sx S 2
  else (0, kix (sec S c s) k, uSec S c s ((sec S c s).eraseIdx (kix (sec S c s) k).toNat))
def sp_move (S : St) (c s k p : Int) : Res :=
  if ¬ ((0 ≤ c ∧ c ≤ 2) ∧ (0 ≤ s ∧ s ≤ 2) ∧ 0 ≤ k ∧ k ≤ 9) then sx S 1
  else if S.2.1 c.toNat = 0 ∨ kix (sec S c s) k = -1 then sx S 2
  else if ¬ (0 ≤ p ∧ p ≤ (sec S c s).length - 1) then sx S 3
  else (0, kix (sec S c s) k, uSec S c s (mv (sec S c s) (kix (sec S c s) k).toNat p.toNat))
def xch (S : St) (c s k j v : Int) : Res :=
  (0, sg (gt (sec S c s) k) j, uSec S c s ((sec S c s).set (kix (sec S c s) k).toNat (ws (gt (sec S c s) k) j v)))
def sp_set (S : St) (c s k f v : Int) : Res :=
  if ¬ ((0 ≤ c ∧ c ≤ 2) ∧ (0 ≤ s ∧ s ≤ 2) ∧ (0 ≤ k ∧ k ≤ 9) ∧ 0 ≤ f ∧ f ≤ 1) then sx S 1
  else if ¬ (-1 ≤ v ∧ v ≤ 99) then sx S 2
  else if S.2.1 c.toNat = 0 ∨ kix (sec S c s) k = -1 then sx S 3
  else xch S c s k f v
def sp_join (S : St) (c s k g : Int) : Res :=
  if ¬ ((0 ≤ c ∧ c ≤ 2) ∧ (0 ≤ s ∧ s ≤ 2) ∧ 0 ≤ k ∧ k ≤ 9) then sx S 1
  else if ¬ (-1 ≤ g ∧ g ≤ 2) then sx S 2
  else if S.2.1 c.toNat = 0 ∨ kix (sec S c s) k = -1 then sx S 3
  else xch S c s k 2 g
def sp_setGroup (S : St) (c g f v : Int) : Res :=
  if ¬ ((0 ≤ c ∧ c ≤ 2) ∧ (0 ≤ g ∧ g ≤ 2) ∧ 0 ≤ f ∧ f ≤ 1) then sx S 1
  else if ¬ (-1 ≤ v ∧ v ≤ 99) then sx S 2
  else if S.2.1 c.toNat = 0 then sx S 3
  else (0, (S.1 c.toNat).2 g.toNat f.toNat, sCf S c.toNat (upG (S.1 c.toNat) g.toNat f.toNat v))
def sp_load (S : St) (c v : Int) : Res :=
  if ¬ ((0 ≤ c ∧ c ≤ 2) ∧ 0 ≤ v ∧ v ≤ S.2.2.2.1) then sx S 1
  else if S.2.1 c.toNat = 0 then sx S 2
  else (0, 0, sCf S c.toNat (S.1 (3 + v.toNat)))
def edS (S : St) (a b : Int) : List Edt := edL (S.1 (slt S a).toNat) (S.1 (slt S b).toNat)
def sp_apply (S : St) (c a b i : Int) : Res :=
  if ¬ ((0 ≤ c ∧ c ≤ 2) ∧ slt S a ≠ -1 ∧ slt S b ≠ -1) then sx S 1
  else if S.2.1 c.toNat = 0 then sx S 2
  else match apA false (if i = 0 then edS S a b else invL (edS S a b)) (S.1 c.toNat) with
    | none => sx S 2
    | some c' => (0, (edS S a b).length, sCf S c.toNat c')
def sp_rule (S : St) (k s f n : Int) : Res :=
  if ¬ ((0 ≤ s ∧ s ≤ 2) ∧ 0 ≤ f ∧ f ≤ 1) then sx S 1
  else if ¬ ((0 ≤ k ∧ k ≤ 3) ∧ 0 ≤ n ∧ n ≤ 99) then sx S 2
  else if S.2.2.2.2.2.length = 8 then sx S 3
  else (0, S.2.2.2.2.2.length, (S.1, S.2.1, S.2.2.1, S.2.2.2.1, S.2.2.2.2.1, S.2.2.2.2.2 ++ [(k, s, f, n)]))
noncomputable def sp_faults (S : St) (w : Int) : Res :=
  if slt S w = -1 then sx S 1 else (0, brk (S.1 (slt S w).toNat) S.2.2.2.2.2, S)
noncomputable def sp_commit (S : St) (c m : Int) : Res :=
  if ¬ (0 ≤ c ∧ c ≤ 2) then sx S 1
  else if ¬ (0 ≤ m ∧ m ≤ 100) then sx S 2
  else if S.2.1 c.toNat = 0 ∨ S.2.2.2.2.1 ≠ -1 ∨ 28 ≤ S.2.2.2.1 then sx S 3
  else match apA true (edL (S.1 (3 + S.2.2.1 c.toNat)) (S.1 c.toNat)) (S.1 (3 + S.2.2.2.1)) with
    | none => sx S 3
    | some c' => if 0 < brk c' S.2.2.2.2.2 then sx S 3
      else (0, S.2.2.2.1 + 1, (fun j => if j = 3 + (S.2.2.2.1 + 1) then c' else S.1 j, fun j => if j = c.toNat then 0 else S.2.1 j, S.2.2.1, S.2.2.2.1 + 1, (if m = 0 then -1 else m), S.2.2.2.2.2))
def sp_confirm (S : St) : Res :=
  if S.2.2.2.2.1 = -1 then sx S 1 else (0, S.2.2.2.2.1, (S.1, S.2.1, S.2.2.1, S.2.2.2.1, -1, S.2.2.2.2.2))
def sp_advance (S : St) (m : Int) : Res :=
  if ¬ (1 ≤ m ∧ m ≤ 100) then sx S 1
  else if S.2.2.2.2.1 = -1 then (0, S.2.2.2.1, S)
  else if S.2.2.2.2.1 ≤ m then (0, S.2.2.2.1 + 1, (fun j => if j = 3 + (S.2.2.2.1 + 1) then S.1 (3 + (S.2.2.2.1 - 1)) else S.1 j, S.2.1, S.2.2.1, S.2.2.2.1 + 1, -1, S.2.2.2.2.2))
  else (0, S.2.2.2.1, (S.1, S.2.1, S.2.2.1, S.2.2.2.1, S.2.2.2.2.1 - m, S.2.2.2.2.2))
def sp_size (S : St) (w s : Int) : Res :=
  if ¬ (slt S w ≠ -1 ∧ 0 ≤ s ∧ s ≤ 2) then sx S 1 else (0, ((S.1 (slt S w).toNat).1 s.toNat).length, S)
/-- the entry at a place -/
def isE (S : St) (w s p : Int) : Prop := slt S w ≠ -1 ∧ (0 ≤ s ∧ s ≤ 2) ∧ 0 ≤ p ∧ p < ((S.1 (slt S w).toNat).1 s.toNat).length
def enA (S : St) (w s p : Int) : Ent := (((S.1 (slt S w).toNat).1 s.toNat)[p.toNat]?).getD E0
def sp_keyAt (S : St) (w s p : Int) : Res :=
  if ¬ (slt S w ≠ -1 ∧ (0 ≤ s ∧ s ≤ 2) ∧ 0 ≤ p ∧ p < ((S.1 (slt S w).toNat).1 s.toNat).length) then sx S 1 else (0, (enA S w s p).1, S)
def sp_shown (S : St) (w s p f : Int) : Res :=
  if ¬ ((slt S w ≠ -1 ∧ (0 ≤ s ∧ s ≤ 2) ∧ 0 ≤ p ∧ p < ((S.1 (slt S w).toNat).1 s.toNat).length) ∧ 0 ≤ f ∧ f ≤ 1) then sx S 1 else (0, shw (S.1 (slt S w).toNat) (enA S w s p) f, S)
def sp_own (S : St) (w s p : Int) : Res :=
  if ¬ (slt S w ≠ -1 ∧ (0 ≤ s ∧ s ≤ 2) ∧ 0 ≤ p ∧ p < ((S.1 (slt S w).toNat).1 s.toNat).length) then sx S 1
  else (0, 10000 * ((enA S w s p).2.1 + 1) + 10 * ((enA S w s p).2.2.1 + 1) + (enA S w s p).2.2.2 + 1, S)
def sp_same (S : St) (a b : Int) : Res :=
  if ¬ (slt S a ≠ -1 ∧ slt S b ≠ -1) then sx S 1 else (0, if (edS S a b).length = 0 then 1 else 0, S)
def sp_edits (S : St) (a b : Int) : Res :=
  if ¬ (slt S a ≠ -1 ∧ slt S b ≠ -1) then sx S 1 else (0, (edS S a b).length, S)
def cod (e : Edt) : Int := if 7 ≤ e.1 then 900 + 10 * e.2.2.1 + e.1 - 7 else 100 * e.2.1 + 10 * e.2.2.1 + e.1
def sp_editAt (S : St) (a b k : Int) : Res :=
  if ¬ ((slt S a ≠ -1 ∧ slt S b ≠ -1) ∧ 0 ≤ k ∧ k < (edS S a b).length) then sx S 1 else (0, cod (((edS S a b)[k.toNat]?).getD (0, 0, 0, 0, 0, E0)), S)
/-- a state as it may be -/
def okRl (r : Rul) : Prop := (0 ≤ r.1 ∧ r.1 ≤ 3) ∧ (0 ≤ r.2.1 ∧ r.2.1 ≤ 2) ∧ (0 ≤ r.2.2.1 ∧ r.2.2.1 ≤ 1) ∧ 0 ≤ r.2.2.2 ∧ r.2.2.2 ≤ 99
def okS (S : St) : Prop :=
  (∀ i, i < 33 → okC (S.1 i)) ∧ (∀ c, c < 3 → (S.2.1 c = 0 ∨ S.2.1 c = 1) ∧ S.2.2.1 c ≤ S.2.2.2.1) ∧ S.2.2.2.1 ≤ 29 ∧
  (S.2.2.2.2.1 = -1 ∨ (1 ≤ S.2.2.2.2.1 ∧ S.2.2.2.2.1 ≤ 100 ∧ 1 ≤ S.2.2.2.1 ∧ S.2.2.2.1 ≤ 28)) ∧ S.2.2.2.2.2.length ≤ 8 ∧ ∀ (i : Nat) (r : Rul), S.2.2.2.2.2[i]? = some r → okRl r
