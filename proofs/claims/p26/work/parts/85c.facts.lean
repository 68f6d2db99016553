/-! WHAT THE CALLS ANSWER where the law asks -/
section YC
variable {S : St}
theorem slt_v {a : Nat} (h : a ≤ S.2.2.2.1) : slt S (10 + (a : Int)) = ((3 + a : Nat) : Int) := by
  unfold slt
  rw [if_neg (by omega), if_pos (by omega)]
  omega
theorem slt_c {c : Int} (hc : 0 ≤ c ∧ c ≤ 2) (ho : S.2.1 c.toNat = 1) : slt S c = ((c.toNat : Nat) : Int) := by
  unfold slt
  rw [if_pos hc, if_pos ho]
  omega
theorem r_edits {a b : Int} {n m : Nat} {F T : Cfg} (ha : slt S a = (n : Int)) (hb : slt S b = (m : Int)) (hF : S.1 n = F) (hT : S.1 m = T) : sp_edits S a b = (0, ((edL F T).length : Int), S) := by
  subst hF
  subst hT
  unfold sp_edits edS
  rw [if_neg (fun z => z ⟨by omega, by omega⟩), ha, hb]
  rfl
theorem r_same {a b : Int} {n m : Nat} {F T : Cfg} (ha : slt S a = (n : Int)) (hb : slt S b = (m : Int)) (hF : S.1 n = F) (hT : S.1 m = T) : sp_same S a b = (0, if (edL F T).length = 0 then 1 else 0, S) := by
  subst hF
  subst hT
  unfold sp_same edS
  rw [if_neg (fun z => z ⟨by omega, by omega⟩), ha, hb]
  rfl
theorem r_same1 {a b : Int} {n m : Nat} {F T : Cfg} (ha : slt S a = (n : Int)) (hb : slt S b = (m : Int)) (hF : S.1 n = F) (hT : S.1 m = T) (h : edL F T = []) : sp_same S a b = (0, 1, S) := by
  rw [r_same ha hb hF hT, h]
  rfl
theorem r_load {a : Nat} (ha : a ≤ S.2.2.2.1) (ho : S.2.1 2 = 1) : sp_load S 2 (a : Int) = (0, 0, sCf S 2 (S.1 (3 + a))) := by
  unfold sp_load
  rw [if_neg (fun z => z ⟨by decide, by omega, by omega⟩), if_neg (by show ¬ S.2.1 2 = 0; omega)]
  rfl
theorem r_apply {a b i : Int} {n m : Nat} {F T c' : Cfg} (ha : slt S a = (n : Int)) (hb : slt S b = (m : Int)) (hF : S.1 n = F) (hT : S.1 m = T) (ho : S.2.1 2 = 1) (hA : apA false (if i = 0 then edL F T else invL (edL F T)) (S.1 2) = some c') : sp_apply S 2 a b i = (0, ((edL F T).length : Int), sCf S 2 c') := by
  have e : edS S a b = edL F T := by
    subst hF
    subst hT
    unfold edS
    rw [ha, hb]
    rfl
  have hA' : apA false (if i = 0 then edL F T else invL (edL F T)) (S.1 (2 : Int).toNat) = some c' := hA
  unfold sp_apply
  rw [if_neg (fun z => z ⟨by decide, by omega, by omega⟩), if_neg (by show ¬ S.2.1 2 = 0; omega), e, hA']
  rfl
theorem r_faults {w : Int} {n : Nat} (hw : slt S w = (n : Int)) : sp_faults S w = (0, brk (S.1 n) S.2.2.2.2.2, S) := by
  unfold sp_faults
  rw [if_neg (by omega), hw]
  rfl
theorem r_size {w s : Int} {n : Nat} (hw : slt S w = (n : Int)) (hs : 0 ≤ s ∧ s ≤ 2) : sp_size S w s = (0, (((S.1 n).1 s.toNat).length : Int), S) := by
  unfold sp_size
  rw [if_neg (fun z => z ⟨by omega, hs⟩), hw]
  rfl
theorem enA_of {w s p : Int} {n : Nat} {e : Ent} (hw : slt S w = (n : Int)) (he : ((S.1 n).1 s.toNat)[p.toNat]? = some e) : enA S w s p = e := by
  unfold enA
  rw [hw, show ((n : Int)).toNat = n from rfl, he]
  rfl
theorem isE_of {w s p : Int} {n : Nat} {e : Ent} (hw : slt S w = (n : Int)) (hs : 0 ≤ s ∧ s ≤ 2) (hp : 0 ≤ p) (he : ((S.1 n).1 s.toNat)[p.toNat]? = some e) : slt S w ≠ -1 ∧ (0 ≤ s ∧ s ≤ 2) ∧ 0 ≤ p ∧ p < (((S.1 (slt S w).toNat).1 s.toNat).length : Int) := by
  have := (List.getElem?_eq_some_iff.mp he).1
  refine ⟨by omega, hs, hp, ?_⟩
  rw [hw, show ((n : Int)).toNat = n from rfl]
  omega
theorem r_keyAt {w s p : Int} {n : Nat} {e : Ent} (hw : slt S w = (n : Int)) (hs : 0 ≤ s ∧ s ≤ 2) (hp : 0 ≤ p) (he : ((S.1 n).1 s.toNat)[p.toNat]? = some e) : sp_keyAt S w s p = (0, e.1, S) := by
  unfold sp_keyAt
  rw [if_neg (fun z => z (isE_of hw hs hp he)), enA_of hw he]
theorem r_own {w s p : Int} {n : Nat} {e : Ent} (hw : slt S w = (n : Int)) (hs : 0 ≤ s ∧ s ≤ 2) (hp : 0 ≤ p) (he : ((S.1 n).1 s.toNat)[p.toNat]? = some e) : sp_own S w s p = (0, 10000 * (e.2.1 + 1) + 10 * (e.2.2.1 + 1) + e.2.2.2 + 1, S) := by
  unfold sp_own
  rw [if_neg (fun z => z (isE_of hw hs hp he)), enA_of hw he]
theorem r_shown {w s p : Int} {n : Nat} {e : Ent} (hw : slt S w = (n : Int)) (hs : 0 ≤ s ∧ s ≤ 2) (hp : 0 ≤ p) (he : ((S.1 n).1 s.toNat)[p.toNat]? = some e) : sp_shown S w s p 0 = (0, shw (S.1 n) e 0, S) := by
  unfold sp_shown
  rw [if_neg (fun z => z ⟨isE_of hw hs hp he, by decide⟩), enA_of hw he, hw]
  rfl
theorem shw0 {c : Cfg} {e : Ent} (h : e.2.1 ≠ -1) : shw c e 0 = e.2.1 := by
  unfold shw fieldE
  rw [if_pos (Or.inl (by rw [if_pos rfl]; exact h)), if_pos rfl]
/-- S' is S but for the candidate 2 -/
def C2 (S S' : St) : Prop := (∀ i, i ≠ 2 → S'.1 i = S.1 i) ∧ (∀ i, i ≠ 2 → S'.2.1 i = S.2.1 i) ∧ S'.2.2.2 = S.2.2.2
theorem C2.cf {S' : St} {c : Cfg} (H : C2 S S') : C2 S (sCf S' 2 c) := ⟨fun i hi => (if_neg hi).trans (H.1 i hi), H.2⟩
theorem sCf_at {S' : St} {c : Cfg} {i : Nat} : (sCf S' i c).1 i = c := if_pos rfl
/-- S' is S but for a configuration -/
def Ch (c : Nat) (S S' : St) : Prop := (∀ i, i ≠ c → S'.1 i = S.1 i) ∧ S'.2 = S.2
theorem Ch.cf {S' : St} {k : Nat} {c : Cfg} (H : Ch k S S') : Ch k S (sCf S' k c) := ⟨fun i hi => (if_neg hi).trans (H.1 i hi), H.2⟩
theorem Ch.rf {k : Nat} : Ch k S S := ⟨fun _ _ => rfl, rfl⟩
theorem lead_facts {a b : Nat} (HS : okS S) (ha : a ≤ S.2.2.2.1) (hb : b ≤ S.2.2.2.1) : ∃ (m v : Int) (S1 S2 S3 S4 : St), ((m = 0 → v = 1) ∧ (m ≠ 0 → v = 0)) ∧
    (sp_edits S (10 + (a : Int)) (10 + (b : Int)) = (0, m, S) ∧ sp_same S (10 + (a : Int)) (10 + (b : Int)) = (0, v, S) ∧ sp_same S (10 + (a : Int)) (10 + (a : Int)) = (0, 1, S) ∧ sp_edits S (10 + (b : Int)) (10 + (b : Int)) = (0, 0, S)) ∧
    (sp_open S 2 = (0, (S.2.2.2.1 : Int), S1) ∧ okS S1 ∧ sp_load S1 2 (a : Int) = (0, 0, S2) ∧ okS S2 ∧ sp_same S2 2 (10 + (a : Int)) = (0, 1, S2)) ∧
    (sp_apply S2 2 (10 + (a : Int)) (10 + (b : Int)) 0 = (0, m, S3) ∧ okS S3 ∧ sp_same S3 2 (10 + (b : Int)) = (0, 1, S3)) ∧
    (sp_apply S3 2 (10 + (a : Int)) (10 + (b : Int)) 1 = (0, m, S4) ∧ okS S4 ∧ sp_same S4 2 (10 + (a : Int)) = (0, 1, S4) ∧ sp_edits S4 2 (10 + (b : Int)) = (0, m, S4)) ∧ C2 S S4 := by
  have hr := HS.2.2.1
  have oF := HS.1 (3 + a) (by omega)
  have oT := HS.1 (3 + b) (by omega)
  obtain ⟨c', p1, p2, p3, p4⟩ := leads_to oF oT
  obtain ⟨S1, hS1⟩ : ∃ S1, S1 = (sp_open S 2).2.2 := ⟨_, rfl⟩
  have hop : sp_open S 2 = (0, (S.2.2.2.1 : Int), S1) := by
    rw [hS1]
    unfold sp_open
    rw [if_pos (by decide)]
  have o1 : okS S1 := by rw [hS1]; exact okS_open HS 2
  have k1 : C2 S S1 ∧ S1.2.1 2 = 1 := by
    rw [hS1]
    unfold sp_open
    rw [if_pos (by decide)]
    exact ⟨⟨fun i hi => if_neg hi, fun i hi => if_neg hi, rfl⟩, rfl⟩
  have q : ∀ S' : St, C2 S S' → S'.2.1 2 = 1 → slt S' 2 = ((2 : Nat) : Int) ∧ ∀ n : Nat, n ≤ S.2.2.2.1 → slt S' (10 + (n : Int)) = ((3 + n : Nat) : Int) ∧ S'.1 (3 + n) = S.1 (3 + n) := by
    intro S' h1 h2
    refine ⟨slt_c (c := 2) (by decide) h2, fun n hn => ⟨slt_v (by rw [h1.2.2]; exact hn), h1.1 _ (by omega)⟩⟩
  have eF : S1.1 (3 + a) = S.1 (3 + a) := ((q S1 k1.1 k1.2).2 a ha).2
  have hld := r_load (S := S1) (a := a) (by rw [k1.1.2.2]; exact ha) k1.2
  rw [eF] at hld
  have o2 : okS (sCf S1 2 (S.1 (3 + a))) := o1.cf oF
  have k2 : C2 S (sCf S1 2 (S.1 (3 + a))) := k1.1.cf
  obtain ⟨u2, v2⟩ := q _ k2 k1.2
  have o3 : okS (sCf (sCf S1 2 (S.1 (3 + a))) 2 c') := o2.cf p2
  have k3 : C2 S (sCf (sCf S1 2 (S.1 (3 + a))) 2 c') := k2.cf
  obtain ⟨u3, v3⟩ := q _ k3 k1.2
  have o4 : okS (sCf (sCf (sCf S1 2 (S.1 (3 + a))) 2 c') 2 (S.1 (3 + a))) := o3.cf oF
  have k4 : C2 S (sCf (sCf (sCf S1 2 (S.1 (3 + a))) 2 c') 2 (S.1 (3 + a))) := k3.cf
  obtain ⟨u4, v4⟩ := q _ k4 k1.2
  have nF : edL (S.1 (3 + a)) (S.1 (3 + a)) = [] := edL_nil oF oF eqC.refl
  have nT : edL (S.1 (3 + b)) (S.1 (3 + b)) = [] := edL_nil oT oT eqC.refl
  refine ⟨((edL (S.1 (3 + a)) (S.1 (3 + b))).length : Int), if (edL (S.1 (3 + a)) (S.1 (3 + b))).length = 0 then 1 else 0, S1, sCf S1 2 (S.1 (3 + a)), sCf (sCf S1 2 (S.1 (3 + a))) 2 c', sCf (sCf (sCf S1 2 (S.1 (3 + a))) 2 c') 2 (S.1 (3 + a)), ⟨fun h => if_pos (by omega), fun h => if_neg (by omega)⟩, ⟨?_, ?_, ?_, ?_⟩, ⟨hop, o1, hld, o2, ?_⟩, ⟨?_, o3, ?_⟩, ⟨?_, o4, ?_, ?_⟩, k4⟩
  · exact r_edits (slt_v ha) (slt_v hb) rfl rfl
  · exact r_same (slt_v ha) (slt_v hb) rfl rfl
  · exact r_same1 (slt_v ha) (slt_v ha) rfl rfl nF
  · have h := r_edits (S := S) (slt_v hb) (slt_v hb) rfl rfl
    rw [nT] at h
    exact h
  · exact r_same1 u2 (v2 a ha).1 sCf_at (v2 a ha).2 nF
  · exact r_apply (v2 a ha).1 (v2 b hb).1 (v2 a ha).2 (v2 b hb).2 k1.2 (by rw [if_pos rfl, sCf_at]; exact p1)
  · exact r_same1 u3 (v3 b hb).1 sCf_at (v3 b hb).2 (edL_nil p2 oT p3)
  · exact r_apply (v3 a ha).1 (v3 b hb).1 (v3 a ha).2 (v3 b hb).2 k1.2 (by rw [if_neg (by decide), sCf_at]; exact p4)
  · exact r_same1 u4 (v4 a ha).1 sCf_at (v4 a ha).2 nF
  · exact r_edits u4 (v4 b hb).1 sCf_at (v4 b hb).2
end YC
