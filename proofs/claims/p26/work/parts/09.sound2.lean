/-! THE HEAP of the abstract machine in the machine's -/
def am_fv (c k : Nat) (x : Int) (r : Option Nat) : Value := if am_fk c k = 0 then va_rf r else .int (Int32.ofInt x)
/-- of which own classes there are arrays -/
def am_ac (c : Nat) : Bool := match c with
  | 0 => true
  | 1 => true
  | 2 => true
  | 4 => true
  | 5 => true
  | 6 => true
  | _ => false
/-- what is known of the launch for good: the start, the classes' numbers and slots, the arrays' classes -/
abbrev aG : Type := State × va_G × (ClassId × ClassId × ClassId) × (Nat → ClassId)
def gs (Γ : aG) : State := Γ.1
def gb (Γ : aG) : Nat := Γ.1.heap.size
def cellIs (Γ : aG) (t n : Nat) (f : Nat → Int) (g : Nat → Option Nat) (a : Nat) (H : Heap) : Prop :=
  (1 ≤ t ∧ t ≤ 9 ∧ n = am_fN (t - 1) ∧ t_OB a (Γ.2.1.1 (t - 1)) n (Γ.2.1.2 (t - 1)) H (fun k => am_fv (t - 1) k (f k) (g k))) ∨
  (t = 20 ∧ H[a]? = some (arrV Γ.2.2.1.1 n (fun j => .int (Int32.ofInt (f j))))) ∨
  (t = 21 ∧ H[a]? = some (arrV Γ.2.2.1.2.1 n (fun j => .long (Int64.ofInt (f j))))) ∨
  (t = 40 ∧ H[a]? = some (arrV Γ.2.2.1.2.2 n (fun j => va_rf (g j)))) ∨
  (22 ≤ t ∧ t ≤ 30 ∧ am_ac (t - 22) = true ∧ H[a]? = some (arrV (Γ.2.2.2 (t - 22)) n (fun j => va_rf (g j))))
theorem cellIs.kept {Γ : aG} {t n : Nat} {f : Nat → Int} {g : Nat → Option Nat} {a : Nat} {H H1 : Heap} (h : cellIs Γ t n f g a H) (hq : H1[a]? = H[a]?) : cellIs Γ t n f g a H1 := by
  rcases h with ⟨h1, h2, h3, h4⟩ | ⟨h1, h2⟩ | ⟨h1, h2⟩ | ⟨h1, h2⟩ | ⟨h1, h2, h3, h4⟩
  · exact Or.inl ⟨h1, h2, h3, h4.kept hq⟩
  · exact Or.inr (Or.inl ⟨h1, by rw [hq]; exact h2⟩)
  · exact Or.inr (Or.inr (Or.inl ⟨h1, by rw [hq]; exact h2⟩))
  · exact Or.inr (Or.inr (Or.inr (Or.inl ⟨h1, by rw [hq]; exact h2⟩)))
  · exact Or.inr (Or.inr (Or.inr (Or.inr ⟨h1, h2, h3, by rw [hq]; exact h4⟩)))
theorem cellIs.lt {Γ : aG} {t n : Nat} {f : Nat → Int} {g : Nat → Option Nat} {a : Nat} {H : Heap} (h : cellIs Γ t n f g a H) : a < H.size := by
  rcases h with ⟨h1, h2, h3, cell, h4, -⟩ | ⟨h1, h2⟩ | ⟨h1, h2⟩ | ⟨h1, h2⟩ | ⟨h1, h2, h3, h4⟩
  · exact (Array.getElem?_eq_some_iff.mp h4).1
  all_goals first | exact (Array.getElem?_eq_some_iff.mp h2).1 | exact (Array.getElem?_eq_some_iff.mp h4).1
def HP (Γ : aG) (h : aH) (H : Heap) : Prop :=
  H.size = hnx h ∧ gb Γ ≤ hnx h ∧ (∀ q : Nat, q < gb Γ → H[q]? = (gs Γ).heap[q]?) ∧
  (∀ a : Nat, (hsh h a).1 = 50 → a < gb Γ ∧ va_X a (hsh h a).2 (fun j => Int32.ofInt (hiv h a j)) (gs Γ) (gs Γ).heap ∧ (hsh h a).2 ≤ 4096) ∧
  (∀ a : Nat, (hsh h a).1 ≠ 0 → (hsh h a).1 ≠ 50 → gb Γ ≤ a ∧ (hsh h a).2 ≤ 1000 ∧ cellIs Γ (hsh h a).1 (hsh h a).2 (hiv h a) (hrf h a) a H) ∧
  (∀ a k : Nat, inr32 (hiv h a k)) ∧
  (∀ a : Nat, hnx h ≤ a → (∀ k, hiv h a k = 0) ∧ ∀ k, hrf h a k = none)
theorem HP.put {Γ : aG} {h h' : aH} {H H' : Heap} {a : Nat} (hP : HP Γ h H) (e1 : hsh h' = hsh h) (e2 : hnx h' = hnx h) (e3 : ∀ b, b ≠ a → ∀ k, hiv h' b k = hiv h b k ∧ hrf h' b k = hrf h b k) (er : ∀ k, inr32 (hiv h' a k))
    (ht : (hsh h a).1 ≠ 0) (ht2 : (hsh h a).1 ≠ 50) (hz : H'.size = H.size) (ho : ∀ q, q ≠ a → H'[q]? = H[q]?) (hc : cellIs Γ (hsh h a).1 (hsh h a).2 (hiv h' a) (hrf h' a) a H') : HP Γ h' H' := by
  obtain ⟨p1, p2, p3, p4, p5, p6, p7⟩ := hP
  obtain ⟨q1, q2, q3⟩ := p5 a ht ht2
  have hlt : a < hnx h := by rw [← p1, ← hz]; exact hc.lt
  refine ⟨by rw [hz, e2]; exact p1, by rw [e2]; exact p2, fun q hq => by rw [ho q (by omega)]; exact p3 q hq, fun b hb => ?_, fun b hb hb2 => ?_, fun b k => ?_, fun b hb => ?_⟩
  · rw [e1] at hb ⊢
    have hne : b ≠ a := fun e => by rw [e] at hb; exact ht2 hb
    rw [show hiv h' b = hiv h b from funext fun k => (e3 b hne k).1]
    exact p4 b hb
  · rw [e1] at hb hb2 ⊢
    by_cases hne : b = a
    · subst hne
      exact ⟨q1, q2, hc⟩
    · obtain ⟨r1, r2, r3⟩ := p5 b hb hb2
      rw [show hiv h' b = hiv h b from funext fun k => (e3 b hne k).1, show hrf h' b = hrf h b from funext fun k => (e3 b hne k).2]
      exact ⟨r1, r2, r3.kept (ho b hne)⟩
  · by_cases hne : b = a
    · subst hne
      exact er k
    · rw [(e3 b hne k).1]
      exact p6 b k
  · rw [e2] at hb
    have hne : b ≠ a := by omega
    exact ⟨fun k => by rw [(e3 b hne k).1]; exact (p7 b hb).1 k, fun k => by rw [(e3 b hne k).2]; exact (p7 b hb).2 k⟩
theorem HP.puti {Γ : aG} {h : aH} {H H' : Heap} {a k : Nat} {x : Int} (hP : HP Γ h H) (hx : inr32 x) (ht : (hsh h a).1 ≠ 0) (ht2 : (hsh h a).1 ≠ 50) (hz : H'.size = H.size) (ho : ∀ q, q ≠ a → H'[q]? = H[q]?) (hc : cellIs Γ (hsh h a).1 (hsh h a).2 (fun j => if j = k then x else hiv h a j) (hrf h a) a H') : HP Γ (hwi h a k x) H' := by
  have e : hiv (hwi h a k x) a = fun j => if j = k then x else hiv h a j := by
    funext j
    show (if a = a ∧ j = k then x else _) = _
    simp [hiv]
  refine hP.put (a := a) rfl rfl (fun b hb j => ⟨?_, rfl⟩) (fun j => ?_) ht ht2 hz ho (by rw [e]; exact hc)
  · show (if b = a ∧ j = k then x else _) = _
    rw [if_neg (fun z => hb z.1)]
    rfl
  · rw [e]
    show inr32 (if j = k then x else hiv h a j)
    split
    · exact hx
    · exact hP.2.2.2.2.2.1 a j
theorem HP.putr {Γ : aG} {h : aH} {H H' : Heap} {a k : Nat} {x : Option Nat} (hP : HP Γ h H) (ht : (hsh h a).1 ≠ 0) (ht2 : (hsh h a).1 ≠ 50) (hz : H'.size = H.size) (ho : ∀ q, q ≠ a → H'[q]? = H[q]?) (hc : cellIs Γ (hsh h a).1 (hsh h a).2 (hiv h a) (fun j => if j = k then x else hrf h a j) a H') : HP Γ (hwr h a k x) H' := by
  have e : hrf (hwr h a k x) a = fun j => if j = k then x else hrf h a j := by
    funext j
    show (if a = a ∧ j = k then x else _) = _
    simp [hrf]
  refine hP.put (a := a) rfl rfl (fun b hb j => ⟨rfl, ?_⟩) (fun j => hP.2.2.2.2.2.1 a j) ht ht2 hz ho (by rw [e]; exact hc)
  show (if b = a ∧ j = k then x else _) = _
  rw [if_neg (fun z => hb z.1)]
  rfl
theorem HP.size {Γ : aG} {h : aH} {H : Heap} (hP : HP Γ h H) : H.size = hnx h := hP.1
theorem HP.cell {Γ : aG} {h : aH} {H : Heap} (hP : HP Γ h H) {a : Nat} (ht : (hsh h a).1 ≠ 0) (ht2 : (hsh h a).1 ≠ 50) : cellIs Γ (hsh h a).1 (hsh h a).2 (hiv h a) (hrf h a) a H := (hP.2.2.2.2.1 a ht ht2).2.2
theorem HP.tag {Γ : aG} {h : aH} {H : Heap} (hP : HP Γ h H) {a : Nat} (ha : hnx h ≤ a) : (hsh h a).1 = 0 := by
  by_cases e : (hsh h a).1 = 50
  · have := (hP.2.2.2.1 a e).1
    have := hP.2.1
    omega
  · by_cases e0 : (hsh h a).1 = 0
    · exact e0
    · have := (hP.cell e0 e).lt
      have := hP.1
      omega
/-- a new cell -/
theorem HP.new {Γ : aG} {h : aH} {H H' : Heap} {t n : Nat} (hP : HP Γ h H) (hz : H'.size = H.size + 1) (ho : ∀ q, q < H.size → H'[q]? = H[q]?) (ht : t ≠ 0) (ht2 : t ≠ 50) (hn : n ≤ 1000) (hc : cellIs Γ t n (fun _ => 0) (fun _ => none) H.size H') : HP Γ (hnw h t n) H' := by
  obtain ⟨p1, p2, p3, p4, p5, p6, p7⟩ := id hP
  have e1 : ∀ b, hsh (hnw h t n) b = if b = hnx h then (t, n) else hsh h b := fun b => rfl
  refine ⟨by rw [hz, p1]; rfl, Nat.le_succ_of_le p2, fun q hq => by rw [ho q (by omega)]; exact p3 q hq, fun b hb => ?_, fun b hb hb2 => ?_, p6, fun b hb => p7 b (Nat.le_of_succ_le hb)⟩
  · rw [e1] at hb ⊢
    by_cases e : b = hnx h
    · rw [if_pos e] at hb
      exact absurd hb ht2
    · rw [if_neg e] at hb ⊢
      exact p4 b hb
  · rw [e1] at hb hb2 ⊢
    by_cases e : b = hnx h
    · rw [if_pos e]
      refine ⟨by omega, hn, ?_⟩
      rw [show hiv (hnw h t n) b = fun _ => 0 from funext fun k => (p7 b (by omega)).1 k, show hrf (hnw h t n) b = fun _ => none from funext fun k => (p7 b (by omega)).2 k, e, ← p1]
      exact hc
    · rw [if_neg e] at hb hb2 ⊢
      obtain ⟨r1, r2, r3⟩ := p5 b hb hb2
      exact ⟨r1, r2, r3.kept (ho b r3.lt)⟩
/-- a cell that nobody looks at -/
theorem HP.thrown {Γ : aG} {h : aH} {H H' : Heap} (hP : HP Γ h H) (hz : H'.size = H.size + 1) (ho : ∀ q, q < H.size → H'[q]? = H[q]?) : HP Γ (hth h) H' := by
  obtain ⟨p1, p2, p3, p4, p5, p6, p7⟩ := id hP
  refine ⟨by rw [hz, p1]; rfl, Nat.le_succ_of_le p2, fun q hq => by rw [ho q (by omega)]; exact p3 q hq, p4, fun b hb hb2 => ?_, p6, fun b hb => p7 b (Nat.le_of_succ_le hb)⟩
  obtain ⟨r1, r2, r3⟩ := p5 b hb hb2
  exact ⟨r1, r2, r3.kept (ho b r3.lt)⟩
/-- the words of the tables that a method may take with it -/
def gW : List Cond := lw_tbl.filter goodWord
theorem gW_good {w : Cond} (h : w ∈ gW) : (w.onTables && w.keeps) = true ∨ ∃ ty, w = .arrayClass ty := good_of_word (List.mem_filter.mp h).2
theorem gW_in : GoodIn gW gW := fun w h => ⟨h, gW_good h⟩
theorem gW_mem {w : Cond} (h : w ∈ lw_tbl) (g : goodWord w = true) : w ∈ gW := List.mem_filter.mpr ⟨h, g⟩
def am_dc (w : Cond) : Bool := match w with
  | .declares _ => true
  | .castable _ _ => true
  | _ => false
/-- what holds of the start for good -/
def SF (Γ : aG) : Prop :=
  (∀ w ∈ gW, ∀ (a : Array Value) (U : State), (gs Γ).WarmedH U.vm → w.before a U = true) ∧ va_K Γ.2.1 vwCl [] (gs Γ) ∧
  (ArrOfT (gs Γ) Γ.2.2.1.1 .int ∧ va_RA (gs Γ) Γ.2.2.1.1 .int) ∧ (ArrOfT (gs Γ) Γ.2.2.1.2.1 .int ∧ va_RA (gs Γ) Γ.2.2.1.2.1 .int) ∧ (ArrOfT (gs Γ) Γ.2.2.1.2.2 (.array .int) ∧ va_RA (gs Γ) Γ.2.2.1.2.2 (.array .int)) ∧
  (∀ c, am_ac c = true → (ArrOfT (gs Γ) (Γ.2.2.2 c) (.object (am_cn c)) ∧ va_RA (gs Γ) (Γ.2.2.2 c) (.object (am_cn c))) ∧ va_AO (am_cn c) (gs Γ)) ∧ va_AOA .int (gs Γ) ∧
  (∀ o e, e ∈ am_xrT o → ∃ (sa : Nat) (tx : String), vk_R (am_cn o) e.1.2.1 tx sa (gs Γ)) ∧
  vx_Zq Bundle.tN "UNASSIGNED_STACK" Bundle.steD (fun q => gb Γ ≤ q) (gs Γ) (gs Γ).heap ∧ vx_Zq Bundle.tN "SUPPRESSED_SENTINEL" Bundle.listD (fun q => gb Γ ≤ q) (gs Γ) (gs Γ).heap ∧
  (∀ o ix ν, (ix, (3, ν)) ∈ am_mrT o → va_Nw (.methodLinkNest (am_cn o) ix (am_y ν) "ConfigDesk") (gs Γ)) ∧
  (∀ E ct : Nat, 1 ≤ E → E ≤ 3 → 1 ≤ am_ct ct → E ≠ am_ct ct → va_Nc (am_xn E) (am_xn (am_ct ct)) (gs Γ)) ∧ (∀ w ∈ lw_tbl, am_dc w = true → ∀ (a : Array Value) (U : State), (gs Γ).WarmedH U.vm → w.before a U = true)
/-- a state of the run -/
def GL (Γ : aG) (s : State) : Prop := (gs Γ).WarmedH s.vm ∧ gb Γ ≤ s.heap.size ∧ ∀ q : Nat, q < gb Γ → s.heap[q]? = (gs Γ).heap[q]?
/-- a frame of the method μ -/
def CX (Γ : aG) (μ : aM) (p : Program) (R : Room) (s : State) (m : MethodId) (args : Array Value) (meth : Method) (c : Code) : Prop :=
  p.tables.exec = Jvm.exec ∧ c.code = am_cc μ ∧ meth.sig.returnType = am_rt μ ∧ c.maxLocals = am_mx μ ∧ s.vm.findClass (am_cn (am_own μ)) = some m.cls ∧ meth.locks = false ∧ c.exceptionTable.toList = tableOf (am_hh μ) ∧ (am_ini μ = true → meth.name = "<init>") ∧ am_nF μ ≤ R.frames ∧ am_nL μ ≤ R.locals ∧ GL Γ s
def LC (Γ : aG) (locs : List Loc) : Prop := ∀ l ∈ locs, gb Γ ≤ l.base
theorem LC.snoc {Γ : aG} {locs : List Loc} {q : Loc} (h : LC Γ locs) (hq : gb Γ ≤ q.base) : LC Γ (locs ++ [q]) := fun l hl => by
  rcases List.mem_append.mp hl with h1 | h1
  · exact h l h1
  · rw [List.mem_singleton.mp h1]; exact hq
