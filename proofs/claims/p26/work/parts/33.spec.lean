/-! WHAT A DESK IS, as plain functions: configurations, lists of edits, rules, calls -/
def E0 : Ent := (0, 0, 0, 0)
/-- a setting of an entry -/
def sg (e : Ent) (j : Int) : Int := if j = 0 then e.2.1 else if j = 1 then e.2.2.1 else e.2.2.2
def ws (e : Ent) (j v : Int) : Ent := if j = 0 then (e.1, v, e.2.2.1, e.2.2.2) else if j = 1 then (e.1, e.2.1, v, e.2.2.2) else (e.1, e.2.1, e.2.2.1, v)
/-- an entry goes to another place -/
def mv (l : List Ent) (p q : Nat) : List Ent := match l[p]? with
  | some e => (l.eraseIdx p).insertIdx q e
  | none => l
abbrev Cfg : Type := (Nat → List Ent) × (Nat → Nat → Int)
/-- kind, section, key, from, to, entry -/
abbrev Edt : Type := Int × Int × Int × Int × Int × Ent
/-- kind, section, field, number -/
abbrev Rul : Type := Int × Int × Int × Int
def rmv (c : Int) (T : List Ent) : Nat → List Ent → List Edt × List Ent
  | 0, l => ([], l)
  | n + 1, l => match l[n]? with
    | none => rmv c T n l
    | some e => if kix T e.1 = -1 then ((1, c, e.1, (n : Int), -1, e) :: (rmv c T n (l.eraseIdx n)).1, (rmv c T n (l.eraseIdx n)).2) else rmv c T n l
def plc (c : Int) (T : List Ent) : Nat → Nat → List Ent → List Edt × List Ent
  | 0, _, l => ([], l)
  | d + 1, i, l => match T[i]? with
    | none => ([], l)
    | some e => if kix l e.1 = -1 then ((2, c, e.1, -1, (i : Int), e) :: (plc c T d (i + 1) (l.insertIdx i e)).1, (plc c T d (i + 1) (l.insertIdx i e)).2)
      else if kix l e.1 = i then plc c T d (i + 1) l
      else ((3, c, e.1, kix l e.1, (i : Int), E0) :: (plc c T d (i + 1) (mv l (kix l e.1).toNat i)).1, (plc c T d (i + 1) (mv l (kix l e.1).toNat i)).2)
def unl (k s key a b : Int) : List Edt := if a = b then [] else [(k, s, key, a, b, E0)]
def gt (l : List Ent) (key : Int) : Ent := (l[(kix l key).toNat]?).getD E0
def stK (c : Int) (F T : List Ent) (key : Int) : List Edt :=
  if kix F key = -1 ∨ kix T key = -1 then []
  else unl 4 c key (gt F key).2.1 (gt T key).2.1 ++ (unl 5 c key (gt F key).2.2.1 (gt T key).2.2.1 ++ unl 6 c key (gt F key).2.2.2 (gt T key).2.2.2)
def stA (c : Int) (F T : List Ent) : Nat → List Edt
  | 0 => []
  | d + 1 => stK c F T (9 - (d : Int)) ++ stA c F T d
def secL (c : Int) (F T : List Ent) : List Edt :=
  (rmv c T F.length F).1 ++ ((plc c T T.length 0 (rmv c T F.length F).2).1 ++ stA c F T 10)
def grpL (f t : Nat → Nat → Int) : List Edt :=
  unl 7 0 0 (f 0 0) (t 0 0) ++ (unl 8 0 0 (f 0 1) (t 0 1) ++ (unl 7 0 1 (f 1 0) (t 1 0) ++ (unl 8 0 1 (f 1 1) (t 1 1) ++ (unl 7 0 2 (f 2 0) (t 2 0) ++ unl 8 0 2 (f 2 1) (t 2 1)))))
/-- the edits from a configuration to another one -/
def edL (f t : Cfg) : List Edt := secL 0 (f.1 0) (t.1 0) ++ (secL 1 (f.1 1) (t.1 1) ++ (secL 2 (f.1 2) (t.1 2) ++ grpL f.2 t.2))
def inv1 (e : Edt) : Edt := (if e.1 = 1 then 2 else if e.1 = 2 then 1 else e.1, e.2.1, e.2.2.1, e.2.2.2.2.1, e.2.2.2.1, e.2.2.2.2.2)
def invL (L : List Edt) : List Edt := (L.reverse).map inv1
def upS (c : Cfg) (s : Nat) (l : List Ent) : Cfg := (fun i => if i = s then l else c.1 i, c.2)
def upG (c : Cfg) (g f : Nat) (v : Int) : Cfg := (c.1, fun i j => if i = g ∧ j = f then v else c.2 i j)
/-- an edit of a section, applied -/
def apS (lo : Bool) (k key fr to : Int) (e : Ent) (l : List Ent) : Option (List Ent) :=
  if k = 2 then (if kix l key ≠ -1 ∨ 6 ≤ l.length ∨ (lo = false ∧ (l.length : Int) < to) then none else some (l.insertIdx (min to l.length).toNat e))
  else if kix l key = -1 then none
  else if k = 1 then (if (lo = false ∧ kix l key ≠ fr) ∨ gt l key ≠ e then none else some (l.eraseIdx (kix l key).toNat))
  else if k = 3 then (if lo = false ∧ (kix l key ≠ fr ∨ (l.length : Int) ≤ to) then none else some (mv l (kix l key).toNat (min to ((l.length : Int) - 1)).toNat))
  else (if sg (gt l key) (k - 4) ≠ fr then none else some (l.set (kix l key).toNat (ws (gt l key) (k - 4) to)))
def ap1 (lo : Bool) (e : Edt) (c : Cfg) : Option Cfg :=
  if 7 ≤ e.1 then (if c.2 e.2.2.1.toNat (e.1 - 7).toNat ≠ e.2.2.2.1 then none else some (upG c e.2.2.1.toNat (e.1 - 7).toNat e.2.2.2.2.1))
  else match apS lo e.1 e.2.2.1 e.2.2.2.1 e.2.2.2.2.1 e.2.2.2.2.2 (c.1 e.2.1.toNat) with
    | none => none
    | some l => some (upS c e.2.1.toNat l)
def apA (lo : Bool) : List Edt → Cfg → Option Cfg
  | [], c => some c
  | e :: t, c => match ap1 lo e c with
    | none => none
    | some c' => apA lo t c'
/-- what an entry shows -/
def shw (c : Cfg) (e : Ent) (f : Int) : Int := if fieldE e f ≠ -1 ∨ e.2.2.2 = -1 then fieldE e f else c.2 e.2.2.2.toNat f.toNat
def shA (c : Cfg) (s : Nat) (f : Int) (p : Nat) : Int := shw c (((c.1 s)[p]?).getD E0) f
/-- a rule is kept by the entry at a place -/
def kpA (c : Cfg) (r : Rul) (p : Nat) : Prop :=
  (r.1 = 0 → shA c r.2.1.toNat r.2.2.1 p ≠ -1) ∧ (r.1 = 1 → shA c r.2.1.toNat r.2.2.1 p ≤ r.2.2.2) ∧
  (r.1 = 2 → shA c r.2.1.toNat r.2.2.1 p = -1 ∨ (r.2.2.2 < 3 ∧ kix (c.1 r.2.2.2.toNat) (shA c r.2.1.toNat r.2.2.1 p) ≠ -1)) ∧
  (r.1 = 3 → shA c r.2.1.toNat r.2.2.1 p = -1 ∨ ∀ i, i < p → shA c r.2.1.toNat r.2.2.1 i ≠ shA c r.2.1.toNat r.2.2.1 p)
/-- all entries keep it -/
def kpt (c : Cfg) (r : Rul) : Prop := ∀ p, p < (c.1 r.2.1.toNat).length → kpA c r p
noncomputable def brk (c : Cfg) : List Rul → Int
  | [] => 0
  | r :: t => (@ite Int (kpt c r) (Classical.propDecidable _) 0 1) + brk c t
theorem brk_y {c : Cfg} {r : Rul} {t : List Rul} (h : kpt c r) : brk c (r :: t) = brk c t := by
  show (@ite Int (kpt c r) (Classical.propDecidable _) 0 1) + brk c t = _
  rw [if_pos h, Int.zero_add]
theorem brk_n {c : Cfg} {r : Rul} {t : List Rul} (h : ¬ kpt c r) : brk c (r :: t) = 1 + brk c t := by
  show (@ite Int (kpt c r) (Classical.propDecidable _) 0 1) + brk c t = _
  rw [if_neg h]
