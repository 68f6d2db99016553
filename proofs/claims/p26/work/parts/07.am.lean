/-! THE ABSTRACT MACHINE: ints as whole numbers in range, a heap of shapes, numbers and references by address and place; a program of the listed methods. Its runs are runs of the machine (part 09). -/
abbrev aV : Type := Int ⊕ (Int ⊕ Nat)
abbrev vI (i : Int) : aV := .inl i
abbrev vL (i : Int) : aV := .inr (.inl i)
abbrev vR (a : Nat) : aV := .inr (.inr a)
/-- shapes (kind, size; kind 0: none), numbers, references, the next address, slots used -/
abbrev aH : Type := (Nat → Nat × Nat) × (Nat → Nat → Int) × (Nat → Nat → Option Nat) × Nat × Nat
def hsh (h : aH) : Nat → Nat × Nat := h.1
def hiv (h : aH) : Nat → Nat → Int := h.2.1
def hrf (h : aH) : Nat → Nat → Option Nat := h.2.2.1
def hnx (h : aH) : Nat := h.2.2.2.1
def hks (h : aH) : Nat := h.2.2.2.2
/-- f, but x at the place k of a -/
def up2 {α : Type} (f : Nat → Nat → α) (a k : Nat) (x : α) : Nat → Nat → α := fun b j => if b = a ∧ j = k then x else f b j
def up1 {α : Type} (f : Nat → α) (a : Nat) (x : α) : Nat → α := fun b => if b = a then x else f b
def hwi (h : aH) (a k : Nat) (x : Int) : aH := (h.1, up2 h.2.1 a k x, h.2.2)
def hwr (h : aH) (a k : Nat) (r : Option Nat) : aH := (h.1, h.2.1, up2 h.2.2.1 a k r, h.2.2.2)
/-- a new cell of this kind, size and slots -/
def hnw (h : aH) (t n : Nat) : aH := (up1 h.1 h.2.2.2.1 (t, n), h.2.1, h.2.2.1, h.2.2.2.1 + 1, h.2.2.2.2 + n)
/-- an exception was made -/
def hth (h : aH) : aH := (h.1, h.2.1, h.2.2.1, h.2.2.2.1 + 1, h.2.2.2.2 + 6)
/-- n int arrays of size k behind an array of them -/
def hml (h : aH) (n k : Nat) : aH := (fun b => if b = h.2.2.2.1 then (40, n) else if h.2.2.2.1 < b ∧ b ≤ h.2.2.2.1 + n then (20, k) else h.1 b, h.2.1, fun b j => if b = h.2.2.2.1 ∧ j < n then some (h.2.2.2.1 + 1 + j) else h.2.2.1 b j, h.2.2.2.1 + 1 + n, h.2.2.2.2 + n + n * k)
/-- name, code, class, locals, what is returned, how many are taken, whether it's a constructor, handlers, frames and words above it -/
abbrev aM : Type := MethodName × ByteArray × Nat × Nat × Option FieldType × Nat × Bool × List (Nat × Nat × Nat × Nat) × Nat × Nat
def am_y (μ : aM) : MethodName := μ.1
def am_cc (μ : aM) : ByteArray := μ.2.1
def am_own (μ : aM) : Nat := μ.2.2.1
def am_mx (μ : aM) : Nat := μ.2.2.2.1
def am_rt (μ : aM) : Option FieldType := μ.2.2.2.2.1
def am_na (μ : aM) : Nat := μ.2.2.2.2.2.1
def am_ini (μ : aM) : Bool := μ.2.2.2.2.2.2.1
def am_hh (μ : aM) : List (Nat × Nat × Nat × Nat) := μ.2.2.2.2.2.2.2.1
def am_nF (μ : aM) : Nat := μ.2.2.2.2.2.2.2.2.1
def am_nL (μ : aM) : Nat := μ.2.2.2.2.2.2.2.2.2
def am_cn : Nat → String := fun o => match o with
  | 0 => RX0
  | 1 => RX1
  | 2 => RX2
  | 3 => RX3
  | 4 => RX4
  | 5 => RX5
  | 6 => RX6
  | 7 => RX7
  | 8 => RX8
  | 9 => RL
  | _ => RJ9
/-- how many fields, and which hold numbers (1), booleans (2), references (0); which are final -/
def am_fN : Nat → Nat := fun c => match c with
  | 0 => 3
  | 1 => 2
  | 2 => 6
  | 3 => 3
  | 4 => 2
  | 5 => 4
  | 6 => 2
  | 7 => 10
  | 8 => 3
  | _ => 0
def am_fk : Nat → Nat → Nat := fun c k => match c, k with
  | 0, 0 => 2
  | 0, 1 => 1
  | 2, 0 => 1
  | 2, 1 => 1
  | 2, 2 => 1
  | 2, 3 => 1
  | 2, 4 => 1
  | 3, 0 => 1
  | 4, 0 => 1
  | 5, 0 => 1
  | 5, 1 => 1
  | 5, 2 => 1
  | 5, 3 => 1
  | 6, 0 => 1
  | 7, 2 => 1
  | 7, 4 => 1
  | 7, 5 => 1
  | 7, 6 => 1
  | 8, 0 => 2
  | 8, 1 => 1
  | _, _ => 0
def am_ff : Nat → Nat → Bool := fun c k => match c, k with
  | 0, 2 => true
  | 1, 0 => true
  | 1, 1 => true
  | 2, 5 => true
  | 3, 1 => true
  | 3, 2 => true
  | 4, 1 => true
  | 6, 1 => true
  | 7, 0 => true
  | 7, 1 => true
  | 7, 3 => true
  | 7, 7 => true
  | 7, 8 => true
  | 7, 9 => true
  | 8, 2 => true
  | _, _ => false
def mX7_init : aM := (yX7_init, cX7_init, 7, 2, none, 1, true, [], 5, 103)
def mX7_open : aM := (yX7_open, cX7_open, 7, 3, (some .int), 2, false, [], 7, 111)
def mX7_add : aM := (yX7_add, cX7_add, 7, 6, (some .int), 5, false, [], 8, 133)
def mX7_remove : aM := (yX7_remove, cX7_remove, 7, 6, (some .int), 4, false, [], 8, 133)
def mX7_set : aM := (yX7_set, cX7_set, 7, 6, (some .int), 6, false, [], 8, 140)
def mX7_join : aM := (yX7_join, cX7_join, 7, 5, (some .int), 5, false, [], 8, 140)
def mX7_setGroup : aM := (yX7_setGroup, cX7_setGroup, 7, 7, (some .int), 5, false, [], 7, 112)
def mX7_load : aM := (yX7_load, cX7_load, 7, 3, none, 3, false, [], 7, 112)
def mX7_apply : aM := (yX7_apply, cX7_apply, 7, 6, (some .int), 5, false, [], 8, 136)
def mX7_rule : aM := (yX7_rule, cX7_rule, 7, 6, (some .int), 5, false, [], 7, 112)
def mX7_faults : aM := (yX7_faults, cX7_faults, 7, 2, (some .int), 2, false, [], 8, 138)
def mX7_commit : aM := (yX7_commit, cX7_commit, 7, 5, (some .int), 3, false, [], 7, 138)
def mX7_confirm : aM := (yX7_confirm, cX7_confirm, 7, 2, (some .int), 1, false, [], 6, 90)
def mX7_advance : aM := (yX7_advance, cX7_advance, 7, 2, (some .int), 2, false, [], 7, 112)
def mX7_running : aM := (yX7_running, cX7_running, 7, 1, (some .int), 1, false, [], 0, 0)
def mX7_waiting : aM := (yX7_waiting, cX7_waiting, 7, 1, (some .int), 1, false, [], 0, 0)
def mX7_size : aM := (yX7_size, cX7_size, 7, 3, (some .int), 3, false, [], 9, 155)
def mX7_keyAt : aM := (yX7_keyAt, cX7_keyAt, 7, 4, (some .int), 4, false, [], 10, 179)
def mX7_shown : aM := (yX7_shown, cX7_shown, 7, 6, (some .int), 5, false, [], 10, 179)
def mX7_own : aM := (yX7_own, cX7_own, 7, 5, (some .int), 4, false, [], 10, 179)
def mX7_same : aM := (yX7_same, cX7_same, 7, 3, (some .boolean), 3, false, [], 8, 132)
def mX7_edits : aM := (yX7_edits, cX7_edits, 7, 3, (some .int), 3, false, [], 8, 132)
def mX7_needIndex : aM := (yX7_needIndex, cX7_needIndex, 7, 2, none, 2, false, [], 6, 90)
def mX7_needArgument : aM := (yX7_needArgument, cX7_needArgument, 7, 3, none, 3, false, [], 6, 90)
def mX7_needEntryName : aM := (yX7_needEntryName, cX7_needEntryName, 7, 3, none, 3, false, [], 7, 111)
def mX7_openConfiguration : aM := (yX7_openConfiguration, cX7_openConfiguration, 7, 3, (some (.object "ConfigDesk$Configuration")), 2, false, [], 6, 90)
def mX7_placeOfEntry : aM := (yX7_placeOfEntry, cX7_placeOfEntry, 7, 3, (some .int), 2, false, [], 6, 90)
def mX7_exchange : aM := (yX7_exchange, cX7_exchange, 7, 9, (some .int), 6, false, [], 7, 112)
def mX7_configurationOf : aM := (yX7_configurationOf, cX7_configurationOf, 7, 2, (some (.object "ConfigDesk$Configuration")), 2, false, [], 7, 111)
def mX7_sectionOf : aM := (yX7_sectionOf, cX7_sectionOf, 7, 4, (some (.object "ConfigDesk$Section")), 3, false, [], 8, 132)
def mX7_entryOf : aM := (yX7_entryOf, cX7_entryOf, 7, 5, (some (.object "ConfigDesk$Entry")), 4, false, [], 9, 155)
def mX7_brokenRules : aM := (yX7_brokenRules, cX7_brokenRules, 7, 4, (some .int), 2, false, [], 5, 115)
def mX7_addVersion : aM := (yX7_addVersion, cX7_addVersion, 7, 2, none, 2, false, [], 3, 67)
def mX0_init : aM := (yX0_init, cX0_init, 0, 1, none, 1, true, [], 4, 83)
def mX1_init : aM := (yX1_init, cX1_init, 1, 3, none, 1, true, [], 3, 61)
def mX1_valueShown : aM := (yX1_valueShown, cX1_valueShown, 1, 4, (some .int), 3, false, [], 0, 0)
def mX1_copyFrom : aM := (yX1_copyFrom, cX1_copyFrom, 1, 4, none, 2, false, [], 2, 44)
def mX1_isLike : aM := (yX1_isLike, cX1_isLike, 1, 4, (some .boolean), 2, false, [], 2, 44)
def mX2_init : aM := (yX2_init, cX2_init, 2, 1, none, 1, true, [], 2, 40)
def mX2_become : aM := (yX2_become, cX2_become, 2, 6, none, 6, false, [], 0, 0)
def mX2_invert : aM := (yX2_invert, cX2_invert, 2, 2, none, 1, false, [], 0, 0)
def mX2_applyTo : aM := (yX2_applyTo, cX2_applyTo, 2, 5, (some .boolean), 3, false, [], 4, 89)
def mX2_addTo : aM := (yX2_addTo, cX2_addTo, 2, 3, (some .boolean), 3, false, [], 3, 67)
def mX2_removeFrom : aM := (yX2_removeFrom, cX2_removeFrom, 2, 4, (some .boolean), 4, false, [], 3, 66)
def mX2_moveIn : aM := (yX2_moveIn, cX2_moveIn, 2, 4, (some .boolean), 4, false, [], 2, 45)
def mX2_setIn : aM := (yX2_setIn, cX2_setIn, 2, 3, (some .boolean), 3, false, [], 0, 0)
def mX3_init : aM := (yX3_init, cX3_init, 3, 2, none, 1, true, [], 3, 61)
def mX3_fill : aM := (yX3_fill, cX3_fill, 3, 5, none, 3, false, [], 4, 104)
def mX3_invert : aM := (yX3_invert, cX3_invert, 3, 4, none, 1, false, [], 1, 21)
def mX3_applyTo : aM := (yX3_applyTo, cX3_applyTo, 3, 4, (some .boolean), 3, false, [], 5, 113)
def mX3_noteRemovals : aM := (yX3_noteRemovals, cX3_noteRemovals, 3, 5, none, 3, false, [], 3, 75)
def mX3_notePlaces : aM := (yX3_notePlaces, cX3_notePlaces, 3, 6, none, 3, false, [], 3, 75)
def mX3_noteSettings : aM := (yX3_noteSettings, cX3_noteSettings, 3, 10, none, 4, false, [], 3, 75)
def mX3_noteIfUnlike : aM := (yX3_noteIfUnlike, cX3_noteIfUnlike, 3, 6, none, 6, false, [], 2, 50)
def mX3_noteWhole : aM := (yX3_noteWhole, cX3_noteWhole, 3, 6, none, 6, false, [], 2, 50)
def mX3_note : aM := (yX3_note, cX3_note, 3, 6, none, 6, false, [], 1, 25)
def mX4_init : aM := (yX4_init, cX4_init, 4, 1, none, 1, true, [], 1, 20)
def mX4_clear : aM := (yX4_clear, cX4_clear, 4, 3, none, 2, false, [], 0, 0)
def mX4_copyFrom : aM := (yX4_copyFrom, cX4_copyFrom, 4, 3, none, 2, false, [], 0, 0)
def mX4_isLike : aM := (yX4_isLike, cX4_isLike, 4, 3, (some .boolean), 2, false, [], 0, 0)
def mX5_init : aM := (yX5_init, cX5_init, 5, 1, none, 1, true, [], 1, 20)
def mX5_isKeptBy : aM := (yX5_isKeptBy, cX5_isKeptBy, 5, 4, (some .boolean), 2, false, [], 4, 92)
def mX5_isKeptAt : aM := (yX5_isKeptAt, cX5_isKeptAt, 5, 4, (some .boolean), 3, false, [], 3, 69)
def mX5_isShownAhead : aM := (yX5_isShownAhead, cX5_isShownAhead, 5, 5, (some .boolean), 4, false, [], 2, 45)
def mX5_shownAt : aM := (yX5_shownAt, cX5_shownAt, 5, 3, (some .int), 3, false, [], 1, 23)
def mX6_init : aM := (yX6_init, cX6_init, 6, 2, none, 1, true, [], 2, 40)
def mX6_placeOf : aM := (yX6_placeOf, cX6_placeOf, 6, 3, (some .int), 2, false, [], 0, 0)
def mX6_hasPlace : aM := (yX6_hasPlace, cX6_hasPlace, 6, 2, (some .boolean), 2, false, [], 0, 0)
def mX6_insert : aM := (yX6_insert, cX6_insert, 6, 3, none, 3, false, [], 2, 45)
def mX6_takeOut : aM := (yX6_takeOut, cX6_takeOut, 6, 2, none, 2, false, [], 2, 45)
def mX6_shift : aM := (yX6_shift, cX6_shift, 6, 5, none, 3, false, [], 1, 21)
def mX6_copyFrom : aM := (yX6_copyFrom, cX6_copyFrom, 6, 3, none, 2, false, [], 1, 22)
def mX6_isLike : aM := (yX6_isLike, cX6_isLike, 6, 3, (some .boolean), 2, false, [], 1, 22)
def mL_low : aM := (yL_low, cL_low, 9, 2, (some .int), 2, false, [], 0, 0)
def mL_cell : aM := (yL_cell, cL_cell, 9, 2, (some .int), 2, false, [], 0, 0)
def mL_add : aM := (yL_add, cL_add, 9, 6, (some .int), 5, false, [(0, 9, 10, 15)], 9, 158)
def mL_remove : aM := (yL_remove, cL_remove, 9, 5, (some .int), 4, false, [(0, 7, 8, 15)], 9, 158)
def mL_set : aM := (yL_set, cL_set, 9, 7, (some .int), 6, false, [(0, 11, 12, 15)], 9, 165)
def mL_join : aM := (yL_join, cL_join, 9, 6, (some .int), 5, false, [(0, 9, 10, 15)], 9, 164)
def mL_commit : aM := (yL_commit, cL_commit, 9, 4, (some .int), 3, false, [(0, 6, 7, 15)], 8, 162)
def mL_leads : aM := (yL_leads, cL_leads, 9, 5, (some .boolean), 3, false, [], 9, 161)
def mL_shape : aM := (yL_shape, cL_shape, 9, 8, (some .boolean), 2, false, [], 11, 204)
def mL_changes : aM := (yL_changes, cL_changes, 9, 9, (some .boolean), 3, false, [], 11, 202)
def mL_law : aM := (yL_law, cL_law, 9, 13, (some .boolean), 1, false, [], 12, 231)
/-- the entries of the constant pools: fields, own classes, methods (with the kind of the call), numbers, exceptions -/
def am_frT : Nat → List (Nat × (Nat × Nat)) := fun o => match o with
  | 0 => [(10, (0, 2))]
  | 1 => [(11, (1, 0)), (19, (1, 1)), (23, (4, 1))]
  | 2 => [(12, (2, 5)), (18, (2, 0)), (22, (2, 1)), (25, (2, 2)), (28, (2, 3)), (31, (2, 4)), (34, (1, 1)), (44, (1, 0)), (65, (6, 1)), (69, (4, 1)), (73, (6, 0))]
  | 3 => [(11, (3, 1)), (20, (3, 2)), (25, (3, 0)), (29, (1, 0)), (50, (1, 1)), (65, (6, 0)), (66, (6, 1)), (70, (4, 0)), (98, (4, 1)), (102, (2, 5))]
  | 4 => [(9, (4, 1)), (15, (4, 0))]
  | 5 => [(9, (1, 0)), (15, (5, 1)), (21, (6, 0)), (34, (5, 0)), (37, (5, 3)), (48, (6, 1)), (52, (5, 2))]
  | 6 => [(11, (6, 1)), (18, (6, 0)), (22, (4, 0))]
  | 7 => [(11, (7, 0)), (17, (7, 1)), (23, (7, 3)), (30, (7, 7)), (35, (7, 8)), (42, (7, 9)), (48, (7, 2)), (56, (0, 0)), (60, (0, 1)), (63, (0, 2)), (78, (1, 0)), (88, (6, 0)), (123, (1, 1)), (143, (3, 0)), (144, (7, 4)), (149, (5, 0)), (152, (5, 1)), (155, (5, 2)), (158, (5, 3)), (165, (7, 5)), (174, (7, 6)), (190, (4, 0)), (197, (4, 1)), (229, (6, 1))]
  | _ => []
def am_crT : Nat → List (Nat × Nat) := fun o => match o with
  | 0 => [(7, 1)]
  | 1 => [(9, 6)]
  | 2 => [(9, 4)]
  | 3 => [(9, 2), (17, 6)]
  | 6 => [(9, 4)]
  | 7 => [(9, 0), (15, 1), (21, 5), (27, 3), (39, 4)]
  | 9 => [(10, 7)]
  | _ => []
def am_arT : Nat → List (Nat × Nat) := fun o => match o with
  | 1 => [(9, 6)]
  | 3 => [(9, 2)]
  | 6 => [(9, 4)]
  | 7 => [(9, 0), (15, 1), (21, 5)]
  | _ => []
def am_mrT : Nat → List (Nat × (Nat × aM)) := fun o => match o with
  | 0 => [(9, (2, mX1_init))]
  | 1 => [(22, (2, mX6_init)), (29, (1, mX6_copyFrom)), (33, (1, mX6_isLike))]
  | 2 => [(11, (3, mX4_init)), (40, (1, mX2_setIn)), (48, (1, mX6_placeOf)), (54, (1, mX2_addTo)), (58, (1, mX2_removeFrom)), (62, (1, mX2_moveIn)), (82, (1, mX6_insert)), (86, (1, mX4_isLike)), (90, (1, mX6_takeOut)), (94, (1, mX6_shift))]
  | 3 => [(19, (2, mX6_init)), (24, (3, mX2_init)), (35, (1, mX6_copyFrom)), (39, (1, mX3_noteRemovals)), (43, (1, mX3_notePlaces)), (46, (1, mX3_noteSettings)), (54, (1, mX3_noteIfUnlike)), (58, (1, mX2_invert)), (61, (1, mX2_applyTo)), (75, (1, mX6_placeOf)), (79, (1, mX3_noteWhole)), (83, (1, mX6_takeOut)), (87, (1, mX6_insert)), (91, (1, mX3_note)), (94, (1, mX6_shift)), (106, (1, mX4_copyFrom)), (109, (1, mX2_become))]
  | 5 => [(26, (1, mX5_isKeptAt)), (30, (1, mX5_shownAt)), (40, (1, mX6_placeOf)), (44, (1, mX5_isShownAhead)), (55, (1, mX1_valueShown))]
  | 6 => [(17, (3, mX4_init)), (25, (1, mX6_shift)), (29, (1, mX4_copyFrom)), (33, (1, mX6_hasPlace)), (37, (1, mX4_isLike))]
  | 7 => [(29, (2, mX3_init)), (34, (2, mX1_init)), (41, (3, mX4_init)), (46, (3, mX0_init)), (47, (3, mX5_init)), (52, (0, mX7_needIndex)), (66, (1, mX1_copyFrom)), (70, (0, mX7_needEntryName)), (74, (1, mX7_openConfiguration)), (82, (1, mX6_placeOf)), (98, (0, mX7_needArgument)), (101, (1, mX4_clear)), (105, (1, mX6_insert)), (109, (0, mX7_placeOfEntry)), (113, (1, mX6_takeOut)), (119, (1, mX7_exchange)), (127, (1, mX7_configurationOf)), (130, (1, mX3_fill)), (134, (1, mX3_invert)), (137, (1, mX3_applyTo)), (161, (1, mX7_brokenRules)), (177, (1, mX7_addVersion)), (182, (1, mX7_sectionOf)), (186, (1, mX7_entryOf)), (193, (1, mX1_valueShown)), (201, (1, mX1_isLike)), (233, (1, mX5_isKeptBy))]
  | 9 => [(9, (1, mX7_add)), (17, (1, mX7_remove)), (21, (1, mX7_set)), (25, (1, mX7_join)), (28, (1, mX7_commit)), (32, (1, mX7_edits)), (35, (1, mX7_same)), (39, (1, mX7_open)), (43, (1, mX7_load)), (47, (1, mX7_apply)), (51, (1, mX7_faults)), (54, (1, mX7_size)), (57, (1, mX7_keyAt)), (60, (1, mX7_own)), (63, (1, mX7_shown)), (66, (0, mL_low)), (71, (0, mL_add)), (74, (0, mL_remove)), (77, (0, mL_set)), (80, (0, mL_join)), (82, (1, mX7_setGroup)), (85, (2, mX7_init)), (86, (1, mX7_running)), (90, (1, mX7_waiting)), (93, (0, mL_shape)), (97, (0, mL_leads)), (101, (0, mL_cell)), (105, (0, mL_changes)), (108, (0, mL_commit)), (111, (1, mX7_confirm)), (114, (1, mX7_advance)), (117, (1, mX7_rule))]
  | _ => []
def am_lrT : Nat → List (Nat × Int) := fun o => match o with
  | 9 => [(7, 2147483647), (8, 40503)]
  | _ => []
def am_xrT : Nat → List ((Nat × Nat × Nat) × Nat) := fun o => match o with
  | 7 => [((91, 93, 95), 2), ((91, 141, 95), 2), ((91, 147, 95), 2), ((91, 168, 95), 2), ((91, 170, 95), 2), ((91, 172, 95), 2), ((91, 180, 95), 2), ((91, 225, 95), 2), ((91, 227, 95), 2), ((215, 217, 219), 1), ((215, 225, 219), 1), ((220, 222, 224), 3)]
  | _ => []
def am_obT : Nat → Nat := fun o => match o with
  | 0 => 1
  | 1 => 3
  | 2 => 3
  | 3 => 3
  | 4 => 3
  | 5 => 3
  | 6 => 3
  | 7 => 3
  | 8 => 1
  | _ => 0
def am_xn : Nat → String := fun e => match e with
  | 1 => "java/lang/IndexOutOfBoundsException"
  | 2 => "java/lang/IllegalStateException"
  | _ => "java/lang/IllegalArgumentException"
/-- the law's handlers: which exception a pool entry names -/
def am_ct : Nat → Nat := fun k => match k with
  | 15 => 2
  | _ => 0
def am_lk {α : Type} (k : Nat) : List (Nat × α) → Option α
  | [] => none
  | (a, b) :: l => if k = a then some b else am_lk k l
theorem am_lk_mem {α : Type} {k : Nat} {b : α} : ∀ {l : List (Nat × α)}, am_lk k l = some b → (k, b) ∈ l
  | [], h => by simp [am_lk] at h
  | (a, c) :: l, h => by
    unfold am_lk at h
    by_cases e : k = a
    · rw [if_pos e] at h
      cases h
      rw [e]
      exact List.mem_cons_self
    · rw [if_neg e] at h
      exact List.mem_cons_of_mem _ (am_lk_mem h)
def am_lk3 (k : Nat × Nat × Nat) : List ((Nat × Nat × Nat) × Nat) → Option Nat
  | [] => none
  | (a, b) :: l => if k = a then some b else am_lk3 k l
theorem am_lk3_mem {k : Nat × Nat × Nat} {b : Nat} : ∀ {l : List ((Nat × Nat × Nat) × Nat)}, am_lk3 k l = some b → (k, b) ∈ l
  | [], h => by simp [am_lk3] at h
  | (a, c) :: l, h => by
    unfold am_lk3 at h
    by_cases e : k = a
    · rw [if_pos e] at h
      cases h
      rw [e]
      exact List.mem_cons_self
    · rw [if_neg e] at h
      exact List.mem_cons_of_mem _ (am_lk3_mem h)
abbrev inr32 (z : Int) : Prop := -2147483648 ≤ z ∧ z ≤ 2147483647
abbrev aC : Type := Nat × List aV × List aV × aH
abbrev aR : Type := (Option aV ⊕ Nat) × aH
def am_c1 (v : aV) : Bool := match v with
  | .inr (.inl _) => false
  | _ => true
def am_wd (S : List aV) : Nat := (S.map fun v => if am_c1 v then 1 else 2).sum
/-- a local is set: one that is there, or the next one -/
def am_st (L : List aV) (i : Nat) (v : aV) : Option (List aV) := if i ≤ L.length then some (L.take i ++ v :: L.drop (i + 1)) else none
def am_tg (pc : Nat) (off : Int) : Option Nat := if 0 ≤ (pc : Int) + off then some ((pc : Int) + off).toNat else none
def am_cd (c : ClassFile.Cond) (x y : Int) : Bool := match c with
  | .eq => decide (x = y)
  | .ne => decide (x ≠ y)
  | .lt => decide (x < y)
  | .ge => decide (y ≤ x)
  | .gt => decide (y < x)
  | .le => decide (x ≤ y)
def am_bw (k : Nat) (x y : Int) : Int := match k with
  | 0 => (Int32.ofInt x &&& Int32.ofInt y).toInt
  | 1 => (Int32.ofInt x ||| Int32.ofInt y).toInt
  | 2 => (Int32.ofInt x ^^^ Int32.ofInt y).toInt
  | 3 => (Int32.ofInt x <<< (Int32.ofInt y &&& 31)).toInt
  | _ => (Int32.ofInt x >>> (Int32.ofInt y &&& 31)).toInt
def am_ld (pc : Nat) (L S : List aV) (h : aH) (i len : Nat) (num : Bool) : Option aC := match L[i]? with
  | some (.inl x) => if num then some (pc + len, L, .inl x :: S, h) else none
  | some (.inr (.inr a)) => if num then none else some (pc + len, L, .inr (.inr a) :: S, h)
  | _ => none
def am_sv (pc : Nat) (L S : List aV) (h : aH) (i len mx : Nat) (num : Bool) : Option aC := match S with
  | .inl x :: S' => if num ∧ i < mx then (am_st L i (.inl x)).map (fun L' => (pc + len, L', S', h)) else none
  | .inr (.inr a) :: S' => if (¬ num) ∧ i < mx then (am_st L i (.inr (.inr a))).map (fun L' => (pc + len, L', S', h)) else none
  | _ => none
def am_ar (pc : Nat) (L S : List aV) (h : aH) (f : Int → Int → Int) : Option aC := match S with
  | .inl y :: .inl x :: S' => if inr32 (f x y) then some (pc + 1, L, .inl (f x y) :: S', h) else none
  | _ => none
def am_rm (pc : Nat) (L S : List aV) (h : aH) : Option aC := match S with
  | .inl y :: .inl x :: S' => if 0 ≤ x ∧ 0 < y then some (pc + 1, L, .inl (x % y) :: S', h) else none
  | _ => none
def am_dv (pc : Nat) (L S : List aV) (h : aH) : Option aC := match S with
  | .inl y :: .inl x :: S' => if 0 ≤ x ∧ 0 < y then some (pc + 1, L, .inl (x / y) :: S', h) else none
  | _ => none
def am_pp (pc : Nat) (L S : List aV) (h : aH) : Option aC := match S with
  | v :: S' => if am_c1 v then some (pc + 1, L, S', h) else none
  | _ => none
def am_bo (pc : Nat) (L S : List aV) (h : aH) (k : Nat) : Option aC := match S with
  | .inl y :: .inl x :: S' => some (pc + 1, L, .inl (am_bw k x y) :: S', h)
  | _ => none
def am_if1 (pc : Nat) (L S : List aV) (h : aH) (c : ClassFile.Cond) (off : Int) : Option aC := match S, am_tg pc off with
  | .inl x :: S', some t => some (if am_cd c x 0 = true then t else pc + 3, L, S', h)
  | _, _ => none
def am_if2 (pc : Nat) (L S : List aV) (h : aH) (c : ClassFile.Cond) (off : Int) : Option aC := match S, am_tg pc off with
  | .inl y :: .inl x :: S', some t => some (if am_cd c x y = true then t else pc + 3, L, S', h)
  | _, _ => none
def am_sw (pc : Nat) (L S : List aV) (h : aH) (d lo hi : Int) (offs : Array Int) : Option aC := match S with
  | .inl x :: S' => if x < lo ∨ hi < x then (am_tg pc d).map (fun t => (t, L, S', h)) else match offs[(x - lo).toNat]? with
    | some off => (am_tg pc off).map (fun t => (t, L, S', h))
    | none => none
  | _ => none
def am_gf (o pc : Nat) (L S : List aV) (h : aH) (ix : Nat) : Option aC := match S, am_lk ix (am_frT o) with
  | .inr (.inr a) :: S', some (c, k) => if hsh h a = (c + 1, am_fN c) then (if am_fk c k = 0 then (match hrf h a k with
      | some b => some (pc + 3, L, .inr (.inr b) :: S', h)
      | none => none) else some (pc + 3, L, .inl (hiv h a k) :: S', h)) else none
  | _, _ => none
def am_pf (o : Nat) (ini : Bool) (pc : Nat) (L S : List aV) (h : aH) (ix : Nat) : Option aC := match S, am_lk ix (am_frT o) with
  | .inl x :: .inr (.inr a) :: S', some (c, k) => if hsh h a = (c + 1, am_fN c) ∧ (am_fk c k = 1 ∨ am_fk c k = 2 ∧ (x = 0 ∨ x = 1)) ∧ (am_ff c k = true → ini = true ∧ c = o) then some (pc + 3, L, S', hwi h a k x) else none
  | .inr (.inr b) :: .inr (.inr a) :: S', some (c, k) => if hsh h a = (c + 1, am_fN c) ∧ am_fk c k = 0 ∧ (am_ff c k = true → ini = true ∧ c = o) then some (pc + 3, L, S', hwr h a k (some b)) else none
  | _, _ => none
def am_nw (o pc : Nat) (L S : List aV) (h : aH) (ix : Nat) : Option aC := match am_lk ix (am_crT o) with
  | some c => some (pc + 3, L, .inr (.inr (hnx h)) :: S, hnw h (c + 1) (am_fN c))
  | none => none
def am_na1 (pc : Nat) (L S : List aV) (h : aH) (t : ArrayType) : Option aC := match S, t with
  | .inl n :: S', .int => if 0 ≤ n ∧ n ≤ 1000 then some (pc + 2, L, .inr (.inr (hnx h)) :: S', hnw h 20 n.toNat) else none
  | _, _ => none
def am_na2 (o pc : Nat) (L S : List aV) (h : aH) (ix : Nat) : Option aC := match S, am_lk ix (am_arT o) with
  | .inl n :: S', some c => if 0 ≤ n ∧ n ≤ 1000 then some (pc + 3, L, .inr (.inr (hnx h)) :: S', hnw h (22 + c) n.toNat) else none
  | _, _ => none
def am_nm (o pc : Nat) (L S : List aV) (h : aH) (ix d : Nat) : Option aC := match S with
  | .inl k :: .inl n :: S' => if o = 1 ∧ ix = 17 ∧ d = 2 ∧ 0 ≤ n ∧ n ≤ 1000 ∧ 0 ≤ k ∧ k ≤ 1000 then some (pc + 4, L, .inr (.inr (hnx h)) :: S', hml h n.toNat k.toNat) else none
  | _ => none
def am_al (pc : Nat) (L S : List aV) (h : aH) : Option aC := match S with
  | .inr (.inr a) :: S' => if 20 ≤ (hsh h a).1 then some (pc + 1, L, .inl ((hsh h a).2 : Int) :: S', h) else none
  | _ => none
def am_il (pc : Nat) (L S : List aV) (h : aH) : Option aC := match S with
  | .inl i :: .inr (.inr a) :: S' => if ((hsh h a).1 = 20 ∨ (hsh h a).1 = 50) ∧ 0 ≤ i ∧ i < ((hsh h a).2 : Int) then some (pc + 1, L, .inl (hiv h a i.toNat) :: S', h) else none
  | _ => none
def am_is (pc : Nat) (L S : List aV) (h : aH) : Option aC := match S with
  | .inl x :: .inl i :: .inr (.inr a) :: S' => if (hsh h a).1 = 20 ∧ 0 ≤ i ∧ i < ((hsh h a).2 : Int) then some (pc + 1, L, S', hwi h a i.toNat x) else none
  | _ => none
def am_ll (pc : Nat) (L S : List aV) (h : aH) : Option aC := match S with
  | .inl i :: .inr (.inr a) :: S' => if (hsh h a).1 = 21 ∧ 0 ≤ i ∧ i < ((hsh h a).2 : Int) then some (pc + 1, L, .inr (.inl (hiv h a i.toNat)) :: S', h) else none
  | _ => none
def am_ls (pc : Nat) (L S : List aV) (h : aH) : Option aC := match S with
  | .inr (.inl x) :: .inl i :: .inr (.inr a) :: S' => if (hsh h a).1 = 21 ∧ 0 ≤ i ∧ i < ((hsh h a).2 : Int) then some (pc + 1, L, S', hwi h a i.toNat x) else none
  | _ => none
/-- arrays of references: 22 + c: of objects of the class c, 40: of int arrays -/
def am_rl (pc : Nat) (L S : List aV) (h : aH) : Option aC := match S with
  | .inl i :: .inr (.inr a) :: S' => if ((hsh h a).1 = 40 ∨ 22 ≤ (hsh h a).1 ∧ (hsh h a).1 ≤ 30) ∧ 0 ≤ i ∧ i < ((hsh h a).2 : Int) then (match hrf h a i.toNat with
      | some b => some (pc + 1, L, .inr (.inr b) :: S', h)
      | none => none) else none
  | _ => none
def am_rs (pc : Nat) (L S : List aV) (h : aH) : Option aC := match S with
  | .inr (.inr b) :: .inl i :: .inr (.inr a) :: S' => if 22 ≤ (hsh h a).1 ∧ (hsh h a).1 ≤ 30 ∧ hsh h b = ((hsh h a).1 - 22 + 1, am_fN ((hsh h a).1 - 22)) ∧ 0 ≤ i ∧ i < ((hsh h a).2 : Int) then some (pc + 1, L, S', hwr h a i.toNat (some b)) else none
  | _ => none
def am_i2l (pc : Nat) (L S : List aV) (h : aH) : Option aC := match S with
  | .inl x :: S' => some (pc + 1, L, .inr (.inl x) :: S', h)
  | _ => none
def am_lc (pc : Nat) (L S : List aV) (h : aH) : Option aC := match S with
  | .inr (.inl y) :: .inr (.inl x) :: S' => some (pc + 1, L, .inl (if y < x then 1 else if x = y then 0 else -1) :: S', h)
  | _ => none
def am_d1 (pc : Nat) (L S : List aV) (h : aH) : Option aC := match S with
  | v :: S' => if am_c1 v then some (pc + 1, L, v :: v :: S', h) else none
  | _ => none
def am_d2 (pc : Nat) (L S : List aV) (h : aH) : Option aC := match S with
  | y :: x :: S' => if am_c1 x ∧ am_c1 y then some (pc + 1, L, y :: x :: y :: x :: S', h) else none
  | _ => none
def am_ic (pc : Nat) (L S : List aV) (h : aH) (i : Nat) (n : Int) (mx : Nat) : Option aC := match L[i]? with
  | some (.inl x) => if inr32 (x + n) ∧ inr32 n ∧ i < mx then some (pc + 3, L.take i ++ .inl (x + n) :: L.drop (i + 1), S, h) else none
  | _ => none
def am_ob (o nF nL pc : Nat) (L S : List aV) (h : aH) (ix : Nat) : Option aC := match S with
  | .inr (.inr _) :: S' => if o ≤ 8 ∧ am_obT o = ix ∧ 1 ≤ nF ∧ 20 ≤ nL ∧ am_wd S' ≤ 8 then some (pc + 3, L, S', h) else none
  | _ => none
/-- Math.min, which one place calls -/
def am_mn (o nF nL pc : Nat) (L S : List aV) (h : aH) (ix : Nat) : Option aC := match S with
  | .inl y :: .inl x :: S' => if o = 2 ∧ ix = 76 ∧ 1 ≤ nF ∧ 24 ≤ nL ∧ am_wd S' ≤ 8 then some (pc + 3, L, .inl (if y < x then y else x) :: S', h) else none
  | _ => none
def am_lc2 (o pc : Nat) (L S : List aV) (h : aH) (ix : Nat) : Option aC := match am_lk ix (am_lrT o) with
  | some x => some (pc + 2, L, .inl x :: S, h)
  | none => none
def amI (μ : aM) (pc : Nat) (L S : List aV) (h : aH) (i : Instr) : Option aC := match i with
  | .iconst n => if inr32 n then some (pc + 1, L, .inl n :: S, h) else none
  | .bipush n => if -128 ≤ n ∧ n ≤ 127 then some (pc + 2, L, .inl n :: S, h) else none
  | .sipush n => if -32768 ≤ n ∧ n ≤ 32767 then some (pc + 3, L, .inl n :: S, h) else none
  | .lconst n => some (pc + 1, L, .inr (.inl (n.val : Int)) :: S, h)
  | .ldc ix => am_lc2 (am_own μ) pc L S h ix
  | .iload_n k => am_ld pc L S h k.val 1 true
  | .iload k => am_ld pc L S h k 2 true
  | .aload_n k => am_ld pc L S h k.val 1 false
  | .aload k => am_ld pc L S h k 2 false
  | .istore_n k => am_sv pc L S h k.val 1 (am_mx μ) true
  | .istore k => am_sv pc L S h k 2 (am_mx μ) true
  | .astore_n k => am_sv pc L S h k.val 1 (am_mx μ) false
  | .astore k => am_sv pc L S h k 2 (am_mx μ) false
  | .iinc k n => am_ic pc L S h k n (am_mx μ)
  | .iadd => am_ar pc L S h (fun x y => x + y)
  | .isub => am_ar pc L S h (fun x y => x - y)
  | .imul => am_ar pc L S h (fun x y => x * y)
  | .irem => am_rm pc L S h
  | .idiv => am_dv pc L S h
  | .pop => am_pp pc L S h
  | .iand => am_bo pc L S h 0
  | .ior => am_bo pc L S h 1
  | .ixor => am_bo pc L S h 2
  | .ishl => am_bo pc L S h 3
  | .ishr => am_bo pc L S h 4
  | .i2l => am_i2l pc L S h
  | .lcmp => am_lc pc L S h
  | .dup => am_d1 pc L S h
  | .dup2 => am_d2 pc L S h
  | .goto off => (am_tg pc off).map (fun t => (t, L, S, h))
  | .ifCond c off => am_if1 pc L S h c off
  | .if_icmp c off => am_if2 pc L S h c off
  | .tableswitch d lo hi offs => am_sw pc L S h d lo hi offs
  | .getfield ix => am_gf (am_own μ) pc L S h ix
  | .putfield ix => am_pf (am_own μ) (am_ini μ) pc L S h ix
  | .new ix => am_nw (am_own μ) pc L S h ix
  | .newarray t => am_na1 pc L S h t
  | .anewarray ix => am_na2 (am_own μ) pc L S h ix
  | .multianewarray ix d => am_nm (am_own μ) pc L S h ix d
  | .arraylength => am_al pc L S h
  | .iaload => am_il pc L S h
  | .iastore => am_is pc L S h
  | .aaload => am_rl pc L S h
  | .aastore => am_rs pc L S h
  | .invokestatic ix => am_mn (am_own μ) (am_nF μ) (am_nL μ) pc L S h ix
  | .invokespecial ix => am_ob (am_own μ) (am_nF μ) (am_nL μ) pc L S h ix
  | _ => none
/-- the lengths of the instructions -/
def am_lo (i : Instr) (len : Nat) : Bool := match i with
  | .tableswitch _ _ _ _ => true
  | .bipush _ => decide (len = 2)
  | .ldc _ => decide (len = 2)
  | .iload _ => decide (len = 2)
  | .aload _ => decide (len = 2)
  | .istore _ => decide (len = 2)
  | .astore _ => decide (len = 2)
  | .newarray _ => decide (len = 2)
  | .sipush _ => decide (len = 3)
  | .iinc _ _ => decide (len = 3)
  | .goto _ => decide (len = 3)
  | .ifCond _ _ => decide (len = 3)
  | .if_icmp _ _ => decide (len = 3)
  | .getfield _ => decide (len = 3)
  | .putfield _ => decide (len = 3)
  | .new _ => decide (len = 3)
  | .anewarray _ => decide (len = 3)
  | .invokespecial _ => decide (len = 3)
  | .invokestatic _ => decide (len = 3)
  | .invokevirtual _ => decide (len = 3)
  | .multianewarray _ _ => decide (len = 4)
  | _ => decide (len = 1)
def am_okr (t : Option FieldType) (v : Option aV) : Bool := match t, v with
  | none, none => true
  | some .int, some (.inl _) => true
  | some .boolean, some (.inl x) => decide (x = 0 ∨ x = 1)
  | some (.object _), some (.inr (.inr _)) => true
  | _, _ => false
/-- a return: what is answered -/
def am_ret (i : Instr) (S : List aV) : Option (Option aV) := match i, S with
  | .ireturn, [.inl x] => some (some (.inl x))
  | .areturn, [.inr (.inr a)] => some (some (.inr (.inr a)))
  | .return_, [] => some none
  | _, _ => none
/-- 'throw new E("text")' as one step -/
def am_thr (μ : aM) (pc : Nat) (i : Instr) (S : List aV) : Option Nat := match i with
  | .new ik => match decode (am_cc μ) (pc + 3), decode (am_cc μ) (pc + 4), decode (am_cc μ) (pc + 6), decode (am_cc μ) (pc + 9) with
    | .ok (.dup, 1), .ok (.ldc is, 2), .ok (.invokespecial ic, 3), .ok (.athrow, 1) => if am_hh μ = [] ∧ am_wd S ≤ 8 ∧ 6 ≤ am_nF μ ∧ 90 ≤ am_nL μ then am_lk3 (ik, is, ic) (am_xrT (am_own μ)) else none
    | _, _, _, _ => none
  | _ => none
def am_call (o : Nat) (i : Instr) : Option (Nat × aM) := match i with
  | .invokestatic ix => match am_lk ix (am_mrT o) with
    | some (0, ν) => some (0, ν)
    | _ => none
  | .invokevirtual ix => match am_lk ix (am_mrT o) with
    | some (1, ν) => some (1, ν)
    | _ => none
  | .invokespecial ix => match am_lk ix (am_mrT o) with
    | some (2, ν) => some (2, ν)
    | some (3, ν) => some (3, ν)
    | _ => none
  | _ => none
/-- the receiver: there, and of the callee's class where that chooses -/
def am_rc (k : Nat) (ν : aM) (As : List aV) (h : aH) : Bool := match k, As with
  | 0, _ => true
  | 1, .inr (.inr b) :: _ => decide (hsh h b = (am_own ν + 1, am_fN (am_own ν)))
  | _, .inr (.inr _) :: _ => true
  | _, _ => false
/-- what a call needs: its arguments, the receiver's class, room -/
abbrev am_ok (k : Nat) (μ ν : aM) (S : List aV) (h : aH) : Prop :=
  am_na ν ≤ S.length ∧ am_wd (S.drop (am_na ν)) ≤ 8 ∧ am_nF ν + 1 ≤ am_nF μ ∧ 8 + (am_mx ν + 11) + am_nL ν ≤ am_nL μ ∧ (S.take (am_na ν)).all am_c1 = true ∧ am_rc k ν (S.take (am_na ν)).reverse h = true
/-- the handler for E, thrown by the call at pc -/
def am_hd : List (Nat × Nat × Nat × Nat) → Nat → Nat → Option Nat
  | [], _, _ => none
  | (a, b, t, k) :: r, pc, E => if a ≤ pc ∧ pc < b ∧ am_ct k = E then some t else am_hd r pc E
/-- a handler begins by putting the exception into a local, which nobody reads -/
def am_ha (μ : aM) (t : Nat) : Option (Nat × Nat) := match decode (am_cc μ) t with
  | .ok (.astore_n k, 1) => if k.val < am_mx μ then some (t + 1, k.val) else none
  | .ok (.astore k, 2) => if k < am_mx μ then some (t + 2, k) else none
  | _ => none
def amX : Nat → aM → Nat → List aV → List aV → aH → Option aR
  | 0, _, _, _, _, _ => none
  | n + 1, μ, pc, L, S, h => match decode (am_cc μ) pc with
    | .error _ => none
    | .ok (i, len) => if am_lo i len = true then (match am_ret i S with
      | some v => if am_okr (am_rt μ) v = true then some (.inl v, h) else none
      | none => match am_thr μ pc i S with
        | some E => some (.inr E, hth h)
        | none => match am_call (am_own μ) i with
          | some (k, ν) => if am_ok k μ ν S h then (match amX n ν 0 (S.take (am_na ν)).reverse [] h with
              | none => none
              | some (.inl v, h') => amX n μ (pc + 3) L (v.toList ++ S.drop (am_na ν)) h'
              | some (.inr E, h') => match am_hd (am_hh μ) pc E with
                | none => some (.inr E, h')
                | some t => match am_ha μ t with
                  | none => none
                  | some (pc', j) => amX n μ pc' (L.take j) [] h') else none
          | none => match amI μ pc L S h i with
            | none => none
            | some (pc', L', S', h') => amX n μ pc' L' S' h') else none
/-- the run of a method from here ends, and Q holds of its end -/
def amT (μ : aM) (pc : Nat) (L S : List aV) (h : aH) (Q : aR → Prop) : Prop := ∃ (n : Nat) (r : aR), amX n μ pc L S h = some r ∧ Q r
