/-! THE TABLES of the abstract machine against the tables' words -/
def am_TT : Nat → u_T := fun c => match c with
  | 0 => TX0
  | 1 => TX1
  | 2 => TX2
  | 3 => TX3
  | 4 => TX4
  | 5 => TX5
  | 6 => TX6
  | 7 => TX7
  | _ => TX8
def am_ty : Nat → Nat → FieldType := fun c => match c with
  | 0 => tyX0
  | 1 => tyX1
  | 2 => tyX2
  | 3 => tyX3
  | 4 => tyX4
  | 5 => tyX5
  | 6 => tyX6
  | 7 => tyX7
  | _ => tyX8
theorem c8 {P : Nat → Prop} (h0 : P 0) (h1 : P 1) (h2 : P 2) (h3 : P 3) (h4 : P 4) (h5 : P 5) (h6 : P 6) (h7 : P 7) (h8 : P 8) : ∀ c, c ≤ 8 → P c := by
  intro c hc
  match c, hc with
  | 0, _ => exact h0
  | 1, _ => exact h1
  | 2, _ => exact h2
  | 3, _ => exact h3
  | 4, _ => exact h4
  | 5, _ => exact h5
  | 6, _ => exact h6
  | 7, _ => exact h7
  | 8, _ => exact h8
theorem tw_cl : ∀ c, c ≤ 8 → vwCl[c]? = some (am_cn c, am_TT c, am_fN c) := c8 rfl rfl rfl rfl rfl rfl rfl rfl rfl
theorem tw_ty : ∀ c, c ≤ 8 → ∀ k, k < am_fN c → parseFieldDescriptor (am_TT c k).2.2.1 = some (am_ty c k) := c8 tyX0_ok tyX1_ok tyX2_ok tyX3_ok tyX4_ok tyX5_ok tyX6_ok tyX7_ok tyX8_ok
theorem tw_nm : ∀ c, c ≤ 8 → ∀ a, a < am_fN c → ∀ b, b < am_fN c → a ≠ b → (am_TT c a).2.1 ≠ (am_TT c b).2.1 := c8 nmX0 nmX1 nmX2 nmX3 nmX4 nmX5 nmX6 nmX7 nmX8
def am_rty (t : FieldType) : Bool := match t with
  | .object _ => true
  | .array _ => true
  | _ => false
theorem tw_fk : ∀ c, c ≤ 8 → ∀ k, k < am_fN c → (am_fk c k = 0 ∧ am_rty (am_ty c k) = true ∨ am_fk c k = 1 ∧ am_ty c k = .int ∨ am_fk c k = 2 ∧ am_ty c k = .boolean) ∧ (am_TT c k).2.2.2 = am_ff c k ∧ (am_TT c k).1 = am_cn c := c8 (by decide +kernel) (by decide +kernel) (by decide +kernel) (by decide +kernel) (by decide +kernel) (by decide +kernel) (by decide +kernel) (by decide +kernel) (by decide +kernel)
theorem tw_l : ∀ c, c ≤ 8 → ∀ w ∈ u_ws (am_cn c) (am_TT c) (am_fN c), w ∈ lw_tbl ∧ goodWord w = true := c8 (by decide +kernel) (by decide +kernel) (by decide +kernel) (by decide +kernel) (by decide +kernel) (by decide +kernel) (by decide +kernel) (by decide +kernel) (by decide +kernel)
theorem tw_o : ∀ c, c ≤ 8 → Cond.instantiable (am_cn c) (am_fN c) ∈ lw_tbl ∧ Cond.initialized (am_cn c) ∈ lw_tbl := c8 (by decide +kernel) (by decide +kernel) (by decide +kernel) (by decide +kernel) (by decide +kernel) (by decide +kernel) (by decide +kernel) (by decide +kernel) (by decide +kernel)
theorem c9 {P : Nat → Prop} (h : ∀ c, c ≤ 8 → P c) (h9 : P 9) (hr : ∀ c, P (c + 10)) : ∀ c, P c := by
  intro c
  by_cases h1 : c ≤ 8
  · exact h c h1
  · by_cases h2 : c = 9
    · rw [h2]; exact h9
    · rw [show c = (c - 10) + 10 by omega]; exact hr _
theorem tw_f : ∀ o, ∀ e ∈ am_frT o, e.2.1 ≤ 8 ∧ e.2.2 < am_fN e.2.1 ∧ Cond.fieldLink (am_cn o) e.1 (am_TT e.2.1 e.2.2).1 (am_TT e.2.1 e.2.2).2.1 (am_TT e.2.1 e.2.2).2.2.1 ∈ lw_tbl :=
  c9 (c8 (by decide +kernel) (by decide +kernel) (by decide +kernel) (by decide +kernel) (by decide +kernel) (by decide +kernel) (by decide +kernel) (by decide +kernel) (by decide +kernel)) (by decide +kernel) (fun c e he => by cases he)
theorem tw_c : ∀ o, ∀ e ∈ am_crT o, e.2 ≤ 8 ∧ Cond.classLink (am_cn o) e.1 (am_cn e.2) ∈ lw_tbl :=
  c9 (c8 (by decide +kernel) (by decide +kernel) (by decide +kernel) (by decide +kernel) (by decide +kernel) (by decide +kernel) (by decide +kernel) (by decide +kernel) (by decide +kernel)) (by decide +kernel) (fun c e he => by cases he)
theorem tw_a : ∀ o, ∀ e ∈ am_arT o, e.2 ≤ 8 ∧ am_ac e.2 = true ∧ Cond.classLink (am_cn o) e.1 (am_cn e.2) ∈ lw_tbl :=
  c9 (c8 (by decide +kernel) (by decide +kernel) (by decide +kernel) (by decide +kernel) (by decide +kernel) (by decide +kernel) (by decide +kernel) (by decide +kernel) (by decide +kernel)) (by decide +kernel) (fun c e he => by cases he)
theorem tw_n : ∀ o, ∀ e ∈ am_lrT o, inr32 e.2 ∧ Cond.constant (am_cn o) e.1 (Int32.ofInt e.2) ∈ lw_tbl ∧ goodWord (Cond.constant (am_cn o) e.1 (Int32.ofInt e.2)) = true :=
  c9 (c8 (by decide +kernel) (by decide +kernel) (by decide +kernel) (by decide +kernel) (by decide +kernel) (by decide +kernel) (by decide +kernel) (by decide +kernel) (by decide +kernel)) (by decide +kernel) (fun c e he => by cases he)
theorem tw_ob : ∀ o, o ≤ 8 → Cond.methodLink (am_cn o) (am_obT o) objectInit ∈ lw_tbl := c8 (by decide +kernel) (by decide +kernel) (by decide +kernel) (by decide +kernel) (by decide +kernel) (by decide +kernel) (by decide +kernel) (by decide +kernel) (by decide +kernel)
theorem tw_g : Cond.instanceMethod objectInit ∈ lw_tbl ∧ Cond.code objectInit ⟨#[0xb1]⟩ 1 none ∈ lw_tbl ∧ goodWord (Cond.code objectInit ⟨#[0xb1]⟩ 1 none) = true ∧ Cond.arrayClass .int ∈ lw_tbl ∧ Cond.arrayClass .int ∈ lw_tbl ∧ Cond.classLink RX1 17 "[[I" ∈ lw_tbl := ⟨by decide +kernel, by decide +kernel, by decide +kernel, by decide +kernel, by decide +kernel, by decide +kernel⟩
theorem tw_mn : Cond.methodLink RX2 76 Lib.Math.min.name ∈ lw_tbl ∧ Cond.static Lib.Math.min.name ∈ lw_tbl ∧ Cond.initialized "java/lang/Math" ∈ lw_tbl ∧ Cond.code Lib.Math.min.name Lib.Math.min.code 2 (some .int) ∈ lw_tbl ∧ goodWord (Cond.code Lib.Math.min.name Lib.Math.min.code 2 (some .int)) = true := ⟨by decide +kernel, by decide +kernel, by decide +kernel, by decide +kernel, by decide +kernel⟩
