/-! CALLS of the class, seen from the law: what is answered where nothing is thrown -/
section YA
variable {h : aH} {Q : aR → Prop} {S S0 : St} {x : Nat} {v0 : Int}
theorem q_open {c : Int} (H : DeR h x S) (HS : okS S) (hr : sp_open S c = (0, v0, S0)) (k0 : ∀ h', fro h h' x (x + 1899) → DeR h' x S0 → Q (.inl (some (vI v0)), h')) : amT mX7_open 0 [vR x, vI c] [] h Q :=
  xc_open H HS (fun v S' h' e f D => by rw [hr] at e; cases e; exact k0 h' f D) (fun e => (sx0 (by decide) hr e).elim)
theorem q_load {c v : Int} (H : DeR h x S) (HS : okS S) (hr : sp_load S c v = (0, 0, S0)) (k0 : ∀ h', fro h h' x (x + 1899) → DeR h' x S0 → Q (.inl none, h')) : amT mX7_load 0 [vR x, vI c, vI v] [] h Q :=
  xc_load H HS (fun S' h' e f D => by rw [hr] at e; cases e; exact k0 h' f D) (fun e => (sx0 (by decide) hr e).elim) (fun e => (sx0 (by decide) hr e).elim)
theorem q_apply {c a b i : Int} (H : DeR h x S) (HS : okS S) (ha : a < 2147483648) (hb : b < 2147483648) (hi : i = 0 ∨ i = 1) (hr : sp_apply S c a b i = (0, v0, S0)) (k0 : ∀ h', fro h h' x (x + 1899) → DeR h' x S0 → Q (.inl (some (vI v0)), h')) : amT mX7_apply 0 [vR x, vI c, vI a, vI b, vI i] [] h Q :=
  xc_apply H HS ha hb hi (fun v S' h' e f D => by rw [hr] at e; cases e; exact k0 h' f D) (fun h' e _ _ => (sx0 (by decide) hr e).elim) (fun h' e _ _ => (sx0 (by decide) hr e).elim)
theorem q_rule {d s f n : Int} (H : DeR h x S) (HS : okS S) (hr : sp_rule S d s f n = (0, v0, S0)) (k0 : ∀ h', fro h h' x (x + 1899) → DeR h' x S0 → Q (.inl (some (vI v0)), h')) : amT mX7_rule 0 [vR x, vI d, vI s, vI f, vI n] [] h Q :=
  xc_rule H HS (fun v S' h' e f D => by rw [hr] at e; cases e; exact k0 h' f D) (fun e => (sx0 (by decide) hr e).elim) (fun e => (sx0 (by decide) hr e).elim) (fun e => (sx0 (by decide) hr e).elim)
theorem q_faults {w : Int} (H : DeR h x S) (HS : okS S) (hw : w < 2147483648) (hr : sp_faults S w = (0, v0, S0)) (k0 : ∀ h', fro h h' x (x + 1899) → DeR h' x S0 → Q (.inl (some (vI v0)), h')) : amT mX7_faults 0 [vR x, vI w] [] h Q :=
  xc_faults H HS hw (fun v S' h' e f D => by rw [hr] at e; cases e; exact k0 h' f D) (fun h' e _ _ => (sx0 (by decide) hr e).elim)
theorem q_confirm (H : DeR h x S) (HS : okS S) (hr : sp_confirm S = (0, v0, S0)) (k0 : ∀ h', fro h h' x (x + 1899) → DeR h' x S0 → Q (.inl (some (vI v0)), h')) : amT mX7_confirm 0 [vR x] [] h Q :=
  xc_confirm H HS (fun v S' h' e f D => by rw [hr] at e; cases e; exact k0 h' f D) (fun e => (sx0 (by decide) hr e).elim)
theorem q_advance {n : Int} (H : DeR h x S) (HS : okS S) (hr : sp_advance S n = (0, v0, S0)) (k0 : ∀ h', fro h h' x (x + 1899) → DeR h' x S0 → Q (.inl (some (vI v0)), h')) : amT mX7_advance 0 [vR x, vI n] [] h Q :=
  xc_advance H HS (fun v S' h' e f D => by rw [hr] at e; cases e; exact k0 h' f D) (fun e => (sx0 (by decide) hr e).elim)
theorem q_size {w s : Int} (H : DeR h x S) (HS : okS S) (hw : w < 2147483648) (hr : sp_size S w s = (0, v0, S0)) (k0 : ∀ h', fro h h' x (x + 1899) → DeR h' x S0 → Q (.inl (some (vI v0)), h')) : amT mX7_size 0 [vR x, vI w, vI s] [] h Q :=
  xc_size H HS hw (fun v S' h' e f D => by rw [hr] at e; cases e; exact k0 h' f D) (fun h' e _ _ => (sx0 (by decide) hr e).elim)
theorem q_keyAt {w s p : Int} (H : DeR h x S) (HS : okS S) (hw : w < 2147483648) (hr : sp_keyAt S w s p = (0, v0, S0)) (k0 : ∀ h', fro h h' x (x + 1899) → DeR h' x S0 → Q (.inl (some (vI v0)), h')) : amT mX7_keyAt 0 [vR x, vI w, vI s, vI p] [] h Q :=
  xc_keyAt H HS hw (fun v S' h' e f D => by rw [hr] at e; cases e; exact k0 h' f D) (fun h' e _ _ => (sx0 (by decide) hr e).elim)
theorem q_shown {w s p f : Int} (H : DeR h x S) (HS : okS S) (hw : w < 2147483648) (hr : sp_shown S w s p f = (0, v0, S0)) (k0 : ∀ h', fro h h' x (x + 1899) → DeR h' x S0 → Q (.inl (some (vI v0)), h')) : amT mX7_shown 0 [vR x, vI w, vI s, vI p, vI f] [] h Q :=
  xc_shown H HS hw (fun v S' h' e f D => by rw [hr] at e; cases e; exact k0 h' f D) (fun h' e _ _ => (sx0 (by decide) hr e).elim)
theorem q_own {w s p : Int} (H : DeR h x S) (HS : okS S) (hw : w < 2147483648) (hr : sp_own S w s p = (0, v0, S0)) (k0 : ∀ h', fro h h' x (x + 1899) → DeR h' x S0 → Q (.inl (some (vI v0)), h')) : amT mX7_own 0 [vR x, vI w, vI s, vI p] [] h Q :=
  xc_own H HS hw (fun v S' h' e f D => by rw [hr] at e; cases e; exact k0 h' f D) (fun h' e _ _ => (sx0 (by decide) hr e).elim)
theorem q_same {a b : Int} (H : DeR h x S) (HS : okS S) (ha : a < 2147483648) (hb : b < 2147483648) (hr : sp_same S a b = (0, v0, S0)) (k0 : ∀ h', fro h h' x (x + 1899) → DeR h' x S0 → Q (.inl (some (vI v0)), h')) : amT mX7_same 0 [vR x, vI a, vI b] [] h Q :=
  xc_same H HS ha hb (fun v S' h' _ e f D => by rw [hr] at e; cases e; exact k0 h' f D) (fun h' e _ _ => (sx0 (by decide) hr e).elim)
theorem q_edits {a b : Int} (H : DeR h x S) (HS : okS S) (ha : a < 2147483648) (hb : b < 2147483648) (hr : sp_edits S a b = (0, v0, S0)) (k0 : ∀ h', fro h h' x (x + 1899) → DeR h' x S0 → Q (.inl (some (vI v0)), h')) : amT mX7_edits 0 [vR x, vI a, vI b] [] h Q :=
  xc_edits H HS ha hb (fun v S' h' e f D => by rw [hr] at e; cases e; exact k0 h' f D) (fun h' e _ _ => (sx0 (by decide) hr e).elim)
theorem q_setGroup {c g f v : Int} (H : DeR h x S) (HS : okS S) (hr : sp_setGroup S c g f v = (0, v0, S0)) (k0 : ∀ h', fro h h' x (x + 1899) → DeR h' x S0 → Q (.inl (some (vI v0)), h')) : amT mX7_setGroup 0 [vR x, vI c, vI g, vI f, vI v] [] h Q :=
  xc_setGroup H HS (fun v S' h' e f D => by rw [hr] at e; cases e; exact k0 h' f D) (fun e => (sx0 (by decide) hr e).elim) (fun e => (sx0 (by decide) hr e).elim) (fun e => (sx0 (by decide) hr e).elim)
end YA
