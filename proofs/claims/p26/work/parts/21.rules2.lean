/-! the rules, one by one -/
/-- a local is set -/
def stl : List aV → Nat → aV → List aV
  | L, 0, v => v :: L.tail
  | [], _ + 1, _ => []
  | x :: L, n + 1, v => x :: stl L n v
theorem stl_eq : ∀ {L : List aV} {i : Nat} {v : aV}, i ≤ L.length → L.take i ++ v :: L.drop (i + 1) = stl L i v
  | [], 0, v, _ => rfl
  | x :: L, 0, v, _ => rfl
  | [], i + 1, v, h => absurd h (by simp)
  | x :: L, i + 1, v, h => by
    have ih := stl_eq (L := L) (i := i) (v := v) (Nat.le_of_succ_le_succ h)
    show x :: (L.take i ++ v :: L.drop (i + 1)) = x :: stl L i v
    rw [ih]
theorem hsh_wi {h : aH} {a k : Nat} {x : Int} : hsh (hwi h a k x) = hsh h := rfl
theorem hsh_wr {h : aH} {a k : Nat} {x : Option Nat} : hsh (hwr h a k x) = hsh h := rfl
theorem hrf_wi {h : aH} {a k : Nat} {x : Int} : hrf (hwi h a k x) = hrf h := rfl
theorem hiv_wr {h : aH} {a k : Nat} {x : Option Nat} : hiv (hwr h a k x) = hiv h := rfl
theorem hnx_wi {h : aH} {a k : Nat} {x : Int} : hnx (hwi h a k x) = hnx h := rfl
theorem hnx_wr {h : aH} {a k : Nat} {x : Option Nat} : hnx (hwr h a k x) = hnx h := rfl
theorem hks_wi {h : aH} {a k : Nat} {x : Int} : hks (hwi h a k x) = hks h := rfl
theorem hks_wr {h : aH} {a k : Nat} {x : Option Nat} : hks (hwr h a k x) = hks h := rfl
theorem hiv_wi {h : aH} {a k : Nat} {x : Int} {b j : Nat} : hiv (hwi h a k x) b j = if b = a ∧ j = k then x else hiv h b j := rfl
theorem hrf_wr {h : aH} {a k : Nat} {x : Option Nat} {b j : Nat} : hrf (hwr h a k x) b j = if b = a ∧ j = k then x else hrf h b j := rfl
section TI
variable {μ : aM} {pc : Nat} {L S : List aV} {h : aH} {Q : aR → Prop}
theorem kr_iconst {n : Int} (d : decode (am_cc μ) pc = .ok (.iconst n, 1)) (hn : inr32 n) (k : amT μ (pc + 1) L (vI n :: S) h Q) : amT μ pc L S h Q :=
  t_step (q := (pc + 1, L, vI n :: S, h)) d rfl rfl rfl rfl (if_pos hn) k
theorem kr_bipush {n : Int} (d : decode (am_cc μ) pc = .ok (.bipush n, 2)) (hn : -128 ≤ n ∧ n ≤ 127) (k : amT μ (pc + 2) L (vI n :: S) h Q) : amT μ pc L S h Q :=
  t_step (q := (pc + 2, L, vI n :: S, h)) d rfl rfl rfl rfl (if_pos hn) k
theorem kr_sipush {n : Int} (d : decode (am_cc μ) pc = .ok (.sipush n, 3)) (hn : -32768 ≤ n ∧ n ≤ 32767) (k : amT μ (pc + 3) L (vI n :: S) h Q) : amT μ pc L S h Q :=
  t_step (q := (pc + 3, L, vI n :: S, h)) d rfl rfl rfl rfl (if_pos hn) k
theorem kr_lconst {n : Fin 2} (d : decode (am_cc μ) pc = .ok (.lconst n, 1)) (k : amT μ (pc + 1) L (vL (n.val : Int) :: S) h Q) : amT μ pc L S h Q :=
  t_step (q := (pc + 1, L, vL (n.val : Int) :: S, h)) d rfl rfl rfl rfl rfl k
theorem kr_ldc {ix : Nat} {x : Int} (d : decode (am_cc μ) pc = .ok (.ldc ix, 2)) (hx : am_lk ix (am_lrT (am_own μ)) = some x) (k : amT μ (pc + 2) L (vI x :: S) h Q) : amT μ pc L S h Q := by
  refine t_step (q := (pc + 2, L, vI x :: S, h)) d rfl rfl rfl rfl ?_ k
  show am_lc2 (am_own μ) pc L S h ix = _
  unfold am_lc2
  rw [hx]
theorem kr_iload {k : Nat} {x : Int} (d : decode (am_cc μ) pc = .ok (.iload k, 2)) (hl : L[k]? = some (vI x)) (kk : amT μ (pc + 2) L (vI x :: S) h Q) : amT μ pc L S h Q := by
  refine t_step (q := (pc + 2, L, vI x :: S, h)) d rfl rfl rfl rfl ?_ kk
  show am_ld pc L S h k 2 true = _
  unfold am_ld
  rw [hl]
  rfl
theorem kr_iload_n {k : Fin 4} {x : Int} (d : decode (am_cc μ) pc = .ok (.iload_n k, 1)) (hl : L[k.val]? = some (vI x)) (kk : amT μ (pc + 1) L (vI x :: S) h Q) : amT μ pc L S h Q := by
  refine t_step (q := (pc + 1, L, vI x :: S, h)) d rfl rfl rfl rfl ?_ kk
  show am_ld pc L S h k.val 1 true = _
  unfold am_ld
  rw [hl]
  rfl
theorem kr_aload {k : Nat} {a : Nat} (d : decode (am_cc μ) pc = .ok (.aload k, 2)) (hl : L[k]? = some (vR a)) (kk : amT μ (pc + 2) L (vR a :: S) h Q) : amT μ pc L S h Q := by
  refine t_step (q := (pc + 2, L, vR a :: S, h)) d rfl rfl rfl rfl ?_ kk
  show am_ld pc L S h k 2 false = _
  unfold am_ld
  rw [hl]
  rfl
theorem kr_aload_n {k : Fin 4} {a : Nat} (d : decode (am_cc μ) pc = .ok (.aload_n k, 1)) (hl : L[k.val]? = some (vR a)) (kk : amT μ (pc + 1) L (vR a :: S) h Q) : amT μ pc L S h Q := by
  refine t_step (q := (pc + 1, L, vR a :: S, h)) d rfl rfl rfl rfl ?_ kk
  show am_ld pc L S h k.val 1 false = _
  unfold am_ld
  rw [hl]
  rfl
theorem kr_istore {k : Nat} {x : Int} (d : decode (am_cc μ) pc = .ok (.istore k, 2)) (hl : k ≤ L.length) (hm : k < am_mx μ) (kk : amT μ (pc + 2) (stl L k (vI x)) S h Q) : amT μ pc L (vI x :: S) h Q := by
  refine t_step (q := (pc + 2, stl L k (vI x), S, h)) d rfl rfl rfl rfl ?_ kk
  show am_sv pc L (vI x :: S) h k 2 (am_mx μ) true = _
  unfold am_sv am_st
  rw [← stl_eq hl]
  dsimp only
  rw [if_pos ⟨rfl, hm⟩, if_pos hl]
  rfl
theorem kr_istore_n {k : Fin 4} {x : Int} (d : decode (am_cc μ) pc = .ok (.istore_n k, 1)) (hl : k.val ≤ L.length) (hm : k.val < am_mx μ) (kk : amT μ (pc + 1) (stl L k.val (vI x)) S h Q) : amT μ pc L (vI x :: S) h Q := by
  refine t_step (q := (pc + 1, stl L k.val (vI x), S, h)) d rfl rfl rfl rfl ?_ kk
  show am_sv pc L (vI x :: S) h k.val 1 (am_mx μ) true = _
  unfold am_sv am_st
  rw [← stl_eq hl]
  dsimp only
  rw [if_pos ⟨rfl, hm⟩, if_pos hl]
  rfl
theorem kr_astore {k : Nat} {x : Nat} (d : decode (am_cc μ) pc = .ok (.astore k, 2)) (hl : k ≤ L.length) (hm : k < am_mx μ) (kk : amT μ (pc + 2) (stl L k (vR x)) S h Q) : amT μ pc L (vR x :: S) h Q := by
  refine t_step (q := (pc + 2, stl L k (vR x), S, h)) d rfl rfl rfl rfl ?_ kk
  show am_sv pc L (vR x :: S) h k 2 (am_mx μ) false = _
  unfold am_sv am_st
  rw [← stl_eq hl]
  dsimp only
  rw [if_pos ⟨(by decide), hm⟩, if_pos hl]
  rfl
theorem kr_astore_n {k : Fin 4} {x : Nat} (d : decode (am_cc μ) pc = .ok (.astore_n k, 1)) (hl : k.val ≤ L.length) (hm : k.val < am_mx μ) (kk : amT μ (pc + 1) (stl L k.val (vR x)) S h Q) : amT μ pc L (vR x :: S) h Q := by
  refine t_step (q := (pc + 1, stl L k.val (vR x), S, h)) d rfl rfl rfl rfl ?_ kk
  show am_sv pc L (vR x :: S) h k.val 1 (am_mx μ) false = _
  unfold am_sv am_st
  rw [← stl_eq hl]
  dsimp only
  rw [if_pos ⟨(by decide), hm⟩, if_pos hl]
  rfl
theorem kr_iinc {k : Nat} {n x : Int} (d : decode (am_cc μ) pc = .ok (.iinc k n, 3)) (hl : L[k]? = some (vI x)) (hr : inr32 (x + n) ∧ inr32 n ∧ k < am_mx μ) (kk : amT μ (pc + 3) (stl L k (vI (x + n))) S h Q) : amT μ pc L S h Q := by
  refine t_step (q := (pc + 3, stl L k (vI (x + n)), S, h)) d rfl rfl rfl rfl ?_ kk
  show am_ic pc L S h k n (am_mx μ) = _
  unfold am_ic
  rw [← stl_eq (Nat.le_of_lt (List.getElem?_eq_some_iff.mp hl).1), hl]
  dsimp only
  rw [if_pos hr]
theorem kr_iadd {x y : Int} (d : decode (am_cc μ) pc = .ok (.iadd, 1)) (hr : inr32 (x + y)) (kk : amT μ (pc + 1) L (vI (x + y) :: S) h Q) : amT μ pc L (vI y :: vI x :: S) h Q :=
  t_step (q := (pc + 1, L, vI (x + y) :: S, h)) d rfl rfl rfl rfl (if_pos hr) kk
theorem kr_isub {x y : Int} (d : decode (am_cc μ) pc = .ok (.isub, 1)) (hr : inr32 (x - y)) (kk : amT μ (pc + 1) L (vI (x - y) :: S) h Q) : amT μ pc L (vI y :: vI x :: S) h Q :=
  t_step (q := (pc + 1, L, vI (x - y) :: S, h)) d rfl rfl rfl rfl (if_pos hr) kk
theorem kr_imul {x y : Int} (d : decode (am_cc μ) pc = .ok (.imul, 1)) (hr : inr32 (x * y)) (kk : amT μ (pc + 1) L (vI (x * y) :: S) h Q) : amT μ pc L (vI y :: vI x :: S) h Q :=
  t_step (q := (pc + 1, L, vI (x * y) :: S, h)) d rfl rfl rfl rfl (if_pos hr) kk
theorem kr_irem {x y : Int} (d : decode (am_cc μ) pc = .ok (.irem, 1)) (hr : 0 ≤ x ∧ 0 < y) (kk : amT μ (pc + 1) L (vI (x % y) :: S) h Q) : amT μ pc L (vI y :: vI x :: S) h Q :=
  t_step (q := (pc + 1, L, vI (x % y) :: S, h)) d rfl rfl rfl rfl (if_pos hr) kk
theorem kr_idiv {x y : Int} (d : decode (am_cc μ) pc = .ok (.idiv, 1)) (hr : 0 ≤ x ∧ 0 < y) (kk : amT μ (pc + 1) L (vI (x / y) :: S) h Q) : amT μ pc L (vI y :: vI x :: S) h Q :=
  t_step (q := (pc + 1, L, vI (x / y) :: S, h)) d rfl rfl rfl rfl (if_pos hr) kk
theorem kr_pop {v : aV} (d : decode (am_cc μ) pc = .ok (.pop, 1)) (hc : am_c1 v = true) (kk : amT μ (pc + 1) L S h Q) : amT μ pc L (v :: S) h Q :=
  t_step (q := (pc + 1, L, S, h)) d rfl rfl rfl rfl (if_pos hc) kk
theorem kr_iand {x y : Int} (d : decode (am_cc μ) pc = .ok (.iand, 1)) (kk : amT μ (pc + 1) L (vI (am_bw 0 x y) :: S) h Q) : amT μ pc L (vI y :: vI x :: S) h Q :=
  t_step (q := (pc + 1, L, vI (am_bw 0 x y) :: S, h)) d rfl rfl rfl rfl rfl kk
theorem kr_ior {x y : Int} (d : decode (am_cc μ) pc = .ok (.ior, 1)) (kk : amT μ (pc + 1) L (vI (am_bw 1 x y) :: S) h Q) : amT μ pc L (vI y :: vI x :: S) h Q :=
  t_step (q := (pc + 1, L, vI (am_bw 1 x y) :: S, h)) d rfl rfl rfl rfl rfl kk
theorem kr_ixor {x y : Int} (d : decode (am_cc μ) pc = .ok (.ixor, 1)) (kk : amT μ (pc + 1) L (vI (am_bw 2 x y) :: S) h Q) : amT μ pc L (vI y :: vI x :: S) h Q :=
  t_step (q := (pc + 1, L, vI (am_bw 2 x y) :: S, h)) d rfl rfl rfl rfl rfl kk
theorem kr_ishl {x y : Int} (d : decode (am_cc μ) pc = .ok (.ishl, 1)) (kk : amT μ (pc + 1) L (vI (am_bw 3 x y) :: S) h Q) : amT μ pc L (vI y :: vI x :: S) h Q :=
  t_step (q := (pc + 1, L, vI (am_bw 3 x y) :: S, h)) d rfl rfl rfl rfl rfl kk
theorem kr_ishr {x y : Int} (d : decode (am_cc μ) pc = .ok (.ishr, 1)) (kk : amT μ (pc + 1) L (vI (am_bw 4 x y) :: S) h Q) : amT μ pc L (vI y :: vI x :: S) h Q :=
  t_step (q := (pc + 1, L, vI (am_bw 4 x y) :: S, h)) d rfl rfl rfl rfl rfl kk
theorem kr_i2l {x : Int} (d : decode (am_cc μ) pc = .ok (.i2l, 1)) (kk : amT μ (pc + 1) L (vL x :: S) h Q) : amT μ pc L (vI x :: S) h Q :=
  t_step (q := (pc + 1, L, vL x :: S, h)) d rfl rfl rfl rfl rfl kk
theorem kr_lcmp {x y : Int} (d : decode (am_cc μ) pc = .ok (.lcmp, 1)) (kk : amT μ (pc + 1) L (vI (if y < x then 1 else if x = y then 0 else -1) :: S) h Q) : amT μ pc L (vL y :: vL x :: S) h Q :=
  t_step (q := (pc + 1, L, vI (if y < x then 1 else if x = y then 0 else -1) :: S, h)) d rfl rfl rfl rfl rfl kk
theorem kr_dup {v : aV} (d : decode (am_cc μ) pc = .ok (.dup, 1)) (hc : am_c1 v = true) (kk : amT μ (pc + 1) L (v :: v :: S) h Q) : amT μ pc L (v :: S) h Q :=
  t_step (q := (pc + 1, L, v :: v :: S, h)) d rfl rfl rfl rfl (if_pos hc) kk
theorem kr_dup2 {x y : aV} (d : decode (am_cc μ) pc = .ok (.dup2, 1)) (hc : am_c1 x = true ∧ am_c1 y = true) (kk : amT μ (pc + 1) L (y :: x :: y :: x :: S) h Q) : amT μ pc L (y :: x :: S) h Q :=
  t_step (q := (pc + 1, L, y :: x :: y :: x :: S, h)) d rfl rfl rfl rfl (if_pos hc) kk
theorem kr_goto {off : Int} {t : Nat} (d : decode (am_cc μ) pc = .ok (.goto off, 3)) (ht : am_tg pc off = some t) (kk : amT μ t L S h Q) : amT μ pc L S h Q := by
  refine t_step (q := (t, L, S, h)) d rfl rfl rfl rfl ?_ kk
  show (am_tg pc off).map _ = _
  rw [ht]
  rfl
theorem kr_if1 {c : ClassFile.Cond} {off x : Int} {t : Nat} (d : decode (am_cc μ) pc = .ok (.ifCond c off, 3)) (ht : am_tg pc off = some t) (kt : am_cd c x 0 = true → amT μ t L S h Q) (kf : ¬ am_cd c x 0 = true → amT μ (pc + 3) L S h Q) : amT μ pc L (vI x :: S) h Q := by
  refine t_step (q := (if am_cd c x 0 = true then t else pc + 3, L, S, h)) d rfl rfl rfl rfl ?_ ?_
  · show am_if1 pc L (vI x :: S) h c off = _
    unfold am_if1
    rw [ht]
  · dsimp only
    by_cases hc : am_cd c x 0 = true
    · rw [if_pos hc]; exact kt hc
    · rw [if_neg hc]; exact kf hc
theorem kr_if2 {c : ClassFile.Cond} {off x y : Int} {t : Nat} (d : decode (am_cc μ) pc = .ok (.if_icmp c off, 3)) (ht : am_tg pc off = some t) (kt : am_cd c x y = true → amT μ t L S h Q) (kf : ¬ am_cd c x y = true → amT μ (pc + 3) L S h Q) : amT μ pc L (vI y :: vI x :: S) h Q := by
  refine t_step (q := (if am_cd c x y = true then t else pc + 3, L, S, h)) d rfl rfl rfl rfl ?_ ?_
  · show am_if2 pc L (vI y :: vI x :: S) h c off = _
    unfold am_if2
    rw [ht]
  · dsimp only
    by_cases hc : am_cd c x y = true
    · rw [if_pos hc]; exact kt hc
    · rw [if_neg hc]; exact kf hc
theorem kr_if_eq {off x : Int} {t : Nat} (d : decode (am_cc μ) pc = .ok (.ifCond .eq off, 3)) (ht : am_tg pc off = some t) (kt : x = 0 → amT μ t L S h Q) (kf : ¬ x = 0 → amT μ (pc + 3) L S h Q) : amT μ pc L (vI x :: S) h Q :=
  kr_if1 d ht (fun hc => kt (by simp only [am_cd, decide_eq_true_eq] at hc; omega)) (fun hc => kf (by simp only [am_cd, decide_eq_true_eq] at hc; omega))
theorem kr_icmp_eq {off x y : Int} {t : Nat} (d : decode (am_cc μ) pc = .ok (.if_icmp .eq off, 3)) (ht : am_tg pc off = some t) (kt : x = y → amT μ t L S h Q) (kf : ¬ x = y → amT μ (pc + 3) L S h Q) : amT μ pc L (vI y :: vI x :: S) h Q :=
  kr_if2 d ht (fun hc => kt (by simp only [am_cd, decide_eq_true_eq] at hc; omega)) (fun hc => kf (by simp only [am_cd, decide_eq_true_eq] at hc; omega))
theorem kr_if_ne {off x : Int} {t : Nat} (d : decode (am_cc μ) pc = .ok (.ifCond .ne off, 3)) (ht : am_tg pc off = some t) (kt : ¬ x = 0 → amT μ t L S h Q) (kf : x = 0 → amT μ (pc + 3) L S h Q) : amT μ pc L (vI x :: S) h Q :=
  kr_if1 d ht (fun hc => kt (by simp only [am_cd, decide_eq_true_eq] at hc; omega)) (fun hc => kf (by simp only [am_cd, decide_eq_true_eq] at hc; omega))
theorem kr_icmp_ne {off x y : Int} {t : Nat} (d : decode (am_cc μ) pc = .ok (.if_icmp .ne off, 3)) (ht : am_tg pc off = some t) (kt : ¬ x = y → amT μ t L S h Q) (kf : x = y → amT μ (pc + 3) L S h Q) : amT μ pc L (vI y :: vI x :: S) h Q :=
  kr_if2 d ht (fun hc => kt (by simp only [am_cd, decide_eq_true_eq] at hc; omega)) (fun hc => kf (by simp only [am_cd, decide_eq_true_eq] at hc; omega))
theorem kr_if_lt {off x : Int} {t : Nat} (d : decode (am_cc μ) pc = .ok (.ifCond .lt off, 3)) (ht : am_tg pc off = some t) (kt : x < 0 → amT μ t L S h Q) (kf : 0 ≤ x → amT μ (pc + 3) L S h Q) : amT μ pc L (vI x :: S) h Q :=
  kr_if1 d ht (fun hc => kt (by simp only [am_cd, decide_eq_true_eq] at hc; omega)) (fun hc => kf (by simp only [am_cd, decide_eq_true_eq] at hc; omega))
theorem kr_icmp_lt {off x y : Int} {t : Nat} (d : decode (am_cc μ) pc = .ok (.if_icmp .lt off, 3)) (ht : am_tg pc off = some t) (kt : x < y → amT μ t L S h Q) (kf : y ≤ x → amT μ (pc + 3) L S h Q) : amT μ pc L (vI y :: vI x :: S) h Q :=
  kr_if2 d ht (fun hc => kt (by simp only [am_cd, decide_eq_true_eq] at hc; omega)) (fun hc => kf (by simp only [am_cd, decide_eq_true_eq] at hc; omega))
theorem kr_if_ge {off x : Int} {t : Nat} (d : decode (am_cc μ) pc = .ok (.ifCond .ge off, 3)) (ht : am_tg pc off = some t) (kt : 0 ≤ x → amT μ t L S h Q) (kf : x < 0 → amT μ (pc + 3) L S h Q) : amT μ pc L (vI x :: S) h Q :=
  kr_if1 d ht (fun hc => kt (by simp only [am_cd, decide_eq_true_eq] at hc; omega)) (fun hc => kf (by simp only [am_cd, decide_eq_true_eq] at hc; omega))
theorem kr_icmp_ge {off x y : Int} {t : Nat} (d : decode (am_cc μ) pc = .ok (.if_icmp .ge off, 3)) (ht : am_tg pc off = some t) (kt : y ≤ x → amT μ t L S h Q) (kf : x < y → amT μ (pc + 3) L S h Q) : amT μ pc L (vI y :: vI x :: S) h Q :=
  kr_if2 d ht (fun hc => kt (by simp only [am_cd, decide_eq_true_eq] at hc; omega)) (fun hc => kf (by simp only [am_cd, decide_eq_true_eq] at hc; omega))
theorem kr_if_gt {off x : Int} {t : Nat} (d : decode (am_cc μ) pc = .ok (.ifCond .gt off, 3)) (ht : am_tg pc off = some t) (kt : 0 < x → amT μ t L S h Q) (kf : x ≤ 0 → amT μ (pc + 3) L S h Q) : amT μ pc L (vI x :: S) h Q :=
  kr_if1 d ht (fun hc => kt (by simp only [am_cd, decide_eq_true_eq] at hc; omega)) (fun hc => kf (by simp only [am_cd, decide_eq_true_eq] at hc; omega))
theorem kr_icmp_gt {off x y : Int} {t : Nat} (d : decode (am_cc μ) pc = .ok (.if_icmp .gt off, 3)) (ht : am_tg pc off = some t) (kt : y < x → amT μ t L S h Q) (kf : x ≤ y → amT μ (pc + 3) L S h Q) : amT μ pc L (vI y :: vI x :: S) h Q :=
  kr_if2 d ht (fun hc => kt (by simp only [am_cd, decide_eq_true_eq] at hc; omega)) (fun hc => kf (by simp only [am_cd, decide_eq_true_eq] at hc; omega))
theorem kr_if_le {off x : Int} {t : Nat} (d : decode (am_cc μ) pc = .ok (.ifCond .le off, 3)) (ht : am_tg pc off = some t) (kt : x ≤ 0 → amT μ t L S h Q) (kf : 0 < x → amT μ (pc + 3) L S h Q) : amT μ pc L (vI x :: S) h Q :=
  kr_if1 d ht (fun hc => kt (by simp only [am_cd, decide_eq_true_eq] at hc; omega)) (fun hc => kf (by simp only [am_cd, decide_eq_true_eq] at hc; omega))
theorem kr_icmp_le {off x y : Int} {t : Nat} (d : decode (am_cc μ) pc = .ok (.if_icmp .le off, 3)) (ht : am_tg pc off = some t) (kt : x ≤ y → amT μ t L S h Q) (kf : y < x → amT μ (pc + 3) L S h Q) : amT μ pc L (vI y :: vI x :: S) h Q :=
  kr_if2 d ht (fun hc => kt (by simp only [am_cd, decide_eq_true_eq] at hc; omega)) (fun hc => kf (by simp only [am_cd, decide_eq_true_eq] at hc; omega))
theorem kr_geti {ix a c k : Nat} {x : Int} (d : decode (am_cc μ) pc = .ok (.getfield ix, 3)) (hf : am_lk ix (am_frT (am_own μ)) = some (c, k)) (hk : ¬ am_fk c k = 0) (hs : hsh h a = (c + 1, am_fN c)) (hv : hiv h a k = x) (kk : amT μ (pc + 3) L (vI x :: S) h Q) : amT μ pc L (vR a :: S) h Q := by
  refine t_step (q := (pc + 3, L, vI x :: S, h)) d rfl rfl rfl rfl ?_ kk
  show am_gf (am_own μ) pc L (vR a :: S) h ix = _
  unfold am_gf
  rw [hf]
  dsimp only
  rw [if_pos hs, if_neg hk, hv]
theorem kr_getr {ix a c k b : Nat} (d : decode (am_cc μ) pc = .ok (.getfield ix, 3)) (hf : am_lk ix (am_frT (am_own μ)) = some (c, k)) (hk : am_fk c k = 0) (hs : hsh h a = (c + 1, am_fN c)) (hv : hrf h a k = some b) (kk : amT μ (pc + 3) L (vR b :: S) h Q) : amT μ pc L (vR a :: S) h Q := by
  refine t_step (q := (pc + 3, L, vR b :: S, h)) d rfl rfl rfl rfl ?_ kk
  show am_gf (am_own μ) pc L (vR a :: S) h ix = _
  unfold am_gf
  rw [hf]
  dsimp only
  rw [if_pos hs, if_pos hk, hv]
theorem kr_puti {ix a c k : Nat} {x : Int} (d : decode (am_cc μ) pc = .ok (.putfield ix, 3)) (hf : am_lk ix (am_frT (am_own μ)) = some (c, k)) (hk : am_fk c k = 1 ∨ am_fk c k = 2 ∧ (x = 0 ∨ x = 1)) (hn : am_ff c k = true → am_ini μ = true ∧ c = am_own μ) (hs : hsh h a = (c + 1, am_fN c)) (kk : amT μ (pc + 3) L S (hwi h a k x) Q) : amT μ pc L (vI x :: vR a :: S) h Q := by
  refine t_step (q := (pc + 3, L, S, hwi h a k x)) d rfl rfl rfl rfl ?_ kk
  show am_pf (am_own μ) (am_ini μ) pc L (vI x :: vR a :: S) h ix = _
  unfold am_pf
  rw [hf]
  dsimp only
  rw [if_pos ⟨hs, hk, hn⟩]
theorem kr_putr {ix a c k b : Nat} (d : decode (am_cc μ) pc = .ok (.putfield ix, 3)) (hf : am_lk ix (am_frT (am_own μ)) = some (c, k)) (hk : am_fk c k = 0) (hn : am_ff c k = true → am_ini μ = true ∧ c = am_own μ) (hs : hsh h a = (c + 1, am_fN c)) (kk : amT μ (pc + 3) L S (hwr h a k (some b)) Q) : amT μ pc L (vR b :: vR a :: S) h Q := by
  refine t_step (q := (pc + 3, L, S, hwr h a k (some b))) d rfl rfl rfl rfl ?_ kk
  show am_pf (am_own μ) (am_ini μ) pc L (vR b :: vR a :: S) h ix = _
  unfold am_pf
  rw [hf]
  dsimp only
  rw [if_pos ⟨hs, hk, hn⟩]
theorem kr_new {ix c ic : Nat} (d : decode (am_cc μ) pc = .ok (.new ix, 3)) (d4 : decode (am_cc μ) (pc + 4) = .ok (.invokespecial ic, 3)) (hf : am_lk ix (am_crT (am_own μ)) = some c) (kk : amT μ (pc + 3) L (vR (hnx h) :: S) (hnw h (c + 1) (am_fN c)) Q) : amT μ pc L S h Q := by
  refine t_step (q := (pc + 3, L, vR (hnx h) :: S, hnw h (c + 1) (am_fN c))) d rfl rfl ?_ rfl ?_ kk
  · unfold am_thr
    rw [d4]
    generalize decode (am_cc μ) (pc + 3) = x1
    generalize decode (am_cc μ) (pc + 6) = x2
    generalize decode (am_cc μ) (pc + 9) = x3
    dsimp only
    split
    · rename_i e1 e2 e3 e4
      cases e4
    · rfl
  · show am_nw (am_own μ) pc L S h ix = _
    unfold am_nw
    rw [hf]
theorem kr_newi {n : Int} (d : decode (am_cc μ) pc = .ok (.newarray .int, 2)) (hn : 0 ≤ n ∧ n ≤ 1000) (kk : amT μ (pc + 2) L (vR (hnx h) :: S) (hnw h 20 n.toNat) Q) : amT μ pc L (vI n :: S) h Q :=
  t_step (q := (pc + 2, L, vR (hnx h) :: S, hnw h 20 n.toNat)) d rfl rfl rfl rfl (if_pos hn) kk
theorem kr_newq {ix c : Nat} {n : Int} (d : decode (am_cc μ) pc = .ok (.anewarray ix, 3)) (hf : am_lk ix (am_arT (am_own μ)) = some c) (hn : 0 ≤ n ∧ n ≤ 1000) (kk : amT μ (pc + 3) L (vR (hnx h) :: S) (hnw h (22 + c) n.toNat) Q) : amT μ pc L (vI n :: S) h Q := by
  refine t_step (q := (pc + 3, L, vR (hnx h) :: S, hnw h (22 + c) n.toNat)) d rfl rfl rfl rfl ?_ kk
  show am_na2 (am_own μ) pc L (vI n :: S) h ix = _
  unfold am_na2
  rw [hf]
  dsimp only
  rw [if_pos hn]
theorem kr_newm {ix : Nat} {n k : Int} (d : decode (am_cc μ) pc = .ok (.multianewarray ix 2, 4)) (hn : am_own μ = 1 ∧ ix = 17 ∧ 2 = 2 ∧ 0 ≤ n ∧ n ≤ 1000 ∧ 0 ≤ k ∧ k ≤ 1000) (kk : amT μ (pc + 4) L (vR (hnx h) :: S) (hml h n.toNat k.toNat) Q) : amT μ pc L (vI k :: vI n :: S) h Q :=
  t_step (q := (pc + 4, L, vR (hnx h) :: S, hml h n.toNat k.toNat)) d rfl rfl rfl rfl (if_pos hn) kk
theorem kr_alen {a t n : Nat} (d : decode (am_cc μ) pc = .ok (.arraylength, 1)) (hs : hsh h a = (t, n)) (ht : 20 ≤ t) (kk : amT μ (pc + 1) L (vI (n : Int) :: S) h Q) : amT μ pc L (vR a :: S) h Q := by
  refine t_step (q := (pc + 1, L, vI (n : Int) :: S, h)) d rfl rfl rfl rfl ?_ kk
  show am_al pc L (vR a :: S) h = _
  unfold am_al
  dsimp only
  rw [hs]
  exact if_pos ht
theorem kr_iald {a n : Nat} {i x : Int} (d : decode (am_cc μ) pc = .ok (.iaload, 1)) (hs : hsh h a = (20, n)) (h0 : 0 ≤ i) (h1 : i < (n : Int)) (hv : hiv h a i.toNat = x) (kk : amT μ (pc + 1) L (vI x :: S) h Q) : amT μ pc L (vI i :: vR a :: S) h Q := by
  refine t_step (q := (pc + 1, L, vI x :: S, h)) d rfl rfl rfl rfl ?_ kk
  show am_il pc L (vI i :: vR a :: S) h = _
  unfold am_il
  dsimp only
  rw [hs]
  dsimp only
  rw [if_pos ⟨Or.inl rfl, h0, h1⟩, hv]
theorem kr_sald {a n : Nat} {i x : Int} (d : decode (am_cc μ) pc = .ok (.iaload, 1)) (hs : hsh h a = (50, n)) (h0 : 0 ≤ i) (h1 : i < (n : Int)) (hv : hiv h a i.toNat = x) (kk : amT μ (pc + 1) L (vI x :: S) h Q) : amT μ pc L (vI i :: vR a :: S) h Q := by
  refine t_step (q := (pc + 1, L, vI x :: S, h)) d rfl rfl rfl rfl ?_ kk
  show am_il pc L (vI i :: vR a :: S) h = _
  unfold am_il
  dsimp only
  rw [hs]
  dsimp only
  rw [if_pos ⟨Or.inr rfl, h0, h1⟩, hv]
theorem kr_iast {a n : Nat} {i x : Int} (d : decode (am_cc μ) pc = .ok (.iastore, 1)) (hs : hsh h a = (20, n)) (h0 : 0 ≤ i) (h1 : i < (n : Int)) (kk : amT μ (pc + 1) L S (hwi h a i.toNat x) Q) : amT μ pc L (vI x :: vI i :: vR a :: S) h Q := by
  refine t_step (q := (pc + 1, L, S, hwi h a i.toNat x)) d rfl rfl rfl rfl ?_ kk
  show am_is pc L (vI x :: vI i :: vR a :: S) h = _
  unfold am_is
  dsimp only
  rw [hs]
  dsimp only
  rw [if_pos ⟨rfl, h0, h1⟩]
theorem kr_aald {a t n b : Nat} {i : Int} (d : decode (am_cc μ) pc = .ok (.aaload, 1)) (hs : hsh h a = (t, n)) (ht : t = 40 ∨ 22 ≤ t ∧ t ≤ 30) (h0 : 0 ≤ i) (h1 : i < (n : Int)) (hv : hrf h a i.toNat = some b) (kk : amT μ (pc + 1) L (vR b :: S) h Q) : amT μ pc L (vI i :: vR a :: S) h Q := by
  refine t_step (q := (pc + 1, L, vR b :: S, h)) d rfl rfl rfl rfl ?_ kk
  show am_rl pc L (vI i :: vR a :: S) h = _
  unfold am_rl
  dsimp only
  rw [hs]
  dsimp only
  rw [if_pos ⟨ht, h0, h1⟩, hv]
theorem kr_aast {a c n b : Nat} {i : Int} (d : decode (am_cc μ) pc = .ok (.aastore, 1)) (hs : hsh h a = (22 + c, n)) (hc : c ≤ 8) (hb : hsh h b = (c + 1, am_fN c)) (h0 : 0 ≤ i) (h1 : i < (n : Int)) (kk : amT μ (pc + 1) L S (hwr h a i.toNat (some b)) Q) : amT μ pc L (vR b :: vI i :: vR a :: S) h Q := by
  refine t_step (q := (pc + 1, L, S, hwr h a i.toNat (some b))) d rfl rfl rfl rfl ?_ kk
  show am_rs pc L (vR b :: vI i :: vR a :: S) h = _
  unfold am_rs
  dsimp only
  rw [hs]
  dsimp only
  rw [if_pos ⟨by omega, by omega, by rw [hb, show 22 + c - 22 = c by omega], h0, h1⟩]
theorem kr_obj {ix a : Nat} (d : decode (am_cc μ) pc = .ok (.invokespecial ix, 3)) (hc : am_call (am_own μ) (.invokespecial ix) = none) (ho : am_own μ ≤ 8 ∧ am_obT (am_own μ) = ix ∧ 1 ≤ am_nF μ ∧ 20 ≤ am_nL μ ∧ am_wd S ≤ 8) (kk : amT μ (pc + 3) L S h Q) : amT μ pc L (vR a :: S) h Q :=
  t_step (q := (pc + 3, L, S, h)) d rfl rfl rfl hc (if_pos ho) kk
theorem kr_min {ix : Nat} {x y : Int} (d : decode (am_cc μ) pc = .ok (.invokestatic ix, 3)) (hc : am_call (am_own μ) (.invokestatic ix) = none) (ho : am_own μ = 2 ∧ ix = 76 ∧ 1 ≤ am_nF μ ∧ 24 ≤ am_nL μ ∧ am_wd S ≤ 8) (kk : amT μ (pc + 3) L (vI (if y < x then y else x) :: S) h Q) : amT μ pc L (vI y :: vI x :: S) h Q :=
  t_step (q := (pc + 3, L, vI (if y < x then y else x) :: S, h)) d rfl rfl rfl hc (if_pos ho) kk
theorem kr_ireturn {x : Int} (d : decode (am_cc μ) pc = .ok (.ireturn, 1)) (hr : am_okr (am_rt μ) (some (vI x)) = true) (k : Q (.inl (some (vI x)), h)) : amT μ pc L [vI x] h Q := t_ret d rfl rfl hr k
theorem kr_areturn {a : Nat} (d : decode (am_cc μ) pc = .ok (.areturn, 1)) (hr : am_okr (am_rt μ) (some (vR a)) = true) (k : Q (.inl (some (vR a)), h)) : amT μ pc L [vR a] h Q := t_ret d rfl rfl hr k
theorem kr_return {d0 : Unit} (d : decode (am_cc μ) pc = .ok (.return_, 1)) (hr : am_okr (am_rt μ) none = true) (k : Q (.inl none, h)) : amT μ pc L [] h Q := t_ret d rfl rfl hr k
/-- behind a call -/
def kQ (μ : aM) (pc : Nat) (L S : List aV) (Q : aR → Prop) : aR → Prop
  | (.inl none, h') => amT μ (pc + 3) L S h' Q
  | (.inl (some v), h') => amT μ (pc + 3) L (v :: S) h' Q
  | (.inr E, h') => match am_hd (am_hh μ) pc E with
    | none => Q (.inr E, h')
    | some t => match am_ha μ t with
      | none => False
      | some (pc', j) => amT μ pc' (L.take j) [] h' Q
theorem kQ_tQ {ν : aM} {n : Nat} {S' : List aV} {r : aR} (hn : am_na ν = n) (hS : S.drop n = S') (h : kQ μ pc L S' Q r) : tQ μ ν pc L S Q r := by
  subst hn
  subst hS
  obtain ⟨o, h'⟩ := r
  rcases o with v | E
  · cases v with
    | none => exact h
    | some v => exact h
  · exact h
/-- a call's room -/
def am_cok (μ ν : aM) (n : Nat) : Bool := decide (am_na ν = n) && decide (am_nF ν + 1 ≤ am_nF μ) && decide (8 + (am_mx ν + 11) + am_nL ν ≤ am_nL μ)
theorem cok_of {ν : aM} {n k : Nat} {S' : List aV} (hc : am_cok μ ν n = true) (hl : n ≤ S.length) (hS : S.drop n = S') (hw : am_wd S' ≤ 8) (ha : (S.take n).all am_c1 = true) (hr : am_rc k ν (S.take n).reverse h = true) : am_ok k μ ν S h := by
  unfold am_cok at hc
  simp only [Bool.and_eq_true, decide_eq_true_eq] at hc
  obtain ⟨⟨rfl, h2⟩, h3⟩ := hc
  exact ⟨hl, by rw [hS]; exact hw, h2, h3, ha, hr⟩
theorem kr_s0 {ix : Nat} {ν : aM} (d : decode (am_cc μ) pc = .ok (.invokestatic ix, 3)) (hc : am_call (am_own μ) (.invokestatic ix) = some (0, ν)) (ok : am_cok μ ν 0 = true) (hw : am_wd S ≤ 8)  (c : amT ν 0 [] [] h (kQ μ pc L S Q)) : amT μ pc L (S) h Q := by
  have hna : am_na ν = 0 := by unfold am_cok at ok; simp only [Bool.and_eq_true, decide_eq_true_eq] at ok; exact ok.1.1
  refine t_call d rfl rfl rfl hc (cok_of (n := 0) (S' := S) ok (by simp) rfl hw (by simp) (by unfold am_rc; rfl)) ?_
  rw [hna]
  exact amT.mono c (fun r hr => kQ_tQ hna rfl hr)
theorem kr_v0 {ix b : Nat} {ν : aM} (d : decode (am_cc μ) pc = .ok (.invokevirtual ix, 3)) (hc : am_call (am_own μ) (.invokevirtual ix) = some (1, ν)) (ok : am_cok μ ν 1 = true) (hb : hsh h b = (am_own ν + 1, am_fN (am_own ν))) (hw : am_wd S ≤ 8)  (c : amT ν 0 [vR b] [] h (kQ μ pc L S Q)) : amT μ pc L (vR b :: S) h Q := by
  have hna : am_na ν = 1 := by unfold am_cok at ok; simp only [Bool.and_eq_true, decide_eq_true_eq] at ok; exact ok.1.1
  refine t_call d rfl rfl rfl hc (cok_of (n := 1) (S' := S) ok (by simp) rfl hw (by simp [show am_c1 (vR b) = true from rfl]) (decide_eq_true hb)) ?_
  rw [hna]
  exact amT.mono c (fun r hr => kQ_tQ hna rfl hr)
theorem kr_s1 {ix : Nat} {ν : aM} {x1 : aV} (d : decode (am_cc μ) pc = .ok (.invokestatic ix, 3)) (hc : am_call (am_own μ) (.invokestatic ix) = some (0, ν)) (ok : am_cok μ ν 1 = true) (hw : am_wd S ≤ 8) (h1 : am_c1 x1 = true) (c : amT ν 0 [x1] [] h (kQ μ pc L S Q)) : amT μ pc L (x1 :: S) h Q := by
  have hna : am_na ν = 1 := by unfold am_cok at ok; simp only [Bool.and_eq_true, decide_eq_true_eq] at ok; exact ok.1.1
  refine t_call d rfl rfl rfl hc (cok_of (n := 1) (S' := S) ok (by simp) rfl hw (by simp [h1]) (by unfold am_rc; rfl)) ?_
  rw [hna]
  exact amT.mono c (fun r hr => kQ_tQ hna rfl hr)
theorem kr_v1 {ix b : Nat} {ν : aM} {x1 : aV} (d : decode (am_cc μ) pc = .ok (.invokevirtual ix, 3)) (hc : am_call (am_own μ) (.invokevirtual ix) = some (1, ν)) (ok : am_cok μ ν 2 = true) (hb : hsh h b = (am_own ν + 1, am_fN (am_own ν))) (hw : am_wd S ≤ 8) (h1 : am_c1 x1 = true) (c : amT ν 0 [vR b, x1] [] h (kQ μ pc L S Q)) : amT μ pc L (x1 :: vR b :: S) h Q := by
  have hna : am_na ν = 2 := by unfold am_cok at ok; simp only [Bool.and_eq_true, decide_eq_true_eq] at ok; exact ok.1.1
  refine t_call d rfl rfl rfl hc (cok_of (n := 2) (S' := S) ok (by simp) rfl hw (by simp [show am_c1 (vR b) = true from rfl, h1]) (decide_eq_true hb)) ?_
  rw [hna]
  exact amT.mono c (fun r hr => kQ_tQ hna rfl hr)
theorem kr_s2 {ix : Nat} {ν : aM} {x1 x2 : aV} (d : decode (am_cc μ) pc = .ok (.invokestatic ix, 3)) (hc : am_call (am_own μ) (.invokestatic ix) = some (0, ν)) (ok : am_cok μ ν 2 = true) (hw : am_wd S ≤ 8) (h1 : am_c1 x1 = true) (h2 : am_c1 x2 = true) (c : amT ν 0 [x1, x2] [] h (kQ μ pc L S Q)) : amT μ pc L (x2 :: x1 :: S) h Q := by
  have hna : am_na ν = 2 := by unfold am_cok at ok; simp only [Bool.and_eq_true, decide_eq_true_eq] at ok; exact ok.1.1
  refine t_call d rfl rfl rfl hc (cok_of (n := 2) (S' := S) ok (by simp) rfl hw (by simp [h1, h2]) (by unfold am_rc; rfl)) ?_
  rw [hna]
  exact amT.mono c (fun r hr => kQ_tQ hna rfl hr)
theorem kr_v2 {ix b : Nat} {ν : aM} {x1 x2 : aV} (d : decode (am_cc μ) pc = .ok (.invokevirtual ix, 3)) (hc : am_call (am_own μ) (.invokevirtual ix) = some (1, ν)) (ok : am_cok μ ν 3 = true) (hb : hsh h b = (am_own ν + 1, am_fN (am_own ν))) (hw : am_wd S ≤ 8) (h1 : am_c1 x1 = true) (h2 : am_c1 x2 = true) (c : amT ν 0 [vR b, x1, x2] [] h (kQ μ pc L S Q)) : amT μ pc L (x2 :: x1 :: vR b :: S) h Q := by
  have hna : am_na ν = 3 := by unfold am_cok at ok; simp only [Bool.and_eq_true, decide_eq_true_eq] at ok; exact ok.1.1
  refine t_call d rfl rfl rfl hc (cok_of (n := 3) (S' := S) ok (by simp) rfl hw (by simp [show am_c1 (vR b) = true from rfl, h1, h2]) (decide_eq_true hb)) ?_
  rw [hna]
  exact amT.mono c (fun r hr => kQ_tQ hna rfl hr)
theorem kr_s3 {ix : Nat} {ν : aM} {x1 x2 x3 : aV} (d : decode (am_cc μ) pc = .ok (.invokestatic ix, 3)) (hc : am_call (am_own μ) (.invokestatic ix) = some (0, ν)) (ok : am_cok μ ν 3 = true) (hw : am_wd S ≤ 8) (h1 : am_c1 x1 = true) (h2 : am_c1 x2 = true) (h3 : am_c1 x3 = true) (c : amT ν 0 [x1, x2, x3] [] h (kQ μ pc L S Q)) : amT μ pc L (x3 :: x2 :: x1 :: S) h Q := by
  have hna : am_na ν = 3 := by unfold am_cok at ok; simp only [Bool.and_eq_true, decide_eq_true_eq] at ok; exact ok.1.1
  refine t_call d rfl rfl rfl hc (cok_of (n := 3) (S' := S) ok (by simp) rfl hw (by simp [h1, h2, h3]) (by unfold am_rc; rfl)) ?_
  rw [hna]
  exact amT.mono c (fun r hr => kQ_tQ hna rfl hr)
theorem kr_v3 {ix b : Nat} {ν : aM} {x1 x2 x3 : aV} (d : decode (am_cc μ) pc = .ok (.invokevirtual ix, 3)) (hc : am_call (am_own μ) (.invokevirtual ix) = some (1, ν)) (ok : am_cok μ ν 4 = true) (hb : hsh h b = (am_own ν + 1, am_fN (am_own ν))) (hw : am_wd S ≤ 8) (h1 : am_c1 x1 = true) (h2 : am_c1 x2 = true) (h3 : am_c1 x3 = true) (c : amT ν 0 [vR b, x1, x2, x3] [] h (kQ μ pc L S Q)) : amT μ pc L (x3 :: x2 :: x1 :: vR b :: S) h Q := by
  have hna : am_na ν = 4 := by unfold am_cok at ok; simp only [Bool.and_eq_true, decide_eq_true_eq] at ok; exact ok.1.1
  refine t_call d rfl rfl rfl hc (cok_of (n := 4) (S' := S) ok (by simp) rfl hw (by simp [show am_c1 (vR b) = true from rfl, h1, h2, h3]) (decide_eq_true hb)) ?_
  rw [hna]
  exact amT.mono c (fun r hr => kQ_tQ hna rfl hr)
theorem kr_s4 {ix : Nat} {ν : aM} {x1 x2 x3 x4 : aV} (d : decode (am_cc μ) pc = .ok (.invokestatic ix, 3)) (hc : am_call (am_own μ) (.invokestatic ix) = some (0, ν)) (ok : am_cok μ ν 4 = true) (hw : am_wd S ≤ 8) (h1 : am_c1 x1 = true) (h2 : am_c1 x2 = true) (h3 : am_c1 x3 = true) (h4 : am_c1 x4 = true) (c : amT ν 0 [x1, x2, x3, x4] [] h (kQ μ pc L S Q)) : amT μ pc L (x4 :: x3 :: x2 :: x1 :: S) h Q := by
  have hna : am_na ν = 4 := by unfold am_cok at ok; simp only [Bool.and_eq_true, decide_eq_true_eq] at ok; exact ok.1.1
  refine t_call d rfl rfl rfl hc (cok_of (n := 4) (S' := S) ok (by simp) rfl hw (by simp [h1, h2, h3, h4]) (by unfold am_rc; rfl)) ?_
  rw [hna]
  exact amT.mono c (fun r hr => kQ_tQ hna rfl hr)
theorem kr_v4 {ix b : Nat} {ν : aM} {x1 x2 x3 x4 : aV} (d : decode (am_cc μ) pc = .ok (.invokevirtual ix, 3)) (hc : am_call (am_own μ) (.invokevirtual ix) = some (1, ν)) (ok : am_cok μ ν 5 = true) (hb : hsh h b = (am_own ν + 1, am_fN (am_own ν))) (hw : am_wd S ≤ 8) (h1 : am_c1 x1 = true) (h2 : am_c1 x2 = true) (h3 : am_c1 x3 = true) (h4 : am_c1 x4 = true) (c : amT ν 0 [vR b, x1, x2, x3, x4] [] h (kQ μ pc L S Q)) : amT μ pc L (x4 :: x3 :: x2 :: x1 :: vR b :: S) h Q := by
  have hna : am_na ν = 5 := by unfold am_cok at ok; simp only [Bool.and_eq_true, decide_eq_true_eq] at ok; exact ok.1.1
  refine t_call d rfl rfl rfl hc (cok_of (n := 5) (S' := S) ok (by simp) rfl hw (by simp [show am_c1 (vR b) = true from rfl, h1, h2, h3, h4]) (decide_eq_true hb)) ?_
  rw [hna]
  exact amT.mono c (fun r hr => kQ_tQ hna rfl hr)
theorem kr_s5 {ix : Nat} {ν : aM} {x1 x2 x3 x4 x5 : aV} (d : decode (am_cc μ) pc = .ok (.invokestatic ix, 3)) (hc : am_call (am_own μ) (.invokestatic ix) = some (0, ν)) (ok : am_cok μ ν 5 = true) (hw : am_wd S ≤ 8) (h1 : am_c1 x1 = true) (h2 : am_c1 x2 = true) (h3 : am_c1 x3 = true) (h4 : am_c1 x4 = true) (h5 : am_c1 x5 = true) (c : amT ν 0 [x1, x2, x3, x4, x5] [] h (kQ μ pc L S Q)) : amT μ pc L (x5 :: x4 :: x3 :: x2 :: x1 :: S) h Q := by
  have hna : am_na ν = 5 := by unfold am_cok at ok; simp only [Bool.and_eq_true, decide_eq_true_eq] at ok; exact ok.1.1
  refine t_call d rfl rfl rfl hc (cok_of (n := 5) (S' := S) ok (by simp) rfl hw (by simp [h1, h2, h3, h4, h5]) (by unfold am_rc; rfl)) ?_
  rw [hna]
  exact amT.mono c (fun r hr => kQ_tQ hna rfl hr)
theorem kr_v5 {ix b : Nat} {ν : aM} {x1 x2 x3 x4 x5 : aV} (d : decode (am_cc μ) pc = .ok (.invokevirtual ix, 3)) (hc : am_call (am_own μ) (.invokevirtual ix) = some (1, ν)) (ok : am_cok μ ν 6 = true) (hb : hsh h b = (am_own ν + 1, am_fN (am_own ν))) (hw : am_wd S ≤ 8) (h1 : am_c1 x1 = true) (h2 : am_c1 x2 = true) (h3 : am_c1 x3 = true) (h4 : am_c1 x4 = true) (h5 : am_c1 x5 = true) (c : amT ν 0 [vR b, x1, x2, x3, x4, x5] [] h (kQ μ pc L S Q)) : amT μ pc L (x5 :: x4 :: x3 :: x2 :: x1 :: vR b :: S) h Q := by
  have hna : am_na ν = 6 := by unfold am_cok at ok; simp only [Bool.and_eq_true, decide_eq_true_eq] at ok; exact ok.1.1
  refine t_call d rfl rfl rfl hc (cok_of (n := 6) (S' := S) ok (by simp) rfl hw (by simp [show am_c1 (vR b) = true from rfl, h1, h2, h3, h4, h5]) (decide_eq_true hb)) ?_
  rw [hna]
  exact amT.mono c (fun r hr => kQ_tQ hna rfl hr)
theorem kr_s6 {ix : Nat} {ν : aM} {x1 x2 x3 x4 x5 x6 : aV} (d : decode (am_cc μ) pc = .ok (.invokestatic ix, 3)) (hc : am_call (am_own μ) (.invokestatic ix) = some (0, ν)) (ok : am_cok μ ν 6 = true) (hw : am_wd S ≤ 8) (h1 : am_c1 x1 = true) (h2 : am_c1 x2 = true) (h3 : am_c1 x3 = true) (h4 : am_c1 x4 = true) (h5 : am_c1 x5 = true) (h6 : am_c1 x6 = true) (c : amT ν 0 [x1, x2, x3, x4, x5, x6] [] h (kQ μ pc L S Q)) : amT μ pc L (x6 :: x5 :: x4 :: x3 :: x2 :: x1 :: S) h Q := by
  have hna : am_na ν = 6 := by unfold am_cok at ok; simp only [Bool.and_eq_true, decide_eq_true_eq] at ok; exact ok.1.1
  refine t_call d rfl rfl rfl hc (cok_of (n := 6) (S' := S) ok (by simp) rfl hw (by simp [h1, h2, h3, h4, h5, h6]) (by unfold am_rc; rfl)) ?_
  rw [hna]
  exact amT.mono c (fun r hr => kQ_tQ hna rfl hr)
theorem kr_v6 {ix b : Nat} {ν : aM} {x1 x2 x3 x4 x5 x6 : aV} (d : decode (am_cc μ) pc = .ok (.invokevirtual ix, 3)) (hc : am_call (am_own μ) (.invokevirtual ix) = some (1, ν)) (ok : am_cok μ ν 7 = true) (hb : hsh h b = (am_own ν + 1, am_fN (am_own ν))) (hw : am_wd S ≤ 8) (h1 : am_c1 x1 = true) (h2 : am_c1 x2 = true) (h3 : am_c1 x3 = true) (h4 : am_c1 x4 = true) (h5 : am_c1 x5 = true) (h6 : am_c1 x6 = true) (c : amT ν 0 [vR b, x1, x2, x3, x4, x5, x6] [] h (kQ μ pc L S Q)) : amT μ pc L (x6 :: x5 :: x4 :: x3 :: x2 :: x1 :: vR b :: S) h Q := by
  have hna : am_na ν = 7 := by unfold am_cok at ok; simp only [Bool.and_eq_true, decide_eq_true_eq] at ok; exact ok.1.1
  refine t_call d rfl rfl rfl hc (cok_of (n := 7) (S' := S) ok (by simp) rfl hw (by simp [show am_c1 (vR b) = true from rfl, h1, h2, h3, h4, h5, h6]) (decide_eq_true hb)) ?_
  rw [hna]
  exact amT.mono c (fun r hr => kQ_tQ hna rfl hr)
theorem kr_s7 {ix : Nat} {ν : aM} {x1 x2 x3 x4 x5 x6 x7 : aV} (d : decode (am_cc μ) pc = .ok (.invokestatic ix, 3)) (hc : am_call (am_own μ) (.invokestatic ix) = some (0, ν)) (ok : am_cok μ ν 7 = true) (hw : am_wd S ≤ 8) (h1 : am_c1 x1 = true) (h2 : am_c1 x2 = true) (h3 : am_c1 x3 = true) (h4 : am_c1 x4 = true) (h5 : am_c1 x5 = true) (h6 : am_c1 x6 = true) (h7 : am_c1 x7 = true) (c : amT ν 0 [x1, x2, x3, x4, x5, x6, x7] [] h (kQ μ pc L S Q)) : amT μ pc L (x7 :: x6 :: x5 :: x4 :: x3 :: x2 :: x1 :: S) h Q := by
  have hna : am_na ν = 7 := by unfold am_cok at ok; simp only [Bool.and_eq_true, decide_eq_true_eq] at ok; exact ok.1.1
  refine t_call d rfl rfl rfl hc (cok_of (n := 7) (S' := S) ok (by simp) rfl hw (by simp [h1, h2, h3, h4, h5, h6, h7]) (by unfold am_rc; rfl)) ?_
  rw [hna]
  exact amT.mono c (fun r hr => kQ_tQ hna rfl hr)
theorem kr_i0 {ix b k : Nat} {ν : aM} (d : decode (am_cc μ) pc = .ok (.invokespecial ix, 3)) (hc : am_call (am_own μ) (.invokespecial ix) = some (k, ν)) (hk : k = 2 ∨ k = 3) (ok : am_cok μ ν 1 = true) (hw : am_wd S ≤ 8) (c : amT ν 0 [vR b] [] h (kQ μ pc L S Q)) : amT μ pc L (vR b :: S) h Q := by
  have hna : am_na ν = 1 := by unfold am_cok at ok; simp only [Bool.and_eq_true, decide_eq_true_eq] at ok; exact ok.1.1
  refine t_call d rfl rfl rfl hc (cok_of (n := 1) (S' := S) ok (by simp) rfl hw (by simp [show am_c1 (vR b) = true from rfl]) (by rcases hk with rfl | rfl <;> rfl)) ?_
  rw [hna]
  exact amT.mono c (fun r hr => kQ_tQ hna rfl hr)
end TI
