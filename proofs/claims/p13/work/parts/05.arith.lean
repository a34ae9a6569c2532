/-! arithmetic of the checker -/
def rk_cst (t : rk_AV) : Option Int := match t with
  | (0, a, b) => if a = b then some a else none
  | _ => none
theorem rk_cst_ok {G : Nat → Option Nat} {X : Int} {t : rk_AV} {c : Int} {y : Int32} (h : rk_cst t = some c) (hv : rk_has G X t (.int y)) : y.toInt = c := by
  obtain ⟨n, a, b⟩ := t
  rcases n with _ | n
  · simp only [rk_cst] at h
    split at h
    · rename_i hab
      cases h
      obtain ⟨x, e, h1, h2⟩ := hv
      cases e
      omega
    · cases h
  · simp [rk_cst] at h
def rk_exact (t : rk_AV) (c : Int) : Bool := match t with
  | (0, a, b) => decide (-2147483648 ≤ a + c) && decide (b + c ≤ 2147483647)
  | (1, d, _) => decide (-2147483648 ≤ c) && decide (d + c ≤ 100000000)
  | _ => false
theorem rk_exact_ok {G : Nat → Option Nat} {X : Int} {t : rk_AV} {c : Int} {x : Int32} (hX : X + 100000000 ≤ 2147483647) (h : rk_exact t c = true) (hv : rk_has G X t (.int x)) : -2147483648 ≤ x.toInt + c ∧ x.toInt + c ≤ 2147483647 := by
  obtain ⟨n, a, b⟩ := t
  rcases n with _ | _ | n
  · simp only [rk_exact, Bool.and_eq_true, decide_eq_true_eq] at h
    obtain ⟨z, e, h1, h2⟩ := hv
    cases e
    omega
  · simp only [rk_exact, Bool.and_eq_true, decide_eq_true_eq] at h
    obtain ⟨z, e, h1, h2⟩ := hv
    cases e
    omega
  · simp [rk_exact] at h
def rk_add (tx ty : rk_AV) : rk_AV := match tx with
  | (0, a, b) => (match ty with
    | (0, c, d) => rk_fit (a + c) (b + d)
    | (1, e, _) => if 0 ≤ a ∧ e + b ≤ 100000000 then (1, e + b, 0) else rk_full
    | _ => rk_full)
  | (1, e, _) => (match ty with
    | (0, c, d) => if 0 ≤ c ∧ e + d ≤ 100000000 then (1, e + d, 0) else rk_full
    | _ => rk_full)
  | _ => rk_full
theorem rk_add_ok {G : Nat → Option Nat} {X : Int} {tx ty : rk_AV} {x y : Int32} (hX : X + 100000000 ≤ 2147483647) (h1 : rk_has G X tx (.int x)) (h2 : rk_has G X ty (.int y)) : rk_has G X (rk_add tx ty) (.int (x + y)) := by
  obtain ⟨n, a, b⟩ := tx
  obtain ⟨m, c, d⟩ := ty
  rcases n with _ | _ | n
  · rcases m with _ | _ | m
    · simp only [rk_add, rk_fit]
      split
      · obtain ⟨z, e, p1, p2⟩ := h1
        cases e
        obtain ⟨z, e, q1, q2⟩ := h2
        cases e
        refine ⟨_, rfl, ?_, ?_⟩ <;> rw [rk_add_e] <;> omega
      · exact rk_full_ok _
    · simp only [rk_add]
      split
      · obtain ⟨z, e, p1, p2⟩ := h1
        cases e
        obtain ⟨z, e, q1, q2⟩ := h2
        cases e
        refine ⟨_, rfl, ?_, ?_⟩ <;> rw [rk_add_e] <;> omega
      · exact rk_full_ok _
    · exact rk_full_ok _
  · rcases m with _ | m
    · simp only [rk_add]
      split
      · obtain ⟨z, e, p1, p2⟩ := h1
        cases e
        obtain ⟨z, e, q1, q2⟩ := h2
        cases e
        refine ⟨_, rfl, ?_, ?_⟩ <;> rw [rk_add_e] <;> omega
      · exact rk_full_ok _
    · exact rk_full_ok _
  · exact rk_full_ok _
/-- what is known of x - y by the facts -/
def rk_lb1 (fc : List (Nat × Nat × Nat × Int)) (x y : Nat) : Bool := fc.any (fun q => Nat.beq q.1 1 && (Nat.beq q.2.1 x && Nat.beq q.2.2.1 y))
def rk_lb (f0 : List (Nat × Nat × Nat × Int)) (sx sy : Nat) : List (Nat × Nat × Nat × Int) → Int
  | [] => -4294967296
  | q :: l => if Nat.beq q.1 0 && (Nat.beq q.2.1 sx && rk_lb1 f0 sy q.2.2.1) then max (q.2.2.2 + 1) (rk_lb f0 sx sy l) else rk_lb f0 sx sy l
theorem rk_lb1_ok {r : Nat → Value} {fc : List (Nat × Nat × Nat × Int)} {x y : Nat} (hf : ∀ q ∈ fc, rk_fact r q) (h : rk_lb1 fc x y = true) : rk_toI (r x) < rk_toI (r y) := by
  simp only [rk_lb1, List.any_eq_true, Bool.and_eq_true, Nat.beq_eq] at h
  obtain ⟨⟨n, a, b, c⟩, hq, e1, e2, e3⟩ := h
  dsimp only at e1 e2 e3
  subst e1 e2 e3
  exact hf _ hq
theorem rk_lb_ok {r : Nat → Value} {f0 : List (Nat × Nat × Nat × Int)} {sx sy : Nat} (hf : ∀ q ∈ f0, rk_fact r q) : ∀ fc : List (Nat × Nat × Nat × Int), (∀ q ∈ fc, rk_fact r q) → -4294967296 ≤ rk_toI (r sx) - rk_toI (r sy) → rk_lb f0 sx sy fc ≤ rk_toI (r sx) - rk_toI (r sy)
  | [], _, h => h
  | q :: l, hl, h => by
    have ih := rk_lb_ok (sx := sx) (sy := sy) hf l (fun p hp => hl p (List.mem_cons_of_mem _ hp)) h
    have hq := hl q List.mem_cons_self
    unfold rk_lb
    split
    · rename_i hc
      simp only [Bool.and_eq_true, Nat.beq_eq] at hc
      obtain ⟨n, a, b, c⟩ := q
      dsimp only at hc ⊢
      obtain ⟨rfl, rfl, h3⟩ := hc
      have h4 := rk_lb1_ok hf h3
      simp only [rk_fact] at hq
      omega
    · exact ih
def rk_rm (sx sy : Nat) : List (Nat × Nat × Nat × Int) → Option Int
  | [] => none
  | q :: l => if Nat.beq q.1 2 && (Nat.beq q.2.1 sy && Nat.beq q.2.2.1 sx) then some q.2.2.2 else rk_rm sx sy l
theorem rk_rm_ok {r : Nat → Value} {sx sy : Nat} {c : Int} : ∀ fc : List (Nat × Nat × Nat × Int), (∀ q ∈ fc, rk_fact r q) → rk_rm sx sy fc = some c → rk_toI (r sy) = rk_toI (r sx) % c
  | [], _, h => by simp [rk_rm] at h
  | q :: l, hl, h => by
    unfold rk_rm at h
    split at h
    · rename_i hc
      have hq := hl q List.mem_cons_self
      simp only [Bool.and_eq_true, Nat.beq_eq] at hc
      obtain ⟨n, a, b, d⟩ := q
      dsimp only at hc h
      obtain ⟨rfl, rfl, rfl⟩ := hc
      cases h
      exact hq
    · exact rk_rm_ok l (fun p hp => hl p (List.mem_cons_of_mem _ hp)) h
def rk_sub (fc : List (Nat × Nat × Nat × Int)) (sx sy : Nat) (tx ty : rk_AV) : rk_AV := match rk_iv tx with
  | none => rk_full
  | some (a, b) => match rk_iv ty with
    | none => rk_full
    | some (c, d) => match (if 0 ≤ a then rk_rm sx sy fc else none) with
      | some m => if 0 < m ∧ b ≤ 2147483647 then (0, m * (a / m), m * (b / m)) else rk_full
      | none => if -2147483648 ≤ a - d ∧ b - c ≤ 2147483647 then (0, max (a - d) (max (rk_lb fc sx sy fc) (if rk_lb1 fc sy sx then 1 else -4294967296)), b - c) else rk_full
theorem rk_sub_ok {G : Nat → Option Nat} {X : Int} {r : Nat → Value} {fc : List (Nat × Nat × Nat × Int)} {sx sy : Nat} {tx ty : rk_AV} {x y : Int32} (hf : ∀ q ∈ fc, rk_fact r q) (ex : r sx = .int x) (ey : r sy = .int y) (h1 : rk_has G X tx (.int x)) (h2 : rk_has G X ty (.int y)) : rk_has G X (rk_sub fc sx sy tx ty) (.int (x - y)) := by
  unfold rk_sub
  split
  · exact rk_full_ok _
  · rename_i a b hab
    split
    · exact rk_full_ok _
    · rename_i c d hcd
      obtain ⟨z, e, p1, p2⟩ := rk_iv_ok hab h1
      cases e
      obtain ⟨z, e, q1, q2⟩ := rk_iv_ok hcd h2
      cases e
      split
      · rename_i m hm
        split at hm
        · rename_i ha
          have hr := rk_rm_ok fc hf hm
          rw [ex, ey] at hr
          simp only [rk_toI] at hr
          split
          · rename_i hm0
            have hx0 : 0 ≤ x.toInt := by omega
            have e1 := Int.mul_ediv_add_emod x.toInt m
            have e2 : x.toInt - y.toInt = m * (x.toInt / m) := by omega
            have l0 := Int.emod_nonneg x.toInt (by omega : m ≠ 0)
            have l1 : m * (a / m) ≤ m * (x.toInt / m) := Int.mul_le_mul_of_nonneg_left (Int.ediv_le_ediv (by omega) p1) (by omega)
            have l2 : m * (x.toInt / m) ≤ m * (b / m) := Int.mul_le_mul_of_nonneg_left (Int.ediv_le_ediv (by omega) p2) (by omega)
            have l3 : 0 ≤ m * (x.toInt / m) := Int.mul_nonneg (by omega) (Int.ediv_nonneg hx0 (by omega))
            have l4 := rk_i_hi x
            refine ⟨_, rfl, ?_, ?_⟩ <;> rw [rk_sub_e] <;> omega
          · exact rk_full_ok _
        · cases hm
      · split
        · have hl := rk_lb_ok (sx := sx) (sy := sy) hf fc hf (by
            rw [ex, ey]
            simp only [rk_toI]
            have := rk_i_lo x
            have := rk_i_hi y
            omega)
          rw [ex, ey] at hl
          simp only [rk_toI] at hl
          have hl2 : (if rk_lb1 fc sy sx = true then 1 else -4294967296) ≤ x.toInt - y.toInt := by
            split
            · rename_i h3
              have := rk_lb1_ok hf h3
              rw [ex, ey] at this
              simp only [rk_toI] at this
              omega
            · have := rk_i_lo x
              have := rk_i_hi y
              omega
          refine ⟨_, rfl, ?_, ?_⟩ <;> rw [rk_sub_e] <;> omega
        · exact rk_full_ok _
def rk_mul (tx ty : rk_AV) : rk_AV := match rk_iv tx with
  | none => rk_full
  | some (a, b) => match rk_iv ty with
    | none => rk_full
    | some (c, d) => if 0 ≤ a ∧ 0 ≤ c then rk_fit (a * c) (b * d) else rk_full
theorem rk_mul_ok {G : Nat → Option Nat} {X : Int} {tx ty : rk_AV} {x y : Int32} (h1 : rk_has G X tx (.int x)) (h2 : rk_has G X ty (.int y)) : rk_has G X (rk_mul tx ty) (.int (x * y)) := by
  unfold rk_mul
  split
  · exact rk_full_ok _
  · rename_i a b hab
    split
    · exact rk_full_ok _
    · rename_i c d hcd
      obtain ⟨z, e, p1, p2⟩ := rk_iv_ok hab h1
      cases e
      obtain ⟨z, e, q1, q2⟩ := rk_iv_ok hcd h2
      cases e
      split
      · rename_i hp
        unfold rk_fit
        split
        · rename_i hq
          have l1 : a * c ≤ x.toInt * y.toInt := Int.mul_le_mul p1 q1 hp.2 (by omega)
          have l2 : x.toInt * y.toInt ≤ b * d := Int.mul_le_mul p2 q2 (by omega) (by omega)
          have l0 : 0 ≤ a * c := Int.mul_nonneg hp.1 hp.2
          refine ⟨_, rfl, ?_, ?_⟩ <;> rw [rk_mul_e] <;> omega
        · exact rk_full_ok _
      · exact rk_full_ok _
/-- a divisor that isn't 0 -/
def rk_nz (t : rk_AV) : Bool := match t with
  | (0, a, b) => decide (0 < a) || decide (b < 0)
  | _ => false
theorem rk_nz_ok {G : Nat → Option Nat} {X : Int} {t : rk_AV} {y : Int32} (h : rk_nz t = true) (hv : rk_has G X t (.int y)) : ¬ y = 0 := by
  obtain ⟨n, a, b⟩ := t
  rcases n with _ | n
  · simp only [rk_nz, Bool.or_eq_true, decide_eq_true_eq] at h
    obtain ⟨z, e, h1, h2⟩ := hv
    cases e
    intro h0
    subst h0
    have : (0 : Int32).toInt = 0 := rfl
    omega
  · simp [rk_nz] at h
/-- x by a number above 0, x not below 0 -/
def rk_dm (tx ty : rk_AV) : Option (Int × Int × Int) := match rk_iv tx with
  | none => none
  | some (a, b) => match rk_cst ty with
    | none => none
    | some c => if 0 ≤ a ∧ 0 < c then some (a, b, c) else none
theorem rk_dm_ok {G : Nat → Option Nat} {X : Int} {tx ty : rk_AV} {x y : Int32} {a b c : Int} (h : rk_dm tx ty = some (a, b, c)) (h1 : rk_has G X tx (.int x)) (h2 : rk_has G X ty (.int y)) : 0 ≤ a ∧ 0 < c ∧ a ≤ x.toInt ∧ x.toInt ≤ b ∧ y.toInt = c := by
  unfold rk_dm at h
  split at h
  · cases h
  · rename_i a' b' hab
    split at h
    · cases h
    · rename_i c' hc
      split at h
      · rename_i hp
        cases h
        obtain ⟨z, e, p1, p2⟩ := rk_iv_ok hab h1
        cases e
        exact ⟨hp.1, hp.2, p1, p2, rk_cst_ok hc h2⟩
      · cases h
def rk_and (tx ty : rk_AV) : rk_AV := match rk_iv ty with
  | some (c, d) => if 0 ≤ c then (0, 0, d) else (match rk_iv tx with
    | some (a, b) => if 0 ≤ a then (0, 0, b) else rk_full
    | none => rk_full)
  | none => rk_full
theorem rk_and_ok {G : Nat → Option Nat} {X : Int} {tx ty : rk_AV} {x y : Int32} (h1 : rk_has G X tx (.int x)) (h2 : rk_has G X ty (.int y)) : rk_has G X (rk_and tx ty) (.int (x &&& y)) := by
  unfold rk_and
  split
  · rename_i c d hcd
    obtain ⟨z, e, q1, q2⟩ := rk_iv_ok hcd h2
    cases e
    split
    · have := rk_and_r (x := x) (y := y) (by omega)
      exact ⟨_, rfl, by omega, by omega⟩
    · split
      · rename_i a b hab
        obtain ⟨z, e, p1, p2⟩ := rk_iv_ok hab h1
        cases e
        split
        · have := rk_and_l (x := x) (y := y) (by omega)
          exact ⟨_, rfl, by omega, by omega⟩
        · exact rk_full_ok _
      · exact rk_full_ok _
  · exact rk_full_ok _
def rk_isI (t : rk_AV) : Bool := (rk_iv t).isSome
theorem rk_isI_ok {G : Nat → Option Nat} {X : Int} {t : rk_AV} {v : Value} (h : rk_isI t = true) (hv : rk_has G X t v) : ∃ x : Int32, v = .int x := by
  unfold rk_isI at h
  cases hi : rk_iv t with
  | none => rw [hi] at h; cases h
  | some q =>
    obtain ⟨a, b⟩ := q
    obtain ⟨x, e, -⟩ := rk_iv_ok hi hv
    exact ⟨x, e⟩
/-- the machine's own -/
def rk_mop (ins : Instr) (x y : Int32) : Option Int32 := match ins with
  | .iadd => some (x + y)
  | .isub => some (x - y)
  | .imul => some (x * y)
  | .idiv => if y = 0 then none else some (x / y)
  | .irem => if y = 0 then none else some (x - x / y * y)
  | .iand => some (x &&& y)
  | .ior => some (x ||| y)
  | .ishl => some (x <<< (y &&& 31))
  | .ishr => some (x >>> (y &&& 31))
  | .iushr => some (x.toUInt32 >>> (y.toUInt32 &&& Int32.toUInt32 31)).toInt32
  | _ => none
def rk_lin (n s : Nat) (t : rk_AV) (c : Int) : List (Nat × Nat × Nat × Int) := if rk_exact t c then [(0, n, s, c)] else []
/-- the checker's: what comes, and facts on it -/
def rk_op (ins : Instr) (fc : List (Nat × Nat × Nat × Int)) (n sx sy : Nat) (tx ty : rk_AV) : Option (rk_AV × List (Nat × Nat × Nat × Int)) :=
  if rk_isI tx && rk_isI ty then (match ins with
    | .iadd => some (rk_add tx ty, (3, n, sx, (sy : Int)) :: match rk_cst ty with
      | some c => rk_lin n sx tx c
      | none => match rk_cst tx with
        | some c => rk_lin n sy ty c
        | none => [])
    | .isub => some (rk_sub fc sx sy tx ty, match rk_cst ty with
      | some c => rk_lin n sx tx (-c)
      | none => [])
    | .imul => some (rk_mul tx ty, [])
    | .idiv => (match rk_dm tx ty with
      | some (a, b, c) => some ((0, a / c, b / c), [])
      | none => if rk_nz ty then some (rk_full, []) else none)
    | .irem => (match rk_dm tx ty with
      | some (a, b, c) => some (if a / c = b / c then (0, a % c, b % c) else (0, 0, c - 1), [(2, n, sx, c)])
      | none => if rk_nz ty then some (rk_full, []) else none)
    | .iand => some (rk_and tx ty, [])
    | .ior => some (rk_full, [])
    | .ishl => some (rk_full, [])
    | .ishr => some (rk_full, [])
    | .iushr => some (if rk_cst ty = some 8 then (0, 0, 16777215) else rk_full, [])
    | _ => none) else none
theorem rk_lin_ok {G : Nat → Option Nat} {X : Int} {r : Nat → Value} {n s : Nat} {t : rk_AV} {c : Int} {x z : Int32} (hX : X + 100000000 ≤ 2147483647) (hv : rk_has G X t (.int x)) (es : r s = .int x) (en : r n = .int z) (hz : -2147483648 ≤ x.toInt + c → x.toInt + c ≤ 2147483647 → z.toInt = x.toInt + c) : ∀ q ∈ rk_lin n s t c, rk_fact r q := by
  intro q hq
  unfold rk_lin at hq
  split at hq
  · rename_i he
    rw [List.mem_singleton] at hq
    subst hq
    have := rk_exact_ok hX he hv
    simp only [rk_fact]
    rw [es, en]
    exact hz this.1 this.2
  · cases hq
theorem rk_op_ok {G : Nat → Option Nat} {X : Int} {r : Nat → Value} {ins : Instr} {fc fs : List (Nat × Nat × Nat × Int)} {n sx sy : Nat} {tx ty t : rk_AV} (hX : X + 100000000 ≤ 2147483647) (hf : ∀ q ∈ fc, rk_fact r q) (h : rk_op ins fc n sx sy tx ty = some (t, fs)) (h1 : rk_has G X tx (r sx)) (h2 : rk_has G X ty (r sy)) :
    ∃ x y z : Int32, r sx = .int x ∧ r sy = .int y ∧ rk_mop ins x y = some z ∧ rk_has G X t (.int z) ∧ ∀ r' : Nat → Value, r' n = .int z → r' sx = .int x → r' sy = .int y → ∀ q ∈ fs, rk_fact r' q := by
  unfold rk_op at h
  split at h
  · rename_i hi
    simp only [Bool.and_eq_true] at hi
    obtain ⟨x, ex⟩ := rk_isI_ok hi.1 h1
    obtain ⟨y, ey⟩ := rk_isI_ok hi.2 h2
    refine ⟨x, y, ?_⟩
    rw [ex] at h1
    rw [ey] at h2
    cases ins with
    | iadd =>
      simp only [Option.some.injEq, Prod.mk.injEq] at h
      obtain ⟨rfl, rfl⟩ := h
      refine ⟨x + y, ex, ey, rfl, rk_add_ok hX h1 h2, fun r' e0 e1 e2 => List.forall_mem_cons.mpr ⟨⟨x, y, e1, by rw [Int.toNat_natCast]; exact e2, e0⟩, ?_⟩⟩
      split
      · rename_i c hc
        have hy := rk_cst_ok hc h2
        exact rk_lin_ok hX h1 e1 e0 (fun a b => by rw [rk_add_e] <;> omega)
      · split
        · rename_i c hc
          have hy := rk_cst_ok hc h1
          exact rk_lin_ok hX h2 e2 e0 (fun a b => by rw [rk_add_e] <;> omega)
        · intro q hq; cases hq
    | isub =>
      simp only [Option.some.injEq, Prod.mk.injEq] at h
      obtain ⟨rfl, rfl⟩ := h
      refine ⟨x - y, ex, ey, rfl, rk_sub_ok hf ex ey h1 h2, fun r' e0 e1 e2 => ?_⟩
      split
      · rename_i c hc
        have hy := rk_cst_ok hc h2
        exact rk_lin_ok hX h1 e1 e0 (fun a b => by rw [rk_sub_e] <;> omega)
      · intro q hq; cases hq
    | imul =>
      simp only [Option.some.injEq, Prod.mk.injEq] at h
      obtain ⟨rfl, rfl⟩ := h
      exact ⟨x * y, ex, ey, rfl, rk_mul_ok h1 h2, fun _ _ _ _ q hq => by cases hq⟩
    | idiv =>
      simp only at h
      split at h
      · rename_i a b c hd
        simp only [Option.some.injEq, Prod.mk.injEq] at h
        obtain ⟨rfl, rfl⟩ := h
        obtain ⟨g1, g2, g3, g4, g5⟩ := rk_dm_ok hd h1 h2
        have hy0 : ¬ y = 0 := fun h0 => by
          subst h0
          have : (0 : Int32).toInt = 0 := rfl
          omega
        refine ⟨x / y, ex, ey, by simp only [rk_mop, if_neg hy0], ⟨_, rfl, ?_, ?_⟩, fun _ _ _ _ q hq => by cases hq⟩
        · rw [rk_div_e (by omega) (by omega), g5]
          exact Int.ediv_le_ediv g2 g3
        · rw [rk_div_e (by omega) (by omega), g5]
          exact Int.ediv_le_ediv g2 g4
      · split at h
        · rename_i hn
          simp only [Option.some.injEq, Prod.mk.injEq] at h
          obtain ⟨rfl, rfl⟩ := h
          exact ⟨x / y, ex, ey, by simp only [rk_mop, if_neg (rk_nz_ok hn h2)], rk_full_ok _, fun _ _ _ _ q hq => by cases hq⟩
        · cases h
    | irem =>
      simp only at h
      split at h
      · rename_i a b c hd
        simp only [Option.some.injEq, Prod.mk.injEq] at h
        obtain ⟨rfl, rfl⟩ := h
        obtain ⟨g1, g2, g3, g4, g5⟩ := rk_dm_ok hd h1 h2
        have hy0 : ¬ y = 0 := fun h0 => by
          subst h0
          have : (0 : Int32).toInt = 0 := rfl
          omega
        have hz : (x - x / y * y).toInt = x.toInt % c := by rw [rk_rem_e (by omega) (by omega), g5]
        refine ⟨x - x / y * y, ex, ey, by simp only [rk_mop, if_neg hy0], ?_, fun r' e0 e1 e2 q hq => ?_⟩
        · have k1 := Int.emod_nonneg x.toInt (by omega : c ≠ 0)
          have k2 := Int.emod_lt_of_pos x.toInt g2
          split
          · rename_i hab
            have q1 := Int.ediv_le_ediv g2 g3
            have q2 := Int.ediv_le_ediv g2 g4
            have e1 := Int.mul_ediv_add_emod x.toInt c
            have e2 := Int.mul_ediv_add_emod a c
            have e3 := Int.mul_ediv_add_emod b c
            have e4 : x.toInt / c = a / c := by omega
            have e5 : b / c = a / c := by omega
            rw [e4] at e1
            rw [e5] at e3
            refine ⟨_, rfl, ?_, ?_⟩ <;> rw [hz] <;> omega
          · refine ⟨_, rfl, ?_, ?_⟩ <;> rw [hz] <;> omega
        · rw [List.mem_singleton] at hq
          subst hq
          simp only [rk_fact]
          rw [e0, e1]
          exact hz
      · split at h
        · rename_i hn
          simp only [Option.some.injEq, Prod.mk.injEq] at h
          obtain ⟨rfl, rfl⟩ := h
          exact ⟨x - x / y * y, ex, ey, by simp only [rk_mop, if_neg (rk_nz_ok hn h2)], rk_full_ok _, fun _ _ _ _ q hq => by cases hq⟩
        · cases h
    | iand =>
      simp only [Option.some.injEq, Prod.mk.injEq] at h
      obtain ⟨rfl, rfl⟩ := h
      exact ⟨x &&& y, ex, ey, rfl, rk_and_ok h1 h2, fun _ _ _ _ q hq => by cases hq⟩
    | ior =>
      simp only [Option.some.injEq, Prod.mk.injEq] at h
      obtain ⟨rfl, rfl⟩ := h
      exact ⟨x ||| y, ex, ey, rfl, rk_full_ok _, fun _ _ _ _ q hq => by cases hq⟩
    | ishl =>
      simp only [Option.some.injEq, Prod.mk.injEq] at h
      obtain ⟨rfl, rfl⟩ := h
      exact ⟨_, ex, ey, rfl, rk_full_ok _, fun _ _ _ _ q hq => by cases hq⟩
    | ishr =>
      simp only [Option.some.injEq, Prod.mk.injEq] at h
      obtain ⟨rfl, rfl⟩ := h
      exact ⟨_, ex, ey, rfl, rk_full_ok _, fun _ _ _ _ q hq => by cases hq⟩
    | iushr =>
      simp only [Option.some.injEq, Prod.mk.injEq] at h
      obtain ⟨rfl, rfl⟩ := h
      refine ⟨_, ex, ey, rfl, ?_, fun _ _ _ _ q hq => by cases hq⟩
      split
      · rename_i hc
        have hy := rk_cst_ok hc h2
        have : y = 8 := by
          apply Int32.toInt_inj.mp
          rw [hy]
          rfl
        subst this
        exact ⟨_, rfl, rk_ushr8 x⟩
      · exact rk_full_ok _
    | _ => simp at h
  · cases h
