/-! the checker's domain: what a value may be -/
abbrev rk_AV : Type := Nat × Int × Int
def rk_toI (v : Value) : Int := match v with
  | .int x => x.toInt
  | _ => 0
/-- 0 an int in [a, b]; 1 a counter, 0 .. X + a; 2 a cell of kind a; 3 null or a cell of kind a; else anything of one slot -/
def rk_has (G : Nat → Option Nat) (X : Int) (t : rk_AV) (v : Value) : Prop := match t with
  | (0, a, b) => ∃ x : Int32, v = .int x ∧ a ≤ x.toInt ∧ x.toInt ≤ b
  | (1, a, _) => ∃ x : Int32, v = .int x ∧ 0 ≤ x.toInt ∧ x.toInt ≤ X + a
  | (2, k, _) => ∃ a : Nat, v = .ref a ∧ G a = some k.toNat
  | (3, k, _) => v = .null ∨ ∃ a : Nat, v = .ref a ∧ G a = some k.toNat
  | _ => v = .null ∨ (∃ a : Nat, v = .ref a) ∨ ∃ x : Int32, v = .int x
def rk_le (t u : rk_AV) : Bool := match u with
  | (0, c, d) => (match t with
    | (0, a, b) => decide (c ≤ a) && decide (b ≤ d)
    | (1, _, _) => decide (c ≤ 0) && decide (2147483647 ≤ d)
    | _ => false)
  | (1, c, _) => (match t with
    | (0, a, b) => decide (0 ≤ a) && decide (b ≤ c)
    | (1, a, _) => decide (a ≤ c)
    | _ => false)
  | (2, k, _) => (match t with
    | (2, j, _) => decide (j = k)
    | _ => false)
  | (3, k, _) => (match t with
    | (2, j, _) => decide (j = k)
    | (3, j, _) => decide (j = k)
    | _ => false)
  | _ => true
theorem rk_i_lo (x : Int32) : -2147483648 ≤ x.toInt := by
  have h := Int32.le_toInt x
  simpa using h
theorem rk_i_hi (x : Int32) : x.toInt ≤ 2147483647 := by
  have h := Int32.toInt_lt x
  omega
theorem rk_has_cat {G : Nat → Option Nat} {X : Int} {t : rk_AV} {v : Value} (h : rk_has G X t v) : v.category = 1 := by
  obtain ⟨n, a, b⟩ := t
  rcases n with _ | _ | _ | _ | n
  · obtain ⟨x, rfl, -⟩ := h; rfl
  · obtain ⟨x, rfl, -⟩ := h; rfl
  · obtain ⟨x, rfl, -⟩ := h; rfl
  · rcases h with rfl | ⟨x, rfl, -⟩ <;> rfl
  · rcases h with rfl | ⟨x, rfl⟩ | ⟨x, rfl⟩ <;> rfl
theorem rk_has_any {G : Nat → Option Nat} {X : Int} {t : rk_AV} {v : Value} (h : rk_has G X t v) : v = .null ∨ (∃ a : Nat, v = .ref a) ∨ ∃ x : Int32, v = .int x := by
  obtain ⟨n, a, b⟩ := t
  rcases n with _ | _ | _ | _ | n
  · obtain ⟨x, rfl, -⟩ := h; exact Or.inr (Or.inr ⟨_, rfl⟩)
  · obtain ⟨x, rfl, -⟩ := h; exact Or.inr (Or.inr ⟨_, rfl⟩)
  · obtain ⟨x, rfl, -⟩ := h; exact Or.inr (Or.inl ⟨_, rfl⟩)
  · rcases h with rfl | ⟨x, rfl, -⟩
    · exact Or.inl rfl
    · exact Or.inr (Or.inl ⟨_, rfl⟩)
  · exact h
theorem rk_le_ok {G : Nat → Option Nat} {X : Int} {t u : rk_AV} {v : Value} (hX : 0 ≤ X) (h : rk_le t u = true) (hv : rk_has G X t v) : rk_has G X u v := by
  obtain ⟨m, c, d⟩ := u
  have hany := rk_has_any hv
  obtain ⟨n, a, b⟩ := t
  rcases m with _ | _ | _ | _ | m
  · rcases n with _ | _ | n
    · simp only [rk_le, Bool.and_eq_true, decide_eq_true_eq] at h
      obtain ⟨x, rfl, h1, h2⟩ := hv
      exact ⟨x, rfl, by omega, by omega⟩
    · simp only [rk_le, Bool.and_eq_true, decide_eq_true_eq] at h
      obtain ⟨x, rfl, h1, h2⟩ := hv
      have := rk_i_hi x
      exact ⟨x, rfl, by omega, by omega⟩
    · simp [rk_le] at h
  · rcases n with _ | _ | n
    · simp only [rk_le, Bool.and_eq_true, decide_eq_true_eq] at h
      obtain ⟨x, rfl, h1, h2⟩ := hv
      exact ⟨x, rfl, by omega, by omega⟩
    · simp only [rk_le, decide_eq_true_eq] at h
      obtain ⟨x, rfl, h1, h2⟩ := hv
      exact ⟨x, rfl, by omega, by omega⟩
    · simp [rk_le] at h
  · rcases n with _ | _ | _ | n
    · simp [rk_le] at h
    · simp [rk_le] at h
    · simp only [rk_le, decide_eq_true_eq] at h
      subst h
      exact hv
    · simp [rk_le] at h
  · rcases n with _ | _ | _ | _ | n
    · simp [rk_le] at h
    · simp [rk_le] at h
    · simp only [rk_le, decide_eq_true_eq] at h
      subst h
      exact Or.inr hv
    · simp only [rk_le, decide_eq_true_eq] at h
      subst h
      exact hv
    · simp [rk_le] at h
  · exact hany
theorem rk_has_X {G : Nat → Option Nat} {X Y : Int} {t : rk_AV} {v : Value} (hXY : X ≤ Y) (h : rk_has G X t v) : rk_has G Y t v := by
  obtain ⟨n, a, b⟩ := t
  rcases n with _ | _ | _ | _ | n
  · exact h
  · obtain ⟨x, rfl, h1, h2⟩ := h
    exact ⟨x, rfl, h1, by omega⟩
  · exact h
  · exact h
  · exact h
theorem rk_has_G {G G2 : Nat → Option Nat} {X : Int} {t : rk_AV} {v : Value} (hG : ∀ a k, G a = some k → G2 a = some k) (h : rk_has G X t v) : rk_has G2 X t v := by
  obtain ⟨n, a, b⟩ := t
  rcases n with _ | _ | _ | _ | n
  · exact h
  · exact h
  · obtain ⟨x, rfl, h1⟩ := h
    exact ⟨x, rfl, hG _ _ h1⟩
  · rcases h with rfl | ⟨x, rfl, h1⟩
    · exact Or.inl rfl
    · exact Or.inr ⟨x, rfl, hG _ _ h1⟩
  · exact h
/-- as an int -/
def rk_iv (t : rk_AV) : Option (Int × Int) := match t with
  | (0, a, b) => some (a, b)
  | (1, _, _) => some (0, 2147483647)
  | _ => none
theorem rk_iv_ok {G : Nat → Option Nat} {X : Int} {t : rk_AV} {v : Value} {a b : Int} (h : rk_iv t = some (a, b)) (hv : rk_has G X t v) : ∃ x : Int32, v = .int x ∧ a ≤ x.toInt ∧ x.toInt ≤ b := by
  obtain ⟨n, c, d⟩ := t
  rcases n with _ | _ | n
  · simp only [rk_iv, Option.some.injEq, Prod.mk.injEq] at h
    obtain ⟨rfl, rfl⟩ := h
    exact hv
  · simp only [rk_iv, Option.some.injEq, Prod.mk.injEq] at h
    obtain ⟨rfl, rfl⟩ := h
    obtain ⟨x, rfl, h1, h2⟩ := hv
    exact ⟨x, rfl, h1, rk_i_hi x⟩
  · simp [rk_iv] at h
def rk_full : rk_AV := (0, -2147483648, 2147483647)
def rk_fit (a b : Int) : rk_AV := if -2147483648 ≤ a ∧ b ≤ 2147483647 then (0, a, b) else rk_full
theorem rk_full_ok {G : Nat → Option Nat} {X : Int} (x : Int32) : rk_has G X rk_full (.int x) := ⟨x, rfl, rk_i_lo x, rk_i_hi x⟩
/-- a whole number that fits is what the machine has -/
theorem rk_bmod {n : Int} (h1 : -2147483648 ≤ n) (h2 : n ≤ 2147483647) : n.bmod (2 ^ 32) = n := by
  rw [Int.bmod_eq_of_le] <;> omega
theorem rk_add_e {x y : Int32} (h1 : -2147483648 ≤ x.toInt + y.toInt) (h2 : x.toInt + y.toInt ≤ 2147483647) : (x + y).toInt = x.toInt + y.toInt := by
  rw [Int32.toInt_add, rk_bmod h1 h2]
theorem rk_sub_e {x y : Int32} (h1 : -2147483648 ≤ x.toInt - y.toInt) (h2 : x.toInt - y.toInt ≤ 2147483647) : (x - y).toInt = x.toInt - y.toInt := by
  rw [Int32.toInt_sub, rk_bmod h1 h2]
theorem rk_mul_e {x y : Int32} (h1 : -2147483648 ≤ x.toInt * y.toInt) (h2 : x.toInt * y.toInt ≤ 2147483647) : (x * y).toInt = x.toInt * y.toInt := by
  rw [Int32.toInt_mul, rk_bmod h1 h2]
theorem rk_nI {x : Int32} (h : 0 ≤ x.toInt) : ∃ n : Nat, x = nI n ∧ x.toInt = (n : Int) ∧ n < 2 ^ 31 := by
  have h2 := rk_i_hi x
  refine ⟨x.toInt.toNat, ?_, by omega, by omega⟩
  apply Int32.toInt_inj.mp
  rw [nI_toInt (by omega)]
  omega
theorem rk_div_e {x y : Int32} (h1 : 0 ≤ x.toInt) (h2 : 0 < y.toInt) : (x / y).toInt = x.toInt / y.toInt := by
  obtain ⟨a, rfl, e1, l1⟩ := rk_nI h1
  obtain ⟨b, rfl, e2, l2⟩ := rk_nI (Int.le_of_lt h2)
  rw [pk_div l1 (by omega) l2, e1, e2, nI_toInt (by
    have := Nat.div_le_self a b
    omega)]
  exact Int.natCast_ediv a b
theorem rk_rem_e {x y : Int32} (h1 : 0 ≤ x.toInt) (h2 : 0 < y.toInt) : (x - x / y * y).toInt = x.toInt % y.toInt := by
  obtain ⟨a, rfl, e1, l1⟩ := rk_nI h1
  obtain ⟨b, rfl, e2, l2⟩ := rk_nI (Int.le_of_lt h2)
  rw [pk_rem l1 (by omega) l2, e1, e2, nI_toInt (by
    have := Nat.mod_le a b
    omega)]
  exact Int.natCast_emod a b
theorem rk_and_r {x y : Int32} (h : 0 ≤ y.toInt) : 0 ≤ (x &&& y).toInt ∧ (x &&& y).toInt ≤ y.toInt := by
  obtain ⟨b, rfl, e2, l2⟩ := rk_nI h
  have hb : (nI b).toBitVec.toNat = b := pk_tn (by omega)
  have h1 : (x &&& nI b).toBitVec.toNat ≤ b := by
    rw [Int32.toBitVec_and, BitVec.toNat_and, hb]
    exact Nat.and_le_right
  have h2 : (x &&& nI b).toInt = ((x &&& nI b).toBitVec.toNat : Int) := by
    show (x &&& nI b).toBitVec.toInt = _
    rw [BitVec.toInt_eq_toNat_cond, if_pos (by omega)]
  rw [h2, e2]
  omega
theorem rk_and_c (x y : Int32) : x &&& y = y &&& x := by
  apply Int32.toBitVec_inj.mp
  rw [Int32.toBitVec_and, Int32.toBitVec_and, BitVec.and_comm]
theorem rk_and_l {x y : Int32} (h : 0 ≤ x.toInt) : 0 ≤ (x &&& y).toInt ∧ (x &&& y).toInt ≤ x.toInt := by
  rw [rk_and_c]
  exact rk_and_r h
theorem rk_ushr8 (x : Int32) : 0 ≤ (x.toUInt32 >>> ((8 : Int32).toUInt32 &&& Int32.toUInt32 31)).toInt32.toInt ∧ (x.toUInt32 >>> ((8 : Int32).toUInt32 &&& Int32.toUInt32 31)).toInt32.toInt ≤ 16777215 := by
  have h := pk_ushr x 8 8 (by decide)
  have hx : x.toBitVec.toNat < 2 ^ 32 := x.toBitVec.isLt
  generalize (x.toUInt32 >>> ((8 : Int32).toUInt32 &&& Int32.toUInt32 31)).toInt32 = z at h ⊢
  have h2 : z.toInt = (z.toBitVec.toNat : Int) := by
    show z.toBitVec.toInt = _
    rw [BitVec.toInt_eq_toNat_cond, if_pos (by omega)]
  rw [h2, h]
  omega
