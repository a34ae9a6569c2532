/-! numbers -/
def rs_i (a : Nat) : Int32 := Int32.ofBitVec (BitVec.ofNat 32 a)
/-- 2^31 more, without sign -/
def rs_b (x : Int32) : Nat := (x.toBitVec.toNat + 2147483648) % 4294967296
theorem rs_i_tn (a : Nat) : (rs_i a).toBitVec.toNat = a % 4294967296 := by
  show (BitVec.ofNat 32 a).toNat = _
  rw [BitVec.toNat_ofNat]
theorem rs_ext {x y : Int32} (h : x.toBitVec.toNat = y.toBitVec.toNat) : x = y := Int32.toBitVec_inj.mp (BitVec.eq_of_toNat_eq h)
theorem rs_tn_lt (x : Int32) : x.toBitVec.toNat < 4294967296 := x.toBitVec.isLt
theorem rs_b_lt (x : Int32) : rs_b x < 4294967296 := Nat.mod_lt _ (by decide)
theorem rs_bi_e (a : Nat) : rs_bi a = (a + 2147483648) % 4294967296 := rfl
theorem rs_b_i (a : Nat) : rs_b (rs_i a) = rs_bi a := by
  unfold rs_b
  rw [rs_i_tn, rs_bi_e]
  omega
theorem rs_b_toInt (x : Int32) : x.toInt = (rs_b x : Int) - 2147483648 := by
  have h := rs_tn_lt x
  show x.toBitVec.toInt = _
  unfold rs_b
  rw [BitVec.toInt_eq_toNat_cond]
  split <;> omega
theorem rs_b_inj {x y : Int32} (h : rs_b x = rs_b y) : x = y := by
  apply Int32.toInt_inj.mp
  rw [rs_b_toInt, rs_b_toInt, h]
theorem rs_i_mod (a : Nat) : rs_i (a % 4294967296) = rs_i a := rs_ext (by rw [rs_i_tn, rs_i_tn, Nat.mod_mod])
theorem rs_of_b {x : Int32} {n : Nat} (h : rs_b x = n) : x = rs_i ((n + 2147483648) % 4294967296) := by
  apply rs_b_inj
  have := rs_b_lt x
  rw [rs_b_i, rs_bi_e]
  omega
theorem rs_b_add (x : Int32) (c : Nat) : rs_b (x + rs_i c) = (rs_b x + c) % 4294967296 := by
  unfold rs_b
  rw [Int32.toBitVec_add, BitVec.toNat_add, rs_i_tn]
  omega
theorem rs_i_add (a b : Nat) : rs_i a + rs_i b = rs_i ((a + b) % 4294967296) := rs_ext (by
  rw [Int32.toBitVec_add, BitVec.toNat_add, rs_i_tn, rs_i_tn, rs_i_tn]
  omega)
theorem rs_i_sub (a b : Nat) : rs_i a - rs_i b = rs_i ((4294967296 - b % 4294967296 + a) % 4294967296) := rs_ext (by
  rw [Int32.toBitVec_sub, BitVec.toNat_sub, rs_i_tn, rs_i_tn, rs_i_tn]
  omega)
theorem rs_add_assoc (x : Int32) (a b : Nat) : x + rs_i a + rs_i b = x + rs_i ((a + b) % 4294967296) := by
  rw [Int32.add_assoc, rs_i_add]
theorem rs_x_sub (x : Int32) (a b : Nat) : x + rs_i a - rs_i b = x + rs_i ((a + (4294967296 - b % 4294967296)) % 4294967296) := rs_ext (by
  rw [Int32.toBitVec_sub, BitVec.toNat_sub, Int32.toBitVec_add, BitVec.toNat_add, Int32.toBitVec_add, BitVec.toNat_add, rs_i_tn, rs_i_tn, rs_i_tn]
  omega)
theorem rs_add0 (x : Int32) : x + rs_i 0 = x := rs_ext (by
  rw [Int32.toBitVec_add, BitVec.toNat_add, rs_i_tn]
  have := rs_tn_lt x
  omega)
theorem rs_i_mul (a b : Nat) : rs_i a * rs_i b = rs_i (a * b % 4294967296) := rs_ext (by
  rw [Int32.toBitVec_mul, BitVec.toNat_mul, rs_i_tn, rs_i_tn, rs_i_tn, ← Nat.mul_mod, Nat.mod_mod])
theorem rs_land_mod (a b : Nat) : (a % 4294967296) &&& (b % 4294967296) = (a &&& b) % 4294967296 := by
  have := @Nat.and_mod_two_pow a b 32
  exact this.symm
theorem rs_lor_mod (a b : Nat) : (a % 4294967296) ||| (b % 4294967296) = (a ||| b) % 4294967296 := by
  have := @Nat.or_mod_two_pow a b 32
  exact this.symm
theorem rs_i_and (a b : Nat) : rs_i a &&& rs_i b = rs_i ((a &&& b) % 4294967296) := rs_ext (by
  rw [Int32.toBitVec_and, BitVec.toNat_and, rs_i_tn, rs_i_tn, rs_i_tn, Nat.mod_mod, rs_land_mod])
theorem rs_i_or (a b : Nat) : rs_i a ||| rs_i b = rs_i ((a ||| b) % 4294967296) := rs_ext (by
  rw [Int32.toBitVec_or, BitVec.toNat_or, rs_i_tn, rs_i_tn, rs_i_tn, Nat.mod_mod, rs_lor_mod])
theorem rs_cnt (b : Nat) : ((rs_i b &&& 31).toBitVec.smod 32).toNat = b % 32 := by
  have h : (rs_i b &&& 31).toBitVec = BitVec.ofNat 32 (b % 32) := by
    apply BitVec.eq_of_toNat_eq
    rw [Int32.toBitVec_and, BitVec.toNat_and, rs_i_tn, BitVec.toNat_ofNat]
    have e : (31 : Int32).toBitVec.toNat = 2 ^ 5 - 1 := rfl
    rw [e, Nat.and_two_pow_sub_one_eq_mod]
    omega
  rw [h]
  have key : ∀ k, k < 32 → ((BitVec.ofNat 32 k).smod 32).toNat = k := by decide
  exact key _ (Nat.mod_lt _ (by decide))
theorem rs_i_shl (a b : Nat) : rs_i a <<< (rs_i b &&& 31) = rs_i (Nat.shiftLeft a (b % 32) % 4294967296) := rs_ext (by
  rw [pk_shl _ _ _ (rs_cnt b), rs_i_tn, rs_i_tn, Nat.mod_mod]
  show a % 4294967296 * 2 ^ (b % 32) % 2 ^ 32 = (a <<< (b % 32)) % 4294967296
  rw [Nat.shiftLeft_eq, Nat.mod_mul_mod])
theorem rs_i_pos {a : Nat} (h : a ≤ 2147483647) : (rs_i a).toInt = (a : Int) := by
  rw [rs_b_toInt, rs_b_i, rs_bi_e]
  omega
theorem rs_i_shr {a : Nat} (b : Nat) (h : a ≤ 2147483647) : rs_i a >>> (rs_i b &&& 31) = rs_i (Nat.shiftRight a (b % 32)) := by
  apply Int32.toInt_inj.mp
  rw [pk_shr _ _ _ (rs_cnt b), rs_i_pos h]
  have h2 : Nat.shiftRight a (b % 32) ≤ a := by
    show a >>> (b % 32) ≤ a
    rw [Nat.shiftRight_eq_div_pow]
    exact Nat.div_le_self _ _
  rw [rs_i_pos (by omega)]
  show (a : Int) >>> (b % 32) = ((a >>> (b % 32) : Nat) : Int)
  exact Int.natCast_shiftRight a (b % 32) |>.symm
theorem rs_i_ushr (a b : Nat) : ((rs_i a).toUInt32 >>> ((rs_i b).toUInt32 &&& Int32.toUInt32 31)).toInt32 = rs_i (Nat.shiftRight (a % 4294967296) (b % 32)) := by
  have hc : (((rs_i b).toUInt32 &&& Int32.toUInt32 31).toBitVec % 32).toNat = b % 32 := by
    rw [BitVec.toNat_umod, UInt32.toBitVec_and, BitVec.toNat_and]
    have e : (Int32.toUInt32 31).toBitVec.toNat = 2 ^ 5 - 1 := rfl
    have e2 : (rs_i b).toUInt32.toBitVec.toNat = b % 4294967296 := rs_i_tn b
    have e3 : (32 : BitVec 32).toNat = 32 := rfl
    rw [e, e2, e3, Nat.and_two_pow_sub_one_eq_mod]
    omega
  apply rs_ext
  rw [pk_ushr _ _ _ hc, rs_i_tn, rs_i_tn]
  show _ = ((a % 4294967296) >>> (b % 32)) % 4294967296
  rw [Nat.shiftRight_eq_div_pow]
  have h4 : a % 4294967296 < 4294967296 := Nat.mod_lt _ (by decide)
  generalize a % 4294967296 = n at h4 ⊢
  exact (Nat.mod_eq_of_lt (Nat.lt_of_le_of_lt (Nat.div_le_self _ _) h4)).symm
theorem rs_i_div {a b : Nat} (ha : a ≤ 2147483647) (hb : b ≤ 2147483647) (h0 : 1 ≤ b) : rs_i a / rs_i b = rs_i (a / b) := by
  apply Int32.toInt_inj.mp
  have h2 : a / b ≤ a := Nat.div_le_self _ _
  rw [rk_div_e (by rw [rs_i_pos ha]; omega) (by rw [rs_i_pos hb]; omega), rs_i_pos ha, rs_i_pos hb, rs_i_pos (by omega)]
  exact (Int.natCast_ediv a b).symm
theorem rs_i_rem {a b : Nat} (ha : a ≤ 2147483647) (hb : b ≤ 2147483647) (h0 : 1 ≤ b) : rs_i a - rs_i a / rs_i b * rs_i b = rs_i (a % b) := by
  apply Int32.toInt_inj.mp
  have h2 : a % b ≤ a := Nat.mod_le _ _
  rw [rk_rem_e (by rw [rs_i_pos ha]; omega) (by rw [rs_i_pos hb]; omega), rs_i_pos ha, rs_i_pos hb, rs_i_pos (by omega)]
  exact (Int.natCast_emod a b).symm
theorem rs_i_ne0 {b : Nat} (hb : b ≤ 2147483647) (h0 : 1 ≤ b) : ¬ rs_i b = 0 := by
  intro h
  have h1 := congrArg Int32.toInt h
  rw [rs_i_pos hb] at h1
  have : (0 : Int32).toInt = 0 := rfl
  omega
/-- the lowest bit -/
theorem rs_and1 (x : Int32) : x &&& rs_i 1 = rs_i (rs_b x % 2) := rs_ext (by
  rw [Int32.toBitVec_and, BitVec.toNat_and, rs_i_tn, rs_i_tn]
  have e : (1 : Nat) % 4294967296 = 2 ^ 1 - 1 := rfl
  rw [e, Nat.and_two_pow_sub_one_eq_mod]
  unfold rs_b
  have := rs_tn_lt x
  omega)
theorem rs_rem2 {x : Int32} (h : 2147483648 ≤ rs_b x) : x - x / rs_i 2 * rs_i 2 = x &&& rs_i 1 := by
  rw [rs_and1]
  have h1 := rs_b_lt x
  have h2 := rs_of_b (x := x) rfl
  generalize rs_b x = n at h h1 h2 ⊢
  rw [h2, show (n + 2147483648) % 4294967296 = n - 2147483648 by omega, rs_i_rem (by omega) (by decide) (by decide)]
  rw [show (n - 2147483648) % 2 = n % 2 by omega]
def rs_sg (a : Nat) : Int := if a < 2147483648 then (a : Int) else (a : Int) - 4294967296
theorem rs_sg_ok {a : Nat} (h : a < 4294967296) : Int32.ofInt (rs_sg a) = rs_i a := by
  apply Int32.toInt_inj.mp
  rw [Int32.toInt_ofInt, rs_b_toInt (rs_i a), rs_b_i, rs_bi_e]
  unfold rs_sg
  split
  · rw [rk_bmod] <;> omega
  · rw [rk_bmod] <;> omega
theorem rs_cl {a : Nat} (h : a ≤ 2147483647) : (rs_i a).toNatClampNeg = a := by
  show (rs_i a).toInt.toNat = a
  rw [rs_i_pos h]
  omega
