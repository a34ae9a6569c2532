def rs_e0 (j : Nat) : rs_E := [(0, 4294967295, 3 + j), (0, 4294967295, 0), (0, 4294967295, 0), (0, 4294967295, 0), (0, 4294967295, 0), (0, 4294967295, 0), (2147483654, 2147483654, 0)]
def rs_one : rs_KR := fun _ v _ _ => match v with
  | (t, a, _) => match Nat.beq t 0 with
    | false => false
    | true => Nat.beq a 1
noncomputable def rs_law (fuel j : Nat) : Bool := rs_run rs_ct fuel 173 rs_one 0 (rs_e0 j) [(6, 0, 0)] [] (.leaf (9, 0, 0, .leaf (9, 0, 0))) 0 0 0
theorem rs_case6 : rs_law 10000 6 = true := by decide +kernel
