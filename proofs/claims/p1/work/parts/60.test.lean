def rs_e0 (j : Nat) : rs_E := [(0, 4294967295, 3 + j), (0, 4294967295, 0), (0, 4294967295, 0), (0, 4294967295, 0), (0, 4294967295, 0), (0, 4294967295, 0), (2147483654, 2147483654, 0)]
noncomputable def rs_one : rs_KR := fun v _ _ _ => (@Bool.rec (fun _ => Bool) false (Nat.beq v.2.1 1) (Nat.beq v.1 0))
noncomputable def rs_law (fuel j : Nat) : Bool := rs_run rs_ct fuel 173 rs_one 0 [] [(6, 0, 0)] (rs_e0 j) (.leaf (99, 0, .leaf (9, 0, 0)), 0, 0, 0)
theorem rs_case3 : rs_law 10000 3 = true := by decide +kernel
