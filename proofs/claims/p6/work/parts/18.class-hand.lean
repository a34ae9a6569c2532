section RKX
variable (base : Nat) (l : Launch) (cI c1 c2 c3 c4 c5 : ClassId) (D : va_G) (ad adV : Nat → Nat)
theorem c_X9_takesWord_0 : rk_Mc base l cI c1 c2 c3 c4 c5 D ad adV rk_q_X9_takesWord [(2, 9, 0), (2, 1000, 0)] [((0, 0, 1), [])] 0 1 := sorry
theorem c_X9_takesWord_1 : rk_Mc base l cI c1 c2 c3 c4 c5 D ad adV rk_q_X9_takesWord [(2, 9, 0), (2, 1001, 0)] [((0, 0, 1), [])] 0 1 := sorry
theorem c_X9_takesWord_2 : rk_Mc base l cI c1 c2 c3 c4 c5 D ad adV rk_q_X9_takesWord [(2, 9, 0), (2, 1002, 0)] [((0, 0, 1), [])] 0 1 := sorry
theorem c_X9_takesWord_3 : rk_Mc base l cI c1 c2 c3 c4 c5 D ad adV rk_q_X9_takesWord [(2, 9, 0), (2, 1003, 0)] [((0, 0, 1), [])] 0 1 := sorry
theorem c_X9_takesWord_4 : rk_Mc base l cI c1 c2 c3 c4 c5 D ad adV rk_q_X9_takesWord [(2, 9, 0), (2, 1004, 0)] [((0, 0, 1), [])] 0 1 := sorry
end RKX
