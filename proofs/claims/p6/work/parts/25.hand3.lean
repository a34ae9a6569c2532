section RKX
variable (base : Nat) (l : Launch) (cI c1 c2 c3 c4 c5 : ClassId) (D : va_G) (ad adV : Nat → Nat)
theorem c_X12_spillsOne_0 : rm_Mi base l cI c1 c2 c3 c4 c5 D ad adV rk_q_X12_spillsOne [(2, 12, 0), (0, 0, 31), (0, 0, 257)] [((9, 0, 0), [])] 3 3 := sorry
theorem c_X12_looksAt_0 : rm_Mi base l cI c1 c2 c3 c4 c5 D ad adV rk_q_X12_looksAt [(2, 12, 0), (0, 0, 31)] [((9, 0, 0), [])] 105 3 := sorry
theorem c_X12_text_0 : rm_Mi base l cI c1 c2 c3 c4 c5 D ad adV rk_q_X12_text [(2, 12, 0)] [((0, -1, 400), [])] 2000 1911 := sorry
end RKX
