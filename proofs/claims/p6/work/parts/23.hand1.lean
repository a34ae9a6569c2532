section RKX
variable (base : Nat) (l : Launch) (cI c1 c2 c3 c4 c5 : ClassId) (D : va_G) (ad adV : Nat → Nat)
theorem c_X12_copies_0 : rm_Mc base l cI c1 c2 c3 c4 c5 D ad adV rk_q_X12_copies [(2, 12, 0), (2, 24, 0), (2, 30, 0)] [((9, 0, 0), [])] 0 259 := sorry
theorem c_X12_copies_1 : rm_Mc base l cI c1 c2 c3 c4 c5 D ad adV rk_q_X12_copies [(2, 12, 0), (2, 30, 0), (2, 24, 0)] [((9, 0, 0), [])] 0 103 := sorry
theorem c_X12_copies_2 : rm_Mc base l cI c1 c2 c3 c4 c5 D ad adV rk_q_X12_copies [(2, 12, 0), (2, 24, 0), (2, 31, 0)] [((9, 0, 0), [])] 0 259 := sorry
theorem c_X12_copies_3 : rm_Mc base l cI c1 c2 c3 c4 c5 D ad adV rk_q_X12_copies [(2, 12, 0), (2, 31, 0), (2, 24, 0)] [((9, 0, 0), [])] 0 103 := sorry
theorem c_X12_settles_0 : rm_Mi base l cI c1 c2 c3 c4 c5 D ad adV rk_q_X12_settles [(2, 12, 0), (0, 0, 39)] [((9, 0, 0), [])] 2 3 := sorry
theorem c_X12_joins_0 : rm_Mi base l cI c1 c2 c3 c4 c5 D ad adV rk_q_X12_joins [(2, 12, 0), (0, 0, 39), (0, 0, 39)] [((9, 0, 0), [])] 4 3 := sorry
theorem c_X12_unplug_0 : rm_Mi base l cI c1 c2 c3 c4 c5 D ad adV rk_q_X12_unplug [(2, 12, 0), (0, -2147483648, 2147483647)] [((0, -1, 39), [])] 4 3 := sorry
theorem c_X12_broken_0 : rm_Mc base l cI c1 c2 c3 c4 c5 D ad adV rk_q_X12_broken [(2, 12, 0), (0, -2147483648, 2147483647), (0, 0, 1)] [((0, 0, 1), [])] 0 1 := sorry
theorem c_X12_hearsAll_0 : rm_Mi base l cI c1 c2 c3 c4 c5 D ad adV rk_q_X12_hearsAll [(2, 12, 0)] [((9, 0, 0), [])] 120 7 := sorry
theorem c_X12_grows_0 : rm_Mi base l cI c1 c2 c3 c4 c5 D ad adV rk_q_X12_grows [(2, 12, 0), (0, 0, 39)] [((9, 0, 0), [])] 3 3 := sorry
theorem c_X12_takesAtEnd_0 : rm_Mi base l cI c1 c2 c3 c4 c5 D ad adV rk_q_X12_takesAtEnd [(2, 12, 0), (0, 0, 7)] [((9, 0, 0), [])] 3 3 := sorry
theorem c_X12_sends_0 : rm_Mi base l cI c1 c2 c3 c4 c5 D ad adV rk_q_X12_sends [(2, 12, 0), (0, 0, 39)] [((0, -1, 323), [])] 0 3 := sorry
theorem c_X12_feed_0 : rm_Mc base l cI c1 c2 c3 c4 c5 D ad adV rk_q_X12_feed [(2, 12, 0), (0, -2147483648, 2147483647), (0, -2147483648, 2147483647), (0, -2147483648, 2147483647), (0, -2147483648, 2147483647), (0, -2147483648, 2147483647)] [((0, -1, 400), [])] 0 17 := sorry
theorem c_X12_send_0 : rm_Mc base l cI c1 c2 c3 c4 c5 D ad adV rk_q_X12_send [(2, 12, 0), (0, -2147483648, 2147483647)] [((0, -1, 120), [])] 0 19 := sorry
theorem c_X12_behindBlanks_0 : rm_Mc base l cI c1 c2 c3 c4 c5 D ad adV rk_q_X12_behindBlanks [(2, 12, 0)] [((0, -1, 255), [])] 0 1 := sorry
theorem c_X12_errs_0 : rm_Mc base l cI c1 c2 c3 c4 c5 D ad adV rk_q_X12_errs [(2, 12, 0), (0, -2147483648, 2147483647), (0, -2147483648, 2147483647)] [((0, 0, 0), [])] 0 1 := sorry
theorem c_X12_takesWord_0 : rm_Mc base l cI c1 c2 c3 c4 c5 D ad adV rk_q_X12_takesWord [(2, 12, 0), (2, 1000, 0)] [((0, 0, 1), [])] 0 1 := sorry
theorem c_X12_takesWord_1 : rm_Mc base l cI c1 c2 c3 c4 c5 D ad adV rk_q_X12_takesWord [(2, 12, 0), (2, 1001, 0)] [((0, 0, 1), [])] 0 1 := sorry
theorem c_X12_takesWord_2 : rm_Mc base l cI c1 c2 c3 c4 c5 D ad adV rk_q_X12_takesWord [(2, 12, 0), (2, 1002, 0)] [((0, 0, 1), [])] 0 1 := sorry
theorem c_X12_takesWord_3 : rm_Mc base l cI c1 c2 c3 c4 c5 D ad adV rk_q_X12_takesWord [(2, 12, 0), (2, 1003, 0)] [((0, 0, 1), [])] 0 1 := sorry
theorem c_X12_takesWord_4 : rm_Mc base l cI c1 c2 c3 c4 c5 D ad adV rk_q_X12_takesWord [(2, 12, 0), (2, 1004, 0)] [((0, 0, 1), [])] 0 1 := sorry
theorem c_X12_number_0 : rm_Mc base l cI c1 c2 c3 c4 c5 D ad adV rk_q_X12_number [(2, 12, 0), (0, 0, 0), (0, 7, 7)] [((0, 0, 7), [])] 0 1 := sorry
theorem c_X12_number_1 : rm_Mc base l cI c1 c2 c3 c4 c5 D ad adV rk_q_X12_number [(2, 12, 0), (0, 0, 0), (0, 3, 3)] [((0, 0, 3), [])] 0 1 := sorry
theorem c_X12_number_2 : rm_Mc base l cI c1 c2 c3 c4 c5 D ad adV rk_q_X12_number [(2, 12, 0), (0, 1, 1), (0, 7, 7)] [((0, 0, 7), [])] 0 1 := sorry
theorem c_X12_number_3 : rm_Mc base l cI c1 c2 c3 c4 c5 D ad adV rk_q_X12_number [(2, 12, 0), (0, 32, 32), (0, 95, 95)] [((0, 0, 95), [])] 0 1 := sorry
theorem c_X12_sign_0 : rm_Mc base l cI c1 c2 c3 c4 c5 D ad adV rk_q_X12_sign [(2, 12, 0), (0, 0, 255)] [((9, 0, 0), [])] 0 1 := sorry
theorem c_X12_readSocket_0 : rm_Mc base l cI c1 c2 c3 c4 c5 D ad adV rk_q_X12_readSocket [(2, 12, 0), (0, -1, 39)] [((0, 0, 39), [])] 0 1 := sorry
theorem c_X12_readTable_0 : rm_Mc base l cI c1 c2 c3 c4 c5 D ad adV rk_q_X12_readTable [(2, 12, 0)] [((9, 0, 0), [])] 0 1 := sorry
theorem c_X12_packetAt_0 : rm_Mc base l cI c1 c2 c3 c4 c5 D ad adV rk_q_X12_packetAt [(2, 12, 0), (0, -2147483648, 2147483647), (0, -2147483648, 2147483647)] [((0, -1, -1), []), ((0, 169, 384), [(1, (0, 0, 7))])] 0 0 := sorry
theorem c_X12_way_0 : rm_Mc base l cI c1 c2 c3 c4 c5 D ad adV rk_q_X12_way [(2, 12, 0), (0, -2147483648, 2147483647), (0, -2147483648, 2147483647), (0, -2147483648, 2147483647)] [((0, -2147483648, 2147483647), [])] 0 1 := sorry
theorem c_X12_log_0 : rm_Mc base l cI c1 c2 c3 c4 c5 D ad adV rk_q_X12_log [(2, 12, 0), (0, -2147483648, 2147483647), (0, -2147483648, 2147483647)] [((0, -2147483648, 2147483647), [])] 0 1 := sorry
theorem c_X12_sound_0 : rm_Mc base l cI c1 c2 c3 c4 c5 D ad adV rk_q_X12_sound [(2, 12, 0), (0, -2147483648, 2147483647)] [((0, -1, 1), [])] 0 1 := sorry
end RKX
