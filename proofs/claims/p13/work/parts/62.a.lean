theorem rl_ix {i : Int32} {iN N : Nat} (hi : i.toInt = (iN : Int)) (k : Nat) (hk : k < 6) (hN : iN + 6 ≤ N) (hN9 : N ≤ 3072) : (i + Int32.ofInt (k : Int)).toInt = ((iN + k : Nat) : Int) := by
  have e : (Int32.ofInt (k : Int)).toInt = (k : Int) := by
    have : k = 0 ∨ k = 1 ∨ k = 2 ∨ k = 3 ∨ k = 4 ∨ k = 5 := by omega
    rcases this with rfl | rfl | rfl | rfl | rfl | rfl <;> rfl
  rw [rk_add_e (by rw [e]; omega) (by rw [e]; omega), e, hi]
  omega
theorem rl_lk_13 : rj_lk R_law 13 rk_q_X11_plug room_1 2 := ⟨rk_tat_ok (i := 567) (by decide +kernel), rk_tat_ok (i := 120) (by decide +kernel), ⟨by decide, by decide, by decide +kernel⟩, rk_tat_ok (i := 564) (by decide +kernel), by decide⟩
theorem rl_in_13 : Jvm.Cond.instanceMethod rk_q_X11_plug.1 ∈ rk_tbl := rk_tat_ok (i := 565) (by decide +kernel)
theorem rl_se_13 : Jvm.Cond.selects rk_q_X11_plug.1.cls rk_q_X11_plug.1 rk_q_X11_plug.1 ∈ rk_tbl := rk_tat_ok (i := 566) (by decide +kernel)
theorem rl_lk_17 : rj_lk R_law 17 rk_q_X12_plug room_1 2 := ⟨rk_tat_ok (i := 1201) (by decide +kernel), rk_tat_ok (i := 132) (by decide +kernel), ⟨by decide, by decide, by decide +kernel⟩, rk_tat_ok (i := 1198) (by decide +kernel), by decide⟩
theorem rl_in_17 : Jvm.Cond.instanceMethod rk_q_X12_plug.1 ∈ rk_tbl := rk_tat_ok (i := 1199) (by decide +kernel)
theorem rl_se_17 : Jvm.Cond.selects rk_q_X12_plug.1.cls rk_q_X12_plug.1 rk_q_X12_plug.1 ∈ rk_tbl := rk_tat_ok (i := 1200) (by decide +kernel)
theorem rl_lk_18 : rj_lk R_law 18 rk_q_X11_unplug room_1 1 := ⟨rk_tat_ok (i := 613) (by decide +kernel), rk_tat_ok (i := 120) (by decide +kernel), ⟨by decide, by decide, by decide +kernel⟩, rk_tat_ok (i := 610) (by decide +kernel), by decide⟩
theorem rl_in_18 : Jvm.Cond.instanceMethod rk_q_X11_unplug.1 ∈ rk_tbl := rk_tat_ok (i := 611) (by decide +kernel)
theorem rl_se_18 : Jvm.Cond.selects rk_q_X11_unplug.1.cls rk_q_X11_unplug.1 rk_q_X11_unplug.1 ∈ rk_tbl := rk_tat_ok (i := 612) (by decide +kernel)
theorem rl_lk_22 : rj_lk R_law 22 rk_q_X12_unplug room_1 1 := ⟨rk_tat_ok (i := 1281) (by decide +kernel), rk_tat_ok (i := 132) (by decide +kernel), ⟨by decide, by decide, by decide +kernel⟩, rk_tat_ok (i := 1278) (by decide +kernel), by decide⟩
theorem rl_in_22 : Jvm.Cond.instanceMethod rk_q_X12_unplug.1 ∈ rk_tbl := rk_tat_ok (i := 1279) (by decide +kernel)
theorem rl_se_22 : Jvm.Cond.selects rk_q_X12_unplug.1.cls rk_q_X12_unplug.1 rk_q_X12_unplug.1 ∈ rk_tbl := rk_tat_ok (i := 1280) (by decide +kernel)
theorem rl_lk_23 : rj_lk R_law 23 rk_q_X11_broken room_1 2 := ⟨rk_tat_ok (i := 622) (by decide +kernel), rk_tat_ok (i := 120) (by decide +kernel), ⟨by decide, by decide, by decide +kernel⟩, rk_tat_ok (i := 619) (by decide +kernel), by decide⟩
theorem rl_in_23 : Jvm.Cond.instanceMethod rk_q_X11_broken.1 ∈ rk_tbl := rk_tat_ok (i := 620) (by decide +kernel)
theorem rl_se_23 : Jvm.Cond.selects rk_q_X11_broken.1.cls rk_q_X11_broken.1 rk_q_X11_broken.1 ∈ rk_tbl := rk_tat_ok (i := 621) (by decide +kernel)
theorem rl_lk_27 : rj_lk R_law 27 rk_q_X12_broken room_1 2 := ⟨rk_tat_ok (i := 1289) (by decide +kernel), rk_tat_ok (i := 132) (by decide +kernel), ⟨by decide, by decide, by decide +kernel⟩, rk_tat_ok (i := 1286) (by decide +kernel), by decide⟩
theorem rl_in_27 : Jvm.Cond.instanceMethod rk_q_X12_broken.1 ∈ rk_tbl := rk_tat_ok (i := 1287) (by decide +kernel)
theorem rl_se_27 : Jvm.Cond.selects rk_q_X12_broken.1.cls rk_q_X12_broken.1 rk_q_X12_broken.1 ∈ rk_tbl := rk_tat_ok (i := 1288) (by decide +kernel)
theorem rl_lk_28 : rj_lk R_law 28 rk_q_X11_turn room_1 2 := ⟨rk_tat_ok (i := 626) (by decide +kernel), rk_tat_ok (i := 120) (by decide +kernel), ⟨by decide, by decide, by decide +kernel⟩, rk_tat_ok (i := 623) (by decide +kernel), by decide⟩
theorem rl_in_28 : Jvm.Cond.instanceMethod rk_q_X11_turn.1 ∈ rk_tbl := rk_tat_ok (i := 624) (by decide +kernel)
theorem rl_se_28 : Jvm.Cond.selects rk_q_X11_turn.1.cls rk_q_X11_turn.1 rk_q_X11_turn.1 ∈ rk_tbl := rk_tat_ok (i := 625) (by decide +kernel)
theorem rl_lk_31 : rj_lk R_law 31 rk_q_X12_turn room_1 2 := ⟨rk_tat_ok (i := 1293) (by decide +kernel), rk_tat_ok (i := 132) (by decide +kernel), ⟨by decide, by decide, by decide +kernel⟩, rk_tat_ok (i := 1290) (by decide +kernel), by decide⟩
theorem rl_in_31 : Jvm.Cond.instanceMethod rk_q_X12_turn.1 ∈ rk_tbl := rk_tat_ok (i := 1291) (by decide +kernel)
theorem rl_se_31 : Jvm.Cond.selects rk_q_X12_turn.1.cls rk_q_X12_turn.1 rk_q_X12_turn.1 ∈ rk_tbl := rk_tat_ok (i := 1292) (by decide +kernel)
theorem rl_lk_32 : rj_lk R_law 32 rk_q_X11_watch room_1 1 := ⟨rk_tat_ok (i := 631) (by decide +kernel), rk_tat_ok (i := 120) (by decide +kernel), ⟨by decide, by decide, by decide +kernel⟩, rk_tat_ok (i := 628) (by decide +kernel), by decide⟩
theorem rl_in_32 : Jvm.Cond.instanceMethod rk_q_X11_watch.1 ∈ rk_tbl := rk_tat_ok (i := 629) (by decide +kernel)
theorem rl_se_32 : Jvm.Cond.selects rk_q_X11_watch.1.cls rk_q_X11_watch.1 rk_q_X11_watch.1 ∈ rk_tbl := rk_tat_ok (i := 630) (by decide +kernel)
theorem rl_lk_36 : rj_lk R_law 36 rk_q_X12_watch room_1 1 := ⟨rk_tat_ok (i := 1301) (by decide +kernel), rk_tat_ok (i := 132) (by decide +kernel), ⟨by decide, by decide, by decide +kernel⟩, rk_tat_ok (i := 1298) (by decide +kernel), by decide⟩
theorem rl_in_36 : Jvm.Cond.instanceMethod rk_q_X12_watch.1 ∈ rk_tbl := rk_tat_ok (i := 1299) (by decide +kernel)
theorem rl_se_36 : Jvm.Cond.selects rk_q_X12_watch.1.cls rk_q_X12_watch.1 rk_q_X12_watch.1 ∈ rk_tbl := rk_tat_ok (i := 1300) (by decide +kernel)
theorem rl_lk_37 : rj_lk R_law 37 rk_q_X11_odds room_1 1 := ⟨rk_tat_ok (i := 635) (by decide +kernel), rk_tat_ok (i := 120) (by decide +kernel), ⟨by decide, by decide, by decide +kernel⟩, rk_tat_ok (i := 632) (by decide +kernel), by decide⟩
theorem rl_in_37 : Jvm.Cond.instanceMethod rk_q_X11_odds.1 ∈ rk_tbl := rk_tat_ok (i := 633) (by decide +kernel)
theorem rl_se_37 : Jvm.Cond.selects rk_q_X11_odds.1.cls rk_q_X11_odds.1 rk_q_X11_odds.1 ∈ rk_tbl := rk_tat_ok (i := 634) (by decide +kernel)
theorem rl_lk_40 : rj_lk R_law 40 rk_q_X12_odds room_1 1 := ⟨rk_tat_ok (i := 1309) (by decide +kernel), rk_tat_ok (i := 132) (by decide +kernel), ⟨by decide, by decide, by decide +kernel⟩, rk_tat_ok (i := 1306) (by decide +kernel), by decide⟩
theorem rl_in_40 : Jvm.Cond.instanceMethod rk_q_X12_odds.1 ∈ rk_tbl := rk_tat_ok (i := 1307) (by decide +kernel)
theorem rl_se_40 : Jvm.Cond.selects rk_q_X12_odds.1.cls rk_q_X12_odds.1 rk_q_X12_odds.1 ∈ rk_tbl := rk_tat_ok (i := 1308) (by decide +kernel)
theorem rl_lk_41 : rj_lk R_law 41 rk_q_X11_state room_1 1 := ⟨rk_tat_ok (i := 639) (by decide +kernel), rk_tat_ok (i := 120) (by decide +kernel), ⟨by decide, by decide, by decide +kernel⟩, rk_tat_ok (i := 636) (by decide +kernel), by decide⟩
theorem rl_in_41 : Jvm.Cond.instanceMethod rk_q_X11_state.1 ∈ rk_tbl := rk_tat_ok (i := 637) (by decide +kernel)
theorem rl_se_41 : Jvm.Cond.selects rk_q_X11_state.1.cls rk_q_X11_state.1 rk_q_X11_state.1 ∈ rk_tbl := rk_tat_ok (i := 638) (by decide +kernel)
theorem rl_lk_44 : rj_lk R_law 44 rk_q_X12_state room_1 1 := ⟨rk_tat_ok (i := 1313) (by decide +kernel), rk_tat_ok (i := 132) (by decide +kernel), ⟨by decide, by decide, by decide +kernel⟩, rk_tat_ok (i := 1310) (by decide +kernel), by decide⟩
theorem rl_in_44 : Jvm.Cond.instanceMethod rk_q_X12_state.1 ∈ rk_tbl := rk_tat_ok (i := 1311) (by decide +kernel)
theorem rl_se_44 : Jvm.Cond.selects rk_q_X12_state.1.cls rk_q_X12_state.1 rk_q_X12_state.1 ∈ rk_tbl := rk_tat_ok (i := 1312) (by decide +kernel)
theorem rl_lk_45 : rj_lk R_law 45 rk_q_X11_table room_1 4 := ⟨rk_tat_ok (i := 643) (by decide +kernel), rk_tat_ok (i := 120) (by decide +kernel), ⟨by decide, by decide, by decide +kernel⟩, rk_tat_ok (i := 640) (by decide +kernel), by decide⟩
theorem rl_in_45 : Jvm.Cond.instanceMethod rk_q_X11_table.1 ∈ rk_tbl := rk_tat_ok (i := 641) (by decide +kernel)
theorem rl_se_45 : Jvm.Cond.selects rk_q_X11_table.1.cls rk_q_X11_table.1 rk_q_X11_table.1 ∈ rk_tbl := rk_tat_ok (i := 642) (by decide +kernel)
theorem rl_lk_49 : rj_lk R_law 49 rk_q_X12_table room_1 4 := ⟨rk_tat_ok (i := 1317) (by decide +kernel), rk_tat_ok (i := 132) (by decide +kernel), ⟨by decide, by decide, by decide +kernel⟩, rk_tat_ok (i := 1314) (by decide +kernel), by decide⟩
theorem rl_in_49 : Jvm.Cond.instanceMethod rk_q_X12_table.1 ∈ rk_tbl := rk_tat_ok (i := 1315) (by decide +kernel)
theorem rl_se_49 : Jvm.Cond.selects rk_q_X12_table.1.cls rk_q_X12_table.1 rk_q_X12_table.1 ∈ rk_tbl := rk_tat_ok (i := 1316) (by decide +kernel)
theorem rl_lk_50 : rj_lk R_law 50 rk_q_X11_hold room_1 2 := ⟨rk_tat_ok (i := 660) (by decide +kernel), rk_tat_ok (i := 120) (by decide +kernel), ⟨by decide, by decide, by decide +kernel⟩, rk_tat_ok (i := 657) (by decide +kernel), by decide⟩
theorem rl_in_50 : Jvm.Cond.instanceMethod rk_q_X11_hold.1 ∈ rk_tbl := rk_tat_ok (i := 658) (by decide +kernel)
theorem rl_se_50 : Jvm.Cond.selects rk_q_X11_hold.1.cls rk_q_X11_hold.1 rk_q_X11_hold.1 ∈ rk_tbl := rk_tat_ok (i := 659) (by decide +kernel)
theorem rl_lk_53 : rj_lk R_law 53 rk_q_X12_hold room_1 2 := ⟨rk_tat_ok (i := 1341) (by decide +kernel), rk_tat_ok (i := 132) (by decide +kernel), ⟨by decide, by decide, by decide +kernel⟩, rk_tat_ok (i := 1338) (by decide +kernel), by decide⟩
theorem rl_in_53 : Jvm.Cond.instanceMethod rk_q_X12_hold.1 ∈ rk_tbl := rk_tat_ok (i := 1339) (by decide +kernel)
theorem rl_se_53 : Jvm.Cond.selects rk_q_X12_hold.1.cls rk_q_X12_hold.1 rk_q_X12_hold.1 ∈ rk_tbl := rk_tat_ok (i := 1340) (by decide +kernel)
theorem rl_lk_54 : rj_lk R_law 54 rk_q_X11_tick room_1 1 := ⟨rk_tat_ok (i := 667) (by decide +kernel), rk_tat_ok (i := 120) (by decide +kernel), ⟨by decide, by decide, by decide +kernel⟩, rk_tat_ok (i := 664) (by decide +kernel), by decide⟩
theorem rl_in_54 : Jvm.Cond.instanceMethod rk_q_X11_tick.1 ∈ rk_tbl := rk_tat_ok (i := 665) (by decide +kernel)
theorem rl_se_54 : Jvm.Cond.selects rk_q_X11_tick.1.cls rk_q_X11_tick.1 rk_q_X11_tick.1 ∈ rk_tbl := rk_tat_ok (i := 666) (by decide +kernel)
theorem rl_lk_57 : rj_lk R_law 57 rk_q_X12_tick room_1 1 := ⟨rk_tat_ok (i := 1349) (by decide +kernel), rk_tat_ok (i := 132) (by decide +kernel), ⟨by decide, by decide, by decide +kernel⟩, rk_tat_ok (i := 1346) (by decide +kernel), by decide⟩
theorem rl_in_57 : Jvm.Cond.instanceMethod rk_q_X12_tick.1 ∈ rk_tbl := rk_tat_ok (i := 1347) (by decide +kernel)
theorem rl_se_57 : Jvm.Cond.selects rk_q_X12_tick.1.cls rk_q_X12_tick.1 rk_q_X12_tick.1 ∈ rk_tbl := rk_tat_ok (i := 1348) (by decide +kernel)
theorem rl_lk_58 : rj_lk R_law 58 rk_q_X11_feed room_1 5 := ⟨rk_tat_ok (i := 809) (by decide +kernel), rk_tat_ok (i := 120) (by decide +kernel), ⟨by decide, by decide, by decide +kernel⟩, rk_tat_ok (i := 806) (by decide +kernel), by decide⟩
theorem rl_in_58 : Jvm.Cond.instanceMethod rk_q_X11_feed.1 ∈ rk_tbl := rk_tat_ok (i := 807) (by decide +kernel)
theorem rl_se_58 : Jvm.Cond.selects rk_q_X11_feed.1.cls rk_q_X11_feed.1 rk_q_X11_feed.1 ∈ rk_tbl := rk_tat_ok (i := 808) (by decide +kernel)
theorem rl_lk_62 : rj_lk R_law 62 rk_q_X12_feed room_1 5 := ⟨rk_tat_ok (i := 1484) (by decide +kernel), rk_tat_ok (i := 132) (by decide +kernel), ⟨by decide, by decide, by decide +kernel⟩, rk_tat_ok (i := 1481) (by decide +kernel), by decide⟩
theorem rl_in_62 : Jvm.Cond.instanceMethod rk_q_X12_feed.1 ∈ rk_tbl := rk_tat_ok (i := 1482) (by decide +kernel)
theorem rl_se_62 : Jvm.Cond.selects rk_q_X12_feed.1.cls rk_q_X12_feed.1 rk_q_X12_feed.1 ∈ rk_tbl := rk_tat_ok (i := 1483) (by decide +kernel)
theorem rl_lk_63 : rj_lk R_law 63 rk_q_X11_end room_1 1 := ⟨rk_tat_ok (i := 817) (by decide +kernel), rk_tat_ok (i := 120) (by decide +kernel), ⟨by decide, by decide, by decide +kernel⟩, rk_tat_ok (i := 814) (by decide +kernel), by decide⟩
theorem rl_in_63 : Jvm.Cond.instanceMethod rk_q_X11_end.1 ∈ rk_tbl := rk_tat_ok (i := 815) (by decide +kernel)
theorem rl_se_63 : Jvm.Cond.selects rk_q_X11_end.1.cls rk_q_X11_end.1 rk_q_X11_end.1 ∈ rk_tbl := rk_tat_ok (i := 816) (by decide +kernel)
theorem rl_lk_66 : rj_lk R_law 66 rk_q_X12_end room_1 1 := ⟨rk_tat_ok (i := 1492) (by decide +kernel), rk_tat_ok (i := 132) (by decide +kernel), ⟨by decide, by decide, by decide +kernel⟩, rk_tat_ok (i := 1489) (by decide +kernel), by decide⟩
theorem rl_in_66 : Jvm.Cond.instanceMethod rk_q_X12_end.1 ∈ rk_tbl := rk_tat_ok (i := 1490) (by decide +kernel)
theorem rl_se_66 : Jvm.Cond.selects rk_q_X12_end.1.cls rk_q_X12_end.1 rk_q_X12_end.1 ∈ rk_tbl := rk_tat_ok (i := 1491) (by decide +kernel)
theorem rl_lk_67 : rj_lk R_law 67 rk_q_X11_send room_1 1 := ⟨rk_tat_ok (i := 821) (by decide +kernel), rk_tat_ok (i := 120) (by decide +kernel), ⟨by decide, by decide, by decide +kernel⟩, rk_tat_ok (i := 818) (by decide +kernel), by decide⟩
theorem rl_in_67 : Jvm.Cond.instanceMethod rk_q_X11_send.1 ∈ rk_tbl := rk_tat_ok (i := 819) (by decide +kernel)
theorem rl_se_67 : Jvm.Cond.selects rk_q_X11_send.1.cls rk_q_X11_send.1 rk_q_X11_send.1 ∈ rk_tbl := rk_tat_ok (i := 820) (by decide +kernel)
theorem rl_lk_70 : rj_lk R_law 70 rk_q_X12_send room_1 1 := ⟨rk_tat_ok (i := 1496) (by decide +kernel), rk_tat_ok (i := 132) (by decide +kernel), ⟨by decide, by decide, by decide +kernel⟩, rk_tat_ok (i := 1493) (by decide +kernel), by decide⟩
theorem rl_in_70 : Jvm.Cond.instanceMethod rk_q_X12_send.1 ∈ rk_tbl := rk_tat_ok (i := 1494) (by decide +kernel)
theorem rl_se_70 : Jvm.Cond.selects rk_q_X12_send.1.cls rk_q_X12_send.1 rk_q_X12_send.1 ∈ rk_tbl := rk_tat_ok (i := 1495) (by decide +kernel)
theorem rl_lk_71 : rj_lk R_law 71 rk_q_X11_text room_1 0 := ⟨rk_tat_ok (i := 826) (by decide +kernel), rk_tat_ok (i := 120) (by decide +kernel), ⟨by decide, by decide, by decide +kernel⟩, rk_tat_ok (i := 823) (by decide +kernel), by decide⟩
theorem rl_in_71 : Jvm.Cond.instanceMethod rk_q_X11_text.1 ∈ rk_tbl := rk_tat_ok (i := 824) (by decide +kernel)
theorem rl_se_71 : Jvm.Cond.selects rk_q_X11_text.1.cls rk_q_X11_text.1 rk_q_X11_text.1 ∈ rk_tbl := rk_tat_ok (i := 825) (by decide +kernel)
theorem rl_lk_75 : rj_lk R_law 75 rk_q_X12_text room_1 0 := ⟨rk_tat_ok (i := 1504) (by decide +kernel), rk_tat_ok (i := 132) (by decide +kernel), ⟨by decide, by decide, by decide +kernel⟩, rk_tat_ok (i := 1501) (by decide +kernel), by decide⟩
theorem rl_in_75 : Jvm.Cond.instanceMethod rk_q_X12_text.1 ∈ rk_tbl := rk_tat_ok (i := 1502) (by decide +kernel)
theorem rl_se_75 : Jvm.Cond.selects rk_q_X12_text.1.cls rk_q_X12_text.1 rk_q_X12_text.1 ∈ rk_tbl := rk_tat_ok (i := 1503) (by decide +kernel)
theorem rl_lk_76 : rj_lk R_law 76 rk_q_X11_fault room_1 1 := ⟨rk_tat_ok (i := 949) (by decide +kernel), rk_tat_ok (i := 120) (by decide +kernel), ⟨by decide, by decide, by decide +kernel⟩, rk_tat_ok (i := 946) (by decide +kernel), by decide⟩
theorem rl_in_76 : Jvm.Cond.instanceMethod rk_q_X11_fault.1 ∈ rk_tbl := rk_tat_ok (i := 947) (by decide +kernel)
theorem rl_se_76 : Jvm.Cond.selects rk_q_X11_fault.1.cls rk_q_X11_fault.1 rk_q_X11_fault.1 ∈ rk_tbl := rk_tat_ok (i := 948) (by decide +kernel)
theorem rl_lk_79 : rj_lk R_law 79 rk_q_X12_fault room_1 1 := ⟨rk_tat_ok (i := 1563) (by decide +kernel), rk_tat_ok (i := 132) (by decide +kernel), ⟨by decide, by decide, by decide +kernel⟩, rk_tat_ok (i := 1560) (by decide +kernel), by decide⟩
theorem rl_in_79 : Jvm.Cond.instanceMethod rk_q_X12_fault.1 ∈ rk_tbl := rk_tat_ok (i := 1561) (by decide +kernel)
theorem rl_se_79 : Jvm.Cond.selects rk_q_X12_fault.1.cls rk_q_X12_fault.1 rk_q_X12_fault.1 ∈ rk_tbl := rk_tat_ok (i := 1562) (by decide +kernel)
theorem rl_lk_80 : rj_lk R_law 80 rk_q_X11_time room_1 1 := ⟨rk_tat_ok (i := 953) (by decide +kernel), rk_tat_ok (i := 120) (by decide +kernel), ⟨by decide, by decide, by decide +kernel⟩, rk_tat_ok (i := 950) (by decide +kernel), by decide⟩
theorem rl_in_80 : Jvm.Cond.instanceMethod rk_q_X11_time.1 ∈ rk_tbl := rk_tat_ok (i := 951) (by decide +kernel)
theorem rl_se_80 : Jvm.Cond.selects rk_q_X11_time.1.cls rk_q_X11_time.1 rk_q_X11_time.1 ∈ rk_tbl := rk_tat_ok (i := 952) (by decide +kernel)
theorem rl_lk_83 : rj_lk R_law 83 rk_q_X12_time room_1 1 := ⟨rk_tat_ok (i := 1567) (by decide +kernel), rk_tat_ok (i := 132) (by decide +kernel), ⟨by decide, by decide, by decide +kernel⟩, rk_tat_ok (i := 1564) (by decide +kernel), by decide⟩
theorem rl_in_83 : Jvm.Cond.instanceMethod rk_q_X12_time.1 ∈ rk_tbl := rk_tat_ok (i := 1565) (by decide +kernel)
theorem rl_se_83 : Jvm.Cond.selects rk_q_X12_time.1.cls rk_q_X12_time.1 rk_q_X12_time.1 ∈ rk_tbl := rk_tat_ok (i := 1566) (by decide +kernel)
theorem rl_lk_84 : rj_lk R_law 84 rk_q_X11_socket room_1 2 := ⟨rk_tat_ok (i := 958) (by decide +kernel), rk_tat_ok (i := 120) (by decide +kernel), ⟨by decide, by decide, by decide +kernel⟩, rk_tat_ok (i := 955) (by decide +kernel), by decide⟩
theorem rl_in_84 : Jvm.Cond.instanceMethod rk_q_X11_socket.1 ∈ rk_tbl := rk_tat_ok (i := 956) (by decide +kernel)
theorem rl_se_84 : Jvm.Cond.selects rk_q_X11_socket.1.cls rk_q_X11_socket.1 rk_q_X11_socket.1 ∈ rk_tbl := rk_tat_ok (i := 957) (by decide +kernel)
theorem rl_lk_88 : rj_lk R_law 88 rk_q_X12_socket room_1 2 := ⟨rk_tat_ok (i := 1571) (by decide +kernel), rk_tat_ok (i := 132) (by decide +kernel), ⟨by decide, by decide, by decide +kernel⟩, rk_tat_ok (i := 1568) (by decide +kernel), by decide⟩
theorem rl_in_88 : Jvm.Cond.instanceMethod rk_q_X12_socket.1 ∈ rk_tbl := rk_tat_ok (i := 1569) (by decide +kernel)
theorem rl_se_88 : Jvm.Cond.selects rk_q_X12_socket.1.cls rk_q_X12_socket.1 rk_q_X12_socket.1 ∈ rk_tbl := rk_tat_ok (i := 1570) (by decide +kernel)
theorem rl_lk_89 : rj_lk R_law 89 rk_q_X11_buffer room_1 2 := ⟨rk_tat_ok (i := 967) (by decide +kernel), rk_tat_ok (i := 120) (by decide +kernel), ⟨by decide, by decide, by decide +kernel⟩, rk_tat_ok (i := 964) (by decide +kernel), by decide⟩
theorem rl_in_89 : Jvm.Cond.instanceMethod rk_q_X11_buffer.1 ∈ rk_tbl := rk_tat_ok (i := 965) (by decide +kernel)
theorem rl_se_89 : Jvm.Cond.selects rk_q_X11_buffer.1.cls rk_q_X11_buffer.1 rk_q_X11_buffer.1 ∈ rk_tbl := rk_tat_ok (i := 966) (by decide +kernel)
theorem rl_lk_92 : rj_lk R_law 92 rk_q_X12_buffer room_1 2 := ⟨rk_tat_ok (i := 1575) (by decide +kernel), rk_tat_ok (i := 132) (by decide +kernel), ⟨by decide, by decide, by decide +kernel⟩, rk_tat_ok (i := 1572) (by decide +kernel), by decide⟩
theorem rl_in_92 : Jvm.Cond.instanceMethod rk_q_X12_buffer.1 ∈ rk_tbl := rk_tat_ok (i := 1573) (by decide +kernel)
theorem rl_se_92 : Jvm.Cond.selects rk_q_X12_buffer.1.cls rk_q_X12_buffer.1 rk_q_X12_buffer.1 ∈ rk_tbl := rk_tat_ok (i := 1574) (by decide +kernel)
theorem rl_lk_93 : rj_lk R_law 93 rk_q_X11_input room_1 2 := ⟨rk_tat_ok (i := 972) (by decide +kernel), rk_tat_ok (i := 120) (by decide +kernel), ⟨by decide, by decide, by decide +kernel⟩, rk_tat_ok (i := 969) (by decide +kernel), by decide⟩
theorem rl_in_93 : Jvm.Cond.instanceMethod rk_q_X11_input.1 ∈ rk_tbl := rk_tat_ok (i := 970) (by decide +kernel)
theorem rl_se_93 : Jvm.Cond.selects rk_q_X11_input.1.cls rk_q_X11_input.1 rk_q_X11_input.1 ∈ rk_tbl := rk_tat_ok (i := 971) (by decide +kernel)
theorem rl_lk_96 : rj_lk R_law 96 rk_q_X12_input room_1 2 := ⟨rk_tat_ok (i := 1579) (by decide +kernel), rk_tat_ok (i := 132) (by decide +kernel), ⟨by decide, by decide, by decide +kernel⟩, rk_tat_ok (i := 1576) (by decide +kernel), by decide⟩
theorem rl_in_96 : Jvm.Cond.instanceMethod rk_q_X12_input.1 ∈ rk_tbl := rk_tat_ok (i := 1577) (by decide +kernel)
theorem rl_se_96 : Jvm.Cond.selects rk_q_X12_input.1.cls rk_q_X12_input.1 rk_q_X12_input.1 ∈ rk_tbl := rk_tat_ok (i := 1578) (by decide +kernel)
theorem rl_lk_97 : rj_lk R_law 97 rk_q_X11_router room_1 2 := ⟨rk_tat_ok (i := 980) (by decide +kernel), rk_tat_ok (i := 120) (by decide +kernel), ⟨by decide, by decide, by decide +kernel⟩, rk_tat_ok (i := 977) (by decide +kernel), by decide⟩
theorem rl_in_97 : Jvm.Cond.instanceMethod rk_q_X11_router.1 ∈ rk_tbl := rk_tat_ok (i := 978) (by decide +kernel)
theorem rl_se_97 : Jvm.Cond.selects rk_q_X11_router.1.cls rk_q_X11_router.1 rk_q_X11_router.1 ∈ rk_tbl := rk_tat_ok (i := 979) (by decide +kernel)
theorem rl_lk_100 : rj_lk R_law 100 rk_q_X12_router room_1 2 := ⟨rk_tat_ok (i := 1587) (by decide +kernel), rk_tat_ok (i := 132) (by decide +kernel), ⟨by decide, by decide, by decide +kernel⟩, rk_tat_ok (i := 1584) (by decide +kernel), by decide⟩
theorem rl_in_100 : Jvm.Cond.instanceMethod rk_q_X12_router.1 ∈ rk_tbl := rk_tat_ok (i := 1585) (by decide +kernel)
theorem rl_se_100 : Jvm.Cond.selects rk_q_X12_router.1.cls rk_q_X12_router.1 rk_q_X12_router.1 ∈ rk_tbl := rk_tat_ok (i := 1586) (by decide +kernel)
theorem rl_lk_101 : rj_lk R_law 101 rk_q_X11_tableOf room_1 2 := ⟨rk_tat_ok (i := 993) (by decide +kernel), rk_tat_ok (i := 120) (by decide +kernel), ⟨by decide, by decide, by decide +kernel⟩, rk_tat_ok (i := 990) (by decide +kernel), by decide⟩
theorem rl_in_101 : Jvm.Cond.instanceMethod rk_q_X11_tableOf.1 ∈ rk_tbl := rk_tat_ok (i := 991) (by decide +kernel)
theorem rl_se_101 : Jvm.Cond.selects rk_q_X11_tableOf.1.cls rk_q_X11_tableOf.1 rk_q_X11_tableOf.1 ∈ rk_tbl := rk_tat_ok (i := 992) (by decide +kernel)
theorem rl_lk_104 : rj_lk R_law 104 rk_q_X12_tableOf room_1 2 := ⟨rk_tat_ok (i := 1595) (by decide +kernel), rk_tat_ok (i := 132) (by decide +kernel), ⟨by decide, by decide, by decide +kernel⟩, rk_tat_ok (i := 1592) (by decide +kernel), by decide⟩
theorem rl_in_104 : Jvm.Cond.instanceMethod rk_q_X12_tableOf.1 ∈ rk_tbl := rk_tat_ok (i := 1593) (by decide +kernel)
theorem rl_se_104 : Jvm.Cond.selects rk_q_X12_tableOf.1.cls rk_q_X12_tableOf.1 rk_q_X12_tableOf.1 ∈ rk_tbl := rk_tat_ok (i := 1594) (by decide +kernel)
theorem rl_lk_105 : rj_lk R_law 105 rk_q_X11_endOf room_1 2 := ⟨rk_tat_ok (i := 999) (by decide +kernel), rk_tat_ok (i := 120) (by decide +kernel), ⟨by decide, by decide, by decide +kernel⟩, rk_tat_ok (i := 996) (by decide +kernel), by decide⟩
theorem rl_in_105 : Jvm.Cond.instanceMethod rk_q_X11_endOf.1 ∈ rk_tbl := rk_tat_ok (i := 997) (by decide +kernel)
theorem rl_se_105 : Jvm.Cond.selects rk_q_X11_endOf.1.cls rk_q_X11_endOf.1 rk_q_X11_endOf.1 ∈ rk_tbl := rk_tat_ok (i := 998) (by decide +kernel)
theorem rl_lk_108 : rj_lk R_law 108 rk_q_X12_endOf room_1 2 := ⟨rk_tat_ok (i := 1599) (by decide +kernel), rk_tat_ok (i := 132) (by decide +kernel), ⟨by decide, by decide, by decide +kernel⟩, rk_tat_ok (i := 1596) (by decide +kernel), by decide⟩
theorem rl_in_108 : Jvm.Cond.instanceMethod rk_q_X12_endOf.1 ∈ rk_tbl := rk_tat_ok (i := 1597) (by decide +kernel)
theorem rl_se_108 : Jvm.Cond.selects rk_q_X12_endOf.1.cls rk_q_X12_endOf.1 rk_q_X12_endOf.1 ∈ rk_tbl := rk_tat_ok (i := 1598) (by decide +kernel)
theorem rl_lk_109 : rj_lk R_law 109 rk_q_X11_packet room_1 3 := ⟨rk_tat_ok (i := 1007) (by decide +kernel), rk_tat_ok (i := 120) (by decide +kernel), ⟨by decide, by decide, by decide +kernel⟩, rk_tat_ok (i := 1004) (by decide +kernel), by decide⟩
theorem rl_in_109 : Jvm.Cond.instanceMethod rk_q_X11_packet.1 ∈ rk_tbl := rk_tat_ok (i := 1005) (by decide +kernel)
theorem rl_se_109 : Jvm.Cond.selects rk_q_X11_packet.1.cls rk_q_X11_packet.1 rk_q_X11_packet.1 ∈ rk_tbl := rk_tat_ok (i := 1006) (by decide +kernel)
theorem rl_lk_113 : rj_lk R_law 113 rk_q_X12_packet room_1 3 := ⟨rk_tat_ok (i := 1603) (by decide +kernel), rk_tat_ok (i := 132) (by decide +kernel), ⟨by decide, by decide, by decide +kernel⟩, rk_tat_ok (i := 1600) (by decide +kernel), by decide⟩
theorem rl_in_113 : Jvm.Cond.instanceMethod rk_q_X12_packet.1 ∈ rk_tbl := rk_tat_ok (i := 1601) (by decide +kernel)
theorem rl_se_113 : Jvm.Cond.selects rk_q_X12_packet.1.cls rk_q_X12_packet.1 rk_q_X12_packet.1 ∈ rk_tbl := rk_tat_ok (i := 1602) (by decide +kernel)
theorem rl_lk_114 : rj_lk R_law 114 rk_q_X11_byteOf room_1 3 := ⟨rk_tat_ok (i := 1024) (by decide +kernel), rk_tat_ok (i := 120) (by decide +kernel), ⟨by decide, by decide, by decide +kernel⟩, rk_tat_ok (i := 1021) (by decide +kernel), by decide⟩
theorem rl_in_114 : Jvm.Cond.instanceMethod rk_q_X11_byteOf.1 ∈ rk_tbl := rk_tat_ok (i := 1022) (by decide +kernel)
theorem rl_se_114 : Jvm.Cond.selects rk_q_X11_byteOf.1.cls rk_q_X11_byteOf.1 rk_q_X11_byteOf.1 ∈ rk_tbl := rk_tat_ok (i := 1023) (by decide +kernel)
theorem rl_lk_117 : rj_lk R_law 117 rk_q_X12_byteOf room_1 3 := ⟨rk_tat_ok (i := 1611) (by decide +kernel), rk_tat_ok (i := 132) (by decide +kernel), ⟨by decide, by decide, by decide +kernel⟩, rk_tat_ok (i := 1608) (by decide +kernel), by decide⟩
theorem rl_in_117 : Jvm.Cond.instanceMethod rk_q_X12_byteOf.1 ∈ rk_tbl := rk_tat_ok (i := 1609) (by decide +kernel)
theorem rl_se_117 : Jvm.Cond.selects rk_q_X12_byteOf.1.cls rk_q_X12_byteOf.1 rk_q_X12_byteOf.1 ∈ rk_tbl := rk_tat_ok (i := 1610) (by decide +kernel)
theorem rl_lk_118 : rj_lk R_law 118 rk_q_X11_way room_1 3 := ⟨rk_tat_ok (i := 1032) (by decide +kernel), rk_tat_ok (i := 120) (by decide +kernel), ⟨by decide, by decide, by decide +kernel⟩, rk_tat_ok (i := 1029) (by decide +kernel), by decide⟩
theorem rl_in_118 : Jvm.Cond.instanceMethod rk_q_X11_way.1 ∈ rk_tbl := rk_tat_ok (i := 1030) (by decide +kernel)
theorem rl_se_118 : Jvm.Cond.selects rk_q_X11_way.1.cls rk_q_X11_way.1 rk_q_X11_way.1 ∈ rk_tbl := rk_tat_ok (i := 1031) (by decide +kernel)
theorem rl_lk_121 : rj_lk R_law 121 rk_q_X12_way room_1 3 := ⟨rk_tat_ok (i := 1615) (by decide +kernel), rk_tat_ok (i := 132) (by decide +kernel), ⟨by decide, by decide, by decide +kernel⟩, rk_tat_ok (i := 1612) (by decide +kernel), by decide⟩
theorem rl_in_121 : Jvm.Cond.instanceMethod rk_q_X12_way.1 ∈ rk_tbl := rk_tat_ok (i := 1613) (by decide +kernel)
theorem rl_se_121 : Jvm.Cond.selects rk_q_X12_way.1.cls rk_q_X12_way.1 rk_q_X12_way.1 ∈ rk_tbl := rk_tat_ok (i := 1614) (by decide +kernel)
theorem rl_lk_122 : rj_lk R_law 122 rk_q_X11_spread room_1 2 := ⟨rk_tat_ok (i := 1049) (by decide +kernel), rk_tat_ok (i := 120) (by decide +kernel), ⟨by decide, by decide, by decide +kernel⟩, rk_tat_ok (i := 1046) (by decide +kernel), by decide⟩
theorem rl_in_122 : Jvm.Cond.instanceMethod rk_q_X11_spread.1 ∈ rk_tbl := rk_tat_ok (i := 1047) (by decide +kernel)
theorem rl_se_122 : Jvm.Cond.selects rk_q_X11_spread.1.cls rk_q_X11_spread.1 rk_q_X11_spread.1 ∈ rk_tbl := rk_tat_ok (i := 1048) (by decide +kernel)
theorem rl_lk_125 : rj_lk R_law 125 rk_q_X12_spread room_1 2 := ⟨rk_tat_ok (i := 1627) (by decide +kernel), rk_tat_ok (i := 132) (by decide +kernel), ⟨by decide, by decide, by decide +kernel⟩, rk_tat_ok (i := 1624) (by decide +kernel), by decide⟩
theorem rl_in_125 : Jvm.Cond.instanceMethod rk_q_X12_spread.1 ∈ rk_tbl := rk_tat_ok (i := 1625) (by decide +kernel)
theorem rl_se_125 : Jvm.Cond.selects rk_q_X12_spread.1.cls rk_q_X12_spread.1 rk_q_X12_spread.1 ∈ rk_tbl := rk_tat_ok (i := 1626) (by decide +kernel)
theorem rl_lk_126 : rj_lk R_law 126 rk_q_X11_loops room_1 2 := ⟨rk_tat_ok (i := 1063) (by decide +kernel), rk_tat_ok (i := 120) (by decide +kernel), ⟨by decide, by decide, by decide +kernel⟩, rk_tat_ok (i := 1060) (by decide +kernel), by decide⟩
theorem rl_in_126 : Jvm.Cond.instanceMethod rk_q_X11_loops.1 ∈ rk_tbl := rk_tat_ok (i := 1061) (by decide +kernel)
theorem rl_se_126 : Jvm.Cond.selects rk_q_X11_loops.1.cls rk_q_X11_loops.1 rk_q_X11_loops.1 ∈ rk_tbl := rk_tat_ok (i := 1062) (by decide +kernel)
theorem rl_lk_129 : rj_lk R_law 129 rk_q_X12_loops room_1 2 := ⟨rk_tat_ok (i := 1639) (by decide +kernel), rk_tat_ok (i := 132) (by decide +kernel), ⟨by decide, by decide, by decide +kernel⟩, rk_tat_ok (i := 1636) (by decide +kernel), by decide⟩
theorem rl_in_129 : Jvm.Cond.instanceMethod rk_q_X12_loops.1 ∈ rk_tbl := rk_tat_ok (i := 1637) (by decide +kernel)
theorem rl_se_129 : Jvm.Cond.selects rk_q_X12_loops.1.cls rk_q_X12_loops.1 rk_q_X12_loops.1 ∈ rk_tbl := rk_tat_ok (i := 1638) (by decide +kernel)
theorem rl_lk_130 : rj_lk R_law 130 rk_q_X11_log room_1 2 := ⟨rk_tat_ok (i := 1071) (by decide +kernel), rk_tat_ok (i := 120) (by decide +kernel), ⟨by decide, by decide, by decide +kernel⟩, rk_tat_ok (i := 1068) (by decide +kernel), by decide⟩
theorem rl_in_130 : Jvm.Cond.instanceMethod rk_q_X11_log.1 ∈ rk_tbl := rk_tat_ok (i := 1069) (by decide +kernel)
theorem rl_se_130 : Jvm.Cond.selects rk_q_X11_log.1.cls rk_q_X11_log.1 rk_q_X11_log.1 ∈ rk_tbl := rk_tat_ok (i := 1070) (by decide +kernel)
theorem rl_lk_133 : rj_lk R_law 133 rk_q_X12_log room_1 2 := ⟨rk_tat_ok (i := 1643) (by decide +kernel), rk_tat_ok (i := 132) (by decide +kernel), ⟨by decide, by decide, by decide +kernel⟩, rk_tat_ok (i := 1640) (by decide +kernel), by decide⟩
theorem rl_in_133 : Jvm.Cond.instanceMethod rk_q_X12_log.1 ∈ rk_tbl := rk_tat_ok (i := 1641) (by decide +kernel)
theorem rl_se_133 : Jvm.Cond.selects rk_q_X12_log.1.cls rk_q_X12_log.1 rk_q_X12_log.1 ∈ rk_tbl := rk_tat_ok (i := 1642) (by decide +kernel)
theorem rl_lk_134 : rj_lk R_law 134 rk_q_X11_lasts room_1 2 := ⟨rk_tat_ok (i := 1079) (by decide +kernel), rk_tat_ok (i := 120) (by decide +kernel), ⟨by decide, by decide, by decide +kernel⟩, rk_tat_ok (i := 1076) (by decide +kernel), by decide⟩
theorem rl_in_134 : Jvm.Cond.instanceMethod rk_q_X11_lasts.1 ∈ rk_tbl := rk_tat_ok (i := 1077) (by decide +kernel)
theorem rl_se_134 : Jvm.Cond.selects rk_q_X11_lasts.1.cls rk_q_X11_lasts.1 rk_q_X11_lasts.1 ∈ rk_tbl := rk_tat_ok (i := 1078) (by decide +kernel)
theorem rl_lk_137 : rj_lk R_law 137 rk_q_X12_lasts room_1 2 := ⟨rk_tat_ok (i := 1647) (by decide +kernel), rk_tat_ok (i := 132) (by decide +kernel), ⟨by decide, by decide, by decide +kernel⟩, rk_tat_ok (i := 1644) (by decide +kernel), by decide⟩
theorem rl_in_137 : Jvm.Cond.instanceMethod rk_q_X12_lasts.1 ∈ rk_tbl := rk_tat_ok (i := 1645) (by decide +kernel)
theorem rl_se_137 : Jvm.Cond.selects rk_q_X12_lasts.1.cls rk_q_X12_lasts.1 rk_q_X12_lasts.1 ∈ rk_tbl := rk_tat_ok (i := 1646) (by decide +kernel)
theorem rl_lk_138 : rj_lk R_law 138 rk_q_X11_sound room_1 1 := ⟨rk_tat_ok (i := 1130) (by decide +kernel), rk_tat_ok (i := 120) (by decide +kernel), ⟨by decide, by decide, by decide +kernel⟩, rk_tat_ok (i := 1127) (by decide +kernel), by decide⟩
theorem rl_in_138 : Jvm.Cond.instanceMethod rk_q_X11_sound.1 ∈ rk_tbl := rk_tat_ok (i := 1128) (by decide +kernel)
theorem rl_se_138 : Jvm.Cond.selects rk_q_X11_sound.1.cls rk_q_X11_sound.1 rk_q_X11_sound.1 ∈ rk_tbl := rk_tat_ok (i := 1129) (by decide +kernel)
theorem rl_lk_141 : rj_lk R_law 141 rk_q_X12_sound room_1 1 := ⟨rk_tat_ok (i := 1651) (by decide +kernel), rk_tat_ok (i := 132) (by decide +kernel), ⟨by decide, by decide, by decide +kernel⟩, rk_tat_ok (i := 1648) (by decide +kernel), by decide⟩
theorem rl_in_141 : Jvm.Cond.instanceMethod rk_q_X12_sound.1 ∈ rk_tbl := rk_tat_ok (i := 1649) (by decide +kernel)
theorem rl_se_141 : Jvm.Cond.selects rk_q_X12_sound.1.cls rk_q_X12_sound.1 rk_q_X12_sound.1 ∈ rk_tbl := rk_tat_ok (i := 1650) (by decide +kernel)
theorem rl_lk_142 : rj_lk R_law 142 rk_q_X11_image room_1 1 := ⟨rk_tat_ok (i := 1138) (by decide +kernel), rk_tat_ok (i := 120) (by decide +kernel), ⟨by decide, by decide, by decide +kernel⟩, rk_tat_ok (i := 1135) (by decide +kernel), by decide⟩
theorem rl_in_142 : Jvm.Cond.instanceMethod rk_q_X11_image.1 ∈ rk_tbl := rk_tat_ok (i := 1136) (by decide +kernel)
theorem rl_se_142 : Jvm.Cond.selects rk_q_X11_image.1.cls rk_q_X11_image.1 rk_q_X11_image.1 ∈ rk_tbl := rk_tat_ok (i := 1137) (by decide +kernel)
theorem rl_lk_146 : rj_lk R_law 146 rk_q_X12_image room_1 1 := ⟨rk_tat_ok (i := 1659) (by decide +kernel), rk_tat_ok (i := 132) (by decide +kernel), ⟨by decide, by decide, by decide +kernel⟩, rk_tat_ok (i := 1656) (by decide +kernel), by decide⟩
theorem rl_in_146 : Jvm.Cond.instanceMethod rk_q_X12_image.1 ∈ rk_tbl := rk_tat_ok (i := 1657) (by decide +kernel)
theorem rl_se_146 : Jvm.Cond.selects rk_q_X12_image.1.cls rk_q_X12_image.1 rk_q_X12_image.1 ∈ rk_tbl := rk_tat_ok (i := 1658) (by decide +kernel)
theorem rl_lk_147 : rj_lk R_law 147 rk_q_X11_look room_1 1 := ⟨rk_tat_ok (i := 1142) (by decide +kernel), rk_tat_ok (i := 120) (by decide +kernel), ⟨by decide, by decide, by decide +kernel⟩, rk_tat_ok (i := 1139) (by decide +kernel), by decide⟩
theorem rl_in_147 : Jvm.Cond.instanceMethod rk_q_X11_look.1 ∈ rk_tbl := rk_tat_ok (i := 1140) (by decide +kernel)
theorem rl_se_147 : Jvm.Cond.selects rk_q_X11_look.1.cls rk_q_X11_look.1 rk_q_X11_look.1 ∈ rk_tbl := rk_tat_ok (i := 1141) (by decide +kernel)
theorem rl_lk_150 : rj_lk R_law 150 rk_q_X12_look room_1 1 := ⟨rk_tat_ok (i := 1663) (by decide +kernel), rk_tat_ok (i := 132) (by decide +kernel), ⟨by decide, by decide, by decide +kernel⟩, rk_tat_ok (i := 1660) (by decide +kernel), by decide⟩
theorem rl_in_150 : Jvm.Cond.instanceMethod rk_q_X12_look.1 ∈ rk_tbl := rk_tat_ok (i := 1661) (by decide +kernel)
theorem rl_se_150 : Jvm.Cond.selects rk_q_X12_look.1.cls rk_q_X12_look.1 rk_q_X12_look.1 ∈ rk_tbl := rk_tat_ok (i := 1662) (by decide +kernel)
