def rv_t_law_24 : rv_T := (.branch 0 (.branch 0 (.branch 0 (.branch 0 (.branch 0 (.branch 0 (.leaf (1024, .iload_n 3, 1)) (.leaf (992, .aload_n 1, 1))) (.leaf (1008, .invokevirtual 118, 3))) (.branch 0 (.branch 0 (.leaf (1032, .goto (220), 3)) (.leaf (1000, .iconst 2, 1))) (.leaf (1016, .iadd, 1)))) (.branch 0 (.branch 0 (.branch 0 (.leaf (1028, .invokevirtual 121, 3)) (.leaf (996, .iadd, 1))) (.leaf (1012, .aload_n 2, 1))) (.branch 0 (.leaf (1004, .iload_n 3, 1)) (.leaf (1020, .iconst 2, 1))))) (.branch 0 (.branch 0 (.branch 0 (.branch 0 (.leaf (1026, .iadd, 1)) (.leaf (994, .iload_n 3, 1))) (.leaf (99999, .nop, 1))) (.branch 0 (.leaf (1002, .iaload, 1)) (.leaf (1018, .aload_n 0, 1)))) (.branch 0 (.branch 0 (.leaf (998, .aload_n 0, 1)) (.leaf (1014, .iload_n 3, 1))) (.branch 0 (.leaf (1006, .iadd, 1)) (.leaf (1022, .iaload, 1)))))) (.branch 0 (.branch 0 (.branch 0 (.branch 0 (.branch 0 (.leaf (1025, .iconst 3, 1)) (.leaf (993, .aload_n 0, 1))) (.leaf (99999, .nop, 1))) (.branch 0 (.leaf (1001, .iadd, 1)) (.leaf (1017, .iaload, 1)))) (.branch 0 (.branch 0 (.leaf (997, .iaload, 1)) (.leaf (1013, .aload_n 0, 1))) (.branch 0 (.leaf (1005, .iconst 3, 1)) (.leaf (1021, .iadd, 1))))) (.branch 0 (.branch 0 (.branch 0 (.branch 0 (.leaf (1027, .iaload, 1)) (.leaf (995, .iconst 1, 1))) (.leaf (1011, .pop, 1))) (.branch 0 (.leaf (1003, .aload_n 0, 1)) (.leaf (1019, .iload_n 3, 1)))) (.branch 0 (.branch 0 (.branch 0 (.leaf (1031, .pop, 1)) (.leaf (999, .iload_n 3, 1))) (.leaf (1015, .iconst 1, 1))) (.branch 0 (.leaf (1007, .iaload, 1)) (.leaf (1023, .aload_n 0, 1)))))))
theorem rv_k_law_24 : rv_tok code rv_t_law_24 = true := by decide +kernel

def rv_t_law_25 : rv_T := (.branch 0 (.branch 0 (.branch 0 (.branch 0 (.branch 0 (.leaf (1056, .aload_n 0, 1)) (.leaf (1040, .iaload, 1))) (.leaf (1064, .pop, 1))) (.branch 0 (.branch 0 (.leaf (1060, .iaload, 1)) (.leaf (1044, .iadd, 1))) (.branch 0 (.leaf (1036, .aload_n 0, 1)) (.leaf (1052, .iload_n 3, 1))))) (.branch 0 (.branch 0 (.branch 0 (.leaf (1058, .iconst 2, 1)) (.leaf (1042, .iload_n 3, 1))) (.leaf (1050, .aload_n 2, 1))) (.branch 0 (.leaf (1046, .invokevirtual 122, 3)) (.branch 0 (.leaf (1038, .iconst 1, 1)) (.leaf (1054, .iadd, 1)))))) (.branch 0 (.branch 0 (.branch 0 (.branch 0 (.leaf (1057, .iload_n 3, 1)) (.leaf (1041, .aload_n 0, 1))) (.branch 0 (.leaf (1065, .goto (187), 3)) (.leaf (1049, .pop, 1)))) (.branch 0 (.branch 0 (.leaf (1061, .invokevirtual 125, 3)) (.leaf (1045, .iaload, 1))) (.branch 0 (.leaf (1037, .iload_n 3, 1)) (.leaf (1053, .iconst 1, 1))))) (.branch 0 (.branch 0 (.branch 0 (.leaf (1059, .iadd, 1)) (.leaf (1043, .iconst 2, 1))) (.branch 0 (.leaf (1035, .aload_n 1, 1)) (.leaf (1051, .aload_n 0, 1)))) (.branch 0 (.leaf (99999, .nop, 1)) (.branch 0 (.leaf (1039, .iadd, 1)) (.leaf (1055, .iaload, 1)))))))
theorem rv_k_law_25 : rv_tok code rv_t_law_25 = true := by decide +kernel

def rv_t_law_26 : rv_T := (.branch 0 (.branch 0 (.branch 0 (.branch 0 (.branch 0 (.leaf (1088, .iaload, 1)) (.leaf (1072, .iadd, 1))) (.leaf (99999, .nop, 1))) (.branch 0 (.branch 0 (.leaf (1092, .iadd, 1)) (.leaf (1076, .iconst 2, 1))) (.branch 0 (.leaf (1068, .aload_n 1, 1)) (.leaf (1084, .aload_n 0, 1))))) (.branch 0 (.branch 0 (.branch 0 (.leaf (1090, .iload_n 3, 1)) (.leaf (1074, .aload_n 0, 1))) (.branch 0 (.leaf (1098, .goto (154), 3)) (.leaf (1082, .pop, 1)))) (.branch 0 (.branch 0 (.leaf (1094, .invokevirtual 129, 3)) (.leaf (1078, .iaload, 1))) (.branch 0 (.leaf (1070, .iload_n 3, 1)) (.leaf (1086, .iconst 1, 1)))))) (.branch 0 (.branch 0 (.branch 0 (.branch 0 (.leaf (1089, .aload_n 0, 1)) (.leaf (1073, .iaload, 1))) (.leaf (1097, .pop, 1))) (.branch 0 (.branch 0 (.leaf (1093, .iaload, 1)) (.leaf (1077, .iadd, 1))) (.branch 0 (.leaf (1069, .aload_n 0, 1)) (.leaf (1085, .iload_n 3, 1))))) (.branch 0 (.branch 0 (.branch 0 (.leaf (1091, .iconst 2, 1)) (.leaf (1075, .iload_n 3, 1))) (.leaf (1083, .aload_n 2, 1))) (.branch 0 (.leaf (1079, .invokevirtual 126, 3)) (.branch 0 (.leaf (1071, .iconst 1, 1)) (.leaf (1087, .iadd, 1)))))))
theorem rv_k_law_26 : rv_tok code rv_t_law_26 = true := by decide +kernel

def rv_t_law_27 : rv_T := (.branch 0 (.branch 0 (.branch 0 (.branch 0 (.branch 0 (.leaf (1120, .iadd, 1)) (.leaf (1104, .iconst 1, 1))) (.leaf (1112, .invokevirtual 130, 3))) (.branch 0 (.branch 0 (.leaf (1124, .iconst 2, 1)) (.leaf (1108, .iload_n 3, 1))) (.leaf (1116, .aload_n 2, 1)))) (.branch 0 (.branch 0 (.branch 0 (.leaf (1122, .aload_n 0, 1)) (.leaf (1106, .iaload, 1))) (.leaf (1130, .pop, 1))) (.branch 0 (.branch 0 (.leaf (1126, .iaload, 1)) (.leaf (1110, .iadd, 1))) (.branch 0 (.leaf (1102, .aload_n 0, 1)) (.leaf (1118, .iload_n 3, 1)))))) (.branch 0 (.branch 0 (.branch 0 (.branch 0 (.leaf (1121, .iaload, 1)) (.leaf (1105, .iadd, 1))) (.leaf (99999, .nop, 1))) (.branch 0 (.branch 0 (.leaf (1125, .iadd, 1)) (.leaf (1109, .iconst 2, 1))) (.branch 0 (.leaf (1101, .aload_n 1, 1)) (.leaf (1117, .aload_n 0, 1))))) (.branch 0 (.branch 0 (.branch 0 (.leaf (1123, .iload_n 3, 1)) (.leaf (1107, .aload_n 0, 1))) (.branch 0 (.leaf (1131, .goto (121), 3)) (.leaf (1115, .pop, 1)))) (.branch 0 (.branch 0 (.leaf (1127, .invokevirtual 133, 3)) (.leaf (1111, .iaload, 1))) (.branch 0 (.leaf (1103, .iload_n 3, 1)) (.leaf (1119, .iconst 1, 1)))))))
theorem rv_k_law_27 : rv_tok code rv_t_law_27 = true := by decide +kernel

def rv_t_law_28 : rv_T := (.branch 0 (.branch 0 (.branch 0 (.branch 0 (.branch 0 (.leaf (1152, .iconst 1, 1)) (.leaf (1136, .iload_n 3, 1))) (.branch 0 (.leaf (1160, .invokevirtual 137, 3)) (.leaf (1144, .iaload, 1)))) (.branch 0 (.branch 0 (.leaf (1156, .iload_n 3, 1)) (.leaf (1140, .aload_n 0, 1))) (.branch 0 (.leaf (1164, .goto (88), 3)) (.leaf (1148, .pop, 1))))) (.branch 0 (.branch 0 (.branch 0 (.leaf (1154, .iaload, 1)) (.leaf (1138, .iadd, 1))) (.leaf (99999, .nop, 1))) (.branch 0 (.branch 0 (.leaf (1158, .iadd, 1)) (.leaf (1142, .iconst 2, 1))) (.branch 0 (.leaf (1134, .aload_n 1, 1)) (.leaf (1150, .aload_n 0, 1)))))) (.branch 0 (.branch 0 (.branch 0 (.branch 0 (.leaf (1153, .iadd, 1)) (.leaf (1137, .iconst 1, 1))) (.leaf (1145, .invokevirtual 134, 3))) (.branch 0 (.branch 0 (.leaf (1157, .iconst 2, 1)) (.leaf (1141, .iload_n 3, 1))) (.leaf (1149, .aload_n 2, 1)))) (.branch 0 (.branch 0 (.branch 0 (.leaf (1155, .aload_n 0, 1)) (.leaf (1139, .iaload, 1))) (.leaf (1163, .pop, 1))) (.branch 0 (.branch 0 (.leaf (1159, .iaload, 1)) (.leaf (1143, .iadd, 1))) (.branch 0 (.leaf (1135, .aload_n 0, 1)) (.leaf (1151, .iload_n 3, 1)))))))
theorem rv_k_law_28 : rv_tok code rv_t_law_28 = true := by decide +kernel

def rv_t_law_29 : rv_T := (.branch 0 (.branch 0 (.branch 0 (.branch 0 (.leaf (1168, .aload_n 0, 1)) (.leaf (1176, .pop, 1))) (.branch 0 (.leaf (1172, .iaload, 1)) (.leaf (1180, .iconst 1, 1)))) (.branch 0 (.branch 0 (.branch 0 (.leaf (1186, .pop, 1)) (.leaf (1170, .iconst 1, 1))) (.leaf (1178, .aload_n 0, 1))) (.leaf (1182, .iaload, 1)))) (.branch 0 (.branch 0 (.branch 0 (.leaf (1169, .iload_n 3, 1)) (.leaf (1177, .aload_n 2, 1))) (.branch 0 (.leaf (1173, .invokevirtual 138, 3)) (.leaf (1181, .iadd, 1)))) (.branch 0 (.branch 0 (.branch 0 (.leaf (1187, .goto (65), 3)) (.leaf (1171, .iadd, 1))) (.leaf (1179, .iload_n 3, 1))) (.branch 0 (.leaf (99999, .nop, 1)) (.branch 0 (.leaf (1167, .aload_n 1, 1)) (.leaf (1183, .invokevirtual 141, 3)))))))
theorem rv_k_law_29 : rv_tok code rv_t_law_29 = true := by decide +kernel

def rv_t_law_30 : rv_T := (.branch 0 (.branch 0 (.branch 0 (.branch 0 (.leaf (1200, .goto (4), 3)) (.branch 0 (.leaf (1192, .iload_n 3, 1)) (.leaf (1208, .aload_n 2, 1)))) (.branch 0 (.leaf (1204, .invokevirtual 142, 3)) (.branch 0 (.leaf (1196, .ifCond .eq (7), 3)) (.leaf (1212, .iadd, 1))))) (.branch 0 (.branch 0 (.leaf (1218, .goto (4), 3)) (.branch 0 (.branch 0 (.leaf (1226, .goto (26), 3)) (.leaf (1194, .iadd, 1))) (.leaf (1210, .iload_n 3, 1)))) (.branch 0 (.branch 0 (.branch 0 (.leaf (1222, .invokevirtual 146, 3)) (.leaf (1190, .aload_n 1, 1))) (.leaf (99999, .nop, 1))) (.leaf (1214, .ifCond .eq (7), 3))))) (.branch 0 (.branch 0 (.branch 0 (.leaf (1217, .iconst 1, 1)) (.branch 0 (.branch 0 (.leaf (1225, .pop, 1)) (.leaf (1193, .iconst 1, 1))) (.leaf (1209, .aload_n 0, 1)))) (.branch 0 (.leaf (1221, .iconst 0, 1)) (.leaf (1213, .iaload, 1)))) (.branch 0 (.branch 0 (.leaf (1203, .iconst 0, 1)) (.branch 0 (.leaf (1195, .iaload, 1)) (.leaf (1211, .iconst 1, 1)))) (.branch 0 (.branch 0 (.leaf (1191, .aload_n 0, 1)) (.leaf (1207, .pop, 1))) (.leaf (1199, .iconst 1, 1))))))
theorem rv_k_law_30 : rv_tok code rv_t_law_30 = true := by decide +kernel

def rv_t_law_31 : rv_T := (.branch 0 (.branch 0 (.branch 0 (.branch 0 (.branch 0 (.leaf (1248, .pop, 1)) (.leaf (1232, .iconst 1, 1))) (.leaf (1240, .aload_n 0, 1))) (.leaf (1244, .iaload, 1))) (.branch 0 (.branch 0 (.leaf (1234, .iaload, 1)) (.leaf (1242, .iconst 1, 1))) (.branch 0 (.leaf (1238, .pop, 1)) (.leaf (1230, .aload_n 0, 1))))) (.branch 0 (.branch 0 (.branch 0 (.branch 0 (.leaf (1249, .goto (3), 3)) (.leaf (1233, .iadd, 1))) (.leaf (1241, .iload_n 3, 1))) (.branch 0 (.leaf (99999, .nop, 1)) (.branch 0 (.leaf (1229, .aload_n 1, 1)) (.leaf (1245, .invokevirtual 150, 3))))) (.branch 0 (.branch 0 (.leaf (1235, .invokevirtual 147, 3)) (.leaf (1243, .iadd, 1))) (.branch 0 (.leaf (1239, .aload_n 2, 1)) (.leaf (1231, .iload_n 3, 1))))))
theorem rv_k_law_31 : rv_tok code rv_t_law_31 = true := by decide +kernel
section RLC
variable {p : Program} {l : Launch} {e : Env} {s : State} {m : MethodId} {below : List Frame} {meth : Method} {c : Code} {b0 N : Nat} {xs : Nat → Int32} {cI c1 c2 c3 c4 c5 : ClassId} {D : va_G} {ad adV : Nat → Nat} {cells slots : Nat} {H : Heap} {locs : List Loc}
variable {ax am : Nat} {Gm Gc : Nat → Option Nat} {Lm Lc : List Nat} {Xc Xm : Int} {fc fm : Nat → va_E}
theorem rl_case_24 (hC : rl_Cx cI c1 c2 c3 c4 c5 D ad adV p s m meth c b0 N xs) {i : Int32} {iN : Nat} {X : Int} (hSt : rl_S cI c1 c2 c3 c4 c5 D ad s ax am Gm Lm X X Gc Lc fc fm H locs) (hR : rl_R ax am Gc fc fm) (hX : 0 ≤ X) (hXC : X + 2276000 ≤ 2000000000) (hcs : cells + 358 ≤ 1049206 ∧ slots + 10311 ≤ 5954629) (hi : i.toInt = (iN : Int)) (hiN : iN + 6 ≤ N) (hN9 : N ≤ 3072)
    (kk : ∀ (Gc : Nat → Option Nat) (Lc : List Nat) (fc fm : Nat → va_E) (H : Heap) (locs : List Loc), rl_S cI c1 c2 c3 c4 c5 D ad s ax am Gm Lm (X + 2276000) (X + 2276000) Gc Lc fc fm H locs → rl_R ax am Gc fc fm → rv_G p l e room_1 s m #[Value.ref b0] below meth c (lw_Z below #[Value.ref b0] s) 4 (cells + 358) (slots + 10311) H locs 1252 [] [(0, .ref b0), (1, .ref ax), (2, .ref am), (3, .int i)]) : rv_G p l e room_1 s m #[Value.ref b0] below meth c (lw_Z below #[Value.ref b0] s) 4 cells slots H locs 992 [] [(0, .ref b0), (1, .ref ax), (2, .ref am), (3, .int i)] := by
  refine rv_run hC.1 hC.2.1 (T := rv_t_law_24) rv_k_law_24 1 ?_
  refine rv_run hC.1 hC.2.1 (T := rv_t_law_24) rv_k_law_24 4 ?_
  refine rl_scr hC hSt.2.2.2.2.1 (j := iN + 1) (rl_ix hi 1 (by decide) hiN hN9) (by omega) (by decide +kernel) ?_
  refine rv_run hC.1 hC.2.1 (T := rv_t_law_24) rv_k_law_24 4 ?_
  refine rl_scr hC hSt.2.2.2.2.1 (j := iN + 2) (rl_ix hi 2 (by decide) hiN hN9) (by omega) (by decide +kernel) ?_
  refine rv_run hC.1 hC.2.1 (T := rv_t_law_24) rv_k_law_24 4 ?_
  refine rl_scr hC hSt.2.2.2.2.1 (j := iN + 3) (rl_ix hi 3 (by decide) hiN hN9) (by omega) (by decide +kernel) ?_
  have hGx := hSt.2.2.2.2.2.2.2.2.1
  refine rl_callG (as := [.int (xs (iN + 1)), .int (xs (iN + 2)), .int (xs (iN + 3))]) (rest := []) hC hSt (rg_way s.heap.size l cI c1 c2 c3 c4 c5 D ad adV ax (xs (iN + 1)) (xs (iN + 2)) (xs (iN + 3))) rfl (by omega) (by show _ ≤ (2000000000 : Int); omega) hSt.2.2.2.2.2.2.2.2.1 rl_lk_118 rl_in_118 rl_se_118 (by decide +kernel) rfl rfl (Nat.le_of_ble_eq_true rfl) ⟨by show cells + 1 ≤ 1049206; omega, by show slots + 4 ≤ 5954629; omega⟩ (fun v Gc Lc fc H locs hPo hGG hSt => ?_)
  obtain ⟨⟨w, rfl⟩, hLv⟩ := hPo
  have hR := rl_Rg hR hGx hGG hLv rfl rfl
  refine rv_run hC.1 hC.2.1 (T := rv_t_law_24) rv_k_law_24 1 ?_
  refine rv_run hC.1 hC.2.1 (T := rv_t_law_24) rv_k_law_24 1 ?_
  refine rv_run hC.1 hC.2.1 (T := rv_t_law_24) rv_k_law_24 4 ?_
  refine rl_scr hC hSt.2.2.2.2.1 (j := iN + 1) (rl_ix hi 1 (by decide) hiN hN9) (by omega) (by decide +kernel) ?_
  refine rv_run hC.1 hC.2.1 (T := rv_t_law_24) rv_k_law_24 4 ?_
  refine rl_scr hC hSt.2.2.2.2.1 (j := iN + 2) (rl_ix hi 2 (by decide) hiN hN9) (by omega) (by decide +kernel) ?_
  refine rv_run hC.1 hC.2.1 (T := rv_t_law_24) rv_k_law_24 4 ?_
  refine rl_scr hC hSt.2.2.2.2.1 (j := iN + 3) (rl_ix hi 3 (by decide) hiN hN9) (by omega) (by decide +kernel) ?_
  refine rl_callM (as := [.int (xs (iN + 1)), .int (xs (iN + 2)), .int (xs (iN + 3))]) (rest := []) hC hSt (c_X12_way_0 s.heap.size l cI c1 c2 c3 c4 c5 D ad adV) (fun _ _ _ => trivial) rfl rfl (by omega) (by show _ ≤ (2000000000 : Int); omega) (rk_all_c ⟨am, rfl, hSt.2.2.2.2.2.2.2.2.2.2.1⟩ (rk_all_c rk_aF (rk_all_c rk_aF (rk_all_c rk_aF rk_all_0)))) rl_lk_121 rl_in_121 rl_se_121 (by decide +kernel) rfl rfl (Nat.le_of_ble_eq_true rfl) ⟨by show _ ≤ (1049206 : Nat); omega, by show _ ≤ (5954629 : Nat); omega⟩ (fun v fm H locs hA hLv hSt => ?_)
  have hR := rl_Rm hR hSt.2.2.2.2.2.2.2.2.2.2.1 hLv rfl rfl
  obtain ⟨w, rfl⟩ := rk_alt_i hA rfl
  clear hA
  refine rv_run hC.1 hC.2.1 (T := rv_t_law_24) rv_k_law_24 1 ?_
  refine rv_run hC.1 hC.2.1 (T := rv_t_law_24) rv_k_law_24 1 ?_
  refine rv_widen (k := cells + 358) (n := slots + 10311) (by omega) (by omega) ?_
  exact kk _ _ _ _ _ _ (rl_S_X hSt (by omega) (by omega)) hR
theorem rl_case_25 (hC : rl_Cx cI c1 c2 c3 c4 c5 D ad adV p s m meth c b0 N xs) {i : Int32} {iN : Nat} {X : Int} (hSt : rl_S cI c1 c2 c3 c4 c5 D ad s ax am Gm Lm X X Gc Lc fc fm H locs) (hR : rl_R ax am Gc fc fm) (hX : 0 ≤ X) (hXC : X + 2276000 ≤ 2000000000) (hcs : cells + 358 ≤ 1049206 ∧ slots + 10311 ≤ 5954629) (hi : i.toInt = (iN : Int)) (hiN : iN + 6 ≤ N) (hN9 : N ≤ 3072)
    (kk : ∀ (Gc : Nat → Option Nat) (Lc : List Nat) (fc fm : Nat → va_E) (H : Heap) (locs : List Loc), rl_S cI c1 c2 c3 c4 c5 D ad s ax am Gm Lm (X + 2276000) (X + 2276000) Gc Lc fc fm H locs → rl_R ax am Gc fc fm → rv_G p l e room_1 s m #[Value.ref b0] below meth c (lw_Z below #[Value.ref b0] s) 4 (cells + 358) (slots + 10311) H locs 1252 [] [(0, .ref b0), (1, .ref ax), (2, .ref am), (3, .int i)]) : rv_G p l e room_1 s m #[Value.ref b0] below meth c (lw_Z below #[Value.ref b0] s) 4 cells slots H locs 1035 [] [(0, .ref b0), (1, .ref ax), (2, .ref am), (3, .int i)] := by
  refine rv_run hC.1 hC.2.1 (T := rv_t_law_25) rv_k_law_25 1 ?_
  refine rv_run hC.1 hC.2.1 (T := rv_t_law_25) rv_k_law_25 4 ?_
  refine rl_scr hC hSt.2.2.2.2.1 (j := iN + 1) (rl_ix hi 1 (by decide) hiN hN9) (by omega) (by decide +kernel) ?_
  refine rv_run hC.1 hC.2.1 (T := rv_t_law_25) rv_k_law_25 4 ?_
  refine rl_scr hC hSt.2.2.2.2.1 (j := iN + 2) (rl_ix hi 2 (by decide) hiN hN9) (by omega) (by decide +kernel) ?_
  refine rl_callC (as := [.int (xs (iN + 1)), .int (xs (iN + 2))]) (rest := []) hC hSt (c_X11_spread s.heap.size l cI c1 c2 c3 c4 c5 D ad adV) rfl (by omega) (by show _ ≤ (2000000000 : Int); omega) (rk_all_c ⟨ax, rfl, hSt.2.2.2.2.2.2.2.2.1⟩ (rk_all_c rk_aF (rk_all_c rk_aF rk_all_0))) rl_lk_122 rl_in_122 rl_se_122 (by decide +kernel) rfl rfl (Nat.le_of_ble_eq_true rfl) ⟨by show _ ≤ (1049206 : Nat); omega, by show _ ≤ (5954629 : Nat); omega⟩ (fun v fc H locs hA hLv hSt => ?_)
  have hR := rl_Rc hR hSt.2.2.2.2.2.2.2.2.1 hLv rfl rfl
  obtain ⟨w, rfl⟩ := rk_alt_i hA rfl
  clear hA
  refine rv_run hC.1 hC.2.1 (T := rv_t_law_25) rv_k_law_25 1 ?_
  refine rv_run hC.1 hC.2.1 (T := rv_t_law_25) rv_k_law_25 1 ?_
  refine rv_run hC.1 hC.2.1 (T := rv_t_law_25) rv_k_law_25 4 ?_
  refine rl_scr hC hSt.2.2.2.2.1 (j := iN + 1) (rl_ix hi 1 (by decide) hiN hN9) (by omega) (by decide +kernel) ?_
  refine rv_run hC.1 hC.2.1 (T := rv_t_law_25) rv_k_law_25 4 ?_
  refine rl_scr hC hSt.2.2.2.2.1 (j := iN + 2) (rl_ix hi 2 (by decide) hiN hN9) (by omega) (by decide +kernel) ?_
  refine rl_callM (as := [.int (xs (iN + 1)), .int (xs (iN + 2))]) (rest := []) hC hSt (c_X12_spread s.heap.size l cI c1 c2 c3 c4 c5 D ad adV) (fun _ _ _ => trivial) rfl rfl (by omega) (by show _ ≤ (2000000000 : Int); omega) (rk_all_c ⟨am, rfl, hSt.2.2.2.2.2.2.2.2.2.2.1⟩ (rk_all_c rk_aF (rk_all_c rk_aF rk_all_0))) rl_lk_125 rl_in_125 rl_se_125 (by decide +kernel) rfl rfl (Nat.le_of_ble_eq_true rfl) ⟨by show _ ≤ (1049206 : Nat); omega, by show _ ≤ (5954629 : Nat); omega⟩ (fun v fm H locs hA hLv hSt => ?_)
  have hR := rl_Rm hR hSt.2.2.2.2.2.2.2.2.2.2.1 hLv rfl rfl
  obtain ⟨w, rfl⟩ := rk_alt_i hA rfl
  clear hA
  refine rv_run hC.1 hC.2.1 (T := rv_t_law_25) rv_k_law_25 1 ?_
  refine rv_run hC.1 hC.2.1 (T := rv_t_law_25) rv_k_law_25 1 ?_
  refine rv_widen (k := cells + 358) (n := slots + 10311) (by omega) (by omega) ?_
  exact kk _ _ _ _ _ _ (rl_S_X hSt (by omega) (by omega)) hR
theorem rl_case_26 (hC : rl_Cx cI c1 c2 c3 c4 c5 D ad adV p s m meth c b0 N xs) {i : Int32} {iN : Nat} {X : Int} (hSt : rl_S cI c1 c2 c3 c4 c5 D ad s ax am Gm Lm X X Gc Lc fc fm H locs) (hR : rl_R ax am Gc fc fm) (hX : 0 ≤ X) (hXC : X + 2276000 ≤ 2000000000) (hcs : cells + 358 ≤ 1049206 ∧ slots + 10311 ≤ 5954629) (hi : i.toInt = (iN : Int)) (hiN : iN + 6 ≤ N) (hN9 : N ≤ 3072)
    (kk : ∀ (Gc : Nat → Option Nat) (Lc : List Nat) (fc fm : Nat → va_E) (H : Heap) (locs : List Loc), rl_S cI c1 c2 c3 c4 c5 D ad s ax am Gm Lm (X + 2276000) (X + 2276000) Gc Lc fc fm H locs → rl_R ax am Gc fc fm → rv_G p l e room_1 s m #[Value.ref b0] below meth c (lw_Z below #[Value.ref b0] s) 4 (cells + 358) (slots + 10311) H locs 1252 [] [(0, .ref b0), (1, .ref ax), (2, .ref am), (3, .int i)]) : rv_G p l e room_1 s m #[Value.ref b0] below meth c (lw_Z below #[Value.ref b0] s) 4 cells slots H locs 1068 [] [(0, .ref b0), (1, .ref ax), (2, .ref am), (3, .int i)] := by
  refine rv_run hC.1 hC.2.1 (T := rv_t_law_26) rv_k_law_26 1 ?_
  refine rv_run hC.1 hC.2.1 (T := rv_t_law_26) rv_k_law_26 4 ?_
  refine rl_scr hC hSt.2.2.2.2.1 (j := iN + 1) (rl_ix hi 1 (by decide) hiN hN9) (by omega) (by decide +kernel) ?_
  refine rv_run hC.1 hC.2.1 (T := rv_t_law_26) rv_k_law_26 4 ?_
  refine rl_scr hC hSt.2.2.2.2.1 (j := iN + 2) (rl_ix hi 2 (by decide) hiN hN9) (by omega) (by decide +kernel) ?_
  refine rl_callC (as := [.int (xs (iN + 1)), .int (xs (iN + 2))]) (rest := []) hC hSt (c_X11_loops s.heap.size l cI c1 c2 c3 c4 c5 D ad adV) rfl (by omega) (by show _ ≤ (2000000000 : Int); omega) (rk_all_c ⟨ax, rfl, hSt.2.2.2.2.2.2.2.2.1⟩ (rk_all_c rk_aF (rk_all_c rk_aF rk_all_0))) rl_lk_126 rl_in_126 rl_se_126 (by decide +kernel) rfl rfl (Nat.le_of_ble_eq_true rfl) ⟨by show _ ≤ (1049206 : Nat); omega, by show _ ≤ (5954629 : Nat); omega⟩ (fun v fc H locs hA hLv hSt => ?_)
  have hR := rl_Rc hR hSt.2.2.2.2.2.2.2.2.1 hLv rfl rfl
  obtain ⟨w, rfl⟩ := rk_alt_i hA rfl
  clear hA
  refine rv_run hC.1 hC.2.1 (T := rv_t_law_26) rv_k_law_26 1 ?_
  refine rv_run hC.1 hC.2.1 (T := rv_t_law_26) rv_k_law_26 1 ?_
  refine rv_run hC.1 hC.2.1 (T := rv_t_law_26) rv_k_law_26 4 ?_
  refine rl_scr hC hSt.2.2.2.2.1 (j := iN + 1) (rl_ix hi 1 (by decide) hiN hN9) (by omega) (by decide +kernel) ?_
  refine rv_run hC.1 hC.2.1 (T := rv_t_law_26) rv_k_law_26 4 ?_
  refine rl_scr hC hSt.2.2.2.2.1 (j := iN + 2) (rl_ix hi 2 (by decide) hiN hN9) (by omega) (by decide +kernel) ?_
  refine rl_callM (as := [.int (xs (iN + 1)), .int (xs (iN + 2))]) (rest := []) hC hSt (c_X12_loops s.heap.size l cI c1 c2 c3 c4 c5 D ad adV) (fun _ _ _ => trivial) rfl rfl (by omega) (by show _ ≤ (2000000000 : Int); omega) (rk_all_c ⟨am, rfl, hSt.2.2.2.2.2.2.2.2.2.2.1⟩ (rk_all_c rk_aF (rk_all_c rk_aF rk_all_0))) rl_lk_129 rl_in_129 rl_se_129 (by decide +kernel) rfl rfl (Nat.le_of_ble_eq_true rfl) ⟨by show _ ≤ (1049206 : Nat); omega, by show _ ≤ (5954629 : Nat); omega⟩ (fun v fm H locs hA hLv hSt => ?_)
  have hR := rl_Rm hR hSt.2.2.2.2.2.2.2.2.2.2.1 hLv rfl rfl
  obtain ⟨w, rfl⟩ := rk_alt_i hA rfl
  clear hA
  refine rv_run hC.1 hC.2.1 (T := rv_t_law_26) rv_k_law_26 1 ?_
  refine rv_run hC.1 hC.2.1 (T := rv_t_law_26) rv_k_law_26 1 ?_
  refine rv_widen (k := cells + 358) (n := slots + 10311) (by omega) (by omega) ?_
  exact kk _ _ _ _ _ _ (rl_S_X hSt (by omega) (by omega)) hR
theorem rl_case_27 (hC : rl_Cx cI c1 c2 c3 c4 c5 D ad adV p s m meth c b0 N xs) {i : Int32} {iN : Nat} {X : Int} (hSt : rl_S cI c1 c2 c3 c4 c5 D ad s ax am Gm Lm X X Gc Lc fc fm H locs) (hR : rl_R ax am Gc fc fm) (hX : 0 ≤ X) (hXC : X + 2276000 ≤ 2000000000) (hcs : cells + 358 ≤ 1049206 ∧ slots + 10311 ≤ 5954629) (hi : i.toInt = (iN : Int)) (hiN : iN + 6 ≤ N) (hN9 : N ≤ 3072)
    (kk : ∀ (Gc : Nat → Option Nat) (Lc : List Nat) (fc fm : Nat → va_E) (H : Heap) (locs : List Loc), rl_S cI c1 c2 c3 c4 c5 D ad s ax am Gm Lm (X + 2276000) (X + 2276000) Gc Lc fc fm H locs → rl_R ax am Gc fc fm → rv_G p l e room_1 s m #[Value.ref b0] below meth c (lw_Z below #[Value.ref b0] s) 4 (cells + 358) (slots + 10311) H locs 1252 [] [(0, .ref b0), (1, .ref ax), (2, .ref am), (3, .int i)]) : rv_G p l e room_1 s m #[Value.ref b0] below meth c (lw_Z below #[Value.ref b0] s) 4 cells slots H locs 1101 [] [(0, .ref b0), (1, .ref ax), (2, .ref am), (3, .int i)] := by
  refine rv_run hC.1 hC.2.1 (T := rv_t_law_27) rv_k_law_27 1 ?_
  refine rv_run hC.1 hC.2.1 (T := rv_t_law_27) rv_k_law_27 4 ?_
  refine rl_scr hC hSt.2.2.2.2.1 (j := iN + 1) (rl_ix hi 1 (by decide) hiN hN9) (by omega) (by decide +kernel) ?_
  refine rv_run hC.1 hC.2.1 (T := rv_t_law_27) rv_k_law_27 4 ?_
  refine rl_scr hC hSt.2.2.2.2.1 (j := iN + 2) (rl_ix hi 2 (by decide) hiN hN9) (by omega) (by decide +kernel) ?_
  refine rl_callC (as := [.int (xs (iN + 1)), .int (xs (iN + 2))]) (rest := []) hC hSt (c_X11_log s.heap.size l cI c1 c2 c3 c4 c5 D ad adV) rfl (by omega) (by show _ ≤ (2000000000 : Int); omega) (rk_all_c ⟨ax, rfl, hSt.2.2.2.2.2.2.2.2.1⟩ (rk_all_c rk_aF (rk_all_c rk_aF rk_all_0))) rl_lk_130 rl_in_130 rl_se_130 (by decide +kernel) rfl rfl (Nat.le_of_ble_eq_true rfl) ⟨by show _ ≤ (1049206 : Nat); omega, by show _ ≤ (5954629 : Nat); omega⟩ (fun v fc H locs hA hLv hSt => ?_)
  have hR := rl_Rc hR hSt.2.2.2.2.2.2.2.2.1 hLv rfl rfl
  obtain ⟨w, rfl⟩ := rk_alt_i hA rfl
  clear hA
  refine rv_run hC.1 hC.2.1 (T := rv_t_law_27) rv_k_law_27 1 ?_
  refine rv_run hC.1 hC.2.1 (T := rv_t_law_27) rv_k_law_27 1 ?_
  refine rv_run hC.1 hC.2.1 (T := rv_t_law_27) rv_k_law_27 4 ?_
  refine rl_scr hC hSt.2.2.2.2.1 (j := iN + 1) (rl_ix hi 1 (by decide) hiN hN9) (by omega) (by decide +kernel) ?_
  refine rv_run hC.1 hC.2.1 (T := rv_t_law_27) rv_k_law_27 4 ?_
  refine rl_scr hC hSt.2.2.2.2.1 (j := iN + 2) (rl_ix hi 2 (by decide) hiN hN9) (by omega) (by decide +kernel) ?_
  refine rl_callM (as := [.int (xs (iN + 1)), .int (xs (iN + 2))]) (rest := []) hC hSt (c_X12_log_0 s.heap.size l cI c1 c2 c3 c4 c5 D ad adV) (fun _ _ _ => trivial) rfl rfl (by omega) (by show _ ≤ (2000000000 : Int); omega) (rk_all_c ⟨am, rfl, hSt.2.2.2.2.2.2.2.2.2.2.1⟩ (rk_all_c rk_aF (rk_all_c rk_aF rk_all_0))) rl_lk_133 rl_in_133 rl_se_133 (by decide +kernel) rfl rfl (Nat.le_of_ble_eq_true rfl) ⟨by show _ ≤ (1049206 : Nat); omega, by show _ ≤ (5954629 : Nat); omega⟩ (fun v fm H locs hA hLv hSt => ?_)
  have hR := rl_Rm hR hSt.2.2.2.2.2.2.2.2.2.2.1 hLv rfl rfl
  obtain ⟨w, rfl⟩ := rk_alt_i hA rfl
  clear hA
  refine rv_run hC.1 hC.2.1 (T := rv_t_law_27) rv_k_law_27 1 ?_
  refine rv_run hC.1 hC.2.1 (T := rv_t_law_27) rv_k_law_27 1 ?_
  refine rv_widen (k := cells + 358) (n := slots + 10311) (by omega) (by omega) ?_
  exact kk _ _ _ _ _ _ (rl_S_X hSt (by omega) (by omega)) hR
theorem rl_case_28 (hC : rl_Cx cI c1 c2 c3 c4 c5 D ad adV p s m meth c b0 N xs) {i : Int32} {iN : Nat} {X : Int} (hSt : rl_S cI c1 c2 c3 c4 c5 D ad s ax am Gm Lm X X Gc Lc fc fm H locs) (hR : rl_R ax am Gc fc fm) (hX : 0 ≤ X) (hXC : X + 2276000 ≤ 2000000000) (hcs : cells + 358 ≤ 1049206 ∧ slots + 10311 ≤ 5954629) (hi : i.toInt = (iN : Int)) (hiN : iN + 6 ≤ N) (hN9 : N ≤ 3072)
    (kk : ∀ (Gc : Nat → Option Nat) (Lc : List Nat) (fc fm : Nat → va_E) (H : Heap) (locs : List Loc), rl_S cI c1 c2 c3 c4 c5 D ad s ax am Gm Lm (X + 2276000) (X + 2276000) Gc Lc fc fm H locs → rl_R ax am Gc fc fm → rv_G p l e room_1 s m #[Value.ref b0] below meth c (lw_Z below #[Value.ref b0] s) 4 (cells + 358) (slots + 10311) H locs 1252 [] [(0, .ref b0), (1, .ref ax), (2, .ref am), (3, .int i)]) : rv_G p l e room_1 s m #[Value.ref b0] below meth c (lw_Z below #[Value.ref b0] s) 4 cells slots H locs 1134 [] [(0, .ref b0), (1, .ref ax), (2, .ref am), (3, .int i)] := by
  refine rv_run hC.1 hC.2.1 (T := rv_t_law_28) rv_k_law_28 1 ?_
  refine rv_run hC.1 hC.2.1 (T := rv_t_law_28) rv_k_law_28 4 ?_
  refine rl_scr hC hSt.2.2.2.2.1 (j := iN + 1) (rl_ix hi 1 (by decide) hiN hN9) (by omega) (by decide +kernel) ?_
  refine rv_run hC.1 hC.2.1 (T := rv_t_law_28) rv_k_law_28 4 ?_
  refine rl_scr hC hSt.2.2.2.2.1 (j := iN + 2) (rl_ix hi 2 (by decide) hiN hN9) (by omega) (by decide +kernel) ?_
  have hGx := hSt.2.2.2.2.2.2.2.2.1
  refine rl_callG (as := [.int (xs (iN + 1)), .int (xs (iN + 2))]) (rest := []) hC hSt (rg_lasts s.heap.size l cI c1 c2 c3 c4 c5 D ad adV ax (xs (iN + 1)) (xs (iN + 2))) rfl (by omega) (by show _ ≤ (2000000000 : Int); omega) ⟨hSt.2.2.2.2.2.2.2.2.1, hSt.2.2.2.2.2.2.2.2.2.1⟩ rl_lk_134 rl_in_134 rl_se_134 (by decide +kernel) rfl rfl (Nat.le_of_ble_eq_true rfl) ⟨by show cells + 358 ≤ 1049206; omega, by show slots + 10311 ≤ 5954629; omega⟩ (fun v Gc Lc fc H locs hPo hGG hSt => ?_)
  obtain ⟨⟨w, rfl⟩, hLv⟩ := hPo
  have hR := rl_Rg hR hGx hGG hLv rfl rfl
  refine rv_run hC.1 hC.2.1 (T := rv_t_law_28) rv_k_law_28 1 ?_
  refine rv_run hC.1 hC.2.1 (T := rv_t_law_28) rv_k_law_28 1 ?_
  refine rv_run hC.1 hC.2.1 (T := rv_t_law_28) rv_k_law_28 4 ?_
  refine rl_scr hC hSt.2.2.2.2.1 (j := iN + 1) (rl_ix hi 1 (by decide) hiN hN9) (by omega) (by decide +kernel) ?_
  refine rv_run hC.1 hC.2.1 (T := rv_t_law_28) rv_k_law_28 4 ?_
  refine rl_scr hC hSt.2.2.2.2.1 (j := iN + 2) (rl_ix hi 2 (by decide) hiN hN9) (by omega) (by decide +kernel) ?_
  refine rl_callM (as := [.int (xs (iN + 1)), .int (xs (iN + 2))]) (rest := []) hC hSt (c_X12_lasts s.heap.size l cI c1 c2 c3 c4 c5 D ad adV) (fun _ _ h => h) rfl rfl (by omega) (by show _ ≤ (2000000000 : Int); omega) (rk_all_c ⟨am, rfl, hSt.2.2.2.2.2.2.2.2.2.2.1⟩ (rk_all_c rk_aF (rk_all_c rk_aF rk_all_0))) rl_lk_137 rl_in_137 rl_se_137 (by decide +kernel) rfl rfl (Nat.le_of_ble_eq_true rfl) ⟨by show _ ≤ (1049206 : Nat); omega, by show _ ≤ (5954629 : Nat); omega⟩ (fun v fm H locs hA hLv hSt => ?_)
  have hR := rl_Rm hR hSt.2.2.2.2.2.2.2.2.2.2.1 hLv rfl rfl
  obtain ⟨w, rfl⟩ := rk_alt_i hA rfl
  clear hA
  refine rv_run hC.1 hC.2.1 (T := rv_t_law_28) rv_k_law_28 1 ?_
  refine rv_run hC.1 hC.2.1 (T := rv_t_law_28) rv_k_law_28 1 ?_
  exact kk _ _ _ _ _ _ (rl_S_X hSt (by omega) (by omega)) hR
theorem rl_case_29 (hC : rl_Cx cI c1 c2 c3 c4 c5 D ad adV p s m meth c b0 N xs) {i : Int32} {iN : Nat} {X : Int} (hSt : rl_S cI c1 c2 c3 c4 c5 D ad s ax am Gm Lm X X Gc Lc fc fm H locs) (hR : rl_R ax am Gc fc fm) (hX : 0 ≤ X) (hXC : X + 2276000 ≤ 2000000000) (hcs : cells + 358 ≤ 1049206 ∧ slots + 10311 ≤ 5954629) (hi : i.toInt = (iN : Int)) (hiN : iN + 6 ≤ N) (hN9 : N ≤ 3072)
    (kk : ∀ (Gc : Nat → Option Nat) (Lc : List Nat) (fc fm : Nat → va_E) (H : Heap) (locs : List Loc), rl_S cI c1 c2 c3 c4 c5 D ad s ax am Gm Lm (X + 2276000) (X + 2276000) Gc Lc fc fm H locs → rl_R ax am Gc fc fm → rv_G p l e room_1 s m #[Value.ref b0] below meth c (lw_Z below #[Value.ref b0] s) 4 (cells + 358) (slots + 10311) H locs 1252 [] [(0, .ref b0), (1, .ref ax), (2, .ref am), (3, .int i)]) : rv_G p l e room_1 s m #[Value.ref b0] below meth c (lw_Z below #[Value.ref b0] s) 4 cells slots H locs 1167 [] [(0, .ref b0), (1, .ref ax), (2, .ref am), (3, .int i)] := by
  refine rv_run hC.1 hC.2.1 (T := rv_t_law_29) rv_k_law_29 1 ?_
  refine rv_run hC.1 hC.2.1 (T := rv_t_law_29) rv_k_law_29 4 ?_
  refine rl_scr hC hSt.2.2.2.2.1 (j := iN + 1) (rl_ix hi 1 (by decide) hiN hN9) (by omega) (by decide +kernel) ?_
  refine rl_callC (as := [.int (xs (iN + 1))]) (rest := []) hC hSt (c_X11_sound s.heap.size l cI c1 c2 c3 c4 c5 D ad adV) rfl (by omega) (by show _ ≤ (2000000000 : Int); omega) (rk_all_c ⟨ax, rfl, hSt.2.2.2.2.2.2.2.2.1⟩ (rk_all_c rk_aF rk_all_0)) rl_lk_138 rl_in_138 rl_se_138 (by decide +kernel) rfl rfl (Nat.le_of_ble_eq_true rfl) ⟨by show _ ≤ (1049206 : Nat); omega, by show _ ≤ (5954629 : Nat); omega⟩ (fun v fc H locs hA hLv hSt => ?_)
  have hR := rl_Rc hR hSt.2.2.2.2.2.2.2.2.1 hLv rfl rfl
  obtain ⟨w, rfl⟩ := rk_alt_i hA rfl
  clear hA
  refine rv_run hC.1 hC.2.1 (T := rv_t_law_29) rv_k_law_29 1 ?_
  refine rv_run hC.1 hC.2.1 (T := rv_t_law_29) rv_k_law_29 1 ?_
  refine rv_run hC.1 hC.2.1 (T := rv_t_law_29) rv_k_law_29 4 ?_
  refine rl_scr hC hSt.2.2.2.2.1 (j := iN + 1) (rl_ix hi 1 (by decide) hiN hN9) (by omega) (by decide +kernel) ?_
  refine rl_callM (as := [.int (xs (iN + 1))]) (rest := []) hC hSt (c_X12_sound_0 s.heap.size l cI c1 c2 c3 c4 c5 D ad adV) (fun _ _ _ => trivial) rfl rfl (by omega) (by show _ ≤ (2000000000 : Int); omega) (rk_all_c ⟨am, rfl, hSt.2.2.2.2.2.2.2.2.2.2.1⟩ (rk_all_c rk_aF rk_all_0)) rl_lk_141 rl_in_141 rl_se_141 (by decide +kernel) rfl rfl (Nat.le_of_ble_eq_true rfl) ⟨by show _ ≤ (1049206 : Nat); omega, by show _ ≤ (5954629 : Nat); omega⟩ (fun v fm H locs hA hLv hSt => ?_)
  have hR := rl_Rm hR hSt.2.2.2.2.2.2.2.2.2.2.1 hLv rfl rfl
  obtain ⟨w, rfl⟩ := rk_alt_i hA rfl
  clear hA
  refine rv_run hC.1 hC.2.1 (T := rv_t_law_29) rv_k_law_29 1 ?_
  refine rv_run hC.1 hC.2.1 (T := rv_t_law_29) rv_k_law_29 1 ?_
  refine rv_widen (k := cells + 358) (n := slots + 10311) (by omega) (by omega) ?_
  exact kk _ _ _ _ _ _ (rl_S_X hSt (by omega) (by omega)) hR
theorem rl_case_30 (hC : rl_Cx cI c1 c2 c3 c4 c5 D ad adV p s m meth c b0 N xs) {i : Int32} {iN : Nat} {X : Int} (hSt : rl_S cI c1 c2 c3 c4 c5 D ad s ax am Gm Lm X X Gc Lc fc fm H locs) (hR : rl_R ax am Gc fc fm) (hX : 0 ≤ X) (hXC : X + 2276000 ≤ 2000000000) (hcs : cells + 358 ≤ 1049206 ∧ slots + 10311 ≤ 5954629) (hi : i.toInt = (iN : Int)) (hiN : iN + 6 ≤ N) (hN9 : N ≤ 3072)
    (kk : ∀ (Gc : Nat → Option Nat) (Lc : List Nat) (fc fm : Nat → va_E) (H : Heap) (locs : List Loc), rl_S cI c1 c2 c3 c4 c5 D ad s ax am Gm Lm (X + 2276000) (X + 2276000) Gc Lc fc fm H locs → rl_R ax am Gc fc fm → rv_G p l e room_1 s m #[Value.ref b0] below meth c (lw_Z below #[Value.ref b0] s) 4 (cells + 358) (slots + 10311) H locs 1252 [] [(0, .ref b0), (1, .ref ax), (2, .ref am), (3, .int i)]) : rv_G p l e room_1 s m #[Value.ref b0] below meth c (lw_Z below #[Value.ref b0] s) 4 cells slots H locs 1190 [] [(0, .ref b0), (1, .ref ax), (2, .ref am), (3, .int i)] := by
  refine rv_run hC.1 hC.2.1 (T := rv_t_law_30) rv_k_law_30 1 ?_
  refine rv_run hC.1 hC.2.1 (T := rv_t_law_30) rv_k_law_30 4 ?_
  refine rl_scr hC hSt.2.2.2.2.1 (j := iN + 1) (rl_ix hi 1 (by decide) hiN hN9) (by omega) (by decide +kernel) ?_
  refine rv_run hC.1 hC.2.1 (T := rv_t_law_30) rv_k_law_30 1 ?_
  refine ⟨fun hq => ?_, fun hq => ?_⟩
  · refine rv_run hC.1 hC.2.1 (T := rv_t_law_30) rv_k_law_30 1 ?_
    have hGx := hSt.2.2.2.2.2.2.2.2.1
    have hGm := hSt.2.2.2.2.2.2.2.2.2.2.1
    refine rl_callG (as := [.int (Int32.ofInt 0)]) (rest := []) hC hSt (rg_image s.heap.size l cI c1 c2 c3 c4 c5 D ad adV ax (Int32.ofInt 0)) rfl (by omega) (by show _ ≤ (2000000000 : Int); omega) hGx rl_lk_142 rl_in_142 rl_se_142 (by decide +kernel) rfl rfl (Nat.le_of_ble_eq_true rfl) ⟨by show cells + 358 ≤ 1049206; omega, by show slots + 10311 ≤ 5954629; omega⟩ (fun v Gc Lc fc H locs hPo hGG hSt => ?_)
    obtain ⟨⟨w1, rfl, hw1⟩, hLc⟩ := hPo
    refine rv_run hC.1 hC.2.1 (T := rv_t_law_30) rv_k_law_30 1 ?_
    refine rv_run hC.1 hC.2.1 (T := rv_t_law_30) rv_k_law_30 1 ?_
    refine rv_run hC.1 hC.2.1 (T := rv_t_law_30) rv_k_law_30 4 ?_
    refine rl_scr hC hSt.2.2.2.2.1 (j := iN + 1) (rl_ix hi 1 (by decide) hiN hN9) (by omega) (by decide +kernel) ?_
    refine rv_run hC.1 hC.2.1 (T := rv_t_law_30) rv_k_law_30 1 ?_
    refine ⟨fun _ => ?_, fun h9 => absurd hq h9⟩
    refine rv_run hC.1 hC.2.1 (T := rv_t_law_30) rv_k_law_30 1 ?_
    refine rl_callMx (as := [.int (Int32.ofInt 0)]) (rest := []) hC hSt (h_image2 s.heap.size l cI c1 c2 c3 c4 c5 D ad adV am (Int32.ofInt 0)) rfl rfl (by omega) (by show _ ≤ (2000000000 : Int); omega) hGm rl_lk_146 rl_in_146 rl_se_146 (by decide +kernel) rfl rfl (Nat.le_of_ble_eq_true rfl) ⟨by show _ ≤ (1049206 : Nat); omega, by show _ ≤ (5954629 : Nat); omega⟩ (fun v fm H locs hPm hLm hSt => ?_)
    obtain ⟨w2, rfl, hw2⟩ := hPm
    obtain ⟨hR, heq⟩ := rl_Ri hR hGm hGG hLc hLm hw1 hw2
    refine rv_run hC.1 hC.2.1 (T := rv_t_law_30) rv_k_law_30 1 ?_
    refine rv_run hC.1 hC.2.1 (T := rv_t_law_30) rv_k_law_30 1 ?_
    exact kk _ _ _ _ _ _ (rl_S_X hSt (by omega) (by omega)) hR
  · refine rv_run hC.1 hC.2.1 (T := rv_t_law_30) rv_k_law_30 2 ?_
    have hGx := hSt.2.2.2.2.2.2.2.2.1
    have hGm := hSt.2.2.2.2.2.2.2.2.2.2.1
    refine rl_callG (as := [.int (Int32.ofInt 1)]) (rest := []) hC hSt (rg_image s.heap.size l cI c1 c2 c3 c4 c5 D ad adV ax (Int32.ofInt 1)) rfl (by omega) (by show _ ≤ (2000000000 : Int); omega) hGx rl_lk_142 rl_in_142 rl_se_142 (by decide +kernel) rfl rfl (Nat.le_of_ble_eq_true rfl) ⟨by show cells + 358 ≤ 1049206; omega, by show slots + 10311 ≤ 5954629; omega⟩ (fun v Gc Lc fc H locs hPo hGG hSt => ?_)
    obtain ⟨⟨w1, rfl, hw1⟩, hLc⟩ := hPo
    refine rv_run hC.1 hC.2.1 (T := rv_t_law_30) rv_k_law_30 1 ?_
    refine rv_run hC.1 hC.2.1 (T := rv_t_law_30) rv_k_law_30 1 ?_
    refine rv_run hC.1 hC.2.1 (T := rv_t_law_30) rv_k_law_30 4 ?_
    refine rl_scr hC hSt.2.2.2.2.1 (j := iN + 1) (rl_ix hi 1 (by decide) hiN hN9) (by omega) (by decide +kernel) ?_
    refine rv_run hC.1 hC.2.1 (T := rv_t_law_30) rv_k_law_30 1 ?_
    refine ⟨fun h9 => absurd h9 hq, fun _ => ?_⟩
    refine rv_run hC.1 hC.2.1 (T := rv_t_law_30) rv_k_law_30 2 ?_
    refine rl_callMx (as := [.int (Int32.ofInt 1)]) (rest := []) hC hSt (h_image2 s.heap.size l cI c1 c2 c3 c4 c5 D ad adV am (Int32.ofInt 1)) rfl rfl (by omega) (by show _ ≤ (2000000000 : Int); omega) hGm rl_lk_146 rl_in_146 rl_se_146 (by decide +kernel) rfl rfl (Nat.le_of_ble_eq_true rfl) ⟨by show _ ≤ (1049206 : Nat); omega, by show _ ≤ (5954629 : Nat); omega⟩ (fun v fm H locs hPm hLm hSt => ?_)
    obtain ⟨w2, rfl, hw2⟩ := hPm
    obtain ⟨hR, heq⟩ := rl_Ri hR hGm hGG hLc hLm hw1 hw2
    refine rv_run hC.1 hC.2.1 (T := rv_t_law_30) rv_k_law_30 1 ?_
    refine rv_run hC.1 hC.2.1 (T := rv_t_law_30) rv_k_law_30 1 ?_
    exact kk _ _ _ _ _ _ (rl_S_X hSt (by omega) (by omega)) hR
theorem rl_case_31 (hC : rl_Cx cI c1 c2 c3 c4 c5 D ad adV p s m meth c b0 N xs) {i : Int32} {iN : Nat} {X : Int} (hSt : rl_S cI c1 c2 c3 c4 c5 D ad s ax am Gm Lm X X Gc Lc fc fm H locs) (hR : rl_R ax am Gc fc fm) (hX : 0 ≤ X) (hXC : X + 2276000 ≤ 2000000000) (hcs : cells + 358 ≤ 1049206 ∧ slots + 10311 ≤ 5954629) (hi : i.toInt = (iN : Int)) (hiN : iN + 6 ≤ N) (hN9 : N ≤ 3072)
    (kk : ∀ (Gc : Nat → Option Nat) (Lc : List Nat) (fc fm : Nat → va_E) (H : Heap) (locs : List Loc), rl_S cI c1 c2 c3 c4 c5 D ad s ax am Gm Lm (X + 2276000) (X + 2276000) Gc Lc fc fm H locs → rl_R ax am Gc fc fm → rv_G p l e room_1 s m #[Value.ref b0] below meth c (lw_Z below #[Value.ref b0] s) 4 (cells + 358) (slots + 10311) H locs 1252 [] [(0, .ref b0), (1, .ref ax), (2, .ref am), (3, .int i)]) : rv_G p l e room_1 s m #[Value.ref b0] below meth c (lw_Z below #[Value.ref b0] s) 4 cells slots H locs 1229 [] [(0, .ref b0), (1, .ref ax), (2, .ref am), (3, .int i)] := by
  refine rv_run hC.1 hC.2.1 (T := rv_t_law_31) rv_k_law_31 1 ?_
  refine rv_run hC.1 hC.2.1 (T := rv_t_law_31) rv_k_law_31 4 ?_
  refine rl_scr hC hSt.2.2.2.2.1 (j := iN + 1) (rl_ix hi 1 (by decide) hiN hN9) (by omega) (by decide +kernel) ?_
  refine rl_callC (as := [.int (xs (iN + 1))]) (rest := []) hC hSt (c_X11_look s.heap.size l cI c1 c2 c3 c4 c5 D ad adV) rfl (by omega) (by show _ ≤ (2000000000 : Int); omega) (rk_all_c ⟨ax, rfl, hSt.2.2.2.2.2.2.2.2.1⟩ (rk_all_c rk_aF rk_all_0)) rl_lk_147 rl_in_147 rl_se_147 (by decide +kernel) rfl rfl (Nat.le_of_ble_eq_true rfl) ⟨by show _ ≤ (1049206 : Nat); omega, by show _ ≤ (5954629 : Nat); omega⟩ (fun v fc H locs hA hLv hSt => ?_)
  have hR := rl_Rc hR hSt.2.2.2.2.2.2.2.2.1 hLv rfl rfl
  obtain ⟨w, rfl⟩ := rk_alt_i hA rfl
  clear hA
  refine rv_run hC.1 hC.2.1 (T := rv_t_law_31) rv_k_law_31 1 ?_
  refine rv_run hC.1 hC.2.1 (T := rv_t_law_31) rv_k_law_31 1 ?_
  refine rv_run hC.1 hC.2.1 (T := rv_t_law_31) rv_k_law_31 4 ?_
  refine rl_scr hC hSt.2.2.2.2.1 (j := iN + 1) (rl_ix hi 1 (by decide) hiN hN9) (by omega) (by decide +kernel) ?_
  refine rl_callM (as := [.int (xs (iN + 1))]) (rest := []) hC hSt (c_X12_look s.heap.size l cI c1 c2 c3 c4 c5 D ad adV) (fun _ _ _ => trivial) rfl rfl (by omega) (by show _ ≤ (2000000000 : Int); omega) (rk_all_c ⟨am, rfl, hSt.2.2.2.2.2.2.2.2.2.2.1⟩ (rk_all_c rk_aF rk_all_0)) rl_lk_150 rl_in_150 rl_se_150 (by decide +kernel) rfl rfl (Nat.le_of_ble_eq_true rfl) ⟨by show _ ≤ (1049206 : Nat); omega, by show _ ≤ (5954629 : Nat); omega⟩ (fun v fm H locs hA hLv hSt => ?_)
  have hR := rl_Rm hR hSt.2.2.2.2.2.2.2.2.2.2.1 hLv rfl rfl
  obtain ⟨w, rfl⟩ := rk_alt_i hA rfl
  clear hA
  refine rv_run hC.1 hC.2.1 (T := rv_t_law_31) rv_k_law_31 1 ?_
  refine rv_run hC.1 hC.2.1 (T := rv_t_law_31) rv_k_law_31 1 ?_
  refine rv_widen (k := cells + 358) (n := slots + 10311) (by omega) (by omega) ?_
  exact kk _ _ _ _ _ _ (rl_S_X hSt (by omega) (by omega)) hR
end RLC
