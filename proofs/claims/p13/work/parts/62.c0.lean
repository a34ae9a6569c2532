def rv_t_law_0 : rv_T := (.branch 0 (.branch 0 (.branch 0 (.branch 0 (.branch 0 (.leaf (192, .aload_n 0, 1)) (.leaf (176, .aload_n 1, 1))) (.branch 0 (.leaf (200, .iadd, 1)) (.leaf (184, .iconst 2, 1)))) (.branch 0 (.branch 0 (.leaf (196, .iaload, 1)) (.leaf (180, .iadd, 1))) (.leaf (99999, .nop, 1)))) (.branch 0 (.branch 0 (.branch 0 (.leaf (194, .iconst 1, 1)) (.leaf (178, .iload_n 3, 1))) (.branch 0 (.leaf (202, .invokevirtual 17, 3)) (.leaf (186, .iaload, 1)))) (.branch 0 (.branch 0 (.leaf (198, .iload_n 3, 1)) (.leaf (182, .aload_n 0, 1))) (.branch 0 (.leaf (206, .goto (1046), 3)) (.leaf (190, .pop, 1)))))) (.branch 0 (.branch 0 (.branch 0 (.branch 0 (.leaf (193, .iload_n 3, 1)) (.leaf (177, .aload_n 0, 1))) (.branch 0 (.leaf (201, .iaload, 1)) (.leaf (185, .iadd, 1)))) (.branch 0 (.branch 0 (.leaf (197, .aload_n 0, 1)) (.leaf (181, .iaload, 1))) (.leaf (205, .pop, 1)))) (.branch 0 (.branch 0 (.branch 0 (.leaf (195, .iadd, 1)) (.leaf (179, .iconst 1, 1))) (.leaf (187, .invokevirtual 13, 3))) (.branch 0 (.branch 0 (.leaf (199, .iconst 2, 1)) (.leaf (183, .iload_n 3, 1))) (.leaf (191, .aload_n 2, 1))))))
theorem rv_k_law_0 : rv_tok code rv_t_law_0 = true := by decide +kernel

def rv_t_law_1 : rv_T := (.branch 0 (.branch 0 (.branch 0 (.leaf (224, .iaload, 1)) (.branch 0 (.branch 0 (.leaf (228, .pop, 1)) (.leaf (212, .iconst 1, 1))) (.leaf (220, .aload_n 0, 1)))) (.branch 0 (.branch 0 (.leaf (210, .aload_n 0, 1)) (.leaf (218, .pop, 1))) (.branch 0 (.leaf (214, .iaload, 1)) (.leaf (222, .iconst 1, 1))))) (.branch 0 (.branch 0 (.branch 0 (.branch 0 (.leaf (225, .invokevirtual 22, 3)) (.leaf (209, .aload_n 1, 1))) (.leaf (99999, .nop, 1))) (.branch 0 (.branch 0 (.leaf (229, .goto (1023), 3)) (.leaf (213, .iadd, 1))) (.leaf (221, .iload_n 3, 1)))) (.branch 0 (.branch 0 (.leaf (211, .iload_n 3, 1)) (.leaf (219, .aload_n 2, 1))) (.branch 0 (.leaf (215, .invokevirtual 18, 3)) (.leaf (223, .iadd, 1))))))
theorem rv_k_law_1 : rv_tok code rv_t_law_1 = true := by decide +kernel

def rv_t_law_2 : rv_T := (.branch 0 (.branch 0 (.branch 0 (.branch 0 (.branch 0 (.leaf (256, .aload_n 0, 1)) (.leaf (240, .iconst 2, 1))) (.branch 0 (.branch 0 (.leaf (264, .iadd, 1)) (.leaf (232, .aload_n 1, 1))) (.leaf (99999, .nop, 1)))) (.branch 0 (.leaf (260, .iaload, 1)) (.leaf (236, .iadd, 1)))) (.branch 0 (.branch 0 (.branch 0 (.leaf (258, .iconst 1, 1)) (.branch 0 (.leaf (274, .invokevirtual 27, 3)) (.leaf (242, .iaload, 1)))) (.branch 0 (.branch 0 (.leaf (266, .ifCond .eq (7), 3)) (.leaf (234, .iload_n 3, 1))) (.leaf (250, .iconst 0, 1)))) (.branch 0 (.branch 0 (.leaf (262, .iload_n 3, 1)) (.branch 0 (.leaf (278, .goto (974), 3)) (.leaf (246, .iconst 1, 1)))) (.branch 0 (.branch 0 (.leaf (270, .goto (4), 3)) (.leaf (238, .aload_n 0, 1))) (.leaf (254, .pop, 1)))))) (.branch 0 (.branch 0 (.branch 0 (.branch 0 (.leaf (257, .iload_n 3, 1)) (.branch 0 (.leaf (273, .iconst 0, 1)) (.leaf (241, .iadd, 1)))) (.branch 0 (.branch 0 (.leaf (265, .iaload, 1)) (.leaf (233, .aload_n 0, 1))) (.leaf (99999, .nop, 1)))) (.branch 0 (.branch 0 (.leaf (261, .aload_n 0, 1)) (.leaf (277, .pop, 1))) (.branch 0 (.branch 0 (.leaf (269, .iconst 1, 1)) (.leaf (237, .iaload, 1))) (.leaf (99999, .nop, 1))))) (.branch 0 (.branch 0 (.branch 0 (.leaf (259, .iadd, 1)) (.leaf (243, .ifCond .eq (7), 3))) (.branch 0 (.leaf (235, .iconst 1, 1)) (.leaf (251, .invokevirtual 23, 3)))) (.branch 0 (.branch 0 (.leaf (263, .iconst 2, 1)) (.leaf (247, .goto (4), 3))) (.branch 0 (.leaf (239, .iload_n 3, 1)) (.leaf (255, .aload_n 2, 1)))))))
theorem rv_k_law_2 : rv_tok code rv_t_law_2 = true := by decide +kernel

def rv_t_law_3 : rv_T := (.branch 0 (.branch 0 (.branch 0 (.branch 0 (.branch 0 (.leaf (288, .iload_n 3, 1)) (.leaf (304, .aload_n 2, 1))) (.branch 0 (.leaf (296, .goto (4), 3)) (.leaf (312, .iconst 2, 1)))) (.branch 0 (.branch 0 (.leaf (292, .ifCond .eq (7), 3)) (.leaf (308, .iadd, 1))) (.branch 0 (.leaf (300, .invokevirtual 28, 3)) (.leaf (284, .iconst 1, 1))))) (.branch 0 (.branch 0 (.branch 0 (.branch 0 (.leaf (322, .iconst 0, 1)) (.leaf (290, .iadd, 1))) (.leaf (306, .iload_n 3, 1))) (.branch 0 (.leaf (99999, .nop, 1)) (.branch 0 (.leaf (282, .aload_n 0, 1)) (.leaf (314, .iaload, 1))))) (.branch 0 (.branch 0 (.leaf (326, .pop, 1)) (.leaf (310, .aload_n 0, 1))) (.branch 0 (.leaf (99999, .nop, 1)) (.branch 0 (.leaf (286, .iaload, 1)) (.leaf (318, .iconst 1, 1))))))) (.branch 0 (.branch 0 (.branch 0 (.branch 0 (.leaf (289, .iconst 2, 1)) (.leaf (305, .aload_n 0, 1))) (.branch 0 (.leaf (99999, .nop, 1)) (.branch 0 (.leaf (281, .aload_n 1, 1)) (.leaf (313, .iadd, 1))))) (.branch 0 (.leaf (309, .iaload, 1)) (.leaf (285, .iadd, 1)))) (.branch 0 (.branch 0 (.branch 0 (.branch 0 (.leaf (323, .invokevirtual 31, 3)) (.leaf (291, .iaload, 1))) (.leaf (307, .iconst 1, 1))) (.branch 0 (.leaf (299, .iconst 0, 1)) (.branch 0 (.leaf (283, .iload_n 3, 1)) (.leaf (315, .ifCond .eq (7), 3))))) (.branch 0 (.branch 0 (.branch 0 (.leaf (327, .goto (925), 3)) (.leaf (295, .iconst 1, 1))) (.leaf (311, .iload_n 3, 1))) (.branch 0 (.leaf (303, .pop, 1)) (.branch 0 (.leaf (287, .aload_n 0, 1)) (.leaf (319, .goto (4), 3))))))))
theorem rv_k_law_3 : rv_tok code rv_t_law_3 = true := by decide +kernel

def rv_t_law_4 : rv_T := (.branch 0 (.branch 0 (.branch 0 (.branch 0 (.leaf (336, .invokevirtual 32, 3)) (.leaf (344, .iadd, 1))) (.branch 0 (.leaf (340, .aload_n 2, 1)) (.leaf (332, .iload_n 3, 1)))) (.branch 0 (.branch 0 (.leaf (99999, .nop, 1)) (.branch 0 (.leaf (330, .aload_n 1, 1)) (.leaf (346, .invokevirtual 36, 3)))) (.branch 0 (.leaf (342, .iload_n 3, 1)) (.branch 0 (.leaf (334, .iadd, 1)) (.leaf (350, .goto (902), 3)))))) (.branch 0 (.branch 0 (.leaf (345, .iaload, 1)) (.branch 0 (.leaf (341, .aload_n 0, 1)) (.branch 0 (.leaf (333, .iconst 1, 1)) (.leaf (349, .pop, 1))))) (.branch 0 (.branch 0 (.leaf (339, .pop, 1)) (.leaf (331, .aload_n 0, 1))) (.branch 0 (.leaf (343, .iconst 1, 1)) (.leaf (335, .iaload, 1))))))
theorem rv_k_law_4 : rv_tok code rv_t_law_4 = true := by decide +kernel

def rv_t_law_5 : rv_T := (.branch 0 (.branch 0 (.branch 0 (.leaf (368, .iaload, 1)) (.branch 0 (.branch 0 (.leaf (356, .iconst 1, 1)) (.leaf (372, .pop, 1))) (.leaf (364, .aload_n 0, 1)))) (.branch 0 (.branch 0 (.leaf (354, .aload_n 0, 1)) (.leaf (362, .pop, 1))) (.branch 0 (.leaf (358, .iaload, 1)) (.leaf (366, .iconst 1, 1))))) (.branch 0 (.branch 0 (.branch 0 (.branch 0 (.leaf (353, .aload_n 1, 1)) (.leaf (369, .invokevirtual 40, 3))) (.leaf (99999, .nop, 1))) (.branch 0 (.branch 0 (.leaf (357, .iadd, 1)) (.leaf (373, .goto (879), 3))) (.leaf (365, .iload_n 3, 1)))) (.branch 0 (.branch 0 (.leaf (355, .iload_n 3, 1)) (.leaf (363, .aload_n 2, 1))) (.branch 0 (.leaf (359, .invokevirtual 37, 3)) (.leaf (367, .iadd, 1))))))
theorem rv_k_law_5 : rv_tok code rv_t_law_5 = true := by decide +kernel

def rv_t_law_6 : rv_T := (.branch 0 (.branch 0 (.branch 0 (.branch 0 (.leaf (99999, .nop, 1)) (.branch 0 (.leaf (392, .invokevirtual 44, 3)) (.leaf (376, .aload_n 1, 1)))) (.branch 0 (.leaf (388, .iload_n 3, 1)) (.branch 0 (.leaf (396, .goto (856), 3)) (.leaf (380, .iadd, 1))))) (.branch 0 (.branch 0 (.leaf (386, .aload_n 2, 1)) (.leaf (378, .iload_n 3, 1))) (.branch 0 (.leaf (390, .iadd, 1)) (.leaf (382, .invokevirtual 41, 3))))) (.branch 0 (.branch 0 (.branch 0 (.leaf (385, .pop, 1)) (.leaf (377, .aload_n 0, 1))) (.branch 0 (.leaf (389, .iconst 1, 1)) (.leaf (381, .iaload, 1)))) (.branch 0 (.branch 0 (.leaf (387, .aload_n 0, 1)) (.branch 0 (.leaf (395, .pop, 1)) (.leaf (379, .iconst 1, 1)))) (.leaf (391, .iaload, 1)))))
theorem rv_k_law_6 : rv_tok code rv_t_law_6 = true := by decide +kernel

def rv_t_law_7 : rv_T := (.branch 0 (.branch 0 (.branch 0 (.branch 0 (.branch 0 (.branch 0 (.leaf (448, .aload_n 0, 1)) (.leaf (416, .iload_n 3, 1))) (.branch 0 (.branch 0 (.leaf (400, .aload_n 0, 1)) (.leaf (464, .pop, 1))) (.leaf (432, .aload_n 2, 1)))) (.branch 0 (.branch 0 (.leaf (456, .iconst 1, 1)) (.leaf (424, .goto (4), 3))) (.branch 0 (.leaf (408, .iadd, 1)) (.leaf (440, .iconst 2, 1))))) (.branch 0 (.branch 0 (.branch 0 (.leaf (452, .iaload, 1)) (.leaf (420, .ifCond .eq (7), 3))) (.branch 0 (.leaf (404, .iaload, 1)) (.leaf (436, .iadd, 1)))) (.branch 0 (.branch 0 (.leaf (460, .iconst 0, 1)) (.leaf (428, .invokevirtual 45, 3))) (.branch 0 (.leaf (412, .iconst 3, 1)) (.leaf (444, .iload_n 3, 1)))))) (.branch 0 (.branch 0 (.branch 0 (.branch 0 (.leaf (450, .iconst 4, 1)) (.leaf (418, .iadd, 1))) (.branch 0 (.leaf (402, .iconst 1, 1)) (.leaf (434, .iload_n 3, 1)))) (.branch 0 (.leaf (99999, .nop, 1)) (.branch 0 (.leaf (410, .aload_n 0, 1)) (.leaf (442, .iaload, 1))))) (.branch 0 (.branch 0 (.leaf (99999, .nop, 1)) (.branch 0 (.leaf (406, .iload_n 3, 1)) (.leaf (438, .aload_n 0, 1)))) (.branch 0 (.leaf (99999, .nop, 1)) (.branch 0 (.leaf (414, .iaload, 1)) (.leaf (446, .iadd, 1))))))) (.branch 0 (.branch 0 (.branch 0 (.branch 0 (.branch 0 (.leaf (449, .iload_n 3, 1)) (.leaf (417, .iconst 4, 1))) (.branch 0 (.branch 0 (.leaf (401, .iload_n 3, 1)) (.leaf (465, .goto (787), 3))) (.leaf (433, .aload_n 0, 1)))) (.branch 0 (.leaf (457, .goto (4), 3)) (.branch 0 (.leaf (409, .iaload, 1)) (.leaf (441, .iadd, 1))))) (.branch 0 (.branch 0 (.leaf (453, .ifCond .eq (7), 3)) (.branch 0 (.leaf (405, .aload_n 0, 1)) (.leaf (437, .iaload, 1)))) (.branch 0 (.leaf (461, .invokevirtual 49, 3)) (.branch 0 (.leaf (413, .iadd, 1)) (.leaf (445, .iconst 3, 1)))))) (.branch 0 (.branch 0 (.branch 0 (.branch 0 (.leaf (451, .iadd, 1)) (.leaf (419, .iaload, 1))) (.branch 0 (.leaf (403, .iadd, 1)) (.leaf (435, .iconst 1, 1)))) (.branch 0 (.leaf (427, .iconst 0, 1)) (.branch 0 (.leaf (411, .iload_n 3, 1)) (.leaf (443, .aload_n 0, 1))))) (.branch 0 (.branch 0 (.leaf (423, .iconst 1, 1)) (.branch 0 (.leaf (407, .iconst 2, 1)) (.leaf (439, .iload_n 3, 1)))) (.branch 0 (.branch 0 (.leaf (399, .aload_n 1, 1)) (.leaf (431, .pop, 1))) (.branch 0 (.leaf (415, .aload_n 0, 1)) (.leaf (447, .iaload, 1))))))))
theorem rv_k_law_7 : rv_tok code rv_t_law_7 = true := by decide +kernel
section RLC
variable {p : Program} {l : Launch} {e : Env} {s : State} {m : MethodId} {below : List Frame} {meth : Method} {c : Code} {b0 N : Nat} {xs : Nat → Int32} {cI c1 c2 c3 c4 c5 : ClassId} {D : va_G} {ad adV : Nat → Nat} {cells slots : Nat} {H : Heap} {locs : List Loc}
variable {ax am : Nat} {Gm Gc : Nat → Option Nat} {Lm Lc : List Nat} {Xc Xm : Int} {fc fm : Nat → va_E}
theorem rl_case_0 (hC : rl_Cx cI c1 c2 c3 c4 c5 D ad adV p s m meth c b0 N xs) {i : Int32} {iN : Nat} {X : Int} (hSt : rl_S cI c1 c2 c3 c4 c5 D ad s ax am Gm Lm X X Gc Lc fc fm H locs) (hR : rl_R ax am Gc fc fm) (hX : 0 ≤ X) (hXC : X + 2276000 ≤ 2000000000) (hcs : cells + 358 ≤ 1049206 ∧ slots + 10311 ≤ 5954629) (hi : i.toInt = (iN : Int)) (hiN : iN + 6 ≤ N) (hN9 : N ≤ 3072)
    (kk : ∀ (Gc : Nat → Option Nat) (Lc : List Nat) (fc fm : Nat → va_E) (H : Heap) (locs : List Loc), rl_S cI c1 c2 c3 c4 c5 D ad s ax am Gm Lm (X + 2276000) (X + 2276000) Gc Lc fc fm H locs → rl_R ax am Gc fc fm → rv_G p l e room_1 s m #[Value.ref b0] below meth c (lw_Z below #[Value.ref b0] s) 4 (cells + 358) (slots + 10311) H locs 1252 [] [(0, .ref b0), (1, .ref ax), (2, .ref am), (3, .int i)]) : rv_G p l e room_1 s m #[Value.ref b0] below meth c (lw_Z below #[Value.ref b0] s) 4 cells slots H locs 176 [] [(0, .ref b0), (1, .ref ax), (2, .ref am), (3, .int i)] := by
  refine rv_run hC.1 hC.2.1 (T := rv_t_law_0) rv_k_law_0 1 ?_
  refine rv_run hC.1 hC.2.1 (T := rv_t_law_0) rv_k_law_0 4 ?_
  refine rl_scr hC hSt.2.2.2.2.1 (j := iN + 1) (rl_ix hi 1 (by decide) hiN hN9) (by omega) (by decide +kernel) ?_
  refine rv_run hC.1 hC.2.1 (T := rv_t_law_0) rv_k_law_0 4 ?_
  refine rl_scr hC hSt.2.2.2.2.1 (j := iN + 2) (rl_ix hi 2 (by decide) hiN hN9) (by omega) (by decide +kernel) ?_
  refine rl_callC (as := [.int (xs (iN + 1)), .int (xs (iN + 2))]) (rest := []) hC hSt (c_X11_plug s.heap.size l cI c1 c2 c3 c4 c5 D ad adV) rfl (by omega) (by show _ ≤ (2000000000 : Int); omega) (rk_all_c ⟨ax, rfl, hSt.2.2.2.2.2.2.2.2.1⟩ (rk_all_c rk_aF (rk_all_c rk_aF rk_all_0))) rl_lk_13 rl_in_13 rl_se_13 (by decide +kernel) rfl rfl (Nat.le_of_ble_eq_true rfl) ⟨by show _ ≤ (1049206 : Nat); omega, by show _ ≤ (5954629 : Nat); omega⟩ (fun v fc H locs hA hLv hSt => ?_)
  have hR := rl_Rc hR hSt.2.2.2.2.2.2.2.2.1 hLv rfl rfl
  obtain ⟨w, rfl⟩ := rk_alt_i hA rfl
  clear hA
  refine rv_run hC.1 hC.2.1 (T := rv_t_law_0) rv_k_law_0 1 ?_
  refine rv_run hC.1 hC.2.1 (T := rv_t_law_0) rv_k_law_0 1 ?_
  refine rv_run hC.1 hC.2.1 (T := rv_t_law_0) rv_k_law_0 4 ?_
  refine rl_scr hC hSt.2.2.2.2.1 (j := iN + 1) (rl_ix hi 1 (by decide) hiN hN9) (by omega) (by decide +kernel) ?_
  refine rv_run hC.1 hC.2.1 (T := rv_t_law_0) rv_k_law_0 4 ?_
  refine rl_scr hC hSt.2.2.2.2.1 (j := iN + 2) (rl_ix hi 2 (by decide) hiN hN9) (by omega) (by decide +kernel) ?_
  refine rl_callM (as := [.int (xs (iN + 1)), .int (xs (iN + 2))]) (rest := []) hC hSt (c_X12_plug s.heap.size l cI c1 c2 c3 c4 c5 D ad adV) (fun _ _ h => h) rfl rfl (by omega) (by show _ ≤ (2000000000 : Int); omega) (rk_all_c ⟨am, rfl, hSt.2.2.2.2.2.2.2.2.2.2.1⟩ (rk_all_c rk_aF (rk_all_c rk_aF rk_all_0))) rl_lk_17 rl_in_17 rl_se_17 (by decide +kernel) rfl rfl (Nat.le_of_ble_eq_true rfl) ⟨by show _ ≤ (1049206 : Nat); omega, by show _ ≤ (5954629 : Nat); omega⟩ (fun v fm H locs hA hLv hSt => ?_)
  have hR := rl_Rm hR hSt.2.2.2.2.2.2.2.2.2.2.1 hLv rfl rfl
  obtain ⟨w, rfl⟩ := rk_alt_i hA rfl
  clear hA
  refine rv_run hC.1 hC.2.1 (T := rv_t_law_0) rv_k_law_0 1 ?_
  refine rv_run hC.1 hC.2.1 (T := rv_t_law_0) rv_k_law_0 1 ?_
  refine rv_widen (k := cells + 358) (n := slots + 10311) (by omega) (by omega) ?_
  exact kk _ _ _ _ _ _ (rl_S_X hSt (by omega) (by omega)) hR
theorem rl_case_1 (hC : rl_Cx cI c1 c2 c3 c4 c5 D ad adV p s m meth c b0 N xs) {i : Int32} {iN : Nat} {X : Int} (hSt : rl_S cI c1 c2 c3 c4 c5 D ad s ax am Gm Lm X X Gc Lc fc fm H locs) (hR : rl_R ax am Gc fc fm) (hX : 0 ≤ X) (hXC : X + 2276000 ≤ 2000000000) (hcs : cells + 358 ≤ 1049206 ∧ slots + 10311 ≤ 5954629) (hi : i.toInt = (iN : Int)) (hiN : iN + 6 ≤ N) (hN9 : N ≤ 3072)
    (kk : ∀ (Gc : Nat → Option Nat) (Lc : List Nat) (fc fm : Nat → va_E) (H : Heap) (locs : List Loc), rl_S cI c1 c2 c3 c4 c5 D ad s ax am Gm Lm (X + 2276000) (X + 2276000) Gc Lc fc fm H locs → rl_R ax am Gc fc fm → rv_G p l e room_1 s m #[Value.ref b0] below meth c (lw_Z below #[Value.ref b0] s) 4 (cells + 358) (slots + 10311) H locs 1252 [] [(0, .ref b0), (1, .ref ax), (2, .ref am), (3, .int i)]) : rv_G p l e room_1 s m #[Value.ref b0] below meth c (lw_Z below #[Value.ref b0] s) 4 cells slots H locs 209 [] [(0, .ref b0), (1, .ref ax), (2, .ref am), (3, .int i)] := by
  refine rv_run hC.1 hC.2.1 (T := rv_t_law_1) rv_k_law_1 1 ?_
  refine rv_run hC.1 hC.2.1 (T := rv_t_law_1) rv_k_law_1 4 ?_
  refine rl_scr hC hSt.2.2.2.2.1 (j := iN + 1) (rl_ix hi 1 (by decide) hiN hN9) (by omega) (by decide +kernel) ?_
  refine rl_callC (as := [.int (xs (iN + 1))]) (rest := []) hC hSt (c_X11_unplug s.heap.size l cI c1 c2 c3 c4 c5 D ad adV) rfl (by omega) (by show _ ≤ (2000000000 : Int); omega) (rk_all_c ⟨ax, rfl, hSt.2.2.2.2.2.2.2.2.1⟩ (rk_all_c rk_aF rk_all_0)) rl_lk_18 rl_in_18 rl_se_18 (by decide +kernel) rfl rfl (Nat.le_of_ble_eq_true rfl) ⟨by show _ ≤ (1049206 : Nat); omega, by show _ ≤ (5954629 : Nat); omega⟩ (fun v fc H locs hA hLv hSt => ?_)
  have hR := rl_Rc hR hSt.2.2.2.2.2.2.2.2.1 hLv rfl rfl
  obtain ⟨w, rfl⟩ := rk_alt_i hA rfl
  clear hA
  refine rv_run hC.1 hC.2.1 (T := rv_t_law_1) rv_k_law_1 1 ?_
  refine rv_run hC.1 hC.2.1 (T := rv_t_law_1) rv_k_law_1 1 ?_
  refine rv_run hC.1 hC.2.1 (T := rv_t_law_1) rv_k_law_1 4 ?_
  refine rl_scr hC hSt.2.2.2.2.1 (j := iN + 1) (rl_ix hi 1 (by decide) hiN hN9) (by omega) (by decide +kernel) ?_
  refine rl_callM (as := [.int (xs (iN + 1))]) (rest := []) hC hSt (c_X12_unplug_0 s.heap.size l cI c1 c2 c3 c4 c5 D ad adV) (fun _ _ h => h) rfl rfl (by omega) (by show _ ≤ (2000000000 : Int); omega) (rk_all_c ⟨am, rfl, hSt.2.2.2.2.2.2.2.2.2.2.1⟩ (rk_all_c rk_aF rk_all_0)) rl_lk_22 rl_in_22 rl_se_22 (by decide +kernel) rfl rfl (Nat.le_of_ble_eq_true rfl) ⟨by show _ ≤ (1049206 : Nat); omega, by show _ ≤ (5954629 : Nat); omega⟩ (fun v fm H locs hA hLv hSt => ?_)
  have hR := rl_Rm hR hSt.2.2.2.2.2.2.2.2.2.2.1 hLv rfl rfl
  obtain ⟨w, rfl⟩ := rk_alt_i hA rfl
  clear hA
  refine rv_run hC.1 hC.2.1 (T := rv_t_law_1) rv_k_law_1 1 ?_
  refine rv_run hC.1 hC.2.1 (T := rv_t_law_1) rv_k_law_1 1 ?_
  refine rv_widen (k := cells + 358) (n := slots + 10311) (by omega) (by omega) ?_
  exact kk _ _ _ _ _ _ (rl_S_X hSt (by omega) (by omega)) hR
theorem rl_case_2 (hC : rl_Cx cI c1 c2 c3 c4 c5 D ad adV p s m meth c b0 N xs) {i : Int32} {iN : Nat} {X : Int} (hSt : rl_S cI c1 c2 c3 c4 c5 D ad s ax am Gm Lm X X Gc Lc fc fm H locs) (hR : rl_R ax am Gc fc fm) (hX : 0 ≤ X) (hXC : X + 2276000 ≤ 2000000000) (hcs : cells + 358 ≤ 1049206 ∧ slots + 10311 ≤ 5954629) (hi : i.toInt = (iN : Int)) (hiN : iN + 6 ≤ N) (hN9 : N ≤ 3072)
    (kk : ∀ (Gc : Nat → Option Nat) (Lc : List Nat) (fc fm : Nat → va_E) (H : Heap) (locs : List Loc), rl_S cI c1 c2 c3 c4 c5 D ad s ax am Gm Lm (X + 2276000) (X + 2276000) Gc Lc fc fm H locs → rl_R ax am Gc fc fm → rv_G p l e room_1 s m #[Value.ref b0] below meth c (lw_Z below #[Value.ref b0] s) 4 (cells + 358) (slots + 10311) H locs 1252 [] [(0, .ref b0), (1, .ref ax), (2, .ref am), (3, .int i)]) : rv_G p l e room_1 s m #[Value.ref b0] below meth c (lw_Z below #[Value.ref b0] s) 4 cells slots H locs 232 [] [(0, .ref b0), (1, .ref ax), (2, .ref am), (3, .int i)] := by
  refine rv_run hC.1 hC.2.1 (T := rv_t_law_2) rv_k_law_2 1 ?_
  refine rv_run hC.1 hC.2.1 (T := rv_t_law_2) rv_k_law_2 4 ?_
  refine rl_scr hC hSt.2.2.2.2.1 (j := iN + 1) (rl_ix hi 1 (by decide) hiN hN9) (by omega) (by decide +kernel) ?_
  refine rv_run hC.1 hC.2.1 (T := rv_t_law_2) rv_k_law_2 4 ?_
  refine rl_scr hC hSt.2.2.2.2.1 (j := iN + 2) (rl_ix hi 2 (by decide) hiN hN9) (by omega) (by decide +kernel) ?_
  refine rv_run hC.1 hC.2.1 (T := rv_t_law_2) rv_k_law_2 1 ?_
  refine ⟨fun hq => ?_, fun hq => ?_⟩
  · refine rv_run hC.1 hC.2.1 (T := rv_t_law_2) rv_k_law_2 1 ?_
    refine rl_callC (as := [.int (xs (iN + 1)), .int (Int32.ofInt 0)]) (rest := []) hC hSt (c_X11_broken s.heap.size l cI c1 c2 c3 c4 c5 D ad adV) rfl (by omega) (by show _ ≤ (2000000000 : Int); omega) (rk_all_c ⟨ax, rfl, hSt.2.2.2.2.2.2.2.2.1⟩ (rk_all_c rk_aF (rk_all_c ⟨_, rfl, by decide, by decide⟩ rk_all_0))) rl_lk_23 rl_in_23 rl_se_23 (by decide +kernel) rfl rfl (Nat.le_of_ble_eq_true rfl) ⟨by show _ ≤ (1049206 : Nat); omega, by show _ ≤ (5954629 : Nat); omega⟩ (fun v fc H locs hA hLv hSt => ?_)
    have hR := rl_Rc hR hSt.2.2.2.2.2.2.2.2.1 hLv rfl rfl
    obtain ⟨w, rfl⟩ := rk_alt_i hA rfl
    clear hA
    refine rv_run hC.1 hC.2.1 (T := rv_t_law_2) rv_k_law_2 1 ?_
    refine rv_run hC.1 hC.2.1 (T := rv_t_law_2) rv_k_law_2 1 ?_
    refine rv_run hC.1 hC.2.1 (T := rv_t_law_2) rv_k_law_2 4 ?_
    refine rl_scr hC hSt.2.2.2.2.1 (j := iN + 1) (rl_ix hi 1 (by decide) hiN hN9) (by omega) (by decide +kernel) ?_
    refine rv_run hC.1 hC.2.1 (T := rv_t_law_2) rv_k_law_2 4 ?_
    refine rl_scr hC hSt.2.2.2.2.1 (j := iN + 2) (rl_ix hi 2 (by decide) hiN hN9) (by omega) (by decide +kernel) ?_
    refine rv_run hC.1 hC.2.1 (T := rv_t_law_2) rv_k_law_2 1 ?_
    refine ⟨fun _ => ?_, fun h9 => absurd hq h9⟩
    refine rv_run hC.1 hC.2.1 (T := rv_t_law_2) rv_k_law_2 1 ?_
    refine rl_callM (as := [.int (xs (iN + 1)), .int (Int32.ofInt 0)]) (rest := []) hC hSt (c_X12_broken_0 s.heap.size l cI c1 c2 c3 c4 c5 D ad adV) (fun _ _ _ => trivial) rfl rfl (by omega) (by show _ ≤ (2000000000 : Int); omega) (rk_all_c ⟨am, rfl, hSt.2.2.2.2.2.2.2.2.2.2.1⟩ (rk_all_c rk_aF (rk_all_c ⟨_, rfl, by decide, by decide⟩ rk_all_0))) rl_lk_27 rl_in_27 rl_se_27 (by decide +kernel) rfl rfl (Nat.le_of_ble_eq_true rfl) ⟨by show _ ≤ (1049206 : Nat); omega, by show _ ≤ (5954629 : Nat); omega⟩ (fun v fm H locs hA hLv hSt => ?_)
    have hR := rl_Rm hR hSt.2.2.2.2.2.2.2.2.2.2.1 hLv rfl rfl
    obtain ⟨w, rfl⟩ := rk_alt_i hA rfl
    clear hA
    refine rv_run hC.1 hC.2.1 (T := rv_t_law_2) rv_k_law_2 1 ?_
    refine rv_run hC.1 hC.2.1 (T := rv_t_law_2) rv_k_law_2 1 ?_
    refine rv_widen (k := cells + 358) (n := slots + 10311) (by omega) (by omega) ?_
    exact kk _ _ _ _ _ _ (rl_S_X hSt (by omega) (by omega)) hR
  · refine rv_run hC.1 hC.2.1 (T := rv_t_law_2) rv_k_law_2 2 ?_
    refine rl_callC (as := [.int (xs (iN + 1)), .int (Int32.ofInt 1)]) (rest := []) hC hSt (c_X11_broken s.heap.size l cI c1 c2 c3 c4 c5 D ad adV) rfl (by omega) (by show _ ≤ (2000000000 : Int); omega) (rk_all_c ⟨ax, rfl, hSt.2.2.2.2.2.2.2.2.1⟩ (rk_all_c rk_aF (rk_all_c ⟨_, rfl, by decide, by decide⟩ rk_all_0))) rl_lk_23 rl_in_23 rl_se_23 (by decide +kernel) rfl rfl (Nat.le_of_ble_eq_true rfl) ⟨by show _ ≤ (1049206 : Nat); omega, by show _ ≤ (5954629 : Nat); omega⟩ (fun v fc H locs hA hLv hSt => ?_)
    have hR := rl_Rc hR hSt.2.2.2.2.2.2.2.2.1 hLv rfl rfl
    obtain ⟨w, rfl⟩ := rk_alt_i hA rfl
    clear hA
    refine rv_run hC.1 hC.2.1 (T := rv_t_law_2) rv_k_law_2 1 ?_
    refine rv_run hC.1 hC.2.1 (T := rv_t_law_2) rv_k_law_2 1 ?_
    refine rv_run hC.1 hC.2.1 (T := rv_t_law_2) rv_k_law_2 4 ?_
    refine rl_scr hC hSt.2.2.2.2.1 (j := iN + 1) (rl_ix hi 1 (by decide) hiN hN9) (by omega) (by decide +kernel) ?_
    refine rv_run hC.1 hC.2.1 (T := rv_t_law_2) rv_k_law_2 4 ?_
    refine rl_scr hC hSt.2.2.2.2.1 (j := iN + 2) (rl_ix hi 2 (by decide) hiN hN9) (by omega) (by decide +kernel) ?_
    refine rv_run hC.1 hC.2.1 (T := rv_t_law_2) rv_k_law_2 1 ?_
    refine ⟨fun h9 => absurd h9 hq, fun _ => ?_⟩
    refine rv_run hC.1 hC.2.1 (T := rv_t_law_2) rv_k_law_2 2 ?_
    refine rl_callM (as := [.int (xs (iN + 1)), .int (Int32.ofInt 1)]) (rest := []) hC hSt (c_X12_broken_0 s.heap.size l cI c1 c2 c3 c4 c5 D ad adV) (fun _ _ _ => trivial) rfl rfl (by omega) (by show _ ≤ (2000000000 : Int); omega) (rk_all_c ⟨am, rfl, hSt.2.2.2.2.2.2.2.2.2.2.1⟩ (rk_all_c rk_aF (rk_all_c ⟨_, rfl, by decide, by decide⟩ rk_all_0))) rl_lk_27 rl_in_27 rl_se_27 (by decide +kernel) rfl rfl (Nat.le_of_ble_eq_true rfl) ⟨by show _ ≤ (1049206 : Nat); omega, by show _ ≤ (5954629 : Nat); omega⟩ (fun v fm H locs hA hLv hSt => ?_)
    have hR := rl_Rm hR hSt.2.2.2.2.2.2.2.2.2.2.1 hLv rfl rfl
    obtain ⟨w, rfl⟩ := rk_alt_i hA rfl
    clear hA
    refine rv_run hC.1 hC.2.1 (T := rv_t_law_2) rv_k_law_2 1 ?_
    refine rv_run hC.1 hC.2.1 (T := rv_t_law_2) rv_k_law_2 1 ?_
    refine rv_widen (k := cells + 358) (n := slots + 10311) (by omega) (by omega) ?_
    exact kk _ _ _ _ _ _ (rl_S_X hSt (by omega) (by omega)) hR
theorem rl_case_3 (hC : rl_Cx cI c1 c2 c3 c4 c5 D ad adV p s m meth c b0 N xs) {i : Int32} {iN : Nat} {X : Int} (hSt : rl_S cI c1 c2 c3 c4 c5 D ad s ax am Gm Lm X X Gc Lc fc fm H locs) (hR : rl_R ax am Gc fc fm) (hX : 0 ≤ X) (hXC : X + 2276000 ≤ 2000000000) (hcs : cells + 358 ≤ 1049206 ∧ slots + 10311 ≤ 5954629) (hi : i.toInt = (iN : Int)) (hiN : iN + 6 ≤ N) (hN9 : N ≤ 3072)
    (kk : ∀ (Gc : Nat → Option Nat) (Lc : List Nat) (fc fm : Nat → va_E) (H : Heap) (locs : List Loc), rl_S cI c1 c2 c3 c4 c5 D ad s ax am Gm Lm (X + 2276000) (X + 2276000) Gc Lc fc fm H locs → rl_R ax am Gc fc fm → rv_G p l e room_1 s m #[Value.ref b0] below meth c (lw_Z below #[Value.ref b0] s) 4 (cells + 358) (slots + 10311) H locs 1252 [] [(0, .ref b0), (1, .ref ax), (2, .ref am), (3, .int i)]) : rv_G p l e room_1 s m #[Value.ref b0] below meth c (lw_Z below #[Value.ref b0] s) 4 cells slots H locs 281 [] [(0, .ref b0), (1, .ref ax), (2, .ref am), (3, .int i)] := by
  refine rv_run hC.1 hC.2.1 (T := rv_t_law_3) rv_k_law_3 1 ?_
  refine rv_run hC.1 hC.2.1 (T := rv_t_law_3) rv_k_law_3 4 ?_
  refine rl_scr hC hSt.2.2.2.2.1 (j := iN + 1) (rl_ix hi 1 (by decide) hiN hN9) (by omega) (by decide +kernel) ?_
  refine rv_run hC.1 hC.2.1 (T := rv_t_law_3) rv_k_law_3 4 ?_
  refine rl_scr hC hSt.2.2.2.2.1 (j := iN + 2) (rl_ix hi 2 (by decide) hiN hN9) (by omega) (by decide +kernel) ?_
  refine rv_run hC.1 hC.2.1 (T := rv_t_law_3) rv_k_law_3 1 ?_
  refine ⟨fun hq => ?_, fun hq => ?_⟩
  · refine rv_run hC.1 hC.2.1 (T := rv_t_law_3) rv_k_law_3 1 ?_
    refine rl_callC (as := [.int (xs (iN + 1)), .int (Int32.ofInt 0)]) (rest := []) hC hSt (c_X11_turn s.heap.size l cI c1 c2 c3 c4 c5 D ad adV) rfl (by omega) (by show _ ≤ (2000000000 : Int); omega) (rk_all_c ⟨ax, rfl, hSt.2.2.2.2.2.2.2.2.1⟩ (rk_all_c rk_aF (rk_all_c ⟨_, rfl, by decide, by decide⟩ rk_all_0))) rl_lk_28 rl_in_28 rl_se_28 (by decide +kernel) rfl rfl (Nat.le_of_ble_eq_true rfl) ⟨by show _ ≤ (1049206 : Nat); omega, by show _ ≤ (5954629 : Nat); omega⟩ (fun v fc H locs hA hLv hSt => ?_)
    have hR := rl_Rc hR hSt.2.2.2.2.2.2.2.2.1 hLv rfl rfl
    obtain ⟨w, rfl⟩ := rk_alt_i hA rfl
    clear hA
    refine rv_run hC.1 hC.2.1 (T := rv_t_law_3) rv_k_law_3 1 ?_
    refine rv_run hC.1 hC.2.1 (T := rv_t_law_3) rv_k_law_3 1 ?_
    refine rv_run hC.1 hC.2.1 (T := rv_t_law_3) rv_k_law_3 4 ?_
    refine rl_scr hC hSt.2.2.2.2.1 (j := iN + 1) (rl_ix hi 1 (by decide) hiN hN9) (by omega) (by decide +kernel) ?_
    refine rv_run hC.1 hC.2.1 (T := rv_t_law_3) rv_k_law_3 4 ?_
    refine rl_scr hC hSt.2.2.2.2.1 (j := iN + 2) (rl_ix hi 2 (by decide) hiN hN9) (by omega) (by decide +kernel) ?_
    refine rv_run hC.1 hC.2.1 (T := rv_t_law_3) rv_k_law_3 1 ?_
    refine ⟨fun _ => ?_, fun h9 => absurd hq h9⟩
    refine rv_run hC.1 hC.2.1 (T := rv_t_law_3) rv_k_law_3 1 ?_
    refine rl_callM (as := [.int (xs (iN + 1)), .int (Int32.ofInt 0)]) (rest := []) hC hSt (c_X12_turn s.heap.size l cI c1 c2 c3 c4 c5 D ad adV) (fun _ _ h => h) rfl rfl (by omega) (by show _ ≤ (2000000000 : Int); omega) (rk_all_c ⟨am, rfl, hSt.2.2.2.2.2.2.2.2.2.2.1⟩ (rk_all_c rk_aF (rk_all_c ⟨_, rfl, by decide, by decide⟩ rk_all_0))) rl_lk_31 rl_in_31 rl_se_31 (by decide +kernel) rfl rfl (Nat.le_of_ble_eq_true rfl) ⟨by show _ ≤ (1049206 : Nat); omega, by show _ ≤ (5954629 : Nat); omega⟩ (fun v fm H locs hA hLv hSt => ?_)
    have hR := rl_Rm hR hSt.2.2.2.2.2.2.2.2.2.2.1 hLv rfl rfl
    obtain ⟨w, rfl⟩ := rk_alt_i hA rfl
    clear hA
    refine rv_run hC.1 hC.2.1 (T := rv_t_law_3) rv_k_law_3 1 ?_
    refine rv_run hC.1 hC.2.1 (T := rv_t_law_3) rv_k_law_3 1 ?_
    refine rv_widen (k := cells + 358) (n := slots + 10311) (by omega) (by omega) ?_
    exact kk _ _ _ _ _ _ (rl_S_X hSt (by omega) (by omega)) hR
  · refine rv_run hC.1 hC.2.1 (T := rv_t_law_3) rv_k_law_3 2 ?_
    refine rl_callC (as := [.int (xs (iN + 1)), .int (Int32.ofInt 1)]) (rest := []) hC hSt (c_X11_turn s.heap.size l cI c1 c2 c3 c4 c5 D ad adV) rfl (by omega) (by show _ ≤ (2000000000 : Int); omega) (rk_all_c ⟨ax, rfl, hSt.2.2.2.2.2.2.2.2.1⟩ (rk_all_c rk_aF (rk_all_c ⟨_, rfl, by decide, by decide⟩ rk_all_0))) rl_lk_28 rl_in_28 rl_se_28 (by decide +kernel) rfl rfl (Nat.le_of_ble_eq_true rfl) ⟨by show _ ≤ (1049206 : Nat); omega, by show _ ≤ (5954629 : Nat); omega⟩ (fun v fc H locs hA hLv hSt => ?_)
    have hR := rl_Rc hR hSt.2.2.2.2.2.2.2.2.1 hLv rfl rfl
    obtain ⟨w, rfl⟩ := rk_alt_i hA rfl
    clear hA
    refine rv_run hC.1 hC.2.1 (T := rv_t_law_3) rv_k_law_3 1 ?_
    refine rv_run hC.1 hC.2.1 (T := rv_t_law_3) rv_k_law_3 1 ?_
    refine rv_run hC.1 hC.2.1 (T := rv_t_law_3) rv_k_law_3 4 ?_
    refine rl_scr hC hSt.2.2.2.2.1 (j := iN + 1) (rl_ix hi 1 (by decide) hiN hN9) (by omega) (by decide +kernel) ?_
    refine rv_run hC.1 hC.2.1 (T := rv_t_law_3) rv_k_law_3 4 ?_
    refine rl_scr hC hSt.2.2.2.2.1 (j := iN + 2) (rl_ix hi 2 (by decide) hiN hN9) (by omega) (by decide +kernel) ?_
    refine rv_run hC.1 hC.2.1 (T := rv_t_law_3) rv_k_law_3 1 ?_
    refine ⟨fun h9 => absurd h9 hq, fun _ => ?_⟩
    refine rv_run hC.1 hC.2.1 (T := rv_t_law_3) rv_k_law_3 2 ?_
    refine rl_callM (as := [.int (xs (iN + 1)), .int (Int32.ofInt 1)]) (rest := []) hC hSt (c_X12_turn s.heap.size l cI c1 c2 c3 c4 c5 D ad adV) (fun _ _ h => h) rfl rfl (by omega) (by show _ ≤ (2000000000 : Int); omega) (rk_all_c ⟨am, rfl, hSt.2.2.2.2.2.2.2.2.2.2.1⟩ (rk_all_c rk_aF (rk_all_c ⟨_, rfl, by decide, by decide⟩ rk_all_0))) rl_lk_31 rl_in_31 rl_se_31 (by decide +kernel) rfl rfl (Nat.le_of_ble_eq_true rfl) ⟨by show _ ≤ (1049206 : Nat); omega, by show _ ≤ (5954629 : Nat); omega⟩ (fun v fm H locs hA hLv hSt => ?_)
    have hR := rl_Rm hR hSt.2.2.2.2.2.2.2.2.2.2.1 hLv rfl rfl
    obtain ⟨w, rfl⟩ := rk_alt_i hA rfl
    clear hA
    refine rv_run hC.1 hC.2.1 (T := rv_t_law_3) rv_k_law_3 1 ?_
    refine rv_run hC.1 hC.2.1 (T := rv_t_law_3) rv_k_law_3 1 ?_
    refine rv_widen (k := cells + 358) (n := slots + 10311) (by omega) (by omega) ?_
    exact kk _ _ _ _ _ _ (rl_S_X hSt (by omega) (by omega)) hR
theorem rl_case_4 (hC : rl_Cx cI c1 c2 c3 c4 c5 D ad adV p s m meth c b0 N xs) {i : Int32} {iN : Nat} {X : Int} (hSt : rl_S cI c1 c2 c3 c4 c5 D ad s ax am Gm Lm X X Gc Lc fc fm H locs) (hR : rl_R ax am Gc fc fm) (hX : 0 ≤ X) (hXC : X + 2276000 ≤ 2000000000) (hcs : cells + 358 ≤ 1049206 ∧ slots + 10311 ≤ 5954629) (hi : i.toInt = (iN : Int)) (hiN : iN + 6 ≤ N) (hN9 : N ≤ 3072)
    (kk : ∀ (Gc : Nat → Option Nat) (Lc : List Nat) (fc fm : Nat → va_E) (H : Heap) (locs : List Loc), rl_S cI c1 c2 c3 c4 c5 D ad s ax am Gm Lm (X + 2276000) (X + 2276000) Gc Lc fc fm H locs → rl_R ax am Gc fc fm → rv_G p l e room_1 s m #[Value.ref b0] below meth c (lw_Z below #[Value.ref b0] s) 4 (cells + 358) (slots + 10311) H locs 1252 [] [(0, .ref b0), (1, .ref ax), (2, .ref am), (3, .int i)]) : rv_G p l e room_1 s m #[Value.ref b0] below meth c (lw_Z below #[Value.ref b0] s) 4 cells slots H locs 330 [] [(0, .ref b0), (1, .ref ax), (2, .ref am), (3, .int i)] := by
  refine rv_run hC.1 hC.2.1 (T := rv_t_law_4) rv_k_law_4 1 ?_
  refine rv_run hC.1 hC.2.1 (T := rv_t_law_4) rv_k_law_4 4 ?_
  refine rl_scr hC hSt.2.2.2.2.1 (j := iN + 1) (rl_ix hi 1 (by decide) hiN hN9) (by omega) (by decide +kernel) ?_
  refine rl_callC (as := [.int (xs (iN + 1))]) (rest := []) hC hSt (c_X11_watch s.heap.size l cI c1 c2 c3 c4 c5 D ad adV) rfl (by omega) (by show _ ≤ (2000000000 : Int); omega) (rk_all_c ⟨ax, rfl, hSt.2.2.2.2.2.2.2.2.1⟩ (rk_all_c rk_aF rk_all_0)) rl_lk_32 rl_in_32 rl_se_32 (by decide +kernel) rfl rfl (Nat.le_of_ble_eq_true rfl) ⟨by show _ ≤ (1049206 : Nat); omega, by show _ ≤ (5954629 : Nat); omega⟩ (fun v fc H locs hA hLv hSt => ?_)
  have hR := rl_Rc hR hSt.2.2.2.2.2.2.2.2.1 hLv rfl rfl
  obtain ⟨w, rfl⟩ := rk_alt_i hA rfl
  clear hA
  refine rv_run hC.1 hC.2.1 (T := rv_t_law_4) rv_k_law_4 1 ?_
  refine rv_run hC.1 hC.2.1 (T := rv_t_law_4) rv_k_law_4 1 ?_
  refine rv_run hC.1 hC.2.1 (T := rv_t_law_4) rv_k_law_4 4 ?_
  refine rl_scr hC hSt.2.2.2.2.1 (j := iN + 1) (rl_ix hi 1 (by decide) hiN hN9) (by omega) (by decide +kernel) ?_
  refine rl_callM (as := [.int (xs (iN + 1))]) (rest := []) hC hSt (c_X12_watch s.heap.size l cI c1 c2 c3 c4 c5 D ad adV) (fun _ _ _ => trivial) rfl rfl (by omega) (by show _ ≤ (2000000000 : Int); omega) (rk_all_c ⟨am, rfl, hSt.2.2.2.2.2.2.2.2.2.2.1⟩ (rk_all_c rk_aF rk_all_0)) rl_lk_36 rl_in_36 rl_se_36 (by decide +kernel) rfl rfl (Nat.le_of_ble_eq_true rfl) ⟨by show _ ≤ (1049206 : Nat); omega, by show _ ≤ (5954629 : Nat); omega⟩ (fun v fm H locs hA hLv hSt => ?_)
  have hR := rl_Rm hR hSt.2.2.2.2.2.2.2.2.2.2.1 hLv rfl rfl
  obtain ⟨w, rfl⟩ := rk_alt_i hA rfl
  clear hA
  refine rv_run hC.1 hC.2.1 (T := rv_t_law_4) rv_k_law_4 1 ?_
  refine rv_run hC.1 hC.2.1 (T := rv_t_law_4) rv_k_law_4 1 ?_
  refine rv_widen (k := cells + 358) (n := slots + 10311) (by omega) (by omega) ?_
  exact kk _ _ _ _ _ _ (rl_S_X hSt (by omega) (by omega)) hR
theorem rl_case_5 (hC : rl_Cx cI c1 c2 c3 c4 c5 D ad adV p s m meth c b0 N xs) {i : Int32} {iN : Nat} {X : Int} (hSt : rl_S cI c1 c2 c3 c4 c5 D ad s ax am Gm Lm X X Gc Lc fc fm H locs) (hR : rl_R ax am Gc fc fm) (hX : 0 ≤ X) (hXC : X + 2276000 ≤ 2000000000) (hcs : cells + 358 ≤ 1049206 ∧ slots + 10311 ≤ 5954629) (hi : i.toInt = (iN : Int)) (hiN : iN + 6 ≤ N) (hN9 : N ≤ 3072)
    (kk : ∀ (Gc : Nat → Option Nat) (Lc : List Nat) (fc fm : Nat → va_E) (H : Heap) (locs : List Loc), rl_S cI c1 c2 c3 c4 c5 D ad s ax am Gm Lm (X + 2276000) (X + 2276000) Gc Lc fc fm H locs → rl_R ax am Gc fc fm → rv_G p l e room_1 s m #[Value.ref b0] below meth c (lw_Z below #[Value.ref b0] s) 4 (cells + 358) (slots + 10311) H locs 1252 [] [(0, .ref b0), (1, .ref ax), (2, .ref am), (3, .int i)]) : rv_G p l e room_1 s m #[Value.ref b0] below meth c (lw_Z below #[Value.ref b0] s) 4 cells slots H locs 353 [] [(0, .ref b0), (1, .ref ax), (2, .ref am), (3, .int i)] := by
  refine rv_run hC.1 hC.2.1 (T := rv_t_law_5) rv_k_law_5 1 ?_
  refine rv_run hC.1 hC.2.1 (T := rv_t_law_5) rv_k_law_5 4 ?_
  refine rl_scr hC hSt.2.2.2.2.1 (j := iN + 1) (rl_ix hi 1 (by decide) hiN hN9) (by omega) (by decide +kernel) ?_
  refine rl_callC (as := [.int (xs (iN + 1))]) (rest := []) hC hSt (c_X11_odds s.heap.size l cI c1 c2 c3 c4 c5 D ad adV) rfl (by omega) (by show _ ≤ (2000000000 : Int); omega) (rk_all_c ⟨ax, rfl, hSt.2.2.2.2.2.2.2.2.1⟩ (rk_all_c rk_aF rk_all_0)) rl_lk_37 rl_in_37 rl_se_37 (by decide +kernel) rfl rfl (Nat.le_of_ble_eq_true rfl) ⟨by show _ ≤ (1049206 : Nat); omega, by show _ ≤ (5954629 : Nat); omega⟩ (fun v fc H locs hA hLv hSt => ?_)
  have hR := rl_Rc hR hSt.2.2.2.2.2.2.2.2.1 hLv rfl rfl
  obtain ⟨w, rfl⟩ := rk_alt_i hA rfl
  clear hA
  refine rv_run hC.1 hC.2.1 (T := rv_t_law_5) rv_k_law_5 1 ?_
  refine rv_run hC.1 hC.2.1 (T := rv_t_law_5) rv_k_law_5 1 ?_
  refine rv_run hC.1 hC.2.1 (T := rv_t_law_5) rv_k_law_5 4 ?_
  refine rl_scr hC hSt.2.2.2.2.1 (j := iN + 1) (rl_ix hi 1 (by decide) hiN hN9) (by omega) (by decide +kernel) ?_
  refine rl_callM (as := [.int (xs (iN + 1))]) (rest := []) hC hSt (c_X12_odds s.heap.size l cI c1 c2 c3 c4 c5 D ad adV) (fun _ _ _ => trivial) rfl rfl (by omega) (by show _ ≤ (2000000000 : Int); omega) (rk_all_c ⟨am, rfl, hSt.2.2.2.2.2.2.2.2.2.2.1⟩ (rk_all_c rk_aF rk_all_0)) rl_lk_40 rl_in_40 rl_se_40 (by decide +kernel) rfl rfl (Nat.le_of_ble_eq_true rfl) ⟨by show _ ≤ (1049206 : Nat); omega, by show _ ≤ (5954629 : Nat); omega⟩ (fun v fm H locs hA hLv hSt => ?_)
  have hR := rl_Rm hR hSt.2.2.2.2.2.2.2.2.2.2.1 hLv rfl rfl
  obtain ⟨w, rfl⟩ := rk_alt_i hA rfl
  clear hA
  refine rv_run hC.1 hC.2.1 (T := rv_t_law_5) rv_k_law_5 1 ?_
  refine rv_run hC.1 hC.2.1 (T := rv_t_law_5) rv_k_law_5 1 ?_
  refine rv_widen (k := cells + 358) (n := slots + 10311) (by omega) (by omega) ?_
  exact kk _ _ _ _ _ _ (rl_S_X hSt (by omega) (by omega)) hR
theorem rl_case_6 (hC : rl_Cx cI c1 c2 c3 c4 c5 D ad adV p s m meth c b0 N xs) {i : Int32} {iN : Nat} {X : Int} (hSt : rl_S cI c1 c2 c3 c4 c5 D ad s ax am Gm Lm X X Gc Lc fc fm H locs) (hR : rl_R ax am Gc fc fm) (hX : 0 ≤ X) (hXC : X + 2276000 ≤ 2000000000) (hcs : cells + 358 ≤ 1049206 ∧ slots + 10311 ≤ 5954629) (hi : i.toInt = (iN : Int)) (hiN : iN + 6 ≤ N) (hN9 : N ≤ 3072)
    (kk : ∀ (Gc : Nat → Option Nat) (Lc : List Nat) (fc fm : Nat → va_E) (H : Heap) (locs : List Loc), rl_S cI c1 c2 c3 c4 c5 D ad s ax am Gm Lm (X + 2276000) (X + 2276000) Gc Lc fc fm H locs → rl_R ax am Gc fc fm → rv_G p l e room_1 s m #[Value.ref b0] below meth c (lw_Z below #[Value.ref b0] s) 4 (cells + 358) (slots + 10311) H locs 1252 [] [(0, .ref b0), (1, .ref ax), (2, .ref am), (3, .int i)]) : rv_G p l e room_1 s m #[Value.ref b0] below meth c (lw_Z below #[Value.ref b0] s) 4 cells slots H locs 376 [] [(0, .ref b0), (1, .ref ax), (2, .ref am), (3, .int i)] := by
  refine rv_run hC.1 hC.2.1 (T := rv_t_law_6) rv_k_law_6 1 ?_
  refine rv_run hC.1 hC.2.1 (T := rv_t_law_6) rv_k_law_6 4 ?_
  refine rl_scr hC hSt.2.2.2.2.1 (j := iN + 1) (rl_ix hi 1 (by decide) hiN hN9) (by omega) (by decide +kernel) ?_
  refine rl_callC (as := [.int (xs (iN + 1))]) (rest := []) hC hSt (c_X11_state s.heap.size l cI c1 c2 c3 c4 c5 D ad adV) rfl (by omega) (by show _ ≤ (2000000000 : Int); omega) (rk_all_c ⟨ax, rfl, hSt.2.2.2.2.2.2.2.2.1⟩ (rk_all_c rk_aF rk_all_0)) rl_lk_41 rl_in_41 rl_se_41 (by decide +kernel) rfl rfl (Nat.le_of_ble_eq_true rfl) ⟨by show _ ≤ (1049206 : Nat); omega, by show _ ≤ (5954629 : Nat); omega⟩ (fun v fc H locs hA hLv hSt => ?_)
  have hR := rl_Rc hR hSt.2.2.2.2.2.2.2.2.1 hLv rfl rfl
  obtain ⟨w, rfl⟩ := rk_alt_i hA rfl
  clear hA
  refine rv_run hC.1 hC.2.1 (T := rv_t_law_6) rv_k_law_6 1 ?_
  refine rv_run hC.1 hC.2.1 (T := rv_t_law_6) rv_k_law_6 1 ?_
  refine rv_run hC.1 hC.2.1 (T := rv_t_law_6) rv_k_law_6 4 ?_
  refine rl_scr hC hSt.2.2.2.2.1 (j := iN + 1) (rl_ix hi 1 (by decide) hiN hN9) (by omega) (by decide +kernel) ?_
  refine rl_callM (as := [.int (xs (iN + 1))]) (rest := []) hC hSt (c_X12_state s.heap.size l cI c1 c2 c3 c4 c5 D ad adV) (fun _ _ _ => trivial) rfl rfl (by omega) (by show _ ≤ (2000000000 : Int); omega) (rk_all_c ⟨am, rfl, hSt.2.2.2.2.2.2.2.2.2.2.1⟩ (rk_all_c rk_aF rk_all_0)) rl_lk_44 rl_in_44 rl_se_44 (by decide +kernel) rfl rfl (Nat.le_of_ble_eq_true rfl) ⟨by show _ ≤ (1049206 : Nat); omega, by show _ ≤ (5954629 : Nat); omega⟩ (fun v fm H locs hA hLv hSt => ?_)
  have hR := rl_Rm hR hSt.2.2.2.2.2.2.2.2.2.2.1 hLv rfl rfl
  obtain ⟨w, rfl⟩ := rk_alt_i hA rfl
  clear hA
  refine rv_run hC.1 hC.2.1 (T := rv_t_law_6) rv_k_law_6 1 ?_
  refine rv_run hC.1 hC.2.1 (T := rv_t_law_6) rv_k_law_6 1 ?_
  refine rv_widen (k := cells + 358) (n := slots + 10311) (by omega) (by omega) ?_
  exact kk _ _ _ _ _ _ (rl_S_X hSt (by omega) (by omega)) hR
theorem rl_case_7 (hC : rl_Cx cI c1 c2 c3 c4 c5 D ad adV p s m meth c b0 N xs) {i : Int32} {iN : Nat} {X : Int} (hSt : rl_S cI c1 c2 c3 c4 c5 D ad s ax am Gm Lm X X Gc Lc fc fm H locs) (hR : rl_R ax am Gc fc fm) (hX : 0 ≤ X) (hXC : X + 2276000 ≤ 2000000000) (hcs : cells + 358 ≤ 1049206 ∧ slots + 10311 ≤ 5954629) (hi : i.toInt = (iN : Int)) (hiN : iN + 6 ≤ N) (hN9 : N ≤ 3072)
    (kk : ∀ (Gc : Nat → Option Nat) (Lc : List Nat) (fc fm : Nat → va_E) (H : Heap) (locs : List Loc), rl_S cI c1 c2 c3 c4 c5 D ad s ax am Gm Lm (X + 2276000) (X + 2276000) Gc Lc fc fm H locs → rl_R ax am Gc fc fm → rv_G p l e room_1 s m #[Value.ref b0] below meth c (lw_Z below #[Value.ref b0] s) 4 (cells + 358) (slots + 10311) H locs 1252 [] [(0, .ref b0), (1, .ref ax), (2, .ref am), (3, .int i)]) : rv_G p l e room_1 s m #[Value.ref b0] below meth c (lw_Z below #[Value.ref b0] s) 4 cells slots H locs 399 [] [(0, .ref b0), (1, .ref ax), (2, .ref am), (3, .int i)] := by
  refine rv_run hC.1 hC.2.1 (T := rv_t_law_7) rv_k_law_7 1 ?_
  refine rv_run hC.1 hC.2.1 (T := rv_t_law_7) rv_k_law_7 4 ?_
  refine rl_scr hC hSt.2.2.2.2.1 (j := iN + 1) (rl_ix hi 1 (by decide) hiN hN9) (by omega) (by decide +kernel) ?_
  refine rv_run hC.1 hC.2.1 (T := rv_t_law_7) rv_k_law_7 4 ?_
  refine rl_scr hC hSt.2.2.2.2.1 (j := iN + 2) (rl_ix hi 2 (by decide) hiN hN9) (by omega) (by decide +kernel) ?_
  refine rv_run hC.1 hC.2.1 (T := rv_t_law_7) rv_k_law_7 4 ?_
  refine rl_scr hC hSt.2.2.2.2.1 (j := iN + 3) (rl_ix hi 3 (by decide) hiN hN9) (by omega) (by decide +kernel) ?_
  refine rv_run hC.1 hC.2.1 (T := rv_t_law_7) rv_k_law_7 4 ?_
  refine rl_scr hC hSt.2.2.2.2.1 (j := iN + 4) (rl_ix hi 4 (by decide) hiN hN9) (by omega) (by decide +kernel) ?_
  refine rv_run hC.1 hC.2.1 (T := rv_t_law_7) rv_k_law_7 1 ?_
  refine ⟨fun hq => ?_, fun hq => ?_⟩
  · refine rv_run hC.1 hC.2.1 (T := rv_t_law_7) rv_k_law_7 1 ?_
    refine rl_callC (as := [.int (xs (iN + 1)), .int (xs (iN + 2)), .int (xs (iN + 3)), .int (Int32.ofInt 0)]) (rest := []) hC hSt (c_X11_table s.heap.size l cI c1 c2 c3 c4 c5 D ad adV) rfl (by omega) (by show _ ≤ (2000000000 : Int); omega) (rk_all_c ⟨ax, rfl, hSt.2.2.2.2.2.2.2.2.1⟩ (rk_all_c rk_aF (rk_all_c rk_aF (rk_all_c rk_aF (rk_all_c ⟨_, rfl, by decide, by decide⟩ rk_all_0))))) rl_lk_45 rl_in_45 rl_se_45 (by decide +kernel) rfl rfl (Nat.le_of_ble_eq_true rfl) ⟨by show _ ≤ (1049206 : Nat); omega, by show _ ≤ (5954629 : Nat); omega⟩ (fun v fc H locs hA hLv hSt => ?_)
    have hR := rl_Rc hR hSt.2.2.2.2.2.2.2.2.1 hLv rfl rfl
    obtain ⟨w, rfl⟩ := rk_alt_i hA rfl
    clear hA
    refine rv_run hC.1 hC.2.1 (T := rv_t_law_7) rv_k_law_7 1 ?_
    refine rv_run hC.1 hC.2.1 (T := rv_t_law_7) rv_k_law_7 1 ?_
    refine rv_run hC.1 hC.2.1 (T := rv_t_law_7) rv_k_law_7 4 ?_
    refine rl_scr hC hSt.2.2.2.2.1 (j := iN + 1) (rl_ix hi 1 (by decide) hiN hN9) (by omega) (by decide +kernel) ?_
    refine rv_run hC.1 hC.2.1 (T := rv_t_law_7) rv_k_law_7 4 ?_
    refine rl_scr hC hSt.2.2.2.2.1 (j := iN + 2) (rl_ix hi 2 (by decide) hiN hN9) (by omega) (by decide +kernel) ?_
    refine rv_run hC.1 hC.2.1 (T := rv_t_law_7) rv_k_law_7 4 ?_
    refine rl_scr hC hSt.2.2.2.2.1 (j := iN + 3) (rl_ix hi 3 (by decide) hiN hN9) (by omega) (by decide +kernel) ?_
    refine rv_run hC.1 hC.2.1 (T := rv_t_law_7) rv_k_law_7 4 ?_
    refine rl_scr hC hSt.2.2.2.2.1 (j := iN + 4) (rl_ix hi 4 (by decide) hiN hN9) (by omega) (by decide +kernel) ?_
    refine rv_run hC.1 hC.2.1 (T := rv_t_law_7) rv_k_law_7 1 ?_
    refine ⟨fun _ => ?_, fun h9 => absurd hq h9⟩
    refine rv_run hC.1 hC.2.1 (T := rv_t_law_7) rv_k_law_7 1 ?_
    refine rl_callM (as := [.int (xs (iN + 1)), .int (xs (iN + 2)), .int (xs (iN + 3)), .int (Int32.ofInt 0)]) (rest := []) hC hSt (c_X12_table s.heap.size l cI c1 c2 c3 c4 c5 D ad adV) (fun _ _ _ => trivial) rfl rfl (by omega) (by show _ ≤ (2000000000 : Int); omega) (rk_all_c ⟨am, rfl, hSt.2.2.2.2.2.2.2.2.2.2.1⟩ (rk_all_c rk_aF (rk_all_c rk_aF (rk_all_c rk_aF (rk_all_c ⟨_, rfl, by decide, by decide⟩ rk_all_0))))) rl_lk_49 rl_in_49 rl_se_49 (by decide +kernel) rfl rfl (Nat.le_of_ble_eq_true rfl) ⟨by show _ ≤ (1049206 : Nat); omega, by show _ ≤ (5954629 : Nat); omega⟩ (fun v fm H locs hA hLv hSt => ?_)
    have hR := rl_Rm hR hSt.2.2.2.2.2.2.2.2.2.2.1 hLv rfl rfl
    obtain ⟨w, rfl⟩ := rk_alt_i hA rfl
    clear hA
    refine rv_run hC.1 hC.2.1 (T := rv_t_law_7) rv_k_law_7 1 ?_
    refine rv_run hC.1 hC.2.1 (T := rv_t_law_7) rv_k_law_7 1 ?_
    refine rv_widen (k := cells + 358) (n := slots + 10311) (by omega) (by omega) ?_
    exact kk _ _ _ _ _ _ (rl_S_X hSt (by omega) (by omega)) hR
  · refine rv_run hC.1 hC.2.1 (T := rv_t_law_7) rv_k_law_7 2 ?_
    refine rl_callC (as := [.int (xs (iN + 1)), .int (xs (iN + 2)), .int (xs (iN + 3)), .int (Int32.ofInt 1)]) (rest := []) hC hSt (c_X11_table s.heap.size l cI c1 c2 c3 c4 c5 D ad adV) rfl (by omega) (by show _ ≤ (2000000000 : Int); omega) (rk_all_c ⟨ax, rfl, hSt.2.2.2.2.2.2.2.2.1⟩ (rk_all_c rk_aF (rk_all_c rk_aF (rk_all_c rk_aF (rk_all_c ⟨_, rfl, by decide, by decide⟩ rk_all_0))))) rl_lk_45 rl_in_45 rl_se_45 (by decide +kernel) rfl rfl (Nat.le_of_ble_eq_true rfl) ⟨by show _ ≤ (1049206 : Nat); omega, by show _ ≤ (5954629 : Nat); omega⟩ (fun v fc H locs hA hLv hSt => ?_)
    have hR := rl_Rc hR hSt.2.2.2.2.2.2.2.2.1 hLv rfl rfl
    obtain ⟨w, rfl⟩ := rk_alt_i hA rfl
    clear hA
    refine rv_run hC.1 hC.2.1 (T := rv_t_law_7) rv_k_law_7 1 ?_
    refine rv_run hC.1 hC.2.1 (T := rv_t_law_7) rv_k_law_7 1 ?_
    refine rv_run hC.1 hC.2.1 (T := rv_t_law_7) rv_k_law_7 4 ?_
    refine rl_scr hC hSt.2.2.2.2.1 (j := iN + 1) (rl_ix hi 1 (by decide) hiN hN9) (by omega) (by decide +kernel) ?_
    refine rv_run hC.1 hC.2.1 (T := rv_t_law_7) rv_k_law_7 4 ?_
    refine rl_scr hC hSt.2.2.2.2.1 (j := iN + 2) (rl_ix hi 2 (by decide) hiN hN9) (by omega) (by decide +kernel) ?_
    refine rv_run hC.1 hC.2.1 (T := rv_t_law_7) rv_k_law_7 4 ?_
    refine rl_scr hC hSt.2.2.2.2.1 (j := iN + 3) (rl_ix hi 3 (by decide) hiN hN9) (by omega) (by decide +kernel) ?_
    refine rv_run hC.1 hC.2.1 (T := rv_t_law_7) rv_k_law_7 4 ?_
    refine rl_scr hC hSt.2.2.2.2.1 (j := iN + 4) (rl_ix hi 4 (by decide) hiN hN9) (by omega) (by decide +kernel) ?_
    refine rv_run hC.1 hC.2.1 (T := rv_t_law_7) rv_k_law_7 1 ?_
    refine ⟨fun h9 => absurd h9 hq, fun _ => ?_⟩
    refine rv_run hC.1 hC.2.1 (T := rv_t_law_7) rv_k_law_7 2 ?_
    refine rl_callM (as := [.int (xs (iN + 1)), .int (xs (iN + 2)), .int (xs (iN + 3)), .int (Int32.ofInt 1)]) (rest := []) hC hSt (c_X12_table s.heap.size l cI c1 c2 c3 c4 c5 D ad adV) (fun _ _ _ => trivial) rfl rfl (by omega) (by show _ ≤ (2000000000 : Int); omega) (rk_all_c ⟨am, rfl, hSt.2.2.2.2.2.2.2.2.2.2.1⟩ (rk_all_c rk_aF (rk_all_c rk_aF (rk_all_c rk_aF (rk_all_c ⟨_, rfl, by decide, by decide⟩ rk_all_0))))) rl_lk_49 rl_in_49 rl_se_49 (by decide +kernel) rfl rfl (Nat.le_of_ble_eq_true rfl) ⟨by show _ ≤ (1049206 : Nat); omega, by show _ ≤ (5954629 : Nat); omega⟩ (fun v fm H locs hA hLv hSt => ?_)
    have hR := rl_Rm hR hSt.2.2.2.2.2.2.2.2.2.2.1 hLv rfl rfl
    obtain ⟨w, rfl⟩ := rk_alt_i hA rfl
    clear hA
    refine rv_run hC.1 hC.2.1 (T := rv_t_law_7) rv_k_law_7 1 ?_
    refine rv_run hC.1 hC.2.1 (T := rv_t_law_7) rv_k_law_7 1 ?_
    refine rv_widen (k := cells + 358) (n := slots + 10311) (by omega) (by omega) ?_
    exact kk _ _ _ _ _ _ (rl_S_X hSt (by omega) (by omega)) hR
end RLC
