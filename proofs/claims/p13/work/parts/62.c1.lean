def rv_t_law_8 : rv_T := (.branch 0 (.branch 0 (.branch 0 (.branch 0 (.leaf (496, .iaload, 1)) (.leaf (472, .iadd, 1))) (.branch 0 (.branch 0 (.leaf (99999, .nop, 1)) (.branch 0 (.leaf (468, .aload_n 1, 1)) (.leaf (500, .iadd, 1)))) (.branch 0 (.leaf (492, .aload_n 0, 1)) (.leaf (476, .iconst 2, 1))))) (.branch 0 (.branch 0 (.branch 0 (.branch 0 (.leaf (514, .goto (738), 3)) (.leaf (482, .iconst 1, 1))) (.leaf (498, .iload_n 3, 1))) (.branch 0 (.leaf (490, .pop, 1)) (.branch 0 (.leaf (474, .aload_n 0, 1)) (.leaf (506, .goto (4), 3))))) (.branch 0 (.branch 0 (.leaf (486, .iconst 0, 1)) (.branch 0 (.leaf (470, .iload_n 3, 1)) (.leaf (502, .ifCond .eq (7), 3)))) (.branch 0 (.leaf (494, .iconst 1, 1)) (.branch 0 (.leaf (478, .iaload, 1)) (.leaf (510, .invokevirtual 53, 3))))))) (.branch 0 (.branch 0 (.branch 0 (.branch 0 (.leaf (513, .pop, 1)) (.leaf (497, .aload_n 0, 1))) (.branch 0 (.leaf (99999, .nop, 1)) (.branch 0 (.leaf (473, .iaload, 1)) (.leaf (505, .iconst 1, 1))))) (.branch 0 (.branch 0 (.leaf (99999, .nop, 1)) (.branch 0 (.leaf (469, .aload_n 0, 1)) (.leaf (501, .iaload, 1)))) (.branch 0 (.leaf (493, .iload_n 3, 1)) (.branch 0 (.leaf (477, .iadd, 1)) (.leaf (509, .iconst 0, 1)))))) (.branch 0 (.branch 0 (.branch 0 (.leaf (483, .goto (4), 3)) (.leaf (499, .iconst 2, 1))) (.branch 0 (.leaf (491, .aload_n 2, 1)) (.leaf (475, .iload_n 3, 1)))) (.branch 0 (.branch 0 (.leaf (487, .invokevirtual 50, 3)) (.leaf (471, .iconst 1, 1))) (.branch 0 (.leaf (495, .iadd, 1)) (.leaf (479, .ifCond .eq (7), 3)))))))
theorem rv_k_law_8 : rv_tok code rv_t_law_8 = true := by decide +kernel

def rv_t_law_9 : rv_T := (.branch 0 (.branch 0 (.branch 0 (.branch 0 (.leaf (528, .aload_n 0, 1)) (.branch 0 (.leaf (520, .iconst 1, 1)) (.leaf (536, .pop, 1)))) (.leaf (532, .iaload, 1))) (.branch 0 (.branch 0 (.leaf (530, .iconst 1, 1)) (.leaf (522, .iaload, 1))) (.branch 0 (.leaf (518, .aload_n 0, 1)) (.leaf (526, .pop, 1))))) (.branch 0 (.branch 0 (.branch 0 (.leaf (529, .iload_n 3, 1)) (.branch 0 (.leaf (521, .iadd, 1)) (.leaf (537, .goto (715), 3)))) (.branch 0 (.branch 0 (.leaf (517, .aload_n 1, 1)) (.leaf (533, .invokevirtual 57, 3))) (.leaf (99999, .nop, 1)))) (.branch 0 (.branch 0 (.leaf (531, .iadd, 1)) (.leaf (523, .invokevirtual 54, 3))) (.branch 0 (.leaf (519, .iload_n 3, 1)) (.leaf (527, .aload_n 2, 1))))))
theorem rv_k_law_9 : rv_tok code rv_t_law_9 = true := by decide +kernel

def rv_t_law_10 : rv_T := (.branch 0 (.branch 0 (.branch 0 (.branch 0 (.branch 0 (.branch 0 (.leaf (576, .aload_n 0, 1)) (.leaf (544, .iadd, 1))) (.branch 0 (.leaf (592, .iload_n 3, 1)) (.leaf (560, .iaload, 1)))) (.branch 0 (.branch 0 (.leaf (584, .iadd, 1)) (.leaf (552, .iload_n 3, 1))) (.leaf (600, .goto (652), 3)))) (.branch 0 (.branch 0 (.branch 0 (.leaf (580, .iaload, 1)) (.leaf (548, .iconst 2, 1))) (.branch 0 (.leaf (596, .invokevirtual 62, 3)) (.leaf (564, .iadd, 1)))) (.branch 0 (.branch 0 (.leaf (588, .iconst 4, 1)) (.leaf (556, .aload_n 0, 1))) (.branch 0 (.leaf (540, .aload_n 1, 1)) (.leaf (572, .iload_n 3, 1)))))) (.branch 0 (.branch 0 (.branch 0 (.branch 0 (.leaf (578, .iconst 2, 1)) (.leaf (546, .aload_n 0, 1))) (.branch 0 (.leaf (594, .iadd, 1)) (.leaf (562, .iload_n 3, 1)))) (.branch 0 (.branch 0 (.leaf (586, .aload_n 0, 1)) (.leaf (554, .iadd, 1))) (.leaf (570, .aload_n 2, 1)))) (.branch 0 (.branch 0 (.branch 0 (.leaf (582, .iload_n 3, 1)) (.leaf (550, .iaload, 1))) (.leaf (566, .invokevirtual 58, 3))) (.branch 0 (.branch 0 (.leaf (590, .iaload, 1)) (.leaf (558, .iconst 4, 1))) (.branch 0 (.leaf (542, .iload_n 3, 1)) (.leaf (574, .iadd, 1))))))) (.branch 0 (.branch 0 (.branch 0 (.branch 0 (.branch 0 (.leaf (577, .iload_n 3, 1)) (.leaf (545, .iaload, 1))) (.branch 0 (.leaf (593, .iconst 5, 1)) (.leaf (561, .aload_n 0, 1)))) (.branch 0 (.branch 0 (.leaf (585, .iaload, 1)) (.leaf (553, .iconst 3, 1))) (.leaf (569, .pop, 1)))) (.branch 0 (.branch 0 (.branch 0 (.leaf (581, .aload_n 0, 1)) (.leaf (549, .iadd, 1))) (.leaf (565, .iaload, 1))) (.branch 0 (.branch 0 (.leaf (589, .iadd, 1)) (.leaf (557, .iload_n 3, 1))) (.branch 0 (.leaf (541, .aload_n 0, 1)) (.leaf (573, .iconst 1, 1)))))) (.branch 0 (.branch 0 (.branch 0 (.branch 0 (.leaf (579, .iadd, 1)) (.leaf (547, .iload_n 3, 1))) (.branch 0 (.leaf (595, .iaload, 1)) (.leaf (563, .iconst 5, 1)))) (.branch 0 (.branch 0 (.leaf (587, .iload_n 3, 1)) (.leaf (555, .iaload, 1))) (.leaf (571, .aload_n 0, 1)))) (.branch 0 (.branch 0 (.branch 0 (.leaf (583, .iconst 3, 1)) (.leaf (551, .aload_n 0, 1))) (.leaf (599, .pop, 1))) (.branch 0 (.branch 0 (.leaf (591, .aload_n 0, 1)) (.leaf (559, .iadd, 1))) (.branch 0 (.leaf (543, .iconst 1, 1)) (.leaf (575, .iaload, 1))))))))
theorem rv_k_law_10 : rv_tok code rv_t_law_10 = true := by decide +kernel

def rv_t_law_11 : rv_T := (.branch 0 (.branch 0 (.branch 0 (.branch 0 (.leaf (608, .iaload, 1)) (.leaf (616, .iadd, 1))) (.branch 0 (.leaf (612, .aload_n 2, 1)) (.leaf (604, .aload_n 0, 1)))) (.branch 0 (.leaf (618, .invokevirtual 66, 3)) (.branch 0 (.leaf (614, .iload_n 3, 1)) (.leaf (606, .iconst 1, 1))))) (.branch 0 (.branch 0 (.branch 0 (.leaf (609, .invokevirtual 63, 3)) (.leaf (617, .iaload, 1))) (.branch 0 (.leaf (613, .aload_n 0, 1)) (.branch 0 (.leaf (621, .if_icmp .eq (631), 3)) (.leaf (605, .iload_n 3, 1))))) (.branch 0 (.leaf (603, .aload_n 1, 1)) (.branch 0 (.leaf (615, .iconst 1, 1)) (.leaf (607, .iadd, 1))))))
theorem rv_k_law_11 : rv_tok code rv_t_law_11 = true := by decide +kernel

def rv_t_law_12 : rv_T := (.branch 0 (.branch 0 (.branch 0 (.branch 0 (.leaf (640, .iadd, 1)) (.leaf (632, .invokevirtual 67, 3))) (.branch 0 (.leaf (628, .iload_n 3, 1)) (.leaf (636, .aload_n 2, 1)))) (.branch 0 (.branch 0 (.branch 0 (.leaf (642, .invokevirtual 70, 3)) (.leaf (626, .aload_n 1, 1))) (.leaf (99999, .nop, 1))) (.branch 0 (.branch 0 (.leaf (646, .goto (606), 3)) (.leaf (630, .iadd, 1))) (.leaf (638, .iload_n 3, 1))))) (.branch 0 (.branch 0 (.leaf (641, .iaload, 1)) (.branch 0 (.branch 0 (.leaf (645, .pop, 1)) (.leaf (629, .iconst 1, 1))) (.leaf (637, .aload_n 0, 1)))) (.branch 0 (.branch 0 (.leaf (627, .aload_n 0, 1)) (.leaf (635, .pop, 1))) (.branch 0 (.leaf (631, .iaload, 1)) (.leaf (639, .iconst 1, 1))))))
theorem rv_k_law_12 : rv_tok code rv_t_law_12 = true := by decide +kernel

def rv_t_law_13 : rv_T := (.branch 0 (.branch 0 (.leaf (99999, .nop, 1)) (.branch 0 (.branch 0 (.leaf (658, .pop, 1)) (.leaf (650, .invokevirtual 71, 3))) (.leaf (654, .aload_n 2, 1)))) (.branch 0 (.branch 0 (.leaf (649, .aload_n 1, 1)) (.leaf (653, .pop, 1))) (.branch 0 (.leaf (659, .goto (593), 3)) (.leaf (655, .invokevirtual 75, 3)))))
theorem rv_k_law_13 : rv_tok code rv_t_law_13 = true := by decide +kernel

def rv_t_law_14 : rv_T := (.branch 0 (.branch 0 (.branch 0 (.branch 0 (.leaf (672, .aload_n 2, 1)) (.leaf (664, .iload_n 3, 1))) (.branch 0 (.leaf (676, .iadd, 1)) (.leaf (668, .invokevirtual 76, 3)))) (.branch 0 (.branch 0 (.leaf (674, .iload_n 3, 1)) (.branch 0 (.leaf (682, .goto (570), 3)) (.leaf (666, .iadd, 1)))) (.branch 0 (.branch 0 (.leaf (678, .invokevirtual 79, 3)) (.leaf (662, .aload_n 1, 1))) (.leaf (99999, .nop, 1))))) (.branch 0 (.branch 0 (.branch 0 (.leaf (673, .aload_n 0, 1)) (.branch 0 (.leaf (681, .pop, 1)) (.leaf (665, .iconst 1, 1)))) (.leaf (677, .iaload, 1))) (.branch 0 (.branch 0 (.leaf (675, .iconst 1, 1)) (.leaf (667, .iaload, 1))) (.branch 0 (.leaf (663, .aload_n 0, 1)) (.leaf (671, .pop, 1))))))
theorem rv_k_law_14 : rv_tok code rv_t_law_14 = true := by decide +kernel

def rv_t_law_15 : rv_T := (.branch 0 (.branch 0 (.branch 0 (.branch 0 (.branch 0 (.leaf (704, .pop, 1)) (.leaf (688, .iconst 1, 1))) (.leaf (696, .aload_n 0, 1))) (.leaf (700, .iaload, 1))) (.branch 0 (.branch 0 (.leaf (690, .iaload, 1)) (.leaf (698, .iconst 1, 1))) (.branch 0 (.leaf (694, .pop, 1)) (.leaf (686, .aload_n 0, 1))))) (.branch 0 (.branch 0 (.branch 0 (.branch 0 (.leaf (705, .goto (547), 3)) (.leaf (689, .iadd, 1))) (.leaf (697, .iload_n 3, 1))) (.branch 0 (.leaf (99999, .nop, 1)) (.branch 0 (.leaf (685, .aload_n 1, 1)) (.leaf (701, .invokevirtual 83, 3))))) (.branch 0 (.branch 0 (.leaf (691, .invokevirtual 80, 3)) (.leaf (699, .iadd, 1))) (.branch 0 (.leaf (695, .aload_n 2, 1)) (.leaf (687, .iload_n 3, 1))))))
theorem rv_k_law_15 : rv_tok code rv_t_law_15 = true := by decide +kernel
section RLC
variable {p : Program} {l : Launch} {e : Env} {s : State} {m : MethodId} {below : List Frame} {meth : Method} {c : Code} {b0 N : Nat} {xs : Nat → Int32} {cI c1 c2 c3 c4 c5 : ClassId} {D : va_G} {ad adV : Nat → Nat} {cells slots : Nat} {H : Heap} {locs : List Loc}
variable {ax am : Nat} {Gm Gc : Nat → Option Nat} {Lm Lc : List Nat} {Xc Xm : Int} {fc fm : Nat → va_E}
theorem rl_case_8 (hC : rl_Cx cI c1 c2 c3 c4 c5 D ad adV p s m meth c b0 N xs) {i : Int32} {iN : Nat} {X : Int} (hSt : rl_S cI c1 c2 c3 c4 c5 D ad s ax am Gm Lm X X Gc Lc fc fm H locs) (hR : rl_R ax am Gc fc fm) (hX : 0 ≤ X) (hXC : X + 2276000 ≤ 2000000000) (hcs : cells + 358 ≤ 1049206 ∧ slots + 10311 ≤ 5954629) (hi : i.toInt = (iN : Int)) (hiN : iN + 6 ≤ N) (hN9 : N ≤ 3072)
    (kk : ∀ (Gc : Nat → Option Nat) (Lc : List Nat) (fc fm : Nat → va_E) (H : Heap) (locs : List Loc), rl_S cI c1 c2 c3 c4 c5 D ad s ax am Gm Lm (X + 2276000) (X + 2276000) Gc Lc fc fm H locs → rl_R ax am Gc fc fm → rv_G p l e room_1 s m #[Value.ref b0] below meth c (lw_Z below #[Value.ref b0] s) 4 (cells + 358) (slots + 10311) H locs 1252 [] [(0, .ref b0), (1, .ref ax), (2, .ref am), (3, .int i)]) : rv_G p l e room_1 s m #[Value.ref b0] below meth c (lw_Z below #[Value.ref b0] s) 4 cells slots H locs 468 [] [(0, .ref b0), (1, .ref ax), (2, .ref am), (3, .int i)] := by
  refine rv_run hC.1 hC.2.1 (T := rv_t_law_8) rv_k_law_8 1 ?_
  refine rv_run hC.1 hC.2.1 (T := rv_t_law_8) rv_k_law_8 4 ?_
  refine rl_scr hC hSt.2.2.2.2.1 (j := iN + 1) (rl_ix hi 1 (by decide) hiN hN9) (by omega) (by decide +kernel) ?_
  refine rv_run hC.1 hC.2.1 (T := rv_t_law_8) rv_k_law_8 4 ?_
  refine rl_scr hC hSt.2.2.2.2.1 (j := iN + 2) (rl_ix hi 2 (by decide) hiN hN9) (by omega) (by decide +kernel) ?_
  refine rv_run hC.1 hC.2.1 (T := rv_t_law_8) rv_k_law_8 1 ?_
  refine ⟨fun hq => ?_, fun hq => ?_⟩
  · refine rv_run hC.1 hC.2.1 (T := rv_t_law_8) rv_k_law_8 1 ?_
    refine rl_callC (as := [.int (xs (iN + 1)), .int (Int32.ofInt 0)]) (rest := []) hC hSt (c_X11_hold s.heap.size l cI c1 c2 c3 c4 c5 D ad adV) rfl (by omega) (by show _ ≤ (2000000000 : Int); omega) (rk_all_c ⟨ax, rfl, hSt.2.2.2.2.2.2.2.2.1⟩ (rk_all_c rk_aF (rk_all_c ⟨_, rfl, by decide, by decide⟩ rk_all_0))) rl_lk_50 rl_in_50 rl_se_50 (by decide +kernel) rfl rfl (Nat.le_of_ble_eq_true rfl) ⟨by show _ ≤ (1049206 : Nat); omega, by show _ ≤ (5954629 : Nat); omega⟩ (fun v fc H locs hA hLv hSt => ?_)
    have hR := rl_Rc hR hSt.2.2.2.2.2.2.2.2.1 hLv rfl rfl
    obtain ⟨w, rfl⟩ := rk_alt_i hA rfl
    clear hA
    refine rv_run hC.1 hC.2.1 (T := rv_t_law_8) rv_k_law_8 1 ?_
    refine rv_run hC.1 hC.2.1 (T := rv_t_law_8) rv_k_law_8 1 ?_
    refine rv_run hC.1 hC.2.1 (T := rv_t_law_8) rv_k_law_8 4 ?_
    refine rl_scr hC hSt.2.2.2.2.1 (j := iN + 1) (rl_ix hi 1 (by decide) hiN hN9) (by omega) (by decide +kernel) ?_
    refine rv_run hC.1 hC.2.1 (T := rv_t_law_8) rv_k_law_8 4 ?_
    refine rl_scr hC hSt.2.2.2.2.1 (j := iN + 2) (rl_ix hi 2 (by decide) hiN hN9) (by omega) (by decide +kernel) ?_
    refine rv_run hC.1 hC.2.1 (T := rv_t_law_8) rv_k_law_8 1 ?_
    refine ⟨fun _ => ?_, fun h9 => absurd hq h9⟩
    refine rv_run hC.1 hC.2.1 (T := rv_t_law_8) rv_k_law_8 1 ?_
    refine rl_callM (as := [.int (xs (iN + 1)), .int (Int32.ofInt 0)]) (rest := []) hC hSt (c_X12_hold s.heap.size l cI c1 c2 c3 c4 c5 D ad adV) (fun _ _ _ => trivial) rfl rfl (by omega) (by show _ ≤ (2000000000 : Int); omega) (rk_all_c ⟨am, rfl, hSt.2.2.2.2.2.2.2.2.2.2.1⟩ (rk_all_c rk_aF (rk_all_c ⟨_, rfl, by decide, by decide⟩ rk_all_0))) rl_lk_53 rl_in_53 rl_se_53 (by decide +kernel) rfl rfl (Nat.le_of_ble_eq_true rfl) ⟨by show _ ≤ (1049206 : Nat); omega, by show _ ≤ (5954629 : Nat); omega⟩ (fun v fm H locs hA hLv hSt => ?_)
    have hR := rl_Rm hR hSt.2.2.2.2.2.2.2.2.2.2.1 hLv rfl rfl
    obtain ⟨w, rfl⟩ := rk_alt_i hA rfl
    clear hA
    refine rv_run hC.1 hC.2.1 (T := rv_t_law_8) rv_k_law_8 1 ?_
    refine rv_run hC.1 hC.2.1 (T := rv_t_law_8) rv_k_law_8 1 ?_
    refine rv_widen (k := cells + 358) (n := slots + 10311) (by omega) (by omega) ?_
    exact kk _ _ _ _ _ _ (rl_S_X hSt (by omega) (by omega)) hR
  · refine rv_run hC.1 hC.2.1 (T := rv_t_law_8) rv_k_law_8 2 ?_
    refine rl_callC (as := [.int (xs (iN + 1)), .int (Int32.ofInt 1)]) (rest := []) hC hSt (c_X11_hold s.heap.size l cI c1 c2 c3 c4 c5 D ad adV) rfl (by omega) (by show _ ≤ (2000000000 : Int); omega) (rk_all_c ⟨ax, rfl, hSt.2.2.2.2.2.2.2.2.1⟩ (rk_all_c rk_aF (rk_all_c ⟨_, rfl, by decide, by decide⟩ rk_all_0))) rl_lk_50 rl_in_50 rl_se_50 (by decide +kernel) rfl rfl (Nat.le_of_ble_eq_true rfl) ⟨by show _ ≤ (1049206 : Nat); omega, by show _ ≤ (5954629 : Nat); omega⟩ (fun v fc H locs hA hLv hSt => ?_)
    have hR := rl_Rc hR hSt.2.2.2.2.2.2.2.2.1 hLv rfl rfl
    obtain ⟨w, rfl⟩ := rk_alt_i hA rfl
    clear hA
    refine rv_run hC.1 hC.2.1 (T := rv_t_law_8) rv_k_law_8 1 ?_
    refine rv_run hC.1 hC.2.1 (T := rv_t_law_8) rv_k_law_8 1 ?_
    refine rv_run hC.1 hC.2.1 (T := rv_t_law_8) rv_k_law_8 4 ?_
    refine rl_scr hC hSt.2.2.2.2.1 (j := iN + 1) (rl_ix hi 1 (by decide) hiN hN9) (by omega) (by decide +kernel) ?_
    refine rv_run hC.1 hC.2.1 (T := rv_t_law_8) rv_k_law_8 4 ?_
    refine rl_scr hC hSt.2.2.2.2.1 (j := iN + 2) (rl_ix hi 2 (by decide) hiN hN9) (by omega) (by decide +kernel) ?_
    refine rv_run hC.1 hC.2.1 (T := rv_t_law_8) rv_k_law_8 1 ?_
    refine ⟨fun h9 => absurd h9 hq, fun _ => ?_⟩
    refine rv_run hC.1 hC.2.1 (T := rv_t_law_8) rv_k_law_8 2 ?_
    refine rl_callM (as := [.int (xs (iN + 1)), .int (Int32.ofInt 1)]) (rest := []) hC hSt (c_X12_hold s.heap.size l cI c1 c2 c3 c4 c5 D ad adV) (fun _ _ _ => trivial) rfl rfl (by omega) (by show _ ≤ (2000000000 : Int); omega) (rk_all_c ⟨am, rfl, hSt.2.2.2.2.2.2.2.2.2.2.1⟩ (rk_all_c rk_aF (rk_all_c ⟨_, rfl, by decide, by decide⟩ rk_all_0))) rl_lk_53 rl_in_53 rl_se_53 (by decide +kernel) rfl rfl (Nat.le_of_ble_eq_true rfl) ⟨by show _ ≤ (1049206 : Nat); omega, by show _ ≤ (5954629 : Nat); omega⟩ (fun v fm H locs hA hLv hSt => ?_)
    have hR := rl_Rm hR hSt.2.2.2.2.2.2.2.2.2.2.1 hLv rfl rfl
    obtain ⟨w, rfl⟩ := rk_alt_i hA rfl
    clear hA
    refine rv_run hC.1 hC.2.1 (T := rv_t_law_8) rv_k_law_8 1 ?_
    refine rv_run hC.1 hC.2.1 (T := rv_t_law_8) rv_k_law_8 1 ?_
    refine rv_widen (k := cells + 358) (n := slots + 10311) (by omega) (by omega) ?_
    exact kk _ _ _ _ _ _ (rl_S_X hSt (by omega) (by omega)) hR
theorem rl_case_9 (hC : rl_Cx cI c1 c2 c3 c4 c5 D ad adV p s m meth c b0 N xs) {i : Int32} {iN : Nat} {X : Int} (hSt : rl_S cI c1 c2 c3 c4 c5 D ad s ax am Gm Lm X X Gc Lc fc fm H locs) (hR : rl_R ax am Gc fc fm) (hX : 0 ≤ X) (hXC : X + 2276000 ≤ 2000000000) (hcs : cells + 358 ≤ 1049206 ∧ slots + 10311 ≤ 5954629) (hi : i.toInt = (iN : Int)) (hiN : iN + 6 ≤ N) (hN9 : N ≤ 3072)
    (kk : ∀ (Gc : Nat → Option Nat) (Lc : List Nat) (fc fm : Nat → va_E) (H : Heap) (locs : List Loc), rl_S cI c1 c2 c3 c4 c5 D ad s ax am Gm Lm (X + 2276000) (X + 2276000) Gc Lc fc fm H locs → rl_R ax am Gc fc fm → rv_G p l e room_1 s m #[Value.ref b0] below meth c (lw_Z below #[Value.ref b0] s) 4 (cells + 358) (slots + 10311) H locs 1252 [] [(0, .ref b0), (1, .ref ax), (2, .ref am), (3, .int i)]) : rv_G p l e room_1 s m #[Value.ref b0] below meth c (lw_Z below #[Value.ref b0] s) 4 cells slots H locs 517 [] [(0, .ref b0), (1, .ref ax), (2, .ref am), (3, .int i)] := by
  refine rv_run hC.1 hC.2.1 (T := rv_t_law_9) rv_k_law_9 1 ?_
  refine rv_run hC.1 hC.2.1 (T := rv_t_law_9) rv_k_law_9 4 ?_
  refine rl_scr hC hSt.2.2.2.2.1 (j := iN + 1) (rl_ix hi 1 (by decide) hiN hN9) (by omega) (by decide +kernel) ?_
  refine rl_callC (as := [.int (xs (iN + 1))]) (rest := []) hC hSt (c_X11_tick s.heap.size l cI c1 c2 c3 c4 c5 D ad adV) rfl (by omega) (by show _ ≤ (2000000000 : Int); omega) (rk_all_c ⟨ax, rfl, hSt.2.2.2.2.2.2.2.2.1⟩ (rk_all_c rk_aF rk_all_0)) rl_lk_54 rl_in_54 rl_se_54 (by decide +kernel) rfl rfl (Nat.le_of_ble_eq_true rfl) ⟨by show _ ≤ (1049206 : Nat); omega, by show _ ≤ (5954629 : Nat); omega⟩ (fun v fc H locs hA hLv hSt => ?_)
  have hR := rl_Rc hR hSt.2.2.2.2.2.2.2.2.1 hLv rfl rfl
  obtain ⟨w, rfl⟩ := rk_alt_i hA rfl
  clear hA
  refine rv_run hC.1 hC.2.1 (T := rv_t_law_9) rv_k_law_9 1 ?_
  refine rv_run hC.1 hC.2.1 (T := rv_t_law_9) rv_k_law_9 1 ?_
  refine rv_run hC.1 hC.2.1 (T := rv_t_law_9) rv_k_law_9 4 ?_
  refine rl_scr hC hSt.2.2.2.2.1 (j := iN + 1) (rl_ix hi 1 (by decide) hiN hN9) (by omega) (by decide +kernel) ?_
  refine rl_callM (as := [.int (xs (iN + 1))]) (rest := []) hC hSt (c_X12_tick s.heap.size l cI c1 c2 c3 c4 c5 D ad adV) (fun _ _ h => h) rfl rfl (by omega) (by show _ ≤ (2000000000 : Int); omega) (rk_all_c ⟨am, rfl, hSt.2.2.2.2.2.2.2.2.2.2.1⟩ (rk_all_c rk_aF rk_all_0)) rl_lk_57 rl_in_57 rl_se_57 (by decide +kernel) rfl rfl (Nat.le_of_ble_eq_true rfl) ⟨by show _ ≤ (1049206 : Nat); omega, by show _ ≤ (5954629 : Nat); omega⟩ (fun v fm H locs hA hLv hSt => ?_)
  have hR := rl_Rm hR hSt.2.2.2.2.2.2.2.2.2.2.1 hLv rfl rfl
  obtain ⟨w, rfl⟩ := rk_alt_i hA rfl
  clear hA
  refine rv_run hC.1 hC.2.1 (T := rv_t_law_9) rv_k_law_9 1 ?_
  refine rv_run hC.1 hC.2.1 (T := rv_t_law_9) rv_k_law_9 1 ?_
  refine rv_widen (k := cells + 358) (n := slots + 10311) (by omega) (by omega) ?_
  exact kk _ _ _ _ _ _ (rl_S_X hSt (by omega) (by omega)) hR
theorem rl_case_10 (hC : rl_Cx cI c1 c2 c3 c4 c5 D ad adV p s m meth c b0 N xs) {i : Int32} {iN : Nat} {X : Int} (hSt : rl_S cI c1 c2 c3 c4 c5 D ad s ax am Gm Lm X X Gc Lc fc fm H locs) (hR : rl_R ax am Gc fc fm) (hX : 0 ≤ X) (hXC : X + 2276000 ≤ 2000000000) (hcs : cells + 358 ≤ 1049206 ∧ slots + 10311 ≤ 5954629) (hi : i.toInt = (iN : Int)) (hiN : iN + 6 ≤ N) (hN9 : N ≤ 3072)
    (kk : ∀ (Gc : Nat → Option Nat) (Lc : List Nat) (fc fm : Nat → va_E) (H : Heap) (locs : List Loc), rl_S cI c1 c2 c3 c4 c5 D ad s ax am Gm Lm (X + 2276000) (X + 2276000) Gc Lc fc fm H locs → rl_R ax am Gc fc fm → rv_G p l e room_1 s m #[Value.ref b0] below meth c (lw_Z below #[Value.ref b0] s) 4 (cells + 358) (slots + 10311) H locs 1252 [] [(0, .ref b0), (1, .ref ax), (2, .ref am), (3, .int i)]) : rv_G p l e room_1 s m #[Value.ref b0] below meth c (lw_Z below #[Value.ref b0] s) 4 cells slots H locs 540 [] [(0, .ref b0), (1, .ref ax), (2, .ref am), (3, .int i)] := by
  refine rv_run hC.1 hC.2.1 (T := rv_t_law_10) rv_k_law_10 1 ?_
  refine rv_run hC.1 hC.2.1 (T := rv_t_law_10) rv_k_law_10 4 ?_
  refine rl_scr hC hSt.2.2.2.2.1 (j := iN + 1) (rl_ix hi 1 (by decide) hiN hN9) (by omega) (by decide +kernel) ?_
  refine rv_run hC.1 hC.2.1 (T := rv_t_law_10) rv_k_law_10 4 ?_
  refine rl_scr hC hSt.2.2.2.2.1 (j := iN + 2) (rl_ix hi 2 (by decide) hiN hN9) (by omega) (by decide +kernel) ?_
  refine rv_run hC.1 hC.2.1 (T := rv_t_law_10) rv_k_law_10 4 ?_
  refine rl_scr hC hSt.2.2.2.2.1 (j := iN + 3) (rl_ix hi 3 (by decide) hiN hN9) (by omega) (by decide +kernel) ?_
  refine rv_run hC.1 hC.2.1 (T := rv_t_law_10) rv_k_law_10 4 ?_
  refine rl_scr hC hSt.2.2.2.2.1 (j := iN + 4) (rl_ix hi 4 (by decide) hiN hN9) (by omega) (by decide +kernel) ?_
  refine rv_run hC.1 hC.2.1 (T := rv_t_law_10) rv_k_law_10 4 ?_
  refine rl_scr hC hSt.2.2.2.2.1 (j := iN + 5) (rl_ix hi 5 (by decide) hiN hN9) (by omega) (by decide +kernel) ?_
  have hGx := hSt.2.2.2.2.2.2.2.2.1
  have hGm := hSt.2.2.2.2.2.2.2.2.2.2.1
  refine rl_callCx (as := [.int (xs (iN + 1)), .int (xs (iN + 2)), .int (xs (iN + 3)), .int (xs (iN + 4)), .int (xs (iN + 5))]) (rest := []) hC hSt (rc_feed s.heap.size l cI c1 c2 c3 c4 c5 D ad adV ax (xs (iN + 1)) (xs (iN + 2)) (xs (iN + 3)) (xs (iN + 4)) (xs (iN + 5))) rfl (by omega) (by show _ ≤ (2000000000 : Int); omega) hGx rl_lk_58 rl_in_58 rl_se_58 (by decide +kernel) rfl rfl (Nat.le_of_ble_eq_true rfl) ⟨by show _ ≤ (1049206 : Nat); omega, by show _ ≤ (5954629 : Nat); omega⟩ (fun v fc H locs hPc hLc hSt => ?_)
  obtain ⟨aT, w1, hT9, rfl, hw1⟩ := hPc
  refine rv_run hC.1 hC.2.1 (T := rv_t_law_10) rv_k_law_10 1 ?_
  refine rv_run hC.1 hC.2.1 (T := rv_t_law_10) rv_k_law_10 1 ?_
  refine rv_run hC.1 hC.2.1 (T := rv_t_law_10) rv_k_law_10 4 ?_
  refine rl_scr hC hSt.2.2.2.2.1 (j := iN + 1) (rl_ix hi 1 (by decide) hiN hN9) (by omega) (by decide +kernel) ?_
  refine rv_run hC.1 hC.2.1 (T := rv_t_law_10) rv_k_law_10 4 ?_
  refine rl_scr hC hSt.2.2.2.2.1 (j := iN + 2) (rl_ix hi 2 (by decide) hiN hN9) (by omega) (by decide +kernel) ?_
  refine rv_run hC.1 hC.2.1 (T := rv_t_law_10) rv_k_law_10 4 ?_
  refine rl_scr hC hSt.2.2.2.2.1 (j := iN + 3) (rl_ix hi 3 (by decide) hiN hN9) (by omega) (by decide +kernel) ?_
  refine rv_run hC.1 hC.2.1 (T := rv_t_law_10) rv_k_law_10 4 ?_
  refine rl_scr hC hSt.2.2.2.2.1 (j := iN + 4) (rl_ix hi 4 (by decide) hiN hN9) (by omega) (by decide +kernel) ?_
  refine rv_run hC.1 hC.2.1 (T := rv_t_law_10) rv_k_law_10 4 ?_
  refine rl_scr hC hSt.2.2.2.2.1 (j := iN + 5) (rl_ix hi 5 (by decide) hiN hN9) (by omega) (by decide +kernel) ?_
  refine rl_callMx (as := [.int (xs (iN + 1)), .int (xs (iN + 2)), .int (xs (iN + 3)), .int (xs (iN + 4)), .int (xs (iN + 5))]) (rest := []) hC hSt (h_feed s.heap.size l cI c1 c2 c3 c4 c5 D ad adV am (xs (iN + 1)) (xs (iN + 2)) (xs (iN + 3)) (xs (iN + 4)) (xs (iN + 5))) rfl rfl (by omega) (by show _ ≤ (2000000000 : Int); omega) hGm rl_lk_62 rl_in_62 rl_se_62 (by decide +kernel) rfl rfl (Nat.le_of_ble_eq_true rfl) ⟨by show _ ≤ (1049206 : Nat); omega, by show _ ≤ (5954629 : Nat); omega⟩ (fun v fm H locs hPm hLm hSt => ?_)
  obtain ⟨w2, rfl, hw2⟩ := hPm
  have hq0 := hR.2.1 aT hT9
  have heq : w1.toInt = w2.toInt := by omega
  have hR := rl_Rt hR hGx hGm hLc hLm rfl aT hT9 (by omega)
  refine rv_run hC.1 hC.2.1 (T := rv_t_law_10) rv_k_law_10 1 ?_
  refine rv_run hC.1 hC.2.1 (T := rv_t_law_10) rv_k_law_10 1 ?_
  refine rv_widen (k := cells + 358) (n := slots + 10311) (by omega) (by omega) ?_
  exact kk _ _ _ _ _ _ (rl_S_X hSt (by omega) (by omega)) hR
theorem rl_case_11 (hC : rl_Cx cI c1 c2 c3 c4 c5 D ad adV p s m meth c b0 N xs) {i : Int32} {iN : Nat} {X : Int} (hSt : rl_S cI c1 c2 c3 c4 c5 D ad s ax am Gm Lm X X Gc Lc fc fm H locs) (hR : rl_R ax am Gc fc fm) (hX : 0 ≤ X) (hXC : X + 2276000 ≤ 2000000000) (hcs : cells + 358 ≤ 1049206 ∧ slots + 10311 ≤ 5954629) (hi : i.toInt = (iN : Int)) (hiN : iN + 6 ≤ N) (hN9 : N ≤ 3072)
    (kk : ∀ (Gc : Nat → Option Nat) (Lc : List Nat) (fc fm : Nat → va_E) (H : Heap) (locs : List Loc), rl_S cI c1 c2 c3 c4 c5 D ad s ax am Gm Lm (X + 2276000) (X + 2276000) Gc Lc fc fm H locs → rl_R ax am Gc fc fm → rv_G p l e room_1 s m #[Value.ref b0] below meth c (lw_Z below #[Value.ref b0] s) 4 (cells + 358) (slots + 10311) H locs 1252 [] [(0, .ref b0), (1, .ref ax), (2, .ref am), (3, .int i)]) : rv_G p l e room_1 s m #[Value.ref b0] below meth c (lw_Z below #[Value.ref b0] s) 4 cells slots H locs 603 [] [(0, .ref b0), (1, .ref ax), (2, .ref am), (3, .int i)] := by
  refine rv_run hC.1 hC.2.1 (T := rv_t_law_11) rv_k_law_11 1 ?_
  refine rv_run hC.1 hC.2.1 (T := rv_t_law_11) rv_k_law_11 4 ?_
  refine rl_scr hC hSt.2.2.2.2.1 (j := iN + 1) (rl_ix hi 1 (by decide) hiN hN9) (by omega) (by decide +kernel) ?_
  have hGx := hSt.2.2.2.2.2.2.2.2.1
  have hGm := hSt.2.2.2.2.2.2.2.2.2.2.1
  refine rl_callCx (as := [.int (xs (iN + 1))]) (rest := []) hC hSt (rc_end s.heap.size l cI c1 c2 c3 c4 c5 D ad adV ax (xs (iN + 1))) rfl (by omega) (by show _ ≤ (2000000000 : Int); omega) hGx rl_lk_63 rl_in_63 rl_se_63 (by decide +kernel) rfl rfl (Nat.le_of_ble_eq_true rfl) ⟨by show _ ≤ (1049206 : Nat); omega, by show _ ≤ (5954629 : Nat); omega⟩ (fun v fc H locs hPc hLc hSt => ?_)
  obtain ⟨aT, w1, hT9, rfl, hw1⟩ := hPc
  refine rv_run hC.1 hC.2.1 (T := rv_t_law_11) rv_k_law_11 1 ?_
  refine rv_run hC.1 hC.2.1 (T := rv_t_law_11) rv_k_law_11 4 ?_
  refine rl_scr hC hSt.2.2.2.2.1 (j := iN + 1) (rl_ix hi 1 (by decide) hiN hN9) (by omega) (by decide +kernel) ?_
  refine rl_callMx (as := [.int (xs (iN + 1))]) (rest := [.int w1]) hC hSt (h_end2 s.heap.size l cI c1 c2 c3 c4 c5 D ad adV am (xs (iN + 1))) rfl rfl (by omega) (by show _ ≤ (2000000000 : Int); omega) hGm rl_lk_66 rl_in_66 rl_se_66 (by decide +kernel) rfl rfl (Nat.le_of_ble_eq_true rfl) ⟨by show _ ≤ (1049206 : Nat); omega, by show _ ≤ (5954629 : Nat); omega⟩ (fun v fm H locs hPm hLm hSt => ?_)
  obtain ⟨w2, rfl, hw2⟩ := hPm
  have hq0 := hR.2.1 aT hT9
  have heq : w1.toInt = w2.toInt := by omega
  have hR := rl_Rt hR hGx hGm hLc hLm rfl aT hT9 (by omega)
  refine rv_run hC.1 hC.2.1 (T := rv_t_law_11) rv_k_law_11 1 ?_
  refine ⟨fun _ => ?_, fun h => ?_⟩
  · refine rv_widen (k := cells + 358) (n := slots + 10311) (by omega) (by omega) ?_
    exact kk _ _ _ _ _ _ (rl_S_X hSt (by omega) (by omega)) hR
  · have h : ¬ w1.toInt = w2.toInt := h
    omega
theorem rl_case_12 (hC : rl_Cx cI c1 c2 c3 c4 c5 D ad adV p s m meth c b0 N xs) {i : Int32} {iN : Nat} {X : Int} (hSt : rl_S cI c1 c2 c3 c4 c5 D ad s ax am Gm Lm X X Gc Lc fc fm H locs) (hR : rl_R ax am Gc fc fm) (hX : 0 ≤ X) (hXC : X + 2276000 ≤ 2000000000) (hcs : cells + 358 ≤ 1049206 ∧ slots + 10311 ≤ 5954629) (hi : i.toInt = (iN : Int)) (hiN : iN + 6 ≤ N) (hN9 : N ≤ 3072)
    (kk : ∀ (Gc : Nat → Option Nat) (Lc : List Nat) (fc fm : Nat → va_E) (H : Heap) (locs : List Loc), rl_S cI c1 c2 c3 c4 c5 D ad s ax am Gm Lm (X + 2276000) (X + 2276000) Gc Lc fc fm H locs → rl_R ax am Gc fc fm → rv_G p l e room_1 s m #[Value.ref b0] below meth c (lw_Z below #[Value.ref b0] s) 4 (cells + 358) (slots + 10311) H locs 1252 [] [(0, .ref b0), (1, .ref ax), (2, .ref am), (3, .int i)]) : rv_G p l e room_1 s m #[Value.ref b0] below meth c (lw_Z below #[Value.ref b0] s) 4 cells slots H locs 626 [] [(0, .ref b0), (1, .ref ax), (2, .ref am), (3, .int i)] := by
  refine rv_run hC.1 hC.2.1 (T := rv_t_law_12) rv_k_law_12 1 ?_
  refine rv_run hC.1 hC.2.1 (T := rv_t_law_12) rv_k_law_12 4 ?_
  refine rl_scr hC hSt.2.2.2.2.1 (j := iN + 1) (rl_ix hi 1 (by decide) hiN hN9) (by omega) (by decide +kernel) ?_
  have hGx := hSt.2.2.2.2.2.2.2.2.1
  have hGm := hSt.2.2.2.2.2.2.2.2.2.2.1
  refine rl_callCx (as := [.int (xs (iN + 1))]) (rest := []) hC hSt (rc_send s.heap.size l cI c1 c2 c3 c4 c5 D ad adV ax (xs (iN + 1))) rfl (by omega) (by show _ ≤ (2000000000 : Int); omega) hGx rl_lk_67 rl_in_67 rl_se_67 (by decide +kernel) rfl rfl (Nat.le_of_ble_eq_true rfl) ⟨by show _ ≤ (1049206 : Nat); omega, by show _ ≤ (5954629 : Nat); omega⟩ (fun v fc H locs hPc hLc hSt => ?_)
  obtain ⟨aT, w1, hT9, rfl, hw1⟩ := hPc
  refine rv_run hC.1 hC.2.1 (T := rv_t_law_12) rv_k_law_12 1 ?_
  refine rv_run hC.1 hC.2.1 (T := rv_t_law_12) rv_k_law_12 1 ?_
  refine rv_run hC.1 hC.2.1 (T := rv_t_law_12) rv_k_law_12 4 ?_
  refine rl_scr hC hSt.2.2.2.2.1 (j := iN + 1) (rl_ix hi 1 (by decide) hiN hN9) (by omega) (by decide +kernel) ?_
  refine rl_callMx (as := [.int (xs (iN + 1))]) (rest := []) hC hSt (h_send2 s.heap.size l cI c1 c2 c3 c4 c5 D ad adV am (xs (iN + 1))) rfl rfl (by omega) (by show _ ≤ (2000000000 : Int); omega) hGm rl_lk_70 rl_in_70 rl_se_70 (by decide +kernel) rfl rfl (Nat.le_of_ble_eq_true rfl) ⟨by show _ ≤ (1049206 : Nat); omega, by show _ ≤ (5954629 : Nat); omega⟩ (fun v fm H locs hPm hLm hSt => ?_)
  obtain ⟨w2, rfl, hw2⟩ := hPm
  have hq0 := hR.2.1 aT hT9
  have hR := rl_Rt hR hGx hGm hLc hLm rfl aT hT9 (by omega)
  refine rv_run hC.1 hC.2.1 (T := rv_t_law_12) rv_k_law_12 1 ?_
  refine rv_run hC.1 hC.2.1 (T := rv_t_law_12) rv_k_law_12 1 ?_
  refine rv_widen (k := cells + 358) (n := slots + 10311) (by omega) (by omega) ?_
  exact kk _ _ _ _ _ _ (rl_S_X hSt (by omega) (by omega)) hR
theorem rl_case_13 (hC : rl_Cx cI c1 c2 c3 c4 c5 D ad adV p s m meth c b0 N xs) {i : Int32} {iN : Nat} {X : Int} (hSt : rl_S cI c1 c2 c3 c4 c5 D ad s ax am Gm Lm X X Gc Lc fc fm H locs) (hR : rl_R ax am Gc fc fm) (hX : 0 ≤ X) (hXC : X + 2276000 ≤ 2000000000) (hcs : cells + 358 ≤ 1049206 ∧ slots + 10311 ≤ 5954629) (hi : i.toInt = (iN : Int)) (hiN : iN + 6 ≤ N) (hN9 : N ≤ 3072)
    (kk : ∀ (Gc : Nat → Option Nat) (Lc : List Nat) (fc fm : Nat → va_E) (H : Heap) (locs : List Loc), rl_S cI c1 c2 c3 c4 c5 D ad s ax am Gm Lm (X + 2276000) (X + 2276000) Gc Lc fc fm H locs → rl_R ax am Gc fc fm → rv_G p l e room_1 s m #[Value.ref b0] below meth c (lw_Z below #[Value.ref b0] s) 4 (cells + 358) (slots + 10311) H locs 1252 [] [(0, .ref b0), (1, .ref ax), (2, .ref am), (3, .int i)]) : rv_G p l e room_1 s m #[Value.ref b0] below meth c (lw_Z below #[Value.ref b0] s) 4 cells slots H locs 649 [] [(0, .ref b0), (1, .ref ax), (2, .ref am), (3, .int i)] := by
  refine rv_run hC.1 hC.2.1 (T := rv_t_law_13) rv_k_law_13 1 ?_
  have hGx := hSt.2.2.2.2.2.2.2.2.1
  have hGm := hSt.2.2.2.2.2.2.2.2.2.2.1
  refine rl_callCx (as := []) (rest := []) hC hSt (rc_text s.heap.size l cI c1 c2 c3 c4 c5 D ad adV ax ) rfl (by omega) (by show _ ≤ (2000000000 : Int); omega) hGx rl_lk_71 rl_in_71 rl_se_71 (by decide +kernel) rfl rfl (Nat.le_of_ble_eq_true rfl) ⟨by show _ ≤ (1049206 : Nat); omega, by show _ ≤ (5954629 : Nat); omega⟩ (fun v fc H locs hPc hLc hSt => ?_)
  obtain ⟨aT, w1, hT9, rfl, hw1⟩ := hPc
  refine rv_run hC.1 hC.2.1 (T := rv_t_law_13) rv_k_law_13 1 ?_
  refine rv_run hC.1 hC.2.1 (T := rv_t_law_13) rv_k_law_13 1 ?_
  refine rl_callMx (as := []) (rest := []) hC hSt (h_text2 s.heap.size l cI c1 c2 c3 c4 c5 D ad adV am ) rfl rfl (by omega) (by show _ ≤ (2000000000 : Int); omega) ⟨hGm, hSt.2.2.2.2.2.2.2.2.2.2.2.1, hSt.2.2.2.2.2.2.2.2.2.2.2.2 am hGm⟩ rl_lk_75 rl_in_75 rl_se_75 (by decide +kernel) rfl rfl (Nat.le_of_ble_eq_true rfl) ⟨by show _ ≤ (1049206 : Nat); omega, by show _ ≤ (5954629 : Nat); omega⟩ (fun v fm H locs hPm hLm hSt => ?_)
  obtain ⟨w2, rfl, hw2⟩ := hPm
  have hq0 := hR.2.1 aT hT9
  have hR := rl_Rt hR hGx hGm hLc hLm rfl aT hT9 (by omega)
  refine rv_run hC.1 hC.2.1 (T := rv_t_law_13) rv_k_law_13 1 ?_
  refine rv_run hC.1 hC.2.1 (T := rv_t_law_13) rv_k_law_13 1 ?_
  refine rv_widen (k := cells + 358) (n := slots + 10311) (by omega) (by omega) ?_
  exact kk _ _ _ _ _ _ (rl_S_X hSt (by omega) (by omega)) hR
theorem rl_case_14 (hC : rl_Cx cI c1 c2 c3 c4 c5 D ad adV p s m meth c b0 N xs) {i : Int32} {iN : Nat} {X : Int} (hSt : rl_S cI c1 c2 c3 c4 c5 D ad s ax am Gm Lm X X Gc Lc fc fm H locs) (hR : rl_R ax am Gc fc fm) (hX : 0 ≤ X) (hXC : X + 2276000 ≤ 2000000000) (hcs : cells + 358 ≤ 1049206 ∧ slots + 10311 ≤ 5954629) (hi : i.toInt = (iN : Int)) (hiN : iN + 6 ≤ N) (hN9 : N ≤ 3072)
    (kk : ∀ (Gc : Nat → Option Nat) (Lc : List Nat) (fc fm : Nat → va_E) (H : Heap) (locs : List Loc), rl_S cI c1 c2 c3 c4 c5 D ad s ax am Gm Lm (X + 2276000) (X + 2276000) Gc Lc fc fm H locs → rl_R ax am Gc fc fm → rv_G p l e room_1 s m #[Value.ref b0] below meth c (lw_Z below #[Value.ref b0] s) 4 (cells + 358) (slots + 10311) H locs 1252 [] [(0, .ref b0), (1, .ref ax), (2, .ref am), (3, .int i)]) : rv_G p l e room_1 s m #[Value.ref b0] below meth c (lw_Z below #[Value.ref b0] s) 4 cells slots H locs 662 [] [(0, .ref b0), (1, .ref ax), (2, .ref am), (3, .int i)] := by
  refine rv_run hC.1 hC.2.1 (T := rv_t_law_14) rv_k_law_14 1 ?_
  refine rv_run hC.1 hC.2.1 (T := rv_t_law_14) rv_k_law_14 4 ?_
  refine rl_scr hC hSt.2.2.2.2.1 (j := iN + 1) (rl_ix hi 1 (by decide) hiN hN9) (by omega) (by decide +kernel) ?_
  refine rl_callC (as := [.int (xs (iN + 1))]) (rest := []) hC hSt (c_X11_fault s.heap.size l cI c1 c2 c3 c4 c5 D ad adV) rfl (by omega) (by show _ ≤ (2000000000 : Int); omega) (rk_all_c ⟨ax, rfl, hSt.2.2.2.2.2.2.2.2.1⟩ (rk_all_c rk_aF rk_all_0)) rl_lk_76 rl_in_76 rl_se_76 (by decide +kernel) rfl rfl (Nat.le_of_ble_eq_true rfl) ⟨by show _ ≤ (1049206 : Nat); omega, by show _ ≤ (5954629 : Nat); omega⟩ (fun v fc H locs hA hLv hSt => ?_)
  have hR := rl_Rc hR hSt.2.2.2.2.2.2.2.2.1 hLv rfl rfl
  obtain ⟨w, rfl⟩ := rk_alt_i hA rfl
  clear hA
  refine rv_run hC.1 hC.2.1 (T := rv_t_law_14) rv_k_law_14 1 ?_
  refine rv_run hC.1 hC.2.1 (T := rv_t_law_14) rv_k_law_14 1 ?_
  refine rv_run hC.1 hC.2.1 (T := rv_t_law_14) rv_k_law_14 4 ?_
  refine rl_scr hC hSt.2.2.2.2.1 (j := iN + 1) (rl_ix hi 1 (by decide) hiN hN9) (by omega) (by decide +kernel) ?_
  refine rl_callM (as := [.int (xs (iN + 1))]) (rest := []) hC hSt (c_X12_fault s.heap.size l cI c1 c2 c3 c4 c5 D ad adV) (fun _ _ _ => trivial) rfl rfl (by omega) (by show _ ≤ (2000000000 : Int); omega) (rk_all_c ⟨am, rfl, hSt.2.2.2.2.2.2.2.2.2.2.1⟩ (rk_all_c rk_aF rk_all_0)) rl_lk_79 rl_in_79 rl_se_79 (by decide +kernel) rfl rfl (Nat.le_of_ble_eq_true rfl) ⟨by show _ ≤ (1049206 : Nat); omega, by show _ ≤ (5954629 : Nat); omega⟩ (fun v fm H locs hA hLv hSt => ?_)
  have hR := rl_Rm hR hSt.2.2.2.2.2.2.2.2.2.2.1 hLv rfl rfl
  obtain ⟨w, rfl⟩ := rk_alt_i hA rfl
  clear hA
  refine rv_run hC.1 hC.2.1 (T := rv_t_law_14) rv_k_law_14 1 ?_
  refine rv_run hC.1 hC.2.1 (T := rv_t_law_14) rv_k_law_14 1 ?_
  refine rv_widen (k := cells + 358) (n := slots + 10311) (by omega) (by omega) ?_
  exact kk _ _ _ _ _ _ (rl_S_X hSt (by omega) (by omega)) hR
theorem rl_case_15 (hC : rl_Cx cI c1 c2 c3 c4 c5 D ad adV p s m meth c b0 N xs) {i : Int32} {iN : Nat} {X : Int} (hSt : rl_S cI c1 c2 c3 c4 c5 D ad s ax am Gm Lm X X Gc Lc fc fm H locs) (hR : rl_R ax am Gc fc fm) (hX : 0 ≤ X) (hXC : X + 2276000 ≤ 2000000000) (hcs : cells + 358 ≤ 1049206 ∧ slots + 10311 ≤ 5954629) (hi : i.toInt = (iN : Int)) (hiN : iN + 6 ≤ N) (hN9 : N ≤ 3072)
    (kk : ∀ (Gc : Nat → Option Nat) (Lc : List Nat) (fc fm : Nat → va_E) (H : Heap) (locs : List Loc), rl_S cI c1 c2 c3 c4 c5 D ad s ax am Gm Lm (X + 2276000) (X + 2276000) Gc Lc fc fm H locs → rl_R ax am Gc fc fm → rv_G p l e room_1 s m #[Value.ref b0] below meth c (lw_Z below #[Value.ref b0] s) 4 (cells + 358) (slots + 10311) H locs 1252 [] [(0, .ref b0), (1, .ref ax), (2, .ref am), (3, .int i)]) : rv_G p l e room_1 s m #[Value.ref b0] below meth c (lw_Z below #[Value.ref b0] s) 4 cells slots H locs 685 [] [(0, .ref b0), (1, .ref ax), (2, .ref am), (3, .int i)] := by
  refine rv_run hC.1 hC.2.1 (T := rv_t_law_15) rv_k_law_15 1 ?_
  refine rv_run hC.1 hC.2.1 (T := rv_t_law_15) rv_k_law_15 4 ?_
  refine rl_scr hC hSt.2.2.2.2.1 (j := iN + 1) (rl_ix hi 1 (by decide) hiN hN9) (by omega) (by decide +kernel) ?_
  refine rl_callC (as := [.int (xs (iN + 1))]) (rest := []) hC hSt (c_X11_time s.heap.size l cI c1 c2 c3 c4 c5 D ad adV) rfl (by omega) (by show _ ≤ (2000000000 : Int); omega) (rk_all_c ⟨ax, rfl, hSt.2.2.2.2.2.2.2.2.1⟩ (rk_all_c rk_aF rk_all_0)) rl_lk_80 rl_in_80 rl_se_80 (by decide +kernel) rfl rfl (Nat.le_of_ble_eq_true rfl) ⟨by show _ ≤ (1049206 : Nat); omega, by show _ ≤ (5954629 : Nat); omega⟩ (fun v fc H locs hA hLv hSt => ?_)
  have hR := rl_Rc hR hSt.2.2.2.2.2.2.2.2.1 hLv rfl rfl
  obtain ⟨w, rfl⟩ := rk_alt_i hA rfl
  clear hA
  refine rv_run hC.1 hC.2.1 (T := rv_t_law_15) rv_k_law_15 1 ?_
  refine rv_run hC.1 hC.2.1 (T := rv_t_law_15) rv_k_law_15 1 ?_
  refine rv_run hC.1 hC.2.1 (T := rv_t_law_15) rv_k_law_15 4 ?_
  refine rl_scr hC hSt.2.2.2.2.1 (j := iN + 1) (rl_ix hi 1 (by decide) hiN hN9) (by omega) (by decide +kernel) ?_
  refine rl_callM (as := [.int (xs (iN + 1))]) (rest := []) hC hSt (c_X12_time s.heap.size l cI c1 c2 c3 c4 c5 D ad adV) (fun _ _ _ => trivial) rfl rfl (by omega) (by show _ ≤ (2000000000 : Int); omega) (rk_all_c ⟨am, rfl, hSt.2.2.2.2.2.2.2.2.2.2.1⟩ (rk_all_c rk_aF rk_all_0)) rl_lk_83 rl_in_83 rl_se_83 (by decide +kernel) rfl rfl (Nat.le_of_ble_eq_true rfl) ⟨by show _ ≤ (1049206 : Nat); omega, by show _ ≤ (5954629 : Nat); omega⟩ (fun v fm H locs hA hLv hSt => ?_)
  have hR := rl_Rm hR hSt.2.2.2.2.2.2.2.2.2.2.1 hLv rfl rfl
  obtain ⟨w, rfl⟩ := rk_alt_i hA rfl
  clear hA
  refine rv_run hC.1 hC.2.1 (T := rv_t_law_15) rv_k_law_15 1 ?_
  refine rv_run hC.1 hC.2.1 (T := rv_t_law_15) rv_k_law_15 1 ?_
  refine rv_widen (k := cells + 358) (n := slots + 10311) (by omega) (by omega) ?_
  exact kk _ _ _ _ _ _ (rl_S_X hSt (by omega) (by omega)) hR
end RLC
