def rv_t_law_16 : rv_T := (.branch 0 (.branch 0 (.branch 0 (.branch 0 (.leaf (99999, .nop, 1)) (.branch 0 (.leaf (712, .iadd, 1)) (.leaf (728, .iaload, 1)))) (.branch 0 (.branch 0 (.leaf (708, .aload_n 1, 1)) (.leaf (724, .aload_n 0, 1))) (.branch 0 (.leaf (716, .iconst 2, 1)) (.leaf (732, .iadd, 1))))) (.branch 0 (.branch 0 (.branch 0 (.leaf (738, .goto (514), 3)) (.leaf (722, .pop, 1))) (.branch 0 (.leaf (714, .aload_n 0, 1)) (.leaf (730, .iload_n 3, 1)))) (.branch 0 (.branch 0 (.leaf (710, .iload_n 3, 1)) (.leaf (726, .iconst 1, 1))) (.branch 0 (.leaf (718, .iaload, 1)) (.leaf (734, .invokevirtual 88, 3)))))) (.branch 0 (.branch 0 (.branch 0 (.leaf (737, .pop, 1)) (.branch 0 (.leaf (713, .iaload, 1)) (.leaf (729, .aload_n 0, 1)))) (.branch 0 (.branch 0 (.leaf (709, .aload_n 0, 1)) (.leaf (725, .iload_n 3, 1))) (.branch 0 (.leaf (717, .iadd, 1)) (.leaf (733, .iaload, 1))))) (.branch 0 (.branch 0 (.leaf (723, .aload_n 2, 1)) (.branch 0 (.leaf (715, .iload_n 3, 1)) (.leaf (731, .iconst 2, 1)))) (.branch 0 (.branch 0 (.leaf (711, .iconst 1, 1)) (.leaf (727, .iadd, 1))) (.leaf (719, .invokevirtual 84, 3))))))
theorem rv_k_law_16 : rv_tok code rv_t_law_16 = true := by decide +kernel

def rv_t_law_17 : rv_T := (.branch 0 (.branch 0 (.branch 0 (.branch 0 (.leaf (752, .invokevirtual 89, 3)) (.branch 0 (.leaf (744, .iconst 1, 1)) (.leaf (760, .iadd, 1)))) (.branch 0 (.leaf (756, .aload_n 2, 1)) (.branch 0 (.leaf (748, .iload_n 3, 1)) (.leaf (764, .iconst 2, 1))))) (.branch 0 (.branch 0 (.leaf (770, .pop, 1)) (.branch 0 (.leaf (746, .iaload, 1)) (.leaf (762, .aload_n 0, 1)))) (.branch 0 (.branch 0 (.leaf (742, .aload_n 0, 1)) (.leaf (758, .iload_n 3, 1))) (.branch 0 (.leaf (750, .iadd, 1)) (.leaf (766, .iaload, 1)))))) (.branch 0 (.branch 0 (.branch 0 (.leaf (99999, .nop, 1)) (.branch 0 (.leaf (745, .iadd, 1)) (.leaf (761, .iaload, 1)))) (.branch 0 (.branch 0 (.leaf (741, .aload_n 1, 1)) (.leaf (757, .aload_n 0, 1))) (.branch 0 (.leaf (749, .iconst 2, 1)) (.leaf (765, .iadd, 1))))) (.branch 0 (.branch 0 (.branch 0 (.leaf (771, .goto (481), 3)) (.leaf (755, .pop, 1))) (.branch 0 (.leaf (747, .aload_n 0, 1)) (.leaf (763, .iload_n 3, 1)))) (.branch 0 (.branch 0 (.leaf (743, .iload_n 3, 1)) (.leaf (759, .iconst 1, 1))) (.branch 0 (.leaf (751, .iaload, 1)) (.leaf (767, .invokevirtual 92, 3)))))))
theorem rv_k_law_17 : rv_tok code rv_t_law_17 = true := by decide +kernel

def rv_t_law_18 : rv_T := (.branch 0 (.branch 0 (.branch 0 (.branch 0 (.branch 0 (.leaf (800, .invokevirtual 96, 3)) (.leaf (784, .iaload, 1))) (.branch 0 (.leaf (776, .iload_n 3, 1)) (.leaf (792, .iconst 1, 1)))) (.branch 0 (.branch 0 (.leaf (804, .goto (448), 3)) (.leaf (788, .pop, 1))) (.branch 0 (.leaf (780, .aload_n 0, 1)) (.leaf (796, .iload_n 3, 1))))) (.branch 0 (.branch 0 (.leaf (99999, .nop, 1)) (.branch 0 (.leaf (778, .iadd, 1)) (.leaf (794, .iaload, 1)))) (.branch 0 (.branch 0 (.leaf (774, .aload_n 1, 1)) (.leaf (790, .aload_n 0, 1))) (.branch 0 (.leaf (782, .iconst 2, 1)) (.leaf (798, .iadd, 1)))))) (.branch 0 (.branch 0 (.branch 0 (.leaf (785, .invokevirtual 93, 3)) (.branch 0 (.leaf (777, .iconst 1, 1)) (.leaf (793, .iadd, 1)))) (.branch 0 (.leaf (789, .aload_n 2, 1)) (.branch 0 (.leaf (781, .iload_n 3, 1)) (.leaf (797, .iconst 2, 1))))) (.branch 0 (.branch 0 (.leaf (803, .pop, 1)) (.branch 0 (.leaf (779, .iaload, 1)) (.leaf (795, .aload_n 0, 1)))) (.branch 0 (.branch 0 (.leaf (775, .aload_n 0, 1)) (.leaf (791, .iload_n 3, 1))) (.branch 0 (.leaf (783, .iadd, 1)) (.leaf (799, .iaload, 1)))))))
theorem rv_k_law_18 : rv_tok code rv_t_law_18 = true := by decide +kernel

def rv_t_law_19 : rv_T := (.branch 0 (.branch 0 (.branch 0 (.branch 0 (.branch 0 (.leaf (832, .iaload, 1)) (.leaf (816, .iadd, 1))) (.branch 0 (.leaf (808, .aload_n 0, 1)) (.leaf (824, .iload_n 3, 1)))) (.branch 0 (.leaf (836, .pop, 1)) (.branch 0 (.leaf (812, .iaload, 1)) (.leaf (828, .aload_n 0, 1))))) (.branch 0 (.branch 0 (.leaf (818, .invokevirtual 97, 3)) (.branch 0 (.leaf (810, .iconst 1, 1)) (.leaf (826, .iadd, 1)))) (.branch 0 (.leaf (822, .aload_n 2, 1)) (.branch 0 (.leaf (814, .iload_n 3, 1)) (.leaf (830, .iconst 2, 1)))))) (.branch 0 (.branch 0 (.branch 0 (.branch 0 (.leaf (833, .invokevirtual 100, 3)) (.leaf (817, .iaload, 1))) (.branch 0 (.leaf (809, .iload_n 3, 1)) (.leaf (825, .iconst 1, 1)))) (.branch 0 (.branch 0 (.leaf (837, .goto (415), 3)) (.leaf (821, .pop, 1))) (.branch 0 (.leaf (813, .aload_n 0, 1)) (.leaf (829, .iload_n 3, 1))))) (.branch 0 (.branch 0 (.leaf (99999, .nop, 1)) (.branch 0 (.leaf (811, .iadd, 1)) (.leaf (827, .iaload, 1)))) (.branch 0 (.branch 0 (.leaf (807, .aload_n 1, 1)) (.leaf (823, .aload_n 0, 1))) (.branch 0 (.leaf (815, .iconst 2, 1)) (.leaf (831, .iadd, 1)))))))
theorem rv_k_law_19 : rv_tok code rv_t_law_19 = true := by decide +kernel

def rv_t_law_20 : rv_T := (.branch 0 (.branch 0 (.branch 0 (.branch 0 (.branch 0 (.leaf (864, .iadd, 1)) (.leaf (848, .iconst 2, 1))) (.branch 0 (.leaf (840, .aload_n 1, 1)) (.leaf (856, .aload_n 0, 1)))) (.branch 0 (.leaf (99999, .nop, 1)) (.branch 0 (.leaf (844, .iadd, 1)) (.leaf (860, .iaload, 1))))) (.branch 0 (.branch 0 (.branch 0 (.leaf (866, .invokevirtual 104, 3)) (.leaf (850, .iaload, 1))) (.branch 0 (.leaf (842, .iload_n 3, 1)) (.leaf (858, .iconst 1, 1)))) (.branch 0 (.branch 0 (.leaf (870, .goto (382), 3)) (.leaf (854, .pop, 1))) (.branch 0 (.leaf (846, .aload_n 0, 1)) (.leaf (862, .iload_n 3, 1)))))) (.branch 0 (.branch 0 (.branch 0 (.branch 0 (.leaf (865, .iaload, 1)) (.leaf (849, .iadd, 1))) (.branch 0 (.leaf (841, .aload_n 0, 1)) (.leaf (857, .iload_n 3, 1)))) (.branch 0 (.leaf (869, .pop, 1)) (.branch 0 (.leaf (845, .iaload, 1)) (.leaf (861, .aload_n 0, 1))))) (.branch 0 (.branch 0 (.leaf (851, .invokevirtual 101, 3)) (.branch 0 (.leaf (843, .iconst 1, 1)) (.leaf (859, .iadd, 1)))) (.branch 0 (.leaf (855, .aload_n 2, 1)) (.branch 0 (.leaf (847, .iload_n 3, 1)) (.leaf (863, .iconst 2, 1)))))))
theorem rv_k_law_20 : rv_tok code rv_t_law_20 = true := by decide +kernel

def rv_t_law_21 : rv_T := (.branch 0 (.branch 0 (.branch 0 (.branch 0 (.branch 0 (.leaf (896, .iconst 2, 1)) (.leaf (880, .iload_n 3, 1))) (.leaf (888, .aload_n 2, 1))) (.branch 0 (.leaf (884, .invokevirtual 105, 3)) (.branch 0 (.leaf (876, .iconst 1, 1)) (.leaf (892, .iadd, 1))))) (.branch 0 (.branch 0 (.branch 0 (.leaf (898, .iaload, 1)) (.leaf (882, .iadd, 1))) (.branch 0 (.leaf (874, .aload_n 0, 1)) (.leaf (890, .iload_n 3, 1)))) (.branch 0 (.leaf (902, .pop, 1)) (.branch 0 (.leaf (878, .iaload, 1)) (.leaf (894, .aload_n 0, 1)))))) (.branch 0 (.branch 0 (.branch 0 (.branch 0 (.leaf (897, .iadd, 1)) (.leaf (881, .iconst 2, 1))) (.branch 0 (.leaf (873, .aload_n 1, 1)) (.leaf (889, .aload_n 0, 1)))) (.branch 0 (.leaf (99999, .nop, 1)) (.branch 0 (.leaf (877, .iadd, 1)) (.leaf (893, .iaload, 1))))) (.branch 0 (.branch 0 (.branch 0 (.leaf (899, .invokevirtual 108, 3)) (.leaf (883, .iaload, 1))) (.branch 0 (.leaf (875, .iload_n 3, 1)) (.leaf (891, .iconst 1, 1)))) (.branch 0 (.branch 0 (.leaf (903, .goto (349), 3)) (.leaf (887, .pop, 1))) (.branch 0 (.leaf (879, .aload_n 0, 1)) (.leaf (895, .iload_n 3, 1)))))))
theorem rv_k_law_21 : rv_tok code rv_t_law_21 = true := by decide +kernel

def rv_t_law_22 : rv_T := (.branch 0 (.branch 0 (.branch 0 (.branch 0 (.branch 0 (.leaf (928, .iload_n 3, 1)) (.leaf (912, .aload_n 0, 1))) (.branch 0 (.leaf (936, .iaload, 1)) (.leaf (920, .iadd, 1)))) (.branch 0 (.branch 0 (.leaf (932, .aload_n 0, 1)) (.leaf (916, .iaload, 1))) (.branch 0 (.branch 0 (.leaf (908, .iload_n 3, 1)) (.leaf (940, .iadd, 1))) (.leaf (99999, .nop, 1))))) (.branch 0 (.branch 0 (.branch 0 (.leaf (930, .iadd, 1)) (.branch 0 (.leaf (914, .iconst 2, 1)) (.leaf (946, .goto (306), 3)))) (.branch 0 (.branch 0 (.leaf (906, .aload_n 1, 1)) (.leaf (938, .iload_n 3, 1))) (.leaf (922, .invokevirtual 109, 3)))) (.branch 0 (.branch 0 (.leaf (934, .iconst 2, 1)) (.leaf (918, .iload_n 3, 1))) (.branch 0 (.branch 0 (.leaf (910, .iadd, 1)) (.leaf (942, .invokevirtual 113, 3))) (.leaf (926, .aload_n 2, 1)))))) (.branch 0 (.branch 0 (.branch 0 (.branch 0 (.leaf (929, .iconst 1, 1)) (.branch 0 (.leaf (913, .iload_n 3, 1)) (.leaf (945, .pop, 1)))) (.branch 0 (.leaf (937, .aload_n 0, 1)) (.leaf (921, .iaload, 1)))) (.branch 0 (.branch 0 (.leaf (933, .iload_n 3, 1)) (.leaf (917, .aload_n 0, 1))) (.branch 0 (.branch 0 (.leaf (909, .iconst 1, 1)) (.leaf (941, .iaload, 1))) (.leaf (925, .pop, 1))))) (.branch 0 (.branch 0 (.branch 0 (.leaf (931, .iaload, 1)) (.leaf (915, .iadd, 1))) (.branch 0 (.branch 0 (.leaf (907, .aload_n 0, 1)) (.leaf (939, .iconst 3, 1))) (.leaf (99999, .nop, 1)))) (.branch 0 (.branch 0 (.leaf (935, .iadd, 1)) (.leaf (919, .iconst 3, 1))) (.branch 0 (.leaf (911, .iaload, 1)) (.leaf (927, .aload_n 0, 1)))))))
theorem rv_k_law_22 : rv_tok code rv_t_law_22 = true := by decide +kernel

def rv_t_law_23 : rv_T := (.branch 0 (.branch 0 (.branch 0 (.branch 0 (.branch 0 (.leaf (960, .aload_n 0, 1)) (.leaf (976, .iload_n 3, 1))) (.branch 0 (.leaf (968, .pop, 1)) (.branch 0 (.leaf (984, .iaload, 1)) (.leaf (952, .iconst 1, 1))))) (.branch 0 (.branch 0 (.leaf (964, .iaload, 1)) (.leaf (980, .aload_n 0, 1))) (.branch 0 (.leaf (972, .iconst 1, 1)) (.branch 0 (.leaf (988, .pop, 1)) (.leaf (956, .iload_n 3, 1)))))) (.branch 0 (.branch 0 (.branch 0 (.leaf (962, .iconst 3, 1)) (.leaf (978, .iadd, 1))) (.branch 0 (.leaf (970, .aload_n 0, 1)) (.leaf (954, .iaload, 1)))) (.branch 0 (.branch 0 (.leaf (99999, .nop, 1)) (.branch 0 (.leaf (982, .iconst 3, 1)) (.leaf (950, .aload_n 0, 1)))) (.branch 0 (.leaf (974, .iaload, 1)) (.leaf (958, .iadd, 1)))))) (.branch 0 (.branch 0 (.branch 0 (.branch 0 (.leaf (961, .iload_n 3, 1)) (.leaf (977, .iconst 2, 1))) (.branch 0 (.leaf (969, .aload_n 2, 1)) (.branch 0 (.leaf (985, .invokevirtual 117, 3)) (.leaf (953, .iadd, 1))))) (.branch 0 (.branch 0 (.leaf (965, .invokevirtual 114, 3)) (.branch 0 (.leaf (981, .iload_n 3, 1)) (.leaf (949, .aload_n 1, 1)))) (.branch 0 (.leaf (973, .iadd, 1)) (.branch 0 (.leaf (989, .goto (263), 3)) (.leaf (957, .iconst 2, 1)))))) (.branch 0 (.branch 0 (.branch 0 (.leaf (963, .iadd, 1)) (.leaf (979, .iaload, 1))) (.branch 0 (.leaf (971, .iload_n 3, 1)) (.leaf (955, .aload_n 0, 1)))) (.branch 0 (.branch 0 (.leaf (99999, .nop, 1)) (.branch 0 (.leaf (983, .iadd, 1)) (.leaf (951, .iload_n 3, 1)))) (.branch 0 (.leaf (975, .aload_n 0, 1)) (.leaf (959, .iaload, 1)))))))
theorem rv_k_law_23 : rv_tok code rv_t_law_23 = true := by decide +kernel
section RLC
variable {p : Program} {l : Launch} {e : Env} {s : State} {m : MethodId} {below : List Frame} {meth : Method} {c : Code} {b0 N : Nat} {xs : Nat → Int32} {cI c1 c2 c3 c4 c5 : ClassId} {D : va_G} {ad adV : Nat → Nat} {cells slots : Nat} {H : Heap} {locs : List Loc}
variable {ax am : Nat} {Gm Gc : Nat → Option Nat} {Lm Lc : List Nat} {Xc Xm : Int} {fc fm : Nat → va_E}
theorem rl_case_16 (hC : rl_Cx cI c1 c2 c3 c4 c5 D ad adV p s m meth c b0 N xs) {i : Int32} {iN : Nat} {X : Int} (hSt : rl_S cI c1 c2 c3 c4 c5 D ad s ax am Gm Lm X X Gc Lc fc fm H locs) (hR : rl_R ax am Gc fc fm) (hX : 0 ≤ X) (hXC : X + 2276000 ≤ 2000000000) (hcs : cells + 358 ≤ 1049206 ∧ slots + 10311 ≤ 5954629) (hi : i.toInt = (iN : Int)) (hiN : iN + 6 ≤ N) (hN9 : N ≤ 3072)
    (kk : ∀ (Gc : Nat → Option Nat) (Lc : List Nat) (fc fm : Nat → va_E) (H : Heap) (locs : List Loc), rl_S cI c1 c2 c3 c4 c5 D ad s ax am Gm Lm (X + 2276000) (X + 2276000) Gc Lc fc fm H locs → rl_R ax am Gc fc fm → rv_G p l e room_1 s m #[Value.ref b0] below meth c (lw_Z below #[Value.ref b0] s) 4 (cells + 358) (slots + 10311) H locs 1252 [] [(0, .ref b0), (1, .ref ax), (2, .ref am), (3, .int i)]) : rv_G p l e room_1 s m #[Value.ref b0] below meth c (lw_Z below #[Value.ref b0] s) 4 cells slots H locs 708 [] [(0, .ref b0), (1, .ref ax), (2, .ref am), (3, .int i)] := by
  refine rv_run hC.1 hC.2.1 (T := rv_t_law_16) rv_k_law_16 1 ?_
  refine rv_run hC.1 hC.2.1 (T := rv_t_law_16) rv_k_law_16 4 ?_
  refine rl_scr hC hSt.2.2.2.2.1 (j := iN + 1) (rl_ix hi 1 (by decide) hiN hN9) (by omega) (by decide +kernel) ?_
  refine rv_run hC.1 hC.2.1 (T := rv_t_law_16) rv_k_law_16 4 ?_
  refine rl_scr hC hSt.2.2.2.2.1 (j := iN + 2) (rl_ix hi 2 (by decide) hiN hN9) (by omega) (by decide +kernel) ?_
  refine rl_callC (as := [.int (xs (iN + 1)), .int (xs (iN + 2))]) (rest := []) hC hSt (c_X11_socket s.heap.size l cI c1 c2 c3 c4 c5 D ad adV) rfl (by omega) (by show _ ≤ (2000000000 : Int); omega) (rk_all_c ⟨ax, rfl, hSt.2.2.2.2.2.2.2.2.1⟩ (rk_all_c rk_aF (rk_all_c rk_aF rk_all_0))) rl_lk_84 rl_in_84 rl_se_84 (by decide +kernel) rfl rfl (Nat.le_of_ble_eq_true rfl) ⟨by show _ ≤ (1049206 : Nat); omega, by show _ ≤ (5954629 : Nat); omega⟩ (fun v fc H locs hA hLv hSt => ?_)
  have hR := rl_Rc hR hSt.2.2.2.2.2.2.2.2.1 hLv rfl rfl
  obtain ⟨w, rfl⟩ := rk_alt_i hA rfl
  clear hA
  refine rv_run hC.1 hC.2.1 (T := rv_t_law_16) rv_k_law_16 1 ?_
  refine rv_run hC.1 hC.2.1 (T := rv_t_law_16) rv_k_law_16 1 ?_
  refine rv_run hC.1 hC.2.1 (T := rv_t_law_16) rv_k_law_16 4 ?_
  refine rl_scr hC hSt.2.2.2.2.1 (j := iN + 1) (rl_ix hi 1 (by decide) hiN hN9) (by omega) (by decide +kernel) ?_
  refine rv_run hC.1 hC.2.1 (T := rv_t_law_16) rv_k_law_16 4 ?_
  refine rl_scr hC hSt.2.2.2.2.1 (j := iN + 2) (rl_ix hi 2 (by decide) hiN hN9) (by omega) (by decide +kernel) ?_
  refine rl_callM (as := [.int (xs (iN + 1)), .int (xs (iN + 2))]) (rest := []) hC hSt (c_X12_socket s.heap.size l cI c1 c2 c3 c4 c5 D ad adV) (fun _ _ _ => trivial) rfl rfl (by omega) (by show _ ≤ (2000000000 : Int); omega) (rk_all_c ⟨am, rfl, hSt.2.2.2.2.2.2.2.2.2.2.1⟩ (rk_all_c rk_aF (rk_all_c rk_aF rk_all_0))) rl_lk_88 rl_in_88 rl_se_88 (by decide +kernel) rfl rfl (Nat.le_of_ble_eq_true rfl) ⟨by show _ ≤ (1049206 : Nat); omega, by show _ ≤ (5954629 : Nat); omega⟩ (fun v fm H locs hA hLv hSt => ?_)
  have hR := rl_Rm hR hSt.2.2.2.2.2.2.2.2.2.2.1 hLv rfl rfl
  obtain ⟨w, rfl⟩ := rk_alt_i hA rfl
  clear hA
  refine rv_run hC.1 hC.2.1 (T := rv_t_law_16) rv_k_law_16 1 ?_
  refine rv_run hC.1 hC.2.1 (T := rv_t_law_16) rv_k_law_16 1 ?_
  refine rv_widen (k := cells + 358) (n := slots + 10311) (by omega) (by omega) ?_
  exact kk _ _ _ _ _ _ (rl_S_X hSt (by omega) (by omega)) hR
theorem rl_case_17 (hC : rl_Cx cI c1 c2 c3 c4 c5 D ad adV p s m meth c b0 N xs) {i : Int32} {iN : Nat} {X : Int} (hSt : rl_S cI c1 c2 c3 c4 c5 D ad s ax am Gm Lm X X Gc Lc fc fm H locs) (hR : rl_R ax am Gc fc fm) (hX : 0 ≤ X) (hXC : X + 2276000 ≤ 2000000000) (hcs : cells + 358 ≤ 1049206 ∧ slots + 10311 ≤ 5954629) (hi : i.toInt = (iN : Int)) (hiN : iN + 6 ≤ N) (hN9 : N ≤ 3072)
    (kk : ∀ (Gc : Nat → Option Nat) (Lc : List Nat) (fc fm : Nat → va_E) (H : Heap) (locs : List Loc), rl_S cI c1 c2 c3 c4 c5 D ad s ax am Gm Lm (X + 2276000) (X + 2276000) Gc Lc fc fm H locs → rl_R ax am Gc fc fm → rv_G p l e room_1 s m #[Value.ref b0] below meth c (lw_Z below #[Value.ref b0] s) 4 (cells + 358) (slots + 10311) H locs 1252 [] [(0, .ref b0), (1, .ref ax), (2, .ref am), (3, .int i)]) : rv_G p l e room_1 s m #[Value.ref b0] below meth c (lw_Z below #[Value.ref b0] s) 4 cells slots H locs 741 [] [(0, .ref b0), (1, .ref ax), (2, .ref am), (3, .int i)] := by
  refine rv_run hC.1 hC.2.1 (T := rv_t_law_17) rv_k_law_17 1 ?_
  refine rv_run hC.1 hC.2.1 (T := rv_t_law_17) rv_k_law_17 4 ?_
  refine rl_scr hC hSt.2.2.2.2.1 (j := iN + 1) (rl_ix hi 1 (by decide) hiN hN9) (by omega) (by decide +kernel) ?_
  refine rv_run hC.1 hC.2.1 (T := rv_t_law_17) rv_k_law_17 4 ?_
  refine rl_scr hC hSt.2.2.2.2.1 (j := iN + 2) (rl_ix hi 2 (by decide) hiN hN9) (by omega) (by decide +kernel) ?_
  refine rl_callC (as := [.int (xs (iN + 1)), .int (xs (iN + 2))]) (rest := []) hC hSt (c_X11_buffer s.heap.size l cI c1 c2 c3 c4 c5 D ad adV) rfl (by omega) (by show _ ≤ (2000000000 : Int); omega) (rk_all_c ⟨ax, rfl, hSt.2.2.2.2.2.2.2.2.1⟩ (rk_all_c rk_aF (rk_all_c rk_aF rk_all_0))) rl_lk_89 rl_in_89 rl_se_89 (by decide +kernel) rfl rfl (Nat.le_of_ble_eq_true rfl) ⟨by show _ ≤ (1049206 : Nat); omega, by show _ ≤ (5954629 : Nat); omega⟩ (fun v fc H locs hA hLv hSt => ?_)
  have hR := rl_Rc hR hSt.2.2.2.2.2.2.2.2.1 hLv rfl rfl
  obtain ⟨w, rfl⟩ := rk_alt_i hA rfl
  clear hA
  refine rv_run hC.1 hC.2.1 (T := rv_t_law_17) rv_k_law_17 1 ?_
  refine rv_run hC.1 hC.2.1 (T := rv_t_law_17) rv_k_law_17 1 ?_
  refine rv_run hC.1 hC.2.1 (T := rv_t_law_17) rv_k_law_17 4 ?_
  refine rl_scr hC hSt.2.2.2.2.1 (j := iN + 1) (rl_ix hi 1 (by decide) hiN hN9) (by omega) (by decide +kernel) ?_
  refine rv_run hC.1 hC.2.1 (T := rv_t_law_17) rv_k_law_17 4 ?_
  refine rl_scr hC hSt.2.2.2.2.1 (j := iN + 2) (rl_ix hi 2 (by decide) hiN hN9) (by omega) (by decide +kernel) ?_
  refine rl_callM (as := [.int (xs (iN + 1)), .int (xs (iN + 2))]) (rest := []) hC hSt (c_X12_buffer s.heap.size l cI c1 c2 c3 c4 c5 D ad adV) (fun _ _ _ => trivial) rfl rfl (by omega) (by show _ ≤ (2000000000 : Int); omega) (rk_all_c ⟨am, rfl, hSt.2.2.2.2.2.2.2.2.2.2.1⟩ (rk_all_c rk_aF (rk_all_c rk_aF rk_all_0))) rl_lk_92 rl_in_92 rl_se_92 (by decide +kernel) rfl rfl (Nat.le_of_ble_eq_true rfl) ⟨by show _ ≤ (1049206 : Nat); omega, by show _ ≤ (5954629 : Nat); omega⟩ (fun v fm H locs hA hLv hSt => ?_)
  have hR := rl_Rm hR hSt.2.2.2.2.2.2.2.2.2.2.1 hLv rfl rfl
  obtain ⟨w, rfl⟩ := rk_alt_i hA rfl
  clear hA
  refine rv_run hC.1 hC.2.1 (T := rv_t_law_17) rv_k_law_17 1 ?_
  refine rv_run hC.1 hC.2.1 (T := rv_t_law_17) rv_k_law_17 1 ?_
  refine rv_widen (k := cells + 358) (n := slots + 10311) (by omega) (by omega) ?_
  exact kk _ _ _ _ _ _ (rl_S_X hSt (by omega) (by omega)) hR
theorem rl_case_18 (hC : rl_Cx cI c1 c2 c3 c4 c5 D ad adV p s m meth c b0 N xs) {i : Int32} {iN : Nat} {X : Int} (hSt : rl_S cI c1 c2 c3 c4 c5 D ad s ax am Gm Lm X X Gc Lc fc fm H locs) (hR : rl_R ax am Gc fc fm) (hX : 0 ≤ X) (hXC : X + 2276000 ≤ 2000000000) (hcs : cells + 358 ≤ 1049206 ∧ slots + 10311 ≤ 5954629) (hi : i.toInt = (iN : Int)) (hiN : iN + 6 ≤ N) (hN9 : N ≤ 3072)
    (kk : ∀ (Gc : Nat → Option Nat) (Lc : List Nat) (fc fm : Nat → va_E) (H : Heap) (locs : List Loc), rl_S cI c1 c2 c3 c4 c5 D ad s ax am Gm Lm (X + 2276000) (X + 2276000) Gc Lc fc fm H locs → rl_R ax am Gc fc fm → rv_G p l e room_1 s m #[Value.ref b0] below meth c (lw_Z below #[Value.ref b0] s) 4 (cells + 358) (slots + 10311) H locs 1252 [] [(0, .ref b0), (1, .ref ax), (2, .ref am), (3, .int i)]) : rv_G p l e room_1 s m #[Value.ref b0] below meth c (lw_Z below #[Value.ref b0] s) 4 cells slots H locs 774 [] [(0, .ref b0), (1, .ref ax), (2, .ref am), (3, .int i)] := by
  refine rv_run hC.1 hC.2.1 (T := rv_t_law_18) rv_k_law_18 1 ?_
  refine rv_run hC.1 hC.2.1 (T := rv_t_law_18) rv_k_law_18 4 ?_
  refine rl_scr hC hSt.2.2.2.2.1 (j := iN + 1) (rl_ix hi 1 (by decide) hiN hN9) (by omega) (by decide +kernel) ?_
  refine rv_run hC.1 hC.2.1 (T := rv_t_law_18) rv_k_law_18 4 ?_
  refine rl_scr hC hSt.2.2.2.2.1 (j := iN + 2) (rl_ix hi 2 (by decide) hiN hN9) (by omega) (by decide +kernel) ?_
  refine rl_callC (as := [.int (xs (iN + 1)), .int (xs (iN + 2))]) (rest := []) hC hSt (c_X11_input s.heap.size l cI c1 c2 c3 c4 c5 D ad adV) rfl (by omega) (by show _ ≤ (2000000000 : Int); omega) (rk_all_c ⟨ax, rfl, hSt.2.2.2.2.2.2.2.2.1⟩ (rk_all_c rk_aF (rk_all_c rk_aF rk_all_0))) rl_lk_93 rl_in_93 rl_se_93 (by decide +kernel) rfl rfl (Nat.le_of_ble_eq_true rfl) ⟨by show _ ≤ (1049206 : Nat); omega, by show _ ≤ (5954629 : Nat); omega⟩ (fun v fc H locs hA hLv hSt => ?_)
  have hR := rl_Rc hR hSt.2.2.2.2.2.2.2.2.1 hLv rfl rfl
  obtain ⟨w, rfl⟩ := rk_alt_i hA rfl
  clear hA
  refine rv_run hC.1 hC.2.1 (T := rv_t_law_18) rv_k_law_18 1 ?_
  refine rv_run hC.1 hC.2.1 (T := rv_t_law_18) rv_k_law_18 1 ?_
  refine rv_run hC.1 hC.2.1 (T := rv_t_law_18) rv_k_law_18 4 ?_
  refine rl_scr hC hSt.2.2.2.2.1 (j := iN + 1) (rl_ix hi 1 (by decide) hiN hN9) (by omega) (by decide +kernel) ?_
  refine rv_run hC.1 hC.2.1 (T := rv_t_law_18) rv_k_law_18 4 ?_
  refine rl_scr hC hSt.2.2.2.2.1 (j := iN + 2) (rl_ix hi 2 (by decide) hiN hN9) (by omega) (by decide +kernel) ?_
  refine rl_callM (as := [.int (xs (iN + 1)), .int (xs (iN + 2))]) (rest := []) hC hSt (c_X12_input s.heap.size l cI c1 c2 c3 c4 c5 D ad adV) (fun _ _ _ => trivial) rfl rfl (by omega) (by show _ ≤ (2000000000 : Int); omega) (rk_all_c ⟨am, rfl, hSt.2.2.2.2.2.2.2.2.2.2.1⟩ (rk_all_c rk_aF (rk_all_c rk_aF rk_all_0))) rl_lk_96 rl_in_96 rl_se_96 (by decide +kernel) rfl rfl (Nat.le_of_ble_eq_true rfl) ⟨by show _ ≤ (1049206 : Nat); omega, by show _ ≤ (5954629 : Nat); omega⟩ (fun v fm H locs hA hLv hSt => ?_)
  have hR := rl_Rm hR hSt.2.2.2.2.2.2.2.2.2.2.1 hLv rfl rfl
  obtain ⟨w, rfl⟩ := rk_alt_i hA rfl
  clear hA
  refine rv_run hC.1 hC.2.1 (T := rv_t_law_18) rv_k_law_18 1 ?_
  refine rv_run hC.1 hC.2.1 (T := rv_t_law_18) rv_k_law_18 1 ?_
  refine rv_widen (k := cells + 358) (n := slots + 10311) (by omega) (by omega) ?_
  exact kk _ _ _ _ _ _ (rl_S_X hSt (by omega) (by omega)) hR
theorem rl_case_19 (hC : rl_Cx cI c1 c2 c3 c4 c5 D ad adV p s m meth c b0 N xs) {i : Int32} {iN : Nat} {X : Int} (hSt : rl_S cI c1 c2 c3 c4 c5 D ad s ax am Gm Lm X X Gc Lc fc fm H locs) (hR : rl_R ax am Gc fc fm) (hX : 0 ≤ X) (hXC : X + 2276000 ≤ 2000000000) (hcs : cells + 358 ≤ 1049206 ∧ slots + 10311 ≤ 5954629) (hi : i.toInt = (iN : Int)) (hiN : iN + 6 ≤ N) (hN9 : N ≤ 3072)
    (kk : ∀ (Gc : Nat → Option Nat) (Lc : List Nat) (fc fm : Nat → va_E) (H : Heap) (locs : List Loc), rl_S cI c1 c2 c3 c4 c5 D ad s ax am Gm Lm (X + 2276000) (X + 2276000) Gc Lc fc fm H locs → rl_R ax am Gc fc fm → rv_G p l e room_1 s m #[Value.ref b0] below meth c (lw_Z below #[Value.ref b0] s) 4 (cells + 358) (slots + 10311) H locs 1252 [] [(0, .ref b0), (1, .ref ax), (2, .ref am), (3, .int i)]) : rv_G p l e room_1 s m #[Value.ref b0] below meth c (lw_Z below #[Value.ref b0] s) 4 cells slots H locs 807 [] [(0, .ref b0), (1, .ref ax), (2, .ref am), (3, .int i)] := by
  refine rv_run hC.1 hC.2.1 (T := rv_t_law_19) rv_k_law_19 1 ?_
  refine rv_run hC.1 hC.2.1 (T := rv_t_law_19) rv_k_law_19 4 ?_
  refine rl_scr hC hSt.2.2.2.2.1 (j := iN + 1) (rl_ix hi 1 (by decide) hiN hN9) (by omega) (by decide +kernel) ?_
  refine rv_run hC.1 hC.2.1 (T := rv_t_law_19) rv_k_law_19 4 ?_
  refine rl_scr hC hSt.2.2.2.2.1 (j := iN + 2) (rl_ix hi 2 (by decide) hiN hN9) (by omega) (by decide +kernel) ?_
  refine rl_callC (as := [.int (xs (iN + 1)), .int (xs (iN + 2))]) (rest := []) hC hSt (c_X11_router s.heap.size l cI c1 c2 c3 c4 c5 D ad adV) rfl (by omega) (by show _ ≤ (2000000000 : Int); omega) (rk_all_c ⟨ax, rfl, hSt.2.2.2.2.2.2.2.2.1⟩ (rk_all_c rk_aF (rk_all_c rk_aF rk_all_0))) rl_lk_97 rl_in_97 rl_se_97 (by decide +kernel) rfl rfl (Nat.le_of_ble_eq_true rfl) ⟨by show _ ≤ (1049206 : Nat); omega, by show _ ≤ (5954629 : Nat); omega⟩ (fun v fc H locs hA hLv hSt => ?_)
  have hR := rl_Rc hR hSt.2.2.2.2.2.2.2.2.1 hLv rfl rfl
  obtain ⟨w, rfl⟩ := rk_alt_i hA rfl
  clear hA
  refine rv_run hC.1 hC.2.1 (T := rv_t_law_19) rv_k_law_19 1 ?_
  refine rv_run hC.1 hC.2.1 (T := rv_t_law_19) rv_k_law_19 1 ?_
  refine rv_run hC.1 hC.2.1 (T := rv_t_law_19) rv_k_law_19 4 ?_
  refine rl_scr hC hSt.2.2.2.2.1 (j := iN + 1) (rl_ix hi 1 (by decide) hiN hN9) (by omega) (by decide +kernel) ?_
  refine rv_run hC.1 hC.2.1 (T := rv_t_law_19) rv_k_law_19 4 ?_
  refine rl_scr hC hSt.2.2.2.2.1 (j := iN + 2) (rl_ix hi 2 (by decide) hiN hN9) (by omega) (by decide +kernel) ?_
  refine rl_callM (as := [.int (xs (iN + 1)), .int (xs (iN + 2))]) (rest := []) hC hSt (c_X12_router s.heap.size l cI c1 c2 c3 c4 c5 D ad adV) (fun _ _ _ => trivial) rfl rfl (by omega) (by show _ ≤ (2000000000 : Int); omega) (rk_all_c ⟨am, rfl, hSt.2.2.2.2.2.2.2.2.2.2.1⟩ (rk_all_c rk_aF (rk_all_c rk_aF rk_all_0))) rl_lk_100 rl_in_100 rl_se_100 (by decide +kernel) rfl rfl (Nat.le_of_ble_eq_true rfl) ⟨by show _ ≤ (1049206 : Nat); omega, by show _ ≤ (5954629 : Nat); omega⟩ (fun v fm H locs hA hLv hSt => ?_)
  have hR := rl_Rm hR hSt.2.2.2.2.2.2.2.2.2.2.1 hLv rfl rfl
  obtain ⟨w, rfl⟩ := rk_alt_i hA rfl
  clear hA
  refine rv_run hC.1 hC.2.1 (T := rv_t_law_19) rv_k_law_19 1 ?_
  refine rv_run hC.1 hC.2.1 (T := rv_t_law_19) rv_k_law_19 1 ?_
  refine rv_widen (k := cells + 358) (n := slots + 10311) (by omega) (by omega) ?_
  exact kk _ _ _ _ _ _ (rl_S_X hSt (by omega) (by omega)) hR
theorem rl_case_20 (hC : rl_Cx cI c1 c2 c3 c4 c5 D ad adV p s m meth c b0 N xs) {i : Int32} {iN : Nat} {X : Int} (hSt : rl_S cI c1 c2 c3 c4 c5 D ad s ax am Gm Lm X X Gc Lc fc fm H locs) (hR : rl_R ax am Gc fc fm) (hX : 0 ≤ X) (hXC : X + 2276000 ≤ 2000000000) (hcs : cells + 358 ≤ 1049206 ∧ slots + 10311 ≤ 5954629) (hi : i.toInt = (iN : Int)) (hiN : iN + 6 ≤ N) (hN9 : N ≤ 3072)
    (kk : ∀ (Gc : Nat → Option Nat) (Lc : List Nat) (fc fm : Nat → va_E) (H : Heap) (locs : List Loc), rl_S cI c1 c2 c3 c4 c5 D ad s ax am Gm Lm (X + 2276000) (X + 2276000) Gc Lc fc fm H locs → rl_R ax am Gc fc fm → rv_G p l e room_1 s m #[Value.ref b0] below meth c (lw_Z below #[Value.ref b0] s) 4 (cells + 358) (slots + 10311) H locs 1252 [] [(0, .ref b0), (1, .ref ax), (2, .ref am), (3, .int i)]) : rv_G p l e room_1 s m #[Value.ref b0] below meth c (lw_Z below #[Value.ref b0] s) 4 cells slots H locs 840 [] [(0, .ref b0), (1, .ref ax), (2, .ref am), (3, .int i)] := by
  refine rv_run hC.1 hC.2.1 (T := rv_t_law_20) rv_k_law_20 1 ?_
  refine rv_run hC.1 hC.2.1 (T := rv_t_law_20) rv_k_law_20 4 ?_
  refine rl_scr hC hSt.2.2.2.2.1 (j := iN + 1) (rl_ix hi 1 (by decide) hiN hN9) (by omega) (by decide +kernel) ?_
  refine rv_run hC.1 hC.2.1 (T := rv_t_law_20) rv_k_law_20 4 ?_
  refine rl_scr hC hSt.2.2.2.2.1 (j := iN + 2) (rl_ix hi 2 (by decide) hiN hN9) (by omega) (by decide +kernel) ?_
  refine rl_callC (as := [.int (xs (iN + 1)), .int (xs (iN + 2))]) (rest := []) hC hSt (c_X11_tableOf s.heap.size l cI c1 c2 c3 c4 c5 D ad adV) rfl (by omega) (by show _ ≤ (2000000000 : Int); omega) (rk_all_c ⟨ax, rfl, hSt.2.2.2.2.2.2.2.2.1⟩ (rk_all_c rk_aF (rk_all_c rk_aF rk_all_0))) rl_lk_101 rl_in_101 rl_se_101 (by decide +kernel) rfl rfl (Nat.le_of_ble_eq_true rfl) ⟨by show _ ≤ (1049206 : Nat); omega, by show _ ≤ (5954629 : Nat); omega⟩ (fun v fc H locs hA hLv hSt => ?_)
  have hR := rl_Rc hR hSt.2.2.2.2.2.2.2.2.1 hLv rfl rfl
  obtain ⟨w, rfl⟩ := rk_alt_i hA rfl
  clear hA
  refine rv_run hC.1 hC.2.1 (T := rv_t_law_20) rv_k_law_20 1 ?_
  refine rv_run hC.1 hC.2.1 (T := rv_t_law_20) rv_k_law_20 1 ?_
  refine rv_run hC.1 hC.2.1 (T := rv_t_law_20) rv_k_law_20 4 ?_
  refine rl_scr hC hSt.2.2.2.2.1 (j := iN + 1) (rl_ix hi 1 (by decide) hiN hN9) (by omega) (by decide +kernel) ?_
  refine rv_run hC.1 hC.2.1 (T := rv_t_law_20) rv_k_law_20 4 ?_
  refine rl_scr hC hSt.2.2.2.2.1 (j := iN + 2) (rl_ix hi 2 (by decide) hiN hN9) (by omega) (by decide +kernel) ?_
  refine rl_callM (as := [.int (xs (iN + 1)), .int (xs (iN + 2))]) (rest := []) hC hSt (c_X12_tableOf s.heap.size l cI c1 c2 c3 c4 c5 D ad adV) (fun _ _ _ => trivial) rfl rfl (by omega) (by show _ ≤ (2000000000 : Int); omega) (rk_all_c ⟨am, rfl, hSt.2.2.2.2.2.2.2.2.2.2.1⟩ (rk_all_c rk_aF (rk_all_c rk_aF rk_all_0))) rl_lk_104 rl_in_104 rl_se_104 (by decide +kernel) rfl rfl (Nat.le_of_ble_eq_true rfl) ⟨by show _ ≤ (1049206 : Nat); omega, by show _ ≤ (5954629 : Nat); omega⟩ (fun v fm H locs hA hLv hSt => ?_)
  have hR := rl_Rm hR hSt.2.2.2.2.2.2.2.2.2.2.1 hLv rfl rfl
  obtain ⟨w, rfl⟩ := rk_alt_i hA rfl
  clear hA
  refine rv_run hC.1 hC.2.1 (T := rv_t_law_20) rv_k_law_20 1 ?_
  refine rv_run hC.1 hC.2.1 (T := rv_t_law_20) rv_k_law_20 1 ?_
  refine rv_widen (k := cells + 358) (n := slots + 10311) (by omega) (by omega) ?_
  exact kk _ _ _ _ _ _ (rl_S_X hSt (by omega) (by omega)) hR
theorem rl_case_21 (hC : rl_Cx cI c1 c2 c3 c4 c5 D ad adV p s m meth c b0 N xs) {i : Int32} {iN : Nat} {X : Int} (hSt : rl_S cI c1 c2 c3 c4 c5 D ad s ax am Gm Lm X X Gc Lc fc fm H locs) (hR : rl_R ax am Gc fc fm) (hX : 0 ≤ X) (hXC : X + 2276000 ≤ 2000000000) (hcs : cells + 358 ≤ 1049206 ∧ slots + 10311 ≤ 5954629) (hi : i.toInt = (iN : Int)) (hiN : iN + 6 ≤ N) (hN9 : N ≤ 3072)
    (kk : ∀ (Gc : Nat → Option Nat) (Lc : List Nat) (fc fm : Nat → va_E) (H : Heap) (locs : List Loc), rl_S cI c1 c2 c3 c4 c5 D ad s ax am Gm Lm (X + 2276000) (X + 2276000) Gc Lc fc fm H locs → rl_R ax am Gc fc fm → rv_G p l e room_1 s m #[Value.ref b0] below meth c (lw_Z below #[Value.ref b0] s) 4 (cells + 358) (slots + 10311) H locs 1252 [] [(0, .ref b0), (1, .ref ax), (2, .ref am), (3, .int i)]) : rv_G p l e room_1 s m #[Value.ref b0] below meth c (lw_Z below #[Value.ref b0] s) 4 cells slots H locs 873 [] [(0, .ref b0), (1, .ref ax), (2, .ref am), (3, .int i)] := by
  refine rv_run hC.1 hC.2.1 (T := rv_t_law_21) rv_k_law_21 1 ?_
  refine rv_run hC.1 hC.2.1 (T := rv_t_law_21) rv_k_law_21 4 ?_
  refine rl_scr hC hSt.2.2.2.2.1 (j := iN + 1) (rl_ix hi 1 (by decide) hiN hN9) (by omega) (by decide +kernel) ?_
  refine rv_run hC.1 hC.2.1 (T := rv_t_law_21) rv_k_law_21 4 ?_
  refine rl_scr hC hSt.2.2.2.2.1 (j := iN + 2) (rl_ix hi 2 (by decide) hiN hN9) (by omega) (by decide +kernel) ?_
  refine rl_callC (as := [.int (xs (iN + 1)), .int (xs (iN + 2))]) (rest := []) hC hSt (c_X11_endOf s.heap.size l cI c1 c2 c3 c4 c5 D ad adV) rfl (by omega) (by show _ ≤ (2000000000 : Int); omega) (rk_all_c ⟨ax, rfl, hSt.2.2.2.2.2.2.2.2.1⟩ (rk_all_c rk_aF (rk_all_c rk_aF rk_all_0))) rl_lk_105 rl_in_105 rl_se_105 (by decide +kernel) rfl rfl (Nat.le_of_ble_eq_true rfl) ⟨by show _ ≤ (1049206 : Nat); omega, by show _ ≤ (5954629 : Nat); omega⟩ (fun v fc H locs hA hLv hSt => ?_)
  have hR := rl_Rc hR hSt.2.2.2.2.2.2.2.2.1 hLv rfl rfl
  obtain ⟨w, rfl⟩ := rk_alt_i hA rfl
  clear hA
  refine rv_run hC.1 hC.2.1 (T := rv_t_law_21) rv_k_law_21 1 ?_
  refine rv_run hC.1 hC.2.1 (T := rv_t_law_21) rv_k_law_21 1 ?_
  refine rv_run hC.1 hC.2.1 (T := rv_t_law_21) rv_k_law_21 4 ?_
  refine rl_scr hC hSt.2.2.2.2.1 (j := iN + 1) (rl_ix hi 1 (by decide) hiN hN9) (by omega) (by decide +kernel) ?_
  refine rv_run hC.1 hC.2.1 (T := rv_t_law_21) rv_k_law_21 4 ?_
  refine rl_scr hC hSt.2.2.2.2.1 (j := iN + 2) (rl_ix hi 2 (by decide) hiN hN9) (by omega) (by decide +kernel) ?_
  refine rl_callM (as := [.int (xs (iN + 1)), .int (xs (iN + 2))]) (rest := []) hC hSt (c_X12_endOf s.heap.size l cI c1 c2 c3 c4 c5 D ad adV) (fun _ _ _ => trivial) rfl rfl (by omega) (by show _ ≤ (2000000000 : Int); omega) (rk_all_c ⟨am, rfl, hSt.2.2.2.2.2.2.2.2.2.2.1⟩ (rk_all_c rk_aF (rk_all_c rk_aF rk_all_0))) rl_lk_108 rl_in_108 rl_se_108 (by decide +kernel) rfl rfl (Nat.le_of_ble_eq_true rfl) ⟨by show _ ≤ (1049206 : Nat); omega, by show _ ≤ (5954629 : Nat); omega⟩ (fun v fm H locs hA hLv hSt => ?_)
  have hR := rl_Rm hR hSt.2.2.2.2.2.2.2.2.2.2.1 hLv rfl rfl
  obtain ⟨w, rfl⟩ := rk_alt_i hA rfl
  clear hA
  refine rv_run hC.1 hC.2.1 (T := rv_t_law_21) rv_k_law_21 1 ?_
  refine rv_run hC.1 hC.2.1 (T := rv_t_law_21) rv_k_law_21 1 ?_
  refine rv_widen (k := cells + 358) (n := slots + 10311) (by omega) (by omega) ?_
  exact kk _ _ _ _ _ _ (rl_S_X hSt (by omega) (by omega)) hR
theorem rl_case_22 (hC : rl_Cx cI c1 c2 c3 c4 c5 D ad adV p s m meth c b0 N xs) {i : Int32} {iN : Nat} {X : Int} (hSt : rl_S cI c1 c2 c3 c4 c5 D ad s ax am Gm Lm X X Gc Lc fc fm H locs) (hR : rl_R ax am Gc fc fm) (hX : 0 ≤ X) (hXC : X + 2276000 ≤ 2000000000) (hcs : cells + 358 ≤ 1049206 ∧ slots + 10311 ≤ 5954629) (hi : i.toInt = (iN : Int)) (hiN : iN + 6 ≤ N) (hN9 : N ≤ 3072)
    (kk : ∀ (Gc : Nat → Option Nat) (Lc : List Nat) (fc fm : Nat → va_E) (H : Heap) (locs : List Loc), rl_S cI c1 c2 c3 c4 c5 D ad s ax am Gm Lm (X + 2276000) (X + 2276000) Gc Lc fc fm H locs → rl_R ax am Gc fc fm → rv_G p l e room_1 s m #[Value.ref b0] below meth c (lw_Z below #[Value.ref b0] s) 4 (cells + 358) (slots + 10311) H locs 1252 [] [(0, .ref b0), (1, .ref ax), (2, .ref am), (3, .int i)]) : rv_G p l e room_1 s m #[Value.ref b0] below meth c (lw_Z below #[Value.ref b0] s) 4 cells slots H locs 906 [] [(0, .ref b0), (1, .ref ax), (2, .ref am), (3, .int i)] := by
  refine rv_run hC.1 hC.2.1 (T := rv_t_law_22) rv_k_law_22 1 ?_
  refine rv_run hC.1 hC.2.1 (T := rv_t_law_22) rv_k_law_22 4 ?_
  refine rl_scr hC hSt.2.2.2.2.1 (j := iN + 1) (rl_ix hi 1 (by decide) hiN hN9) (by omega) (by decide +kernel) ?_
  refine rv_run hC.1 hC.2.1 (T := rv_t_law_22) rv_k_law_22 4 ?_
  refine rl_scr hC hSt.2.2.2.2.1 (j := iN + 2) (rl_ix hi 2 (by decide) hiN hN9) (by omega) (by decide +kernel) ?_
  refine rv_run hC.1 hC.2.1 (T := rv_t_law_22) rv_k_law_22 4 ?_
  refine rl_scr hC hSt.2.2.2.2.1 (j := iN + 3) (rl_ix hi 3 (by decide) hiN hN9) (by omega) (by decide +kernel) ?_
  refine rl_callC (as := [.int (xs (iN + 1)), .int (xs (iN + 2)), .int (xs (iN + 3))]) (rest := []) hC hSt (c_X11_packet s.heap.size l cI c1 c2 c3 c4 c5 D ad adV) rfl (by omega) (by show _ ≤ (2000000000 : Int); omega) (rk_all_c ⟨ax, rfl, hSt.2.2.2.2.2.2.2.2.1⟩ (rk_all_c rk_aF (rk_all_c rk_aF (rk_all_c rk_aF rk_all_0)))) rl_lk_109 rl_in_109 rl_se_109 (by decide +kernel) rfl rfl (Nat.le_of_ble_eq_true rfl) ⟨by show _ ≤ (1049206 : Nat); omega, by show _ ≤ (5954629 : Nat); omega⟩ (fun v fc H locs hA hLv hSt => ?_)
  have hR := rl_Rc hR hSt.2.2.2.2.2.2.2.2.1 hLv rfl rfl
  obtain ⟨w, rfl⟩ := rk_alt_i hA rfl
  clear hA
  refine rv_run hC.1 hC.2.1 (T := rv_t_law_22) rv_k_law_22 1 ?_
  refine rv_run hC.1 hC.2.1 (T := rv_t_law_22) rv_k_law_22 1 ?_
  refine rv_run hC.1 hC.2.1 (T := rv_t_law_22) rv_k_law_22 4 ?_
  refine rl_scr hC hSt.2.2.2.2.1 (j := iN + 1) (rl_ix hi 1 (by decide) hiN hN9) (by omega) (by decide +kernel) ?_
  refine rv_run hC.1 hC.2.1 (T := rv_t_law_22) rv_k_law_22 4 ?_
  refine rl_scr hC hSt.2.2.2.2.1 (j := iN + 2) (rl_ix hi 2 (by decide) hiN hN9) (by omega) (by decide +kernel) ?_
  refine rv_run hC.1 hC.2.1 (T := rv_t_law_22) rv_k_law_22 4 ?_
  refine rl_scr hC hSt.2.2.2.2.1 (j := iN + 3) (rl_ix hi 3 (by decide) hiN hN9) (by omega) (by decide +kernel) ?_
  refine rl_callM (as := [.int (xs (iN + 1)), .int (xs (iN + 2)), .int (xs (iN + 3))]) (rest := []) hC hSt (c_X12_packet s.heap.size l cI c1 c2 c3 c4 c5 D ad adV) (fun _ _ _ => trivial) rfl rfl (by omega) (by show _ ≤ (2000000000 : Int); omega) (rk_all_c ⟨am, rfl, hSt.2.2.2.2.2.2.2.2.2.2.1⟩ (rk_all_c rk_aF (rk_all_c rk_aF (rk_all_c rk_aF rk_all_0)))) rl_lk_113 rl_in_113 rl_se_113 (by decide +kernel) rfl rfl (Nat.le_of_ble_eq_true rfl) ⟨by show _ ≤ (1049206 : Nat); omega, by show _ ≤ (5954629 : Nat); omega⟩ (fun v fm H locs hA hLv hSt => ?_)
  have hR := rl_Rm hR hSt.2.2.2.2.2.2.2.2.2.2.1 hLv rfl rfl
  obtain ⟨w, rfl⟩ := rk_alt_i hA rfl
  clear hA
  refine rv_run hC.1 hC.2.1 (T := rv_t_law_22) rv_k_law_22 1 ?_
  refine rv_run hC.1 hC.2.1 (T := rv_t_law_22) rv_k_law_22 1 ?_
  refine rv_widen (k := cells + 358) (n := slots + 10311) (by omega) (by omega) ?_
  exact kk _ _ _ _ _ _ (rl_S_X hSt (by omega) (by omega)) hR
theorem rl_case_23 (hC : rl_Cx cI c1 c2 c3 c4 c5 D ad adV p s m meth c b0 N xs) {i : Int32} {iN : Nat} {X : Int} (hSt : rl_S cI c1 c2 c3 c4 c5 D ad s ax am Gm Lm X X Gc Lc fc fm H locs) (hR : rl_R ax am Gc fc fm) (hX : 0 ≤ X) (hXC : X + 2276000 ≤ 2000000000) (hcs : cells + 358 ≤ 1049206 ∧ slots + 10311 ≤ 5954629) (hi : i.toInt = (iN : Int)) (hiN : iN + 6 ≤ N) (hN9 : N ≤ 3072)
    (kk : ∀ (Gc : Nat → Option Nat) (Lc : List Nat) (fc fm : Nat → va_E) (H : Heap) (locs : List Loc), rl_S cI c1 c2 c3 c4 c5 D ad s ax am Gm Lm (X + 2276000) (X + 2276000) Gc Lc fc fm H locs → rl_R ax am Gc fc fm → rv_G p l e room_1 s m #[Value.ref b0] below meth c (lw_Z below #[Value.ref b0] s) 4 (cells + 358) (slots + 10311) H locs 1252 [] [(0, .ref b0), (1, .ref ax), (2, .ref am), (3, .int i)]) : rv_G p l e room_1 s m #[Value.ref b0] below meth c (lw_Z below #[Value.ref b0] s) 4 cells slots H locs 949 [] [(0, .ref b0), (1, .ref ax), (2, .ref am), (3, .int i)] := by
  refine rv_run hC.1 hC.2.1 (T := rv_t_law_23) rv_k_law_23 1 ?_
  refine rv_run hC.1 hC.2.1 (T := rv_t_law_23) rv_k_law_23 4 ?_
  refine rl_scr hC hSt.2.2.2.2.1 (j := iN + 1) (rl_ix hi 1 (by decide) hiN hN9) (by omega) (by decide +kernel) ?_
  refine rv_run hC.1 hC.2.1 (T := rv_t_law_23) rv_k_law_23 4 ?_
  refine rl_scr hC hSt.2.2.2.2.1 (j := iN + 2) (rl_ix hi 2 (by decide) hiN hN9) (by omega) (by decide +kernel) ?_
  refine rv_run hC.1 hC.2.1 (T := rv_t_law_23) rv_k_law_23 4 ?_
  refine rl_scr hC hSt.2.2.2.2.1 (j := iN + 3) (rl_ix hi 3 (by decide) hiN hN9) (by omega) (by decide +kernel) ?_
  refine rl_callC (as := [.int (xs (iN + 1)), .int (xs (iN + 2)), .int (xs (iN + 3))]) (rest := []) hC hSt (c_X11_byteOf s.heap.size l cI c1 c2 c3 c4 c5 D ad adV) rfl (by omega) (by show _ ≤ (2000000000 : Int); omega) (rk_all_c ⟨ax, rfl, hSt.2.2.2.2.2.2.2.2.1⟩ (rk_all_c rk_aF (rk_all_c rk_aF (rk_all_c rk_aF rk_all_0)))) rl_lk_114 rl_in_114 rl_se_114 (by decide +kernel) rfl rfl (Nat.le_of_ble_eq_true rfl) ⟨by show _ ≤ (1049206 : Nat); omega, by show _ ≤ (5954629 : Nat); omega⟩ (fun v fc H locs hA hLv hSt => ?_)
  have hR := rl_Rc hR hSt.2.2.2.2.2.2.2.2.1 hLv rfl rfl
  obtain ⟨w, rfl⟩ := rk_alt_i hA rfl
  clear hA
  refine rv_run hC.1 hC.2.1 (T := rv_t_law_23) rv_k_law_23 1 ?_
  refine rv_run hC.1 hC.2.1 (T := rv_t_law_23) rv_k_law_23 1 ?_
  refine rv_run hC.1 hC.2.1 (T := rv_t_law_23) rv_k_law_23 4 ?_
  refine rl_scr hC hSt.2.2.2.2.1 (j := iN + 1) (rl_ix hi 1 (by decide) hiN hN9) (by omega) (by decide +kernel) ?_
  refine rv_run hC.1 hC.2.1 (T := rv_t_law_23) rv_k_law_23 4 ?_
  refine rl_scr hC hSt.2.2.2.2.1 (j := iN + 2) (rl_ix hi 2 (by decide) hiN hN9) (by omega) (by decide +kernel) ?_
  refine rv_run hC.1 hC.2.1 (T := rv_t_law_23) rv_k_law_23 4 ?_
  refine rl_scr hC hSt.2.2.2.2.1 (j := iN + 3) (rl_ix hi 3 (by decide) hiN hN9) (by omega) (by decide +kernel) ?_
  refine rl_callM (as := [.int (xs (iN + 1)), .int (xs (iN + 2)), .int (xs (iN + 3))]) (rest := []) hC hSt (c_X12_byteOf s.heap.size l cI c1 c2 c3 c4 c5 D ad adV) (fun _ _ _ => trivial) rfl rfl (by omega) (by show _ ≤ (2000000000 : Int); omega) (rk_all_c ⟨am, rfl, hSt.2.2.2.2.2.2.2.2.2.2.1⟩ (rk_all_c rk_aF (rk_all_c rk_aF (rk_all_c rk_aF rk_all_0)))) rl_lk_117 rl_in_117 rl_se_117 (by decide +kernel) rfl rfl (Nat.le_of_ble_eq_true rfl) ⟨by show _ ≤ (1049206 : Nat); omega, by show _ ≤ (5954629 : Nat); omega⟩ (fun v fm H locs hA hLv hSt => ?_)
  have hR := rl_Rm hR hSt.2.2.2.2.2.2.2.2.2.2.1 hLv rfl rfl
  obtain ⟨w, rfl⟩ := rk_alt_i hA rfl
  clear hA
  refine rv_run hC.1 hC.2.1 (T := rv_t_law_23) rv_k_law_23 1 ?_
  refine rv_run hC.1 hC.2.1 (T := rv_t_law_23) rv_k_law_23 1 ?_
  refine rv_widen (k := cells + 358) (n := slots + 10311) (by omega) (by omega) ?_
  exact kk _ _ _ _ _ _ (rl_S_X hSt (by omega) (by omega)) hR
end RLC
