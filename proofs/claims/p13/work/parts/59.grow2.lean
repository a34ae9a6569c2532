def rv_t_X5_cablesTo : rv_T := (.branch 0 (.branch 0 (.branch 0 (.branch 0 (.branch 0 (.branch 0 (.leaf (0, .iconst 4, 1)) (.leaf (96, .aload_n 2, 1))) (.leaf (16, .iload_n 1, 1))) (.branch 0 (.branch 0 (.leaf (99999, .nop, 1)) (.branch 0 (.leaf (40, .iconst 1, 1)) (.leaf (104, .iconst 1, 1)))) (.branch 0 (.branch 0 (.leaf (24, .ifCond .lt (16), 3)) (.leaf (88, .iaload, 1))) (.branch 0 (.leaf (56, .if_icmp .ge (57), 3)) (.leaf (120, .areturn, 1)))))) (.branch 0 (.branch 0 (.leaf (4, .aload_n 2, 1)) (.branch 0 (.leaf (99999, .nop, 1)) (.branch 0 (.leaf (52, .iload 5, 2)) (.leaf (116, .goto (-73), 3))))) (.branch 0 (.leaf (76, .iaload, 1)) (.branch 0 (.branch 0 (.leaf (28, .bipush (32), 2)) (.leaf (92, .iadd, 1))) (.leaf (60, .iload 5, 2)))))) (.branch 0 (.branch 0 (.branch 0 (.leaf (34, .iload_n 3, 1)) (.branch 0 (.branch 0 (.leaf (18, .aaload, 1)) (.leaf (82, .aload_n 2, 1))) (.leaf (50, .istore 5, 2)))) (.branch 0 (.branch 0 (.branch 0 (.leaf (10, .aload_n 0, 1)) (.leaf (74, .iload 6, 2))) (.leaf (106, .iastore, 1))) (.leaf (99999, .nop, 1)))) (.branch 0 (.branch 0 (.branch 0 (.leaf (70, .if_icmp .eq (37), 3)) (.branch 0 (.leaf (38, .iconst 1, 1)) (.leaf (102, .iload 4, 2)))) (.branch 0 (.leaf (22, .istore_n 3, 1)) (.leaf (54, .bipush (32), 2)))) (.branch 0 (.branch 0 (.leaf (14, .bipush (32), 2)) (.branch 0 (.leaf (46, .if_icmp .ge (73), 3)) (.leaf (110, .goto (-58), 3)))) (.branch 0 (.leaf (30, .if_icmp .ge (10), 3)) (.leaf (62, .invokestatic 31, 3))))))) (.branch 0 (.branch 0 (.branch 0 (.branch 0 (.branch 0 (.branch 0 (.leaf (1, .newarray .int, 2)) (.leaf (65, .istore 6, 2))) (.branch 0 (.leaf (33, .aload_n 2, 1)) (.leaf (97, .iload 5, 2)))) (.branch 0 (.leaf (17, .iadd, 1)) (.branch 0 (.leaf (49, .iconst 0, 1)) (.leaf (113, .iinc 4 (1), 3))))) (.branch 0 (.branch 0 (.leaf (73, .aload_n 2, 1)) (.branch 0 (.leaf (41, .istore 4, 2)) (.leaf (105, .iadd, 1)))) (.leaf (89, .iload 4, 2)))) (.branch 0 (.branch 0 (.branch 0 (.branch 0 (.leaf (5, .bipush (99), 2)) (.leaf (69, .iconst (-1), 1))) (.branch 0 (.leaf (37, .idiv, 1)) (.leaf (101, .idiv, 1)))) (.leaf (85, .bipush (8), 2))) (.branch 0 (.branch 0 (.leaf (77, .iload 4, 2)) (.leaf (45, .iconst 4, 1))) (.leaf (93, .if_icmp .le (14), 3))))) (.branch 0 (.branch 0 (.branch 0 (.branch 0 (.branch 0 (.leaf (3, .astore_n 2, 1)) (.leaf (67, .iload 6, 2))) (.branch 0 (.leaf (35, .bipush (8), 2)) (.leaf (99, .bipush (8), 2)))) (.branch 0 (.branch 0 (.leaf (19, .getfield 15, 3)) (.leaf (83, .iload 5, 2))) (.leaf (99999, .nop, 1)))) (.branch 0 (.branch 0 (.leaf (11, .getfield 9, 3)) (.branch 0 (.leaf (43, .iload 4, 2)) (.leaf (107, .iinc 5 (1), 3)))) (.branch 0 (.branch 0 (.leaf (27, .iload_n 3, 1)) (.leaf (91, .iconst 1, 1))) (.leaf (59, .aload_n 0, 1))))) (.branch 0 (.branch 0 (.branch 0 (.leaf (7, .invokestatic 35, 3)) (.leaf (39, .iastore, 1))) (.branch 0 (.branch 0 (.leaf (23, .iload_n 3, 1)) (.leaf (87, .idiv, 1))) (.leaf (119, .aload_n 2, 1)))) (.leaf (79, .if_icmp .ne (28), 3))))))
theorem rv_k_X5_cablesTo : rv_tok cX5_cablesTo rv_t_X5_cablesTo = true := by decide +kernel

def rv_t_X5_wayPort : rv_T := (.branch 0 (.branch 0 (.branch 0 (.branch 0 (.branch 0 (.branch 0 (.branch 0 (.leaf (0, .aload_n 0, 1)) (.leaf (64, .iload 6, 2))) (.branch 0 (.leaf (32, .iconst (-1), 1)) (.leaf (96, .ireturn, 1)))) (.branch 0 (.leaf (16, .bipush (32), 2)) (.branch 0 (.leaf (48, .aload_n 0, 1)) (.leaf (112, .if_icmp .ge (50), 3))))) (.branch 0 (.leaf (8, .aaload, 1)) (.branch 0 (.branch 0 (.leaf (24, .iconst (-1), 1)) (.leaf (88, .ireturn, 1))) (.leaf (99999, .nop, 1))))) (.branch 0 (.branch 0 (.branch 0 (.branch 0 (.branch 0 (.leaf (4, .bipush (32), 2)) (.leaf (132, .iload 8, 2))) (.leaf (99999, .nop, 1))) (.branch 0 (.branch 0 (.leaf (36, .ifCond .lt (10), 3)) (.leaf (164, .ireturn, 1))) (.leaf (100, .iconst 0, 1)))) (.branch 0 (.branch 0 (.branch 0 (.leaf (20, .if_icmp .ne (14), 3)) (.leaf (148, .iload 8, 2))) (.leaf (84, .if_icmp .ge (5), 3))) (.leaf (99999, .nop, 1)))) (.branch 0 (.branch 0 (.branch 0 (.leaf (12, .istore 4, 2)) (.leaf (76, .iload_n 3, 1))) (.leaf (99999, .nop, 1))) (.branch 0 (.branch 0 (.branch 0 (.leaf (28, .iconst 0, 1)) (.leaf (156, .iinc 9 (1), 3))) (.leaf (99999, .nop, 1))) (.branch 0 (.leaf (60, .istore 6, 2)) (.leaf (124, .iload 6, 2))))))) (.branch 0 (.branch 0 (.branch 0 (.branch 0 (.branch 0 (.leaf (130, .istore 8, 2)) (.leaf (66, .iaload, 1))) (.branch 0 (.branch 0 (.leaf (34, .iload 4, 2)) (.leaf (162, .iload 8, 2))) (.leaf (98, .istore 8, 2)))) (.branch 0 (.branch 0 (.leaf (18, .iload_n 2, 1)) (.leaf (82, .iload_n 3, 1))) (.leaf (50, .invokestatic 21, 3)))) (.branch 0 (.branch 0 (.leaf (138, .iconst (-1), 1)) (.leaf (106, .if_icmp .gt (56), 3))) (.branch 0 (.branch 0 (.leaf (154, .istore 6, 2)) (.leaf (90, .iconst (-1), 1))) (.leaf (122, .aload 5, 2))))) (.branch 0 (.branch 0 (.branch 0 (.branch 0 (.branch 0 (.leaf (6, .iload_n 1, 1)) (.leaf (134, .iconst (-1), 1))) (.leaf (99999, .nop, 1))) (.leaf (99999, .nop, 1))) (.branch 0 (.leaf (150, .iadd, 1)) (.leaf (118, .if_icmp .eq (44), 3)))) (.branch 0 (.branch 0 (.branch 0 (.branch 0 (.leaf (14, .iload 4, 2)) (.leaf (142, .aload_n 0, 1))) (.leaf (99999, .nop, 1))) (.leaf (46, .iconst (-1), 1))) (.branch 0 (.leaf (94, .iload 7, 2)) (.branch 0 (.leaf (62, .aload 5, 2)) (.leaf (126, .iload_n 2, 1)))))))) (.branch 0 (.branch 0 (.branch 0 (.branch 0 (.branch 0 (.leaf (1, .getfield 9, 3)) (.branch 0 (.leaf (33, .ireturn, 1)) (.leaf (97, .iconst (-1), 1)))) (.branch 0 (.leaf (145, .bipush (8), 2)) (.leaf (49, .iload_n 2, 1)))) (.branch 0 (.branch 0 (.branch 0 (.leaf (9, .getfield 15, 3)) (.leaf (73, .if_icmp .eq (14), 3))) (.branch 0 (.leaf (41, .bipush (32), 2)) (.leaf (105, .iload_n 3, 1)))) (.branch 0 (.branch 0 (.leaf (25, .if_icmp .ne (7), 3)) (.leaf (89, .iload_n 3, 1))) (.branch 0 (.leaf (57, .bipush (8), 2)) (.leaf (121, .aload_n 0, 1)))))) (.branch 0 (.branch 0 (.branch 0 (.leaf (69, .iload 7, 2)) (.leaf (101, .istore 9, 2))) (.branch 0 (.leaf (99999, .nop, 1)) (.branch 0 (.leaf (53, .astore 5, 2)) (.leaf (117, .iconst (-1), 1))))) (.branch 0 (.branch 0 (.leaf (77, .iload 7, 2)) (.leaf (109, .iload 9, 2))) (.leaf (29, .goto (4), 3))))) (.branch 0 (.branch 0 (.branch 0 (.leaf (67, .istore 7, 2)) (.branch 0 (.branch 0 (.branch 0 (.leaf (19, .iadd, 1)) (.leaf (147, .imul, 1))) (.leaf (83, .iconst (-1), 1))) (.leaf (115, .iload 6, 2)))) (.branch 0 (.branch 0 (.leaf (139, .goto (15), 3)) (.leaf (43, .if_icmp .lt (5), 3))) (.branch 0 (.leaf (91, .if_icmp .ne (6), 3)) (.leaf (59, .idiv, 1))))) (.branch 0 (.branch 0 (.branch 0 (.branch 0 (.branch 0 (.leaf (7, .iadd, 1)) (.leaf (135, .if_icmp .ne (7), 3))) (.leaf (71, .bipush (99), 2))) (.branch 0 (.leaf (39, .iload 4, 2)) (.leaf (103, .iload 9, 2)))) (.branch 0 (.branch 0 (.branch 0 (.leaf (23, .iload_n 3, 1)) (.leaf (151, .invokestatic 31, 3))) (.leaf (87, .iconst (-1), 1))) (.leaf (55, .iload 4, 2)))) (.branch 0 (.branch 0 (.branch 0 (.leaf (143, .iload 6, 2)) (.leaf (79, .if_icmp .ge (8), 3))) (.branch 0 (.leaf (47, .ireturn, 1)) (.leaf (111, .iconst 4, 1)))) (.branch 0 (.leaf (159, .goto (-56), 3)) (.leaf (127, .invokestatic 27, 3))))))))
theorem rv_k_X5_wayPort : rv_tok cX5_wayPort rv_t_X5_wayPort = true := by decide +kernel

def rv_t_X11_way : rv_T := (.branch 0 (.branch 0 (.branch 0 (.branch 0 (.branch 0 (.leaf (0, .iload_n 1, 1)) (.leaf (16, .if_icmp .ne (5), 3))) (.leaf (8, .invokestatic 78, 3))) (.branch 0 (.branch 0 (.leaf (4, .ifCond .eq (15), 3)) (.leaf (20, .ireturn, 1))) (.leaf (28, .invokestatic 181, 3)))) (.branch 0 (.leaf (26, .iload_n 2, 1)) (.branch 0 (.leaf (22, .getfield 12, 3)) (.leaf (14, .iload_n 1, 1))))) (.branch 0 (.branch 0 (.branch 0 (.leaf (1, .invokestatic 78, 3)) (.leaf (25, .iload_n 1, 1))) (.leaf (21, .aload_n 0, 1))) (.branch 0 (.branch 0 (.leaf (19, .iconst (-1), 1)) (.branch 0 (.leaf (11, .ifCond .eq (8), 3)) (.leaf (27, .iload_n 3, 1)))) (.branch 0 (.leaf (7, .iload_n 2, 1)) (.branch 0 (.leaf (15, .iload_n 2, 1)) (.leaf (31, .ireturn, 1)))))))
theorem rv_k_X11_way : rv_tok cX11_way rv_t_X11_way = true := by decide +kernel

def rv_t_X11_image : rv_T := (.branch 0 (.branch 0 (.branch 0 (.branch 0 (.branch 0 (.leaf (0, .iload_n 1, 1)) (.branch 0 (.leaf (16, .invokespecial 11, 3)) (.leaf (48, .aload_n 0, 1)))) (.branch 0 (.leaf (8, .ifnonnull (14), 3)) (.leaf (56, .ireturn, 1)))) (.branch 0 (.branch 0 (.branch 0 (.leaf (4, .aload_n 0, 1)) (.leaf (36, .getfield 222, 3))) (.leaf (52, .invokevirtual 211, 3))) (.branch 0 (.branch 0 (.leaf (12, .new 9, 3)) (.leaf (44, .aload_n 0, 1))) (.leaf (99999, .nop, 1))))) (.branch 0 (.branch 0 (.leaf (34, .ireturn, 1)) (.branch 0 (.leaf (42, .iconst 0, 1)) (.leaf (26, .aload_n 0, 1)))) (.branch 0 (.leaf (22, .aload_n 0, 1)) (.leaf (30, .invokevirtual 211, 3))))) (.branch 0 (.branch 0 (.branch 0 (.branch 0 (.branch 0 (.leaf (1, .ifCond .eq (34), 3)) (.leaf (33, .iconst 1, 1))) (.leaf (49, .getfield 222, 3))) (.leaf (99999, .nop, 1))) (.branch 0 (.leaf (5, .getfield 222, 3)) (.leaf (45, .getfield 12, 3)))) (.branch 0 (.branch 0 (.branch 0 (.leaf (35, .aload_n 0, 1)) (.leaf (19, .putfield 222, 3))) (.branch 0 (.branch 0 (.leaf (11, .aload_n 0, 1)) (.leaf (43, .ireturn, 1))) (.leaf (27, .getfield 12, 3)))) (.branch 0 (.branch 0 (.leaf (39, .ifnonnull (5), 3)) (.branch 0 (.leaf (23, .getfield 222, 3)) (.leaf (55, .iconst 1, 1)))) (.leaf (15, .dup, 1))))))
theorem rv_k_X11_image : rv_tok cX11_image rv_t_X11_image = true := by decide +kernel

def rv_t_X11_lasts : rv_T := (.branch 0 (.branch 0 (.branch 0 (.branch 0 (.branch 0 (.branch 0 (.branch 0 (.leaf (0, .iload_n 1, 1)) (.leaf (64, .iadd, 1))) (.branch 0 (.leaf (32, .invokespecial 11, 3)) (.leaf (96, .ireturn, 1)))) (.leaf (99999, .nop, 1))) (.branch 0 (.branch 0 (.branch 0 (.leaf (8, .iconst 1, 1)) (.leaf (72, .sipush (400), 3))) (.leaf (104, .ireturn, 1))) (.branch 0 (.leaf (24, .ifnonnull (14), 3)) (.leaf (56, .iload_n 1, 1))))) (.branch 0 (.branch 0 (.branch 0 (.branch 0 (.leaf (4, .ifCond .eq (14), 3)) (.leaf (68, .istore 5, 2))) (.leaf (100, .goto (-30), 3))) (.leaf (20, .aload_n 0, 1))) (.branch 0 (.leaf (12, .iload_n 2, 1)) (.branch 0 (.leaf (28, .new 9, 3)) (.leaf (60, .getfield 215, 3)))))) (.branch 0 (.branch 0 (.branch 0 (.leaf (99999, .nop, 1)) (.branch 0 (.branch 0 (.leaf (18, .iconst (-1), 1)) (.leaf (82, .invokevirtual 94, 3))) (.leaf (50, .getfield 208, 3)))) (.branch 0 (.leaf (42, .aload_n 0, 1)) (.leaf (58, .astore_n 3, 1)))) (.branch 0 (.branch 0 (.branch 0 (.leaf (70, .iload 5, 2)) (.leaf (38, .aload_n 0, 1))) (.leaf (86, .getfield 215, 3))) (.branch 0 (.branch 0 (.leaf (78, .aload_n 0, 1)) (.leaf (46, .invokevirtual 211, 3))) (.leaf (94, .iload 5, 2)))))) (.branch 0 (.branch 0 (.branch 0 (.branch 0 (.branch 0 (.branch 0 (.leaf (1, .invokestatic 78, 3)) (.leaf (65, .istore 4, 2))) (.leaf (97, .iinc 5 (1), 3))) (.leaf (49, .aload_n 0, 1))) (.branch 0 (.leaf (9, .if_icmp .lt (9), 3)) (.branch 0 (.leaf (89, .iload 4, 2)) (.leaf (57, .aaload, 1))))) (.branch 0 (.branch 0 (.leaf (99999, .nop, 1)) (.branch 0 (.branch 0 (.leaf (21, .getfield 208, 3)) (.leaf (85, .aload_n 3, 1))) (.leaf (53, .getfield 81, 3)))) (.leaf (13, .bipush (20), 2)))) (.branch 0 (.branch 0 (.branch 0 (.branch 0 (.leaf (67, .iconst 1, 1)) (.leaf (35, .putfield 208, 3))) (.leaf (19, .ireturn, 1))) (.branch 0 (.branch 0 (.leaf (75, .if_icmp .gt (28), 3)) (.leaf (43, .getfield 12, 3))) (.branch 0 (.branch 0 (.leaf (27, .aload_n 0, 1)) (.leaf (91, .if_icmp .lt (6), 3))) (.leaf (59, .aload_n 3, 1))))) (.branch 0 (.branch 0 (.branch 0 (.leaf (7, .iload_n 2, 1)) (.branch 0 (.leaf (39, .getfield 208, 3)) (.leaf (103, .iconst (-1), 1)))) (.leaf (99999, .nop, 1))) (.branch 0 (.branch 0 (.branch 0 (.leaf (15, .if_icmp .le (5), 3)) (.leaf (79, .getfield 208, 3))) (.leaf (99999, .nop, 1))) (.branch 0 (.leaf (31, .dup, 1)) (.leaf (63, .iload_n 2, 1))))))))
theorem rv_k_X11_lasts : rv_tok cX11_lasts rv_t_X11_lasts = true := by decide +kernel

section RMX
variable (base : Nat) (l : Launch) (cI c1 c2 c3 c4 c5 : ClassId) (D : va_G) (ad adV : Nat → Nat)
theorem rg_cablesTo (a0 : Nat) (t : Int32) (ht : 0 ≤ t.toInt ∧ t.toInt ≤ 7) : rg_Met base l cI c1 c2 c3 c4 c5 D ad adV rk_q_X5_cablesTo (1, 4) [.ref a0, .int t] (fun G _ _ => G a0 = some 10) (fun G f v G' u => (∃ b : Nat, v = some (.ref b) ∧ G' b = some 23) ∧ rc_Lv G 1 f u) 0 := by
  refine rg_start (M := rk_q_X5_cablesTo) (by decide +kernel) (cap := (1, 4)) (mt := rk_mt [rk_q_J7_fill_53178, rk_q_X5_routerAt]) (ml := rk_mlf [(35, 0, 2, 0), (31, 1, 2, 0)]) (fl := rk_flf rk_ftX5) (fun s args h hN => rk_MlOk_of (List.forall_mem_cons.mpr ⟨rk_mck_ok (fun w hw => List.mem_cons_of_mem _ hw) h hN rk_cm_J7_fill_53178 rk_lk_X5_35, List.forall_mem_cons.mpr ⟨rk_mck_ok (fun w hw => List.mem_cons_of_mem _ hw) h hN rk_cm_X5_routerAt rk_lk_X5_31, fun _ h => absurd h List.not_mem_nil⟩⟩) (by decide +kernel)) (fun s args h hN => rk_flX5 (fun w hw => List.mem_cons_of_mem _ hw) h hN) (rm_cat1 rfl) (Nat.le_of_ble_eq_true rfl) ?_
  intro p e st m below meth c G X L f0 A hC hAb hh hX0 hXC hT hpre
  have hG : G a0 = some 10 := hpre
  rw [Int.add_zero] at hXC ⊢
  refine rv_run hC.1 hC.2.1 (T := rv_t_X5_cablesTo) rv_k_X5_cablesTo 1 ?_
  refine rg_newA hC hAb hh hT rfl ⟨by decide, by decide⟩ (by decide +kernel) (fun G' L' f' q H1 hGG hLL hbb hff hq hT' hh' => ?_)
  have hLn := rg_lvL (lv := 1) hT hff rfl
  have hC' := rm_Cx_L hC hbb
  clear hh hT
  refine rg_fix hGG hLL hbb ?_
  refine rc_astn (i := 2) (k := 2) hC' (by decide +kernel) rfl (by decide) rfl ?_
  refine rv_run hC'.1 hC'.2.1 (T := rv_t_X5_cablesTo) rv_k_X5_cablesTo 80 ?_
  refine rc_callS (idx := 35) (z := 0) (n := 2) (as := [.ref q, .int (Int8.ofInt 99).toInt32]) (rest := []) hC' hh' (by decide +kernel) rfl (rm_of (c_J7_fill_53178_2 base l cI c1 c2 c3 c4 c5 D ad adV) [.ref q, .int (Int8.ofInt 99).toInt32]) hX0 (by rw [Int.add_zero]; exact hXC) hT' ⟨rk_all_c ⟨q, rfl, hq⟩ (rk_all_c ⟨_, rfl, by decide, by decide⟩ rk_all_0), trivial⟩ rfl rfl (Nat.le_of_ble_eq_true rfl) ⟨by decide, by decide⟩ (fun v u H1 locs1 hP hh1 => ?_)
  obtain ⟨hA, hT1, hL1⟩ := hP
  cases rk_alt_vn hA
  rw [Int.add_zero] at hT1
  refine m_cablesTo_10 base l cI c1 c2 c3 c4 c5 D ad adV hC' ⟨by decide, by decide⟩ hX0 (by rw [Int.add_zero]; exact hXC) hT1 hh1 (fun v u hA hT2 hL2 => ?_) (fun i => if i = 0 then .ref a0 else if i = 1 then .int t else .ref q) (fun i ty hi _ => ?_) (fun i ty hi => ?_)
  · rw [Int.add_zero] at hT2
    refine ⟨?_, hT2⟩
    obtain ⟨a, ha, h1, -⟩ := hA
    rw [List.mem_singleton] at ha
    subst ha
    obtain ⟨w, rfl, b, rfl, hb⟩ := (h1 : ∃ w, v = some w ∧ rk_has G' (X + 0) (2, 23, 0) w)
    exact ⟨⟨b, rfl, hb⟩, rc_lv_tr (k := 1) (rc_lv_tr (k := 1) hLn (rg_lvG hGG.1 hL1) rfl rfl) (rg_lvG hGG.1 hL2) rfl rfl⟩
  · rcases i with _ | _ | _ | i
    · exact List.mem_cons_self
    · exact List.mem_cons_of_mem _ List.mem_cons_self
    · exact List.mem_cons_of_mem _ (List.mem_cons_of_mem _ List.mem_cons_self)
    · cases hi
  · rcases i with _ | _ | _ | i
    · cases hi
      exact ⟨a0, rfl, hGG.1 _ _ hG⟩
    · cases hi
      exact ⟨t, rfl, ht.1, ht.2⟩
    · cases hi
      exact ⟨q, rfl, hq⟩
    · cases hi
theorem rg_wayPort (a0 : Nat) (x y z : Int32) (hx : 0 ≤ x.toInt ∧ x.toInt ≤ 7) (hy : 0 ≤ y.toInt ∧ y.toInt ≤ 7) : rg_Met base l cI c1 c2 c3 c4 c5 D ad adV rk_q_X5_wayPort (1, 4) [.ref a0, .int x, .int y, .int z] (fun G _ _ => G a0 = some 10) (fun G f v _ u => (∃ x : Int32, v = some (.int x)) ∧ rc_Lv G 1 f u) 0 := by
  refine rg_start (M := rk_q_X5_wayPort) (by decide +kernel) (cap := (1, 4)) (mt := rk_mt [rk_q_X5_cablesTo, rk_q_X5_portToward, rk_q_X5_routerAt]) (ml := rk_mlf [(21, 0, 2, 0), (27, 1, 4, 0), (31, 2, 2, 0)]) (fl := rk_flf rk_ftX5) (fun s args h hN => rk_MlOk_of (List.forall_mem_cons.mpr ⟨rk_mck_ok (fun w hw => List.mem_cons_of_mem _ hw) h hN rk_cm_X5_cablesTo rk_lk_X5_21, List.forall_mem_cons.mpr ⟨rk_mck_ok (fun w hw => List.mem_cons_of_mem _ hw) h hN rk_cm_X5_portToward rk_lk_X5_27, List.forall_mem_cons.mpr ⟨rk_mck_ok (fun w hw => List.mem_cons_of_mem _ hw) h hN rk_cm_X5_routerAt rk_lk_X5_31, fun _ h => absurd h List.not_mem_nil⟩⟩⟩) (by decide +kernel)) (fun s args h hN => rk_flX5 (fun w hw => List.mem_cons_of_mem _ hw) h hN) (rm_cat1 rfl) (Nat.le_of_ble_eq_true rfl) ?_
  intro p e st m below meth c G X L f0 A hC hAb hh hX0 hXC hT hpre
  have hG : G a0 = some 10 := hpre
  rw [Int.add_zero] at hXC ⊢
  have ret : ∀ (k : Int32) (pc : Nat) (lo : List (Nat × Value)), decode rk_q_X5_wayPort.2.1 pc = .ok (.ireturn, 1) → rv_G p l e { frames := rk_q_X5_wayPort.2.2.2.2.1, cells := 1, slots := 4, locals := rk_q_X5_wayPort.2.2.2.2.2 } st m ([.ref a0, .int x, .int y, .int z] : List Value).toArray below meth c (MQ below (fun _ st oc t => rg_P base cI c1 c2 c3 c4 c5 D ad G X L A ((fun G f v _ u => (∃ x : Int32, v = some (.int x)) ∧ rc_Lv G 1 f u) G f0) oc t ∧ va_F A st t) ([.ref a0, .int x, .int y, .int z] : List Value).toArray st 1 4 A) rk_q_X5_wayPort.2.2.1 0 0 st.heap [] pc [.int k] lo := by
    intro k pc lo hd
    refine rv_widen (k := 1) (n := 4) (by decide) (by decide) ?_
    refine rg_fix ⟨fun _ _ h => h, fun _ h => h, fun _ h => h⟩ (fun _ h => h) hC.2.2.2.2.2.2.2.2.2.2.2.2.2.1 ?_
    exact rm_iret hC hh hd rfl ⟨⟨⟨k, rfl⟩, rc_lv_rf 1⟩, hT⟩
  obtain ⟨hL0, fs, e1, e2, e3⟩ := rc_me hT hG rfl
  have e2 : fs.length = 10 := e2
  have hv : fs[0]? = some fs[0] := List.getElem?_eq_getElem (by omega)
  obtain ⟨aS, eS, hS⟩ := (e3 0 (2, 25, 0) _ rfl hv : rk_has G X (2, 25, 0) _)
  rw [eS] at hv
  refine rv_run hC.1 hC.2.1 (T := rv_t_X5_wayPort) rv_k_X5_wayPort 80 ?_
  refine rm_get (idx := 9) hC hh (by decide +kernel) rfl hL0 e1 hv ?_
  have ex : ((Int8.ofInt 32).toInt32 + x).toInt = 32 + x.toInt := rk_add_e (x := (Int8.ofInt 32).toInt32) (by show _ ≤ 32 + x.toInt; omega) (by show 32 + x.toInt ≤ _; omega)
  refine rv_run hC.1 hC.2.1 (T := rv_t_X5_wayPort) rv_k_X5_wayPort 80 ?_
  obtain ⟨hLS, hcS⟩ := hT.1 aS 25 hS (by decide)
  obtain ⟨cA, C, g, f1, f2, f3⟩ := (hcS : ∃ (cA : ClassId) (C : String) (g : Nat → Option Nat), f0 aS = .inl (cA, 40, .inr (.inr (.inr (.inr g)))) ∧ (rk_tys cI c1 c2 c3 c4 c5)[1]? = some (cA, .object C) ∧ ∀ i, i < 40 → rk_has G X (rk_E ad 25 i) (va_rf (g i)))
  obtain ⟨xn, hxn⟩ : ∃ n : Nat, ((Int8.ofInt 32).toInt32 + x).toInt = (n : Int) := ⟨_, (Int.toNat_of_nonneg (by omega)).symm⟩
  refine rc_aald hC hh (by decide +kernel) hLS f1 f2 (by omega) (by omega) ?_
  rw [rm_clamp hxn]
  obtain ⟨aO, eO, hO⟩ := (f3 xn (by omega) : rk_has G X (2, 8, 0) _)
  rw [eO]
  obtain ⟨hL1, fs1, k1, k2, k3⟩ := rc_me hT hO rfl
  have k2 : fs1.length = 20 := k2
  have hw : fs1[4]? = some fs1[4] := List.getElem?_eq_getElem (by omega)
  obtain ⟨o, eo, ho1, ho2⟩ := (k3 4 (0, -2147483648, 2147483647) _ rfl hw : rk_has G X (0, -2147483648, 2147483647) _)
  rw [eo] at hw
  refine rm_get (idx := 15) hC hh (by decide +kernel) rfl hL1 k1 hw ?_
  refine rv_run hC.1 hC.2.1 (T := rv_t_X5_wayPort) rv_k_X5_wayPort 6 ?_
  refine ⟨fun _ => ?_, fun _ => ?_⟩
  · refine rv_run hC.1 hC.2.1 (T := rv_t_X5_wayPort) rv_k_X5_wayPort 2 ?_
    refine ⟨fun _ => ?_, fun h0 => ?_⟩
    · refine rv_run hC.1 hC.2.1 (T := rv_t_X5_wayPort) rv_k_X5_wayPort 1 ?_
      exact ret _ _ _ (by decide +kernel)
    have h0 : 0 ≤ o.toInt := h0
    refine rv_run hC.1 hC.2.1 (T := rv_t_X5_wayPort) rv_k_X5_wayPort 3 ?_
    refine ⟨fun h31 => ?_, fun _ => ?_⟩
    · have h31 : o.toInt < 32 := h31
      refine rv_run hC.1 hC.2.1 (T := rv_t_X5_wayPort) rv_k_X5_wayPort 80 ?_
      refine rg_callS (idx := 21) (z := 0) (n := 2) (cap := (1, 4)) (as := [.ref a0, .int y]) (rest := []) hC hAb hh (by decide +kernel) rfl (rg_cablesTo base l cI c1 c2 c3 c4 c5 D ad adV a0 y hy) hX0 (by rw [Int.add_zero]; exact hXC) hT hG rfl rfl (Nat.le_of_ble_eq_true rfl) ⟨by decide, by decide⟩ (fun v G' L' u H1 locs1 hPo hGG hLL hbb hT' hh' => ?_)
      obtain ⟨⟨b, rfl, hb⟩, hLc⟩ := hPo
      rw [Int.add_zero] at hT'
      have hC' := rm_Cx_L hC hbb
      refine rg_fix hGG hLL hbb ?_
      refine rc_ast (i := 5) hC' (by decide +kernel) (by decide) rfl ?_
      refine m_wayPort_55 base l cI c1 c2 c3 c4 c5 D ad adV hC' ⟨by decide, by decide⟩ hX0 (by rw [Int.add_zero]; exact hXC) hT' hh' (fun v u hA hT2 hL2 => ?_) (fun i => if i = 0 then .ref a0 else if i = 1 then .int x else if i = 2 then .int y else if i = 3 then .int z else if i = 4 then .int o else .ref b) (fun i ty hi _ => ?_) (fun i ty hi => ?_)
      · rw [Int.add_zero] at hT2
        refine ⟨?_, hT2⟩
        obtain ⟨a, ha, h1, -⟩ := hA
        rw [List.mem_singleton] at ha
        subst ha
        obtain ⟨w, rfl, k, rfl, -⟩ := (h1 : ∃ w, v = some w ∧ rk_has G' (X + 0) (0, -2147483647, 2147483647) w)
        exact ⟨⟨k, rfl⟩, rc_lv_tr (k := 1) hLc (rg_lvG hGG.1 hL2) rfl rfl⟩
      · rcases i with _ | _ | _ | _ | _ | _ | i
        · exact List.mem_of_getElem? (i := 0) rfl
        · exact List.mem_of_getElem? (i := 1) rfl
        · exact List.mem_of_getElem? (i := 2) rfl
        · exact List.mem_of_getElem? (i := 3) rfl
        · exact List.mem_of_getElem? (i := 4) rfl
        · exact List.mem_of_getElem? (i := 5) rfl
        · cases hi
      · rcases i with _ | _ | _ | _ | _ | _ | i
        · cases hi
          exact ⟨a0, rfl, hGG.1 _ _ hG⟩
        · cases hi
          exact ⟨x, rfl, hx.1, hx.2⟩
        · cases hi
          exact ⟨y, rfl, hy.1, hy.2⟩
        · cases hi
          exact rk_full_ok z
        · cases hi
          exact ⟨o, rfl, by omega, by omega⟩
        · cases hi
          exact ⟨b, rfl, hb⟩
        · cases hi
    · refine rv_run hC.1 hC.2.1 (T := rv_t_X5_wayPort) rv_k_X5_wayPort 1 ?_
      exact ret _ _ _ (by decide +kernel)
  · refine rv_run hC.1 hC.2.1 (T := rv_t_X5_wayPort) rv_k_X5_wayPort 3 ?_
    refine ⟨fun _ => ?_, fun _ => ?_⟩
    · refine rv_run hC.1 hC.2.1 (T := rv_t_X5_wayPort) rv_k_X5_wayPort 1 ?_
      exact ret _ _ _ (by decide +kernel)
    · refine rv_run hC.1 hC.2.1 (T := rv_t_X5_wayPort) rv_k_X5_wayPort 2 ?_
      exact ret _ _ _ (by decide +kernel)
theorem rg_way (a0 : Nat) (x y z : Int32) : rg_Met base l cI c1 c2 c3 c4 c5 D ad adV rk_q_X11_way (1, 4) [.ref a0, .int x, .int y, .int z] (fun G _ _ => G a0 = some 11) (fun G f v _ u => (∃ x : Int32, v = some (.int x)) ∧ rc_Lv G 1 f u) 0 := by
  refine rg_start (M := rk_q_X11_way) (by decide +kernel) (cap := (1, 4)) (mt := rk_mt [rk_q_X11_isEnd, rk_q_X5_wayPort]) (ml := rk_mlf [(78, 0, 1, 0), (181, 1, 4, 0)]) (fl := rk_flf rk_ftX11) (fun s args h hN => rk_MlOk_of (List.forall_mem_cons.mpr ⟨rk_mck_ok (fun w hw => List.mem_cons_of_mem _ hw) h hN rk_cm_X11_isEnd rk_lk_X11_78, List.forall_mem_cons.mpr ⟨rk_mck_ok (fun w hw => List.mem_cons_of_mem _ hw) h hN rk_cm_X5_wayPort rk_lk_X11_181, fun _ h => absurd h List.not_mem_nil⟩⟩) (by decide +kernel)) (fun s args h hN => rk_flX11 (fun w hw => List.mem_cons_of_mem _ hw) h hN) (rm_cat1 rfl) (Nat.le_of_ble_eq_true rfl) ?_
  intro p e st m below meth c G X L f0 A hC hAb hh hX0 hXC hT hpre
  have hG : G a0 = some 11 := hpre
  rw [Int.add_zero] at hXC ⊢
  have hXC1 := hXC
  have ret : ∀ (k : Int32) (pc : Nat) (lo : List (Nat × Value)) (H : Heap) (locs : List Loc), rm_h D A st L f0 H locs → decode rk_q_X11_way.2.1 pc = .ok (.ireturn, 1) → rv_G p l e { frames := rk_q_X11_way.2.2.2.2.1, cells := 1, slots := 4, locals := rk_q_X11_way.2.2.2.2.2 } st m ([.ref a0, .int x, .int y, .int z] : List Value).toArray below meth c (MQ below (fun _ st oc t => rg_P base cI c1 c2 c3 c4 c5 D ad G X L A ((fun G f v _ u => (∃ x : Int32, v = some (.int x)) ∧ rc_Lv G 1 f u) G f0) oc t ∧ va_F A st t) ([.ref a0, .int x, .int y, .int z] : List Value).toArray st 1 4 A) rk_q_X11_way.2.2.1 0 0 H locs pc [.int k] lo := by
    intro k pc lo H locs hh hd
    refine rv_widen (k := 1) (n := 4) (by decide) (by decide) ?_
    refine rg_fix ⟨fun _ _ h => h, fun _ h => h, fun _ h => h⟩ (fun _ h => h) hC.2.2.2.2.2.2.2.2.2.2.2.2.2.1 ?_
    exact rm_iret hC hh hd rfl ⟨⟨⟨k, rfl⟩, rc_lv_rf 1⟩, hT⟩
  refine rv_run hC.1 hC.2.1 (T := rv_t_X11_way) rv_k_X11_way 80 ?_
  refine rc_callS (idx := 78) (z := 0) (n := 1) (as := [.int x]) (rest := []) hC hh (by decide +kernel) rfl (rm_of (c_X11_isEnd base l cI c1 c2 c3 c4 c5 D ad adV) [.int x]) hX0 (by rw [Int.add_zero]; exact hXC1) hT ⟨rk_all_c rk_aF rk_all_0, trivial⟩ rfl rfl (Nat.le_of_ble_eq_true rfl) ⟨by decide, by decide⟩ (fun v u H locs hP hh9 => ?_)
  obtain ⟨hA, -, hL1⟩ := hP
  have hu : f0 = u := Eq.symm (hL1 0 (by decide) rfl : rc_Rb 0 G f0 u)
  subst hu
  have hh := hh9
  clear hh9
  obtain ⟨w, rfl, hx⟩ := rk_alt_2 hA
  have hx : w.toInt = 0 ∨ (0 ≤ x.toInt ∧ x.toInt ≤ 7) := by
    rcases hx with ⟨-, h⟩ | h
    · obtain ⟨w9, e9, x9, e10, y1, y2⟩ := h _ List.mem_cons_self
      cases e9
      cases e10
      exact Or.inr ⟨y1, y2⟩
    · exact Or.inl h
  clear hA hL1
  refine rv_run hC.1 hC.2.1 (T := rv_t_X11_way) rv_k_X11_way 1 ?_
  refine ⟨fun _ => ?_, fun h => ?_⟩
  · refine rv_run hC.1 hC.2.1 (T := rv_t_X11_way) rv_k_X11_way 1 ?_
    exact ret _ _ _ _ _ hh (by decide +kernel)
  have hx := hx.resolve_left h
  refine rv_run hC.1 hC.2.1 (T := rv_t_X11_way) rv_k_X11_way 80 ?_
  refine rc_callS (idx := 78) (z := 0) (n := 1) (as := [.int y]) (rest := []) hC hh (by decide +kernel) rfl (rm_of (c_X11_isEnd base l cI c1 c2 c3 c4 c5 D ad adV) [.int y]) hX0 (by rw [Int.add_zero]; exact hXC1) hT ⟨rk_all_c rk_aF rk_all_0, trivial⟩ rfl rfl (Nat.le_of_ble_eq_true rfl) ⟨by decide, by decide⟩ (fun v u H locs hP hh9 => ?_)
  obtain ⟨hA, -, hL1⟩ := hP
  have hu : f0 = u := Eq.symm (hL1 0 (by decide) rfl : rc_Rb 0 G f0 u)
  subst hu
  have hh := hh9
  clear hh9
  obtain ⟨w, rfl, hy⟩ := rk_alt_2 hA
  have hy : w.toInt = 0 ∨ (0 ≤ y.toInt ∧ y.toInt ≤ 7) := by
    rcases hy with ⟨-, h⟩ | h
    · obtain ⟨w9, e9, x9, e10, y1, y2⟩ := h _ List.mem_cons_self
      cases e9
      cases e10
      exact Or.inr ⟨y1, y2⟩
    · exact Or.inl h
  clear hA hL1
  refine rv_run hC.1 hC.2.1 (T := rv_t_X11_way) rv_k_X11_way 1 ?_
  refine ⟨fun _ => ?_, fun h => ?_⟩
  · refine rv_run hC.1 hC.2.1 (T := rv_t_X11_way) rv_k_X11_way 1 ?_
    exact ret _ _ _ _ _ hh (by decide +kernel)
  have hy := hy.resolve_left h
  refine rv_run hC.1 hC.2.1 (T := rv_t_X11_way) rv_k_X11_way 3 ?_
  refine ⟨fun _ => ?_, fun _ => ?_⟩
  · obtain ⟨hL0, fs, e1, e2, e3⟩ := rc_me hT hG rfl
    have e2 : fs.length = 4 := e2
    have hv : fs[0]? = some fs[0] := List.getElem?_eq_getElem (by omega)
    obtain ⟨aW, eW, hW⟩ := (e3 0 (2, 10, 0) _ rfl hv : rk_has G X (2, 10, 0) _)
    rw [eW] at hv
    refine rv_run hC.1 hC.2.1 (T := rv_t_X11_way) rv_k_X11_way 80 ?_
    refine rm_get (idx := 12) hC hh (by decide +kernel) rfl hL0 e1 hv ?_
    refine rv_run hC.1 hC.2.1 (T := rv_t_X11_way) rv_k_X11_way 80 ?_
    refine rg_callS (idx := 181) (z := 1) (n := 4) (cap := (1, 4)) (as := [.ref aW, .int x, .int y, .int z]) (rest := []) hC hAb hh (by decide +kernel) rfl (rg_wayPort base l cI c1 c2 c3 c4 c5 D ad adV aW x y z hx hy) hX0 (by rw [Int.add_zero]; exact hXC) hT hW rfl rfl (Nat.le_of_ble_eq_true rfl) ⟨by decide, by decide⟩ (fun v G' L' u H1 locs1 hPo hGG hLL hbb hT' hh' => ?_)
    obtain ⟨⟨k, rfl⟩, hLc⟩ := hPo
    rw [Int.add_zero] at hT'
    refine rg_fix hGG hLL hbb ?_
    exact rm_iret (rm_Cx_L hC hbb) hh' (by decide +kernel) rfl ⟨⟨⟨k, rfl⟩, hLc⟩, hT'⟩
  · refine rv_run hC.1 hC.2.1 (T := rv_t_X11_way) rv_k_X11_way 1 ?_
    exact ret _ _ _ _ _ hh (by decide +kernel)
theorem rg_image (a0 : Nat) (b : Int32) : rg_Met base l cI c1 c2 c3 c4 c5 D ad adV rk_q_X11_image (358, 10311) [.ref a0, .int b] (fun G _ _ => G a0 = some 11) (fun G f v _ u => (∃ x : Int32, v = some (.int x) ∧ ((b.toInt = 0 ∧ rk_fld (f a0) 2 = some .null ∧ x.toInt = 0 ∧ rk_fld (u a0) 2 = some .null) ∨ (x.toInt = 1 ∧ rk_fld (u a0) 2 ≠ some .null ∧ (¬ b.toInt = 0 ∨ rk_fld (f a0) 2 ≠ some .null)))) ∧ rc_Lv G 29 f u) 0 := by
  refine rg_start (M := rk_q_X11_image) (by decide +kernel) (cap := (358, 10311)) (mt := rk_mt [rk_q_X10_copyFrom]) (ml := rk_mlf [(211, 0, 2, 10)]) (fl := rk_flf rk_ftX11) (fun s args h hN => rk_MlOk_of (List.forall_mem_cons.mpr ⟨rk_mck_ok (fun w hw => List.mem_cons_of_mem _ hw) h hN rk_cm_X10_copyFrom rk_lk_X11_211, fun _ h => absurd h List.not_mem_nil⟩) (by decide +kernel)) (fun s args h hN => rk_flX11 (fun w hw => List.mem_cons_of_mem _ hw) h hN) (rm_cat1 rfl) (Nat.le_of_ble_eq_true rfl) ?_
  intro p e st m below meth c G X L f0 A hC hAb hh hX0 hXC hT hpre
  have hG : G a0 = some 11 := hpre
  rw [Int.add_zero] at hXC ⊢
  have tyP : ∀ (G' : Nat → Option Nat) (L' : List Nat) (f' : Nat → va_E) (fs : List Value) (i q : Nat), rm_TY cI c1 c2 c3 c4 c5 ad G' X L' f' → G' a0 = some 11 → f' a0 = .inr (10, fs) → fs.length = 4 → (∀ (i : Nat) (t : rk_AV) (v : Value), ([(2, 10, 0), (2, 9, 0), (3, 10, 0), (3, 10, 0)] : List rk_AV)[i]? = some t → fs[i]? = some v → rk_has G' X t v) → (i = 2 ∨ i = 3) → G' q = some 10 → rm_TY cI c1 c2 c3 c4 c5 ad G' X L' (va_up f' a0 (.inr (10, fs.set i (.ref q)))) := by
    intro G' L' f' fs i q hT hG e1 e2 e3 hi hq
    refine rk_TY_up hT hG ⟨_, rfl, by rw [List.length_set]; exact e2, fun j t' v' hj hv' => ?_⟩
    have hj : ([(2, 10, 0), (2, 9, 0), (3, 10, 0), (3, 10, 0)] : List rk_AV)[j]? = some t' := hj
    by_cases hji : j = i
    · subst hji
      rw [List.getElem?_set_self (by rw [e2]; omega)] at hv'
      cases hv'
      rcases hi with rfl | rfl
      · cases hj
        exact Or.inr ⟨q, rfl, hq⟩
      · cases hj
        exact Or.inr ⟨q, rfl, hq⟩
    · rw [List.getElem?_set_ne (Ne.symm hji)] at hv'
      exact e3 j t' v' hj hv'
  have cp : ∀ (G' : Nat → Option Nat) (L' : List Nat) (f' : Nat → va_E) (H : Heap) (locs : List Loc) (pc a b9 : Nat) (lo : List (Nat × Value)), G' a0 = some 11 → rk_fld (f' a0) 2 ≠ some .null → (¬ b.toInt = 0 ∨ rk_fld (f0 a0) 2 ≠ some .null) → rc_Lv G 29 f0 f' → (∀ a k, G a = some k → G' a = some k) → (∀ a ∈ L', base ≤ a) → rm_TY cI c1 c2 c3 c4 c5 ad G' X L' f' → rm_h D A st L' f' H locs → G' a = some 10 → G' b9 = some 10 → decode rk_q_X11_image.2.1 pc = .ok (.invokevirtual 211, 3) → decode rk_q_X11_image.2.1 (pc + 3) = .ok (.iconst 1, 1) → decode rk_q_X11_image.2.1 (pc + 3 + 1) = .ok (.ireturn, 1) → rv_G p l e { frames := rk_q_X11_image.2.2.2.2.1, cells := 358, slots := 10311, locals := rk_q_X11_image.2.2.2.2.2 } st m ([.ref a0, .int b] : List Value).toArray below meth c (MQ below (rk_Q (fun v u => ((fun G f v _ u => (∃ x : Int32, v = some (.int x) ∧ ((b.toInt = 0 ∧ rk_fld (f a0) 2 = some .null ∧ x.toInt = 0 ∧ rk_fld (u a0) 2 = some .null) ∨ (x.toInt = 1 ∧ rk_fld (u a0) 2 ≠ some .null ∧ (¬ b.toInt = 0 ∨ rk_fld (f a0) 2 ≠ some .null)))) ∧ rc_Lv G 29 f u) G f0 v G' u) ∧ rm_TY cI c1 c2 c3 c4 c5 ad G' X L' u) (rk_B D (rk_tys cI c1 c2 c3 c4 c5) L' A) A) ([.ref a0, .int b] : List Value).toArray st 358 10311 A) rk_q_X11_image.2.2.1 358 10311 H locs pc [.ref b9, .ref a] lo := by
    intro G' L' f' H locs pc a b9 lo hG' hne hj hLf hGG1 hbb hT hh ha hb d1 d2 d3
    have hC' := rm_Cx_L hC hbb
    obtain ⟨hL0, fs, e1, e2, e3⟩ := rc_me hT ha rfl
    refine rm_callV (idx := 211) (z := 0) (n := 2) (ci := 9) (as := [.ref b9]) (rest := []) hC' hh d1 rfl hL0 e1 (rm_of (c_X10_copyFrom base l cI c1 c2 c3 c4 c5 D ad adV) [.ref a, .ref b9]) hX0 (by rw [Int.add_zero]; exact hXC) hT ⟨rk_all_c ⟨a, rfl, ha⟩ (rk_all_c ⟨b9, rfl, hb⟩ rk_all_0), trivial⟩ rfl rfl (Nat.le_of_ble_eq_true rfl) ⟨by decide, by decide⟩ (fun v u H1 locs1 hP hh1 => ?_)
    obtain ⟨hA, hT1, hL1⟩ := hP
    cases rk_alt_vn hA
    rw [Int.add_zero] at hT1
    intro ls hl
    refine lv_iconst hC'.1 hC'.2.1 d2 rfl ?_
    exact rm_zret hC' hh1 d3 rfl (Or.inr rfl) ⟨⟨⟨_, rfl, Or.inr ⟨rfl, fun h9 => hne (((hL1 4 (by decide) rfl : rc_Rb 4 G' f' u) a0 hG').trans h9), hj⟩⟩, rc_lv_tr (k := 29) hLf (rg_lvG hGG1 hL1) rfl rfl⟩, hT1⟩ ls hl
  have ff : ∀ (G' : Nat → Option Nat) (L' : List Nat) (f' : Nat → va_E), rm_TY cI c1 c2 c3 c4 c5 ad G' X L' f' → G' a0 = some 11 → a0 ∈ L' ∧ ∃ fs : List Value, f' a0 = .inr (10, fs) ∧ fs.length = 4 ∧ (∀ (i : Nat) (t : rk_AV) (v : Value), ([(2, 10, 0), (2, 9, 0), (3, 10, 0), (3, 10, 0)] : List rk_AV)[i]? = some t → fs[i]? = some v → rk_has G' X t v) := fun G' L' f' hT hG => rc_me hT hG rfl
  obtain ⟨hL0, fs, e1, e2, e3⟩ := ff G L f0 hT hG
  have hv0 : fs[0]? = some fs[0] := List.getElem?_eq_getElem (by omega)
  obtain ⟨aW, eW, hW⟩ := (e3 0 (2, 10, 0) _ rfl hv0 : rk_has G X (2, 10, 0) _)
  rw [eW] at hv0
  have hv2 : fs[2]? = some fs[2] := List.getElem?_eq_getElem (by omega)
  have h2 := (e3 2 (3, 10, 0) _ rfl hv2 : fs[2] = .null ∨ ∃ q : Nat, fs[2] = .ref q ∧ G q = some 10)
  have t22 : ∀ (G' : Nat → Option Nat) (L' : List Nat) (f' : Nat → va_E) (H : Heap) (locs : List Loc) (aW q : Nat) (fs : List Value), G' a0 = some 11 → (¬ b.toInt = 0 ∨ rk_fld (f0 a0) 2 ≠ some .null) → rc_Lv G 29 f0 f' → (∀ a k, G a = some k → G' a = some k) → (∀ a ∈ L', base ≤ a) → rm_TY cI c1 c2 c3 c4 c5 ad G' X L' f' → rm_h D A st L' f' H locs → a0 ∈ L' → f' a0 = .inr (10, fs) → fs[0]? = some (.ref aW) → G' aW = some 10 → fs[2]? = some (.ref q) → G' q = some 10 → rv_G p l e { frames := rk_q_X11_image.2.2.2.2.1, cells := 358, slots := 10311, locals := rk_q_X11_image.2.2.2.2.2 } st m ([.ref a0, .int b] : List Value).toArray below meth c (MQ below (rk_Q (fun v u => ((fun G f v _ u => (∃ x : Int32, v = some (.int x) ∧ ((b.toInt = 0 ∧ rk_fld (f a0) 2 = some .null ∧ x.toInt = 0 ∧ rk_fld (u a0) 2 = some .null) ∨ (x.toInt = 1 ∧ rk_fld (u a0) 2 ≠ some .null ∧ (¬ b.toInt = 0 ∨ rk_fld (f a0) 2 ≠ some .null)))) ∧ rc_Lv G 29 f u) G f0 v G' u) ∧ rm_TY cI c1 c2 c3 c4 c5 ad G' X L' u) (rk_B D (rk_tys cI c1 c2 c3 c4 c5) L' A) A) ([.ref a0, .int b] : List Value).toArray st 358 10311 A) rk_q_X11_image.2.2.1 358 10311 H locs 22 [] [(0, .ref a0), (1, .int b)] := by
    intro G' L' f' H locs aW q fs hG' hj hLf hGG1 hbb hT hh hL0 e1 h0 hW h2 hq
    have hC' := rm_Cx_L hC hbb
    refine rv_run hC'.1 hC'.2.1 (T := rv_t_X11_image) rv_k_X11_image 80 ?_
    refine rm_get (idx := 222) hC' hh (by decide +kernel) rfl hL0 e1 h2 ?_
    refine rv_run hC'.1 hC'.2.1 (T := rv_t_X11_image) rv_k_X11_image 80 ?_
    refine rm_get (idx := 12) hC' hh (by decide +kernel) rfl hL0 e1 h0 ?_
    exact cp G' L' f' H locs _ q aW _ hG' (by rw [e1]; show fs[2]? ≠ _; rw [h2]; intro h9; cases h9) hj hLf hGG1 hbb hT hh hq hW (by decide +kernel) (by decide +kernel) (by decide +kernel)
  have hBL := hC.2.2.2.2.2.2.2.2.2.2.2.2.2.1
  refine rv_run hC.1 hC.2.1 (T := rv_t_X11_image) rv_k_X11_image 2 ?_
  refine ⟨fun hb0 => ?_, fun hb0 => ?_⟩
  · refine rv_widen (k := 358) (n := 10311) (by decide) (by decide) ?_
    refine rg_fix ⟨fun _ _ h => h, fun _ h => h, fun _ h => h⟩ (fun _ h => h) hBL ?_
    refine rv_run hC.1 hC.2.1 (T := rv_t_X11_image) rv_k_X11_image 80 ?_
    rcases h2 with h2 | ⟨q, h2, hq⟩
    · rw [h2] at hv2
      refine rm_get (idx := 222) hC hh (by decide +kernel) rfl hL0 e1 hv2 ?_
      refine rc_nnN (off := 5) hC (by decide +kernel) ?_
      refine rv_run hC.1 hC.2.1 (T := rv_t_X11_image) rv_k_X11_image 1 ?_
      exact rm_zret hC hh (by decide +kernel) rfl (Or.inl rfl) ⟨⟨⟨_, rfl, Or.inl ⟨hb0, by rw [e1]; exact hv2, rfl, by rw [e1]; exact hv2⟩⟩, rc_lv_rf 29⟩, hT⟩
    · rw [h2] at hv2
      refine rm_get (idx := 222) hC hh (by decide +kernel) rfl hL0 e1 hv2 ?_
      refine rc_nn (off := 5) (tgt := 44) hC (by decide +kernel) rfl ?_
      refine rv_run hC.1 hC.2.1 (T := rv_t_X11_image) rv_k_X11_image 80 ?_
      refine rm_get (idx := 12) hC hh (by decide +kernel) rfl hL0 e1 hv0 ?_
      refine rv_run hC.1 hC.2.1 (T := rv_t_X11_image) rv_k_X11_image 80 ?_
      refine rm_get (idx := 222) hC hh (by decide +kernel) rfl hL0 e1 hv2 ?_
      have hne : rk_fld (f0 a0) 2 ≠ some .null := by
        rw [e1]
        show fs[2]? ≠ _
        rw [hv2]
        intro h9
        cases h9
      exact cp G L f0 _ _ _ aW q _ hG hne (Or.inr hne) (rc_lv_rf 29) (fun _ _ h => h) hBL hT hh hW hq (by decide +kernel) (by decide +kernel) (by decide +kernel)
  · refine rv_run hC.1 hC.2.1 (T := rv_t_X11_image) rv_k_X11_image 80 ?_
    rcases h2 with h2 | ⟨q, h2, hq⟩
    · rw [h2] at hv2
      refine rm_get (idx := 222) hC hh (by decide +kernel) rfl hL0 e1 hv2 ?_
      refine rc_nnN (off := 14) hC (by decide +kernel) ?_
      refine rv_run hC.1 hC.2.1 (T := rv_t_X11_image) rv_k_X11_image 1 ?_
      refine rg_newW (i1 := 9) (i2 := 11) hC hAb hh hX0 hT (rk_tat_ok (i := 148) (by decide +kernel)) (rk_tat_ok (i := 150) (by decide +kernel)) ⟨by decide, by decide⟩ ⟨by decide, by decide⟩ (Nat.le_of_ble_eq_true rfl) (by decide +kernel) (by decide +kernel) (by decide +kernel) (fun G' L' f' q H1 locs1 hGG hLL hbb hff hqn hq hT' hh' => ?_)
      have hC' := rm_Cx_L hC hbb
      have hG' := hGG.1 _ _ hG
      have hL0' := hLL _ hL0
      have e1' : f' a0 = .inr (10, fs) := by rw [hff a0 hL0]; exact e1
      obtain ⟨-, fs', k1, k2, k3⟩ := ff G' L' f' hT' hG'
      rw [e1'] at k1
      cases k1
      refine rg_fix hGG hLL hbb ?_
      refine rc_putr (idx := 222) (i := 2) hC' hh' (by decide +kernel) rfl hL0' e1' (by omega) (fun H2 locs2 hh2 => ?_)
      have hT2 := tyP G' L' f' fs 2 q hT' hG' e1' k2 k3 (Or.inl rfl) hq
      have hne : a0 ∈ L' := hL0'
      have hLp : rc_Lv G' 17 f' (va_up f' a0 (.inr (10, fs.set 2 (.ref q)))) := (rc_LvOk G').2.2.2 17 f' f' a0 11 _ 2 2 rfl hG' (Or.inl ⟨10, fs, 2, _, e1', rfl, Int.le_refl _, Int.le_refl _⟩) (rc_lv_rf 17)
      exact t22 G' L' _ H2 locs2 aW q (fs.set 2 (.ref q)) hG' (Or.inl hb0) (rc_lv_tr (k := 29) (rg_lvL (lv := 29) hT hff rfl) (rg_lvG hGG.1 hLp) rfl rfl) hGG.1 hbb hT2 hh2 hL0' (va_up_self _ _ _) (by rw [List.getElem?_set_ne (by decide)]; exact hv0) (hGG.1 _ _ hW) (List.getElem?_set_self (by omega)) hq
    · rw [h2] at hv2
      refine rm_get (idx := 222) hC hh (by decide +kernel) rfl hL0 e1 hv2 ?_
      refine rc_nn (off := 14) (tgt := 22) hC (by decide +kernel) rfl ?_
      refine rv_widen (k := 358) (n := 10311) (by decide) (by decide) ?_
      refine rg_fix ⟨fun _ _ h => h, fun _ h => h, fun _ h => h⟩ (fun _ h => h) hBL ?_
      exact t22 G L f0 _ _ aW q fs hG (Or.inl hb0) (rc_lv_rf 29) (fun _ _ h => h) hBL hT hh hL0 e1 hv0 hW hv2 hq
theorem rg_lasts (a0 : Nat) (x y : Int32) : rg_Met base l cI c1 c2 c3 c4 c5 D ad adV rk_q_X11_lasts (358, 10311) [.ref a0, .int x, .int y] (fun G _ _ => G a0 = some 11 ∧ ∀ a, G a = some 11 → a = a0) (fun G f v _ u => (∃ x : Int32, v = some (.int x)) ∧ rc_Lv G 77 f u) 2276000 := by
  refine rg_start (M := rk_q_X11_lasts) (by decide +kernel) (cap := (358, 10311)) (mt := rk_mt [rk_q_X11_isEnd, rk_q_X10_copyFrom, rk_q_X10_step]) (ml := rk_mlf [(78, 0, 1, 0), (211, 1, 2, 10), (94, 2, 1, 10)]) (fl := rk_flf rk_ftX11) (fun s args h hN => rk_MlOk_of (List.forall_mem_cons.mpr ⟨rk_mck_ok (fun w hw => List.mem_cons_of_mem _ hw) h hN rk_cm_X11_isEnd rk_lk_X11_78, List.forall_mem_cons.mpr ⟨rk_mck_ok (fun w hw => List.mem_cons_of_mem _ hw) h hN rk_cm_X10_copyFrom rk_lk_X11_211, List.forall_mem_cons.mpr ⟨rk_mck_ok (fun w hw => List.mem_cons_of_mem _ hw) h hN rk_cm_X10_step rk_lk_X11_94, fun _ h => absurd h List.not_mem_nil⟩⟩⟩) (by decide +kernel)) (fun s args h hN => rk_flX11 (fun w hw => List.mem_cons_of_mem _ hw) h hN) (rm_cat1 rfl) (Nat.le_of_ble_eq_true rfl) ?_
  intro p e st m below meth c G X L f0 A hC hAb hh hX0 hXC hT hpre
  obtain ⟨hG, hU⟩ := hpre
  have hXt : X + 2276000 ≤ 2000000000 := hXC
  have hXC1 : X ≤ rk_top := by show X ≤ 2000000000; omega
  have tyP : ∀ (G' : Nat → Option Nat) (L' : List Nat) (f' : Nat → va_E) (fs : List Value) (i q : Nat), rm_TY cI c1 c2 c3 c4 c5 ad G' X L' f' → G' a0 = some 11 → f' a0 = .inr (10, fs) → fs.length = 4 → (∀ (i : Nat) (t : rk_AV) (v : Value), ([(2, 10, 0), (2, 9, 0), (3, 10, 0), (3, 10, 0)] : List rk_AV)[i]? = some t → fs[i]? = some v → rk_has G' X t v) → (i = 2 ∨ i = 3) → G' q = some 10 → rm_TY cI c1 c2 c3 c4 c5 ad G' X L' (va_up f' a0 (.inr (10, fs.set i (.ref q)))) := by
    intro G' L' f' fs i q hT hG e1 e2 e3 hi hq
    refine rk_TY_up hT hG ⟨_, rfl, by rw [List.length_set]; exact e2, fun j t' v' hj hv' => ?_⟩
    have hj : ([(2, 10, 0), (2, 9, 0), (3, 10, 0), (3, 10, 0)] : List rk_AV)[j]? = some t' := hj
    by_cases hji : j = i
    · subst hji
      rw [List.getElem?_set_self (by rw [e2]; omega)] at hv'
      cases hv'
      rcases hi with rfl | rfl
      · cases hj
        exact Or.inr ⟨q, rfl, hq⟩
      · cases hj
        exact Or.inr ⟨q, rfl, hq⟩
    · rw [List.getElem?_set_ne (Ne.symm hji)] at hv'
      exact e3 j t' v' hj hv'
  have ff : ∀ (G' : Nat → Option Nat) (L' : List Nat) (f' : Nat → va_E) (Y : Int), rm_TY cI c1 c2 c3 c4 c5 ad G' Y L' f' → G' a0 = some 11 → a0 ∈ L' ∧ ∃ fs : List Value, f' a0 = .inr (10, fs) ∧ fs.length = 4 ∧ (∀ (i : Nat) (t : rk_AV) (v : Value), ([(2, 10, 0), (2, 9, 0), (3, 10, 0), (3, 10, 0)] : List rk_AV)[i]? = some t → fs[i]? = some v → rk_has G' Y t v) := fun G' L' f' Y hT hG => rc_me hT hG rfl
  have hBL := hC.2.2.2.2.2.2.2.2.2.2.2.2.2.1
  have t38 : ∀ (G' : Nat → Option Nat) (L' : List Nat) (f' : Nat → va_E) (H : Heap) (locs : List Loc) (aW q : Nat) (fs : List Value), (∀ a ∈ L', base ≤ a) → G' a0 = some 11 → (∀ a, G' a = some 11 → a = a0) → rm_TY cI c1 c2 c3 c4 c5 ad G' X L' f' → rm_h D A st L' f' H locs → f' a0 = .inr (10, fs) → fs[0]? = some (.ref aW) → G' aW = some 10 → fs[3]? = some (.ref q) → G' q = some 10 → 0 ≤ x.toInt ∧ x.toInt ≤ 7 → rc_Lv G 77 f0 f' → (∀ a k, G a = some k → G' a = some k) → rv_G p l e { frames := rk_q_X11_lasts.2.2.2.2.1, cells := 358, slots := 10311, locals := rk_q_X11_lasts.2.2.2.2.2 } st m ([.ref a0, .int x, .int y] : List Value).toArray below meth c (MQ below (rk_Q (fun v u => ((∃ x : Int32, v = some (.int x)) ∧ rc_Lv G 77 f0 u) ∧ rm_TY cI c1 c2 c3 c4 c5 ad G' (X + 2276000) L' u) (rk_B D (rk_tys cI c1 c2 c3 c4 c5) L' A) A) ([.ref a0, .int x, .int y] : List Value).toArray st 358 10311 A) rk_q_X11_lasts.2.2.1 358 10311 H locs 38 [] [(0, .ref a0), (1, .int x), (2, .int y)] := by
    intro G' L' f' H locs aW q fs hbb hG hU hT hh e1 h0 hW h3 hq hx hLf hGG1
    have hC' := rm_Cx_L hC hbb
    have hL0 := (hT.1 a0 11 hG (by decide)).1
    have hqa : q ≠ a0 := fun h9 => by rw [h9, hG] at hq; cases hq
    have hWa : aW ≠ a0 := fun h9 => by rw [h9, hG] at hW; cases hW
    have g9 : ∀ a k, G' a = some k → k ≠ 11 → (fun a => if a = a0 then none else G' a) a = some k := by
      intro a k ha hk
      show (if a = a0 then none else G' a) = some k
      rw [if_neg (fun h9 => hk (by rw [h9, hG] at ha; cases ha; rfl))]
      exact ha
    refine rv_run hC'.1 hC'.2.1 (T := rv_t_X11_lasts) rv_k_X11_lasts 80 ?_
    refine rm_get (idx := 208) hC' hh (by decide +kernel) rfl hL0 e1 h3 ?_
    refine rv_run hC'.1 hC'.2.1 (T := rv_t_X11_lasts) rv_k_X11_lasts 80 ?_
    refine rm_get (idx := 12) hC' hh (by decide +kernel) rfl hL0 e1 h0 ?_
    obtain ⟨hLq, fq, q1, q2, q3⟩ := rc_me hT hq rfl
    refine rf_call (idx := 211) (z := 1) (n := 2) (ci := 9) (as := [.ref aW]) (rest := []) hC' hh hG hU (by decide +kernel) rfl hqa hLq q1 (c_X10_copyFrom base l cI c1 c2 c3 c4 c5 D ad adV) (by decide) rfl hX0 (by rw [Int.add_zero]; exact hXC1) hT (rk_all_c ⟨q, rfl, g9 _ _ hq (by decide)⟩ (rk_all_c ⟨aW, rfl, g9 _ _ hW (by decide)⟩ rk_all_0)) rfl rfl (Nat.le_of_ble_eq_true rfl) ⟨by decide, by decide⟩ (fun v u H1 locs1 hA hu0 hT1 hh1 hLr => ?_)
    cases rk_alt_vn hA
    have hLu := rc_lv_tr (k := 77) hLf (rg_lvG hGG1 hLr) rfl rfl
    rw [Int.add_zero] at hT1
    rw [e1] at hu0
    refine rv_run hC'.1 hC'.2.1 (T := rv_t_X11_lasts) rv_k_X11_lasts 80 ?_
    refine rm_get (idx := 208) hC' hh1 (by decide +kernel) rfl hL0 hu0 h3 ?_
    obtain ⟨hLq, fq, q1, q2, q3⟩ := rc_me hT1 hq rfl
    have q2 : fq.length = 10 := q2
    have hv3 : fq[3]? = some fq[3] := List.getElem?_eq_getElem (by omega)
    obtain ⟨aS, eS, hS⟩ := (q3 3 (2, 28, 0) _ rfl hv3 : rk_has G' X (2, 28, 0) _)
    rw [eS] at hv3
    refine rm_get (idx := 81) hC' hh1 (by decide +kernel) rfl hLq q1 hv3 ?_
    obtain ⟨hLS, hcS⟩ := hT1.1 aS 28 hS (by decide)
    obtain ⟨cA, C, g, f1, f2, f3⟩ := (hcS : ∃ (cA : ClassId) (C : String) (g : Nat → Option Nat), u aS = .inl (cA, 8, .inr (.inr (.inr (.inr g)))) ∧ (rk_tys cI c1 c2 c3 c4 c5)[4]? = some (cA, .object C) ∧ ∀ i, i < 8 → rk_has G' X (rk_E ad 28 i) (va_rf (g i)))
    obtain ⟨xn, hxn⟩ : ∃ n : Nat, x.toInt = (n : Int) := ⟨_, (Int.toNat_of_nonneg hx.1).symm⟩
    refine rv_run hC'.1 hC'.2.1 (T := rv_t_X11_lasts) rv_k_X11_lasts 1 ?_
    refine rc_aald hC' hh1 (by decide +kernel) hLS f1 f2 (by omega) (by omega) ?_
    rw [rm_clamp hxn]
    obtain ⟨aE, eE, hE⟩ := (f3 xn (by omega) : rk_has G' X (2, 1, 0) _)
    rw [eE]
    refine rc_astn (i := 3) (k := 3) hC' (by decide +kernel) rfl (by decide) rfl ?_
    have loop : ∀ (d : Nat) (k du : Int32) (kn : Nat) (f : Nat → va_E) (H : Heap) (locs : List Loc), rm_h D A st L' f H locs → f a0 = .inr (10, fs) → rc_Lv G 77 f0 f → rm_TY cI c1 c2 c3 c4 c5 ad G' (X + 5690 * ((kn : Int) - 1)) L' f → k.toInt = (kn : Int) → 1 ≤ kn → kn + d = 401 → rv_G p l e { frames := rk_q_X11_lasts.2.2.2.2.1, cells := 358, slots := 10311, locals := rk_q_X11_lasts.2.2.2.2.2 } st m ([.ref a0, .int x, .int y] : List Value).toArray below meth c (MQ below (rk_Q (fun v u => ((∃ x : Int32, v = some (.int x)) ∧ rc_Lv G 77 f0 u) ∧ rm_TY cI c1 c2 c3 c4 c5 ad G' (X + 2276000) L' u) (rk_B D (rk_tys cI c1 c2 c3 c4 c5) L' A) A) ([.ref a0, .int x, .int y] : List Value).toArray st 358 10311 A) rk_q_X11_lasts.2.2.1 358 10311 H locs 70 [] [(0, .ref a0), (1, .int x), (2, .int y), (3, .ref aE), (4, .int du), (5, .int k)] := by
      intro d
      induction d with
      | zero =>
        intro k du kn f H locs hh hf0 hLf hT hk hk1 hd
        refine rv_run hC'.1 hC'.2.1 (T := rv_t_X11_lasts) rv_k_X11_lasts 3 ?_
        refine ⟨fun _ => ?_, fun h => absurd h (by show ¬ k.toInt ≤ 400; omega)⟩
        refine rv_run hC'.1 hC'.2.1 (T := rv_t_X11_lasts) rv_k_X11_lasts 1 ?_
        exact rm_iret hC' hh (by decide +kernel) rfl ⟨⟨⟨_, rfl⟩, hLf⟩, rk_TY_X (by omega) hT⟩
      | succ d ih =>
        intro k du kn f H locs hh hf0 hLf hT hk hk1 hd
        refine rv_run hC'.1 hC'.2.1 (T := rv_t_X11_lasts) rv_k_X11_lasts 3 ?_
        refine ⟨fun h => absurd h (by show ¬ 400 < k.toInt; omega), fun _ => ?_⟩
        refine rv_run hC'.1 hC'.2.1 (T := rv_t_X11_lasts) rv_k_X11_lasts 80 ?_
        refine rm_get (idx := 208) hC' hh (by decide +kernel) rfl hL0 hf0 h3 ?_
        obtain ⟨hLq, fq, q1, q2, q3⟩ := rc_me hT hq rfl
        refine rf_call (idx := 94) (z := 2) (n := 1) (ci := 9) (as := []) (rest := []) hC' hh hG hU (by decide +kernel) rfl hqa hLq q1 (c_X10_step base l cI c1 c2 c3 c4 c5 D ad adV) (by decide) rfl (by omega) (by show _ ≤ (2000000000 : Int); omega) hT (rk_all_c ⟨q, rfl, g9 _ _ hq (by decide)⟩ rk_all_0) rfl rfl (Nat.le_of_ble_eq_true rfl) ⟨by decide, by decide⟩ (fun v u H1 locs1 hA hu0 hT1 hh1 hLr => ?_)
        cases rk_alt_vn hA
        have hLu := rc_lv_tr (k := 77) hLf (rg_lvG hGG1 hLr) rfl rfl
        rw [hf0] at hu0
        obtain ⟨hLE, fE, w1, w2, w3⟩ := rc_me hT1 hE rfl
        have w2 : fE.length = 8 := w2
        have hv5 : fE[5]? = some fE[5] := List.getElem?_eq_getElem (by omega)
        obtain ⟨rv, er, -⟩ := (w3 5 (1, 0, 0) _ rfl hv5 : rk_has G' (X + 5690 * ((kn : Int) - 1) + 5690) (1, 0, 0) _)
        rw [er] at hv5
        refine rv_run hC'.1 hC'.2.1 (T := rv_t_X11_lasts) rv_k_X11_lasts 80 ?_
        refine rm_get (idx := 215) hC' hh1 (by decide +kernel) rfl hLE w1 hv5 ?_
        refine rv_run hC'.1 hC'.2.1 (T := rv_t_X11_lasts) rv_k_X11_lasts 2 ?_
        refine ⟨fun _ => ?_, fun _ => ?_⟩
        · have e7 := rm_ad (x := k) hk rm_e1 (by omega) (by decide)
          refine rv_run hC'.1 hC'.2.1 (T := rv_t_X11_lasts) rv_k_X11_lasts 2 ?_
          exact ih (k + Int32.ofInt 1) du (kn + 1) u H1 locs1 hh1 hu0 hLu (rk_TY_X (by omega) hT1) (by rw [e7]; omega) (by omega) (by omega)
        · refine rv_run hC'.1 hC'.2.1 (T := rv_t_X11_lasts) rv_k_X11_lasts 1 ?_
          exact rm_iret hC' hh1 (by decide +kernel) rfl ⟨⟨⟨_, rfl⟩, hLu⟩, rk_TY_X (by omega) hT1⟩
    obtain ⟨hLE, fE, w1, w2, w3⟩ := rc_me hT1 hE rfl
    have w2 : fE.length = 8 := w2
    have hv5 : fE[5]? = some fE[5] := List.getElem?_eq_getElem (by omega)
    obtain ⟨rv, er, -⟩ := (w3 5 (1, 0, 0) _ rfl hv5 : rk_has G' X (1, 0, 0) _)
    rw [er] at hv5
    refine rv_run hC'.1 hC'.2.1 (T := rv_t_X11_lasts) rv_k_X11_lasts 80 ?_
    refine rm_get (idx := 215) hC' hh1 (by decide +kernel) rfl hLE w1 hv5 ?_
    refine rv_run hC'.1 hC'.2.1 (T := rv_t_X11_lasts) rv_k_X11_lasts 5 ?_
    exact loop 400 _ _ 1 u H1 locs1 hh1 hu0 hLu (rk_TY_X (by omega) hT1) rfl (by decide) rfl
  refine rv_run hC.1 hC.2.1 (T := rv_t_X11_lasts) rv_k_X11_lasts 80 ?_
  refine rc_callS (idx := 78) (z := 0) (n := 1) (as := [.int x]) (rest := []) hC hh (by decide +kernel) rfl (rm_of (c_X11_isEnd base l cI c1 c2 c3 c4 c5 D ad adV) [.int x]) hX0 (by rw [Int.add_zero]; exact hXC1) hT ⟨rk_all_c rk_aF rk_all_0, trivial⟩ rfl rfl (Nat.le_of_ble_eq_true rfl) ⟨by decide, by decide⟩ (fun v u H locs hP hh9 => ?_)
  obtain ⟨hA, -, hL1⟩ := hP
  have hu : f0 = u := Eq.symm (hL1 0 (by decide) rfl : rc_Rb 0 G f0 u)
  subst hu
  have hh := hh9
  clear hh9
  obtain ⟨w, rfl, hx⟩ := rk_alt_2 hA
  have hx : w.toInt = 0 ∨ (0 ≤ x.toInt ∧ x.toInt ≤ 7) := by
    rcases hx with ⟨-, h⟩ | h
    · obtain ⟨w9, e9, x9, e10, y1, y2⟩ := h _ List.mem_cons_self
      cases e9
      cases e10
      exact Or.inr ⟨y1, y2⟩
    · exact Or.inl h
  clear hA hL1
  have no : ∀ (pc : Nat) (lo : List (Nat × Value)), decode rk_q_X11_lasts.2.1 pc = .ok (.iconst (-1), 1) → decode rk_q_X11_lasts.2.1 (pc + 1) = .ok (.ireturn, 1) → rv_G p l e { frames := rk_q_X11_lasts.2.2.2.2.1, cells := 358, slots := 10311, locals := rk_q_X11_lasts.2.2.2.2.2 } st m ([.ref a0, .int x, .int y] : List Value).toArray below meth c (MQ below (fun _ st oc t => rg_P base cI c1 c2 c3 c4 c5 D ad G (X + 2276000) L A ((fun G f v _ u => (∃ x : Int32, v = some (.int x)) ∧ rc_Lv G 77 f u) G f0) oc t ∧ va_F A st t) ([.ref a0, .int x, .int y] : List Value).toArray st 358 10311 A) rk_q_X11_lasts.2.2.1 0 0 H locs pc [] lo := by
    intro pc lo d1 d2
    refine rv_widen (k := 358) (n := 10311) (by decide) (by decide) ?_
    refine rg_fix ⟨fun _ _ h => h, fun _ h => h, fun _ h => h⟩ (fun _ h => h) hBL ?_
    intro ls hl
    refine lv_iconst hC.1 hC.2.1 d1 rfl ?_
    exact rm_iret hC hh d2 rfl ⟨⟨⟨_, rfl⟩, rc_lv_rf 77⟩, rk_TY_X (by omega) hT⟩ ls hl
  refine rv_run hC.1 hC.2.1 (T := rv_t_X11_lasts) rv_k_X11_lasts 1 ?_
  refine ⟨fun _ => no _ _ (by decide +kernel) (by decide +kernel), fun h => ?_⟩
  have hx := hx.resolve_left h
  refine rv_run hC.1 hC.2.1 (T := rv_t_X11_lasts) rv_k_X11_lasts 3 ?_
  refine ⟨fun _ => no _ _ (by decide +kernel) (by decide +kernel), fun _ => ?_⟩
  refine rv_run hC.1 hC.2.1 (T := rv_t_X11_lasts) rv_k_X11_lasts 3 ?_
  refine ⟨fun _ => ?_, fun _ => no _ _ (by decide +kernel) (by decide +kernel)⟩
  obtain ⟨hL0, fs, e1, e2, e3⟩ := ff G L f0 X hT hG
  have hv0 : fs[0]? = some fs[0] := List.getElem?_eq_getElem (by omega)
  obtain ⟨aW, eW, hW⟩ := (e3 0 (2, 10, 0) _ rfl hv0 : rk_has G X (2, 10, 0) _)
  rw [eW] at hv0
  have hv3 : fs[3]? = some fs[3] := List.getElem?_eq_getElem (by omega)
  have h3 := (e3 3 (3, 10, 0) _ rfl hv3 : fs[3] = .null ∨ ∃ q : Nat, fs[3] = .ref q ∧ G q = some 10)
  refine rv_run hC.1 hC.2.1 (T := rv_t_X11_lasts) rv_k_X11_lasts 80 ?_
  rcases h3 with h3 | ⟨q, h3, hq⟩
  · rw [h3] at hv3
    refine rm_get (idx := 208) hC hh (by decide +kernel) rfl hL0 e1 hv3 ?_
    refine rc_nnN (off := 14) hC (by decide +kernel) ?_
    refine rv_run hC.1 hC.2.1 (T := rv_t_X11_lasts) rv_k_X11_lasts 1 ?_
    refine rg_newW (i1 := 9) (i2 := 11) hC hAb hh hX0 hT (rk_tat_ok (i := 148) (by decide +kernel)) (rk_tat_ok (i := 150) (by decide +kernel)) ⟨by decide, by decide⟩ ⟨by decide, by decide⟩ (Nat.le_of_ble_eq_true rfl) (by decide +kernel) (by decide +kernel) (by decide +kernel) (fun G' L' f' q H1 locs1 hGG hLL hbb hff hqn hq hT' hh' => ?_)
    have hC' := rm_Cx_L hC hbb
    have hG' := hGG.1 _ _ hG
    have hU' : ∀ a, G' a = some 11 → a = a0 := fun a ha => hU a (hGG.2.1 a ha)
    have hL0' := hLL _ hL0
    have e1' : f' a0 = .inr (10, fs) := by rw [hff a0 hL0]; exact e1
    obtain ⟨-, fs', k1, k2, k3⟩ := ff G' L' f' X hT' hG'
    rw [e1'] at k1
    cases k1
    refine rg_fix hGG hLL hbb ?_
    refine rc_putr (idx := 208) (i := 3) hC' hh' (by decide +kernel) rfl hL0' e1' (by omega) (fun H2 locs2 hh2 => ?_)
    have hT2 := tyP G' L' f' fs 3 q hT' hG' e1' k2 k3 (Or.inr rfl) hq
    have hLp : rc_Lv G' 65 f' (va_up f' a0 (.inr (10, fs.set 3 (.ref q)))) := (rc_LvOk G').2.2.2 65 f' f' a0 11 _ 3 3 rfl hG' (Or.inl ⟨10, fs, 3, _, e1', rfl, Int.le_refl _, Int.le_refl _⟩) (rc_lv_rf 65)
    exact t38 G' L' _ H2 locs2 aW q (fs.set 3 (.ref q)) hbb hG' hU' hT2 hh2 (va_up_self _ _ _) (by rw [List.getElem?_set_ne (by decide)]; exact hv0) (hGG.1 _ _ hW) (List.getElem?_set_self (by omega)) hq hx (rc_lv_tr (k := 77) (rg_lvL (lv := 77) hT hff rfl) (rg_lvG hGG.1 hLp) rfl rfl) hGG.1
  · rw [h3] at hv3
    refine rm_get (idx := 208) hC hh (by decide +kernel) rfl hL0 e1 hv3 ?_
    refine rc_nn (off := 14) (tgt := 38) hC (by decide +kernel) rfl ?_
    refine rv_widen (k := 358) (n := 10311) (by decide) (by decide) ?_
    refine rg_fix ⟨fun _ _ h => h, fun _ h => h, fun _ h => h⟩ (fun _ h => h) hBL ?_
    exact t38 G L f0 _ _ aW q fs hBL hG hU hT hh e1 hv0 hW hv3 hq hx (rc_lv_rf 77) (fun _ _ h => h)
end RMX
