def rv_t_X12_way : rv_T := (.branch 0 (.branch 0 (.branch 0 (.branch 0 (.branch 0 (.branch 0 (.branch 0 (.branch 0 (.leaf (0, .aload_n 0, 1)) (.leaf (128, .ireturn, 1))) (.leaf (64, .iload 4, 2))) (.branch 0 (.branch 0 (.leaf (32, .iadd, 1)) (.leaf (160, .iinc 6 (1), 3))) (.leaf (99999, .nop, 1)))) (.branch 0 (.branch 0 (.leaf (144, .aload_n 0, 1)) (.leaf (80, .bipush (8), 2))) (.branch 0 (.leaf (48, .iconst (-1), 1)) (.leaf (112, .iload_n 3, 1))))) (.branch 0 (.branch 0 (.leaf (72, .ireturn, 1)) (.branch 0 (.leaf (40, .bipush (32), 2)) (.leaf (104, .aload_n 0, 1)))) (.branch 0 (.leaf (152, .invokevirtual 97, 3)) (.leaf (56, .iconst (-1), 1))))) (.branch 0 (.branch 0 (.branch 0 (.branch 0 (.leaf (132, .iload 6, 2)) (.leaf (68, .if_icmp .lt (5), 3))) (.branch 0 (.leaf (36, .istore 4, 2)) (.leaf (100, .iconst (-1), 1)))) (.branch 0 (.leaf (148, .invokevirtual 318, 3)) (.branch 0 (.leaf (52, .iconst 0, 1)) (.leaf (116, .iload_n 3, 1))))) (.branch 0 (.branch 0 (.leaf (99999, .nop, 1)) (.branch 0 (.leaf (44, .if_icmp .ne (14), 3)) (.leaf (108, .iload 5, 2)))) (.branch 0 (.branch 0 (.leaf (28, .aload_n 0, 1)) (.leaf (92, .bipush (99), 2))) (.branch 0 (.leaf (60, .iconst (-1), 1)) (.leaf (124, .if_icmp .lt (5), 3))))))) (.branch 0 (.branch 0 (.branch 0 (.branch 0 (.branch 0 (.branch 0 (.leaf (2, .putfield 29, 3)) (.leaf (130, .istore 6, 2))) (.leaf (66, .bipush (32), 2))) (.leaf (98, .ireturn, 1))) (.branch 0 (.branch 0 (.leaf (18, .ifCond .eq (8), 3)) (.leaf (82, .idiv, 1))) (.leaf (99999, .nop, 1)))) (.branch 0 (.branch 0 (.branch 0 (.branch 0 (.leaf (10, .ifCond .eq (16), 3)) (.leaf (138, .aload_n 0, 1))) (.leaf (74, .iload_n 2, 1))) (.branch 0 (.branch 0 (.leaf (42, .iload_n 2, 1)) (.leaf (170, .invokevirtual 318, 3))) (.leaf (99999, .nop, 1)))) (.branch 0 (.leaf (26, .iconst (-1), 1)) (.leaf (58, .iload 4, 2))))) (.branch 0 (.branch 0 (.branch 0 (.branch 0 (.branch 0 (.leaf (6, .iload_n 1, 1)) (.leaf (134, .iload_n 3, 1))) (.leaf (99999, .nop, 1))) (.branch 0 (.branch 0 (.leaf (38, .iload 4, 2)) (.leaf (166, .aload_n 0, 1))) (.leaf (99999, .nop, 1)))) (.branch 0 (.branch 0 (.leaf (22, .iload_n 2, 1)) (.leaf (86, .getfield 23, 3))) (.leaf (118, .getfield 23, 3)))) (.branch 0 (.branch 0 (.branch 0 (.leaf (14, .iload_n 2, 1)) (.leaf (78, .iload 4, 2))) (.leaf (110, .iaload, 1))) (.branch 0 (.branch 0 (.leaf (158, .istore 5, 2)) (.leaf (94, .if_icmp .lt (5), 3))) (.leaf (99999, .nop, 1))))))) (.branch 0 (.branch 0 (.branch 0 (.branch 0 (.branch 0 (.branch 0 (.branch 0 (.leaf (1, .iconst 0, 1)) (.leaf (129, .iconst 0, 1))) (.leaf (99999, .nop, 1))) (.branch 0 (.leaf (33, .invokevirtual 97, 3)) (.leaf (97, .iconst (-1), 1)))) (.branch 0 (.leaf (145, .iload 5, 2)) (.branch 0 (.leaf (49, .if_icmp .ne (7), 3)) (.leaf (113, .ifCond .lt (14), 3))))) (.branch 0 (.branch 0 (.leaf (73, .aload_n 0, 1)) (.branch 0 (.leaf (169, .iload_n 2, 1)) (.leaf (105, .getfield 23, 3)))) (.branch 0 (.leaf (89, .iload 5, 2)) (.branch 0 (.leaf (57, .ireturn, 1)) (.leaf (121, .iload 5, 2)))))) (.branch 0 (.branch 0 (.branch 0 (.leaf (5, .aload_n 0, 1)) (.leaf (101, .if_icmp .ne (11), 3))) (.branch 0 (.branch 0 (.leaf (21, .iload_n 1, 1)) (.leaf (85, .aload_n 0, 1))) (.branch 0 (.leaf (53, .goto (4), 3)) (.leaf (117, .aload_n 0, 1))))) (.branch 0 (.branch 0 (.branch 0 (.branch 0 (.leaf (13, .aload_n 0, 1)) (.leaf (141, .iload 5, 2))) (.leaf (99999, .nop, 1))) (.leaf (173, .ireturn, 1))) (.branch 0 (.branch 0 (.branch 0 (.leaf (29, .bipush (32), 2)) (.leaf (157, .idiv, 1))) (.leaf (99999, .nop, 1))) (.leaf (61, .if_icmp .eq (10), 3)))))) (.branch 0 (.branch 0 (.branch 0 (.branch 0 (.leaf (99999, .nop, 1)) (.branch 0 (.leaf (163, .goto (-31), 3)) (.leaf (99, .iload_n 3, 1)))) (.branch 0 (.branch 0 (.leaf (147, .iload_n 2, 1)) (.leaf (83, .istore 5, 2))) (.leaf (99999, .nop, 1)))) (.branch 0 (.branch 0 (.branch 0 (.leaf (139, .bipush (8), 2)) (.leaf (75, .invokevirtual 315, 3))) (.leaf (43, .iadd, 1))) (.branch 0 (.branch 0 (.branch 0 (.leaf (27, .ireturn, 1)) (.leaf (155, .bipush (8), 2))) (.leaf (91, .iaload, 1))) (.leaf (123, .iaload, 1))))) (.branch 0 (.branch 0 (.branch 0 (.branch 0 (.branch 0 (.leaf (7, .invokevirtual 127, 3)) (.leaf (135, .if_icmp .ge (31), 3))) (.leaf (71, .iconst (-1), 1))) (.leaf (167, .iload 5, 2))) (.branch 0 (.branch 0 (.branch 0 (.leaf (23, .if_icmp .ne (5), 3)) (.leaf (151, .iadd, 1))) (.leaf (99999, .nop, 1))) (.leaf (99999, .nop, 1)))) (.branch 0 (.branch 0 (.branch 0 (.branch 0 (.leaf (15, .invokevirtual 127, 3)) (.leaf (143, .imul, 1))) (.leaf (99999, .nop, 1))) (.branch 0 (.leaf (47, .iload_n 3, 1)) (.leaf (111, .ireturn, 1)))) (.branch 0 (.leaf (31, .iload_n 1, 1)) (.leaf (127, .iconst (-1), 1))))))))
theorem rv_k_X12_way : rv_tok cX12_way rv_t_X12_way = true := by decide +kernel
section RMX
variable (base : Nat) (l : Launch) (cI c1 c2 c3 c4 c5 : ClassId) (D : va_G) (ad adV : Nat → Nat)
theorem h_way (a0 : Nat) (x y i : Int32) : rm_Hm base l cI c1 c2 c3 c4 c5 D ad adV rk_q_X12_way [.ref a0, .int x, .int y, .int i] (fun G _ f => G a0 = some 12) (fun G _ f v u => ∃ z : Int32, v = some (.int z)) 0 1 := by
  unfold rm_Hm
  refine rm_start (M := rk_q_X12_way) (rk_hNw base ad adV) (rk_hNc base ad adV) (by decide +kernel) (mt := rk_mt [rk_q_X12_isEnd, rk_q_X12_laysHops, rk_q_X12_onward, rk_q_X12_otherOf]) (ml := rk_mlf [(127, 0, 2, 12), (315, 1, 2, 12), (318, 2, 3, 12), (97, 3, 2, 12)]) (fl := rk_flf rk_ftX12) (fun s args h hN => rk_MlOk_of (List.forall_mem_cons.mpr ⟨rk_mck_ok (fun w hw => List.mem_cons_of_mem _ hw) h hN rk_cm_X12_isEnd rk_lk_X12_127, List.forall_mem_cons.mpr ⟨rk_mck_ok (fun w hw => List.mem_cons_of_mem _ hw) h hN rk_cm_X12_laysHops rk_lk_X12_315, List.forall_mem_cons.mpr ⟨rk_mck_ok (fun w hw => List.mem_cons_of_mem _ hw) h hN rk_cm_X12_onward rk_lk_X12_318, List.forall_mem_cons.mpr ⟨rk_mck_ok (fun w hw => List.mem_cons_of_mem _ hw) h hN rk_cm_X12_otherOf rk_lk_X12_97, fun _ h => absurd h List.not_mem_nil⟩⟩⟩⟩) (by decide +kernel)) (fun s args h hN => rk_flX12 (fun w hw => List.mem_cons_of_mem _ hw) h hN) (rm_cat1 rfl) (Nat.le_of_ble_eq_true rfl) ?_
  intro p e st m below meth c G X L f0 A hC hh hX0 hXC hT hpre
  have hcs : 0 ≤ 0 ∧ 0 ≤ 0 := ⟨Nat.le_refl 0, Nat.le_refl 0⟩
  have hG : G a0 = some 12 := hpre
  have ret : ∀ (z : Int32) (pc : Nat) (lo : List (Nat × Value)) (f : Nat → va_E) (H : Heap) (locs : List Loc), decode rk_q_X12_way.2.1 pc = .ok (.ireturn, 1) → rm_h D A st L f H locs → rm_TY cI c1 c2 c3 c4 c5 ad G X L f → rm_Lv G 1 f0 f → rv_G p l e { frames := rk_q_X12_way.2.2.2.2.1, cells := 0, slots := 0, locals := rk_q_X12_way.2.2.2.2.2 } st m ([.ref a0, .int x, .int y, .int i] : List Value).toArray below meth c (MQ below (rk_Q (fun v u => rm_TY cI c1 c2 c3 c4 c5 ad G (X + 0) L u ∧ rm_Lv G 1 f0 u ∧ (fun G _ f v u => ∃ z : Int32, v = some (.int z)) G X f0 v u) (rk_B D (rk_tys cI c1 c2 c3 c4 c5) L A) A) ([.ref a0, .int x, .int y, .int i] : List Value).toArray st 0 0 A) rk_q_X12_way.2.2.1 0 0 H locs pc [.int z] lo := by
    intro z pc lo f H locs hd hh hT hLt
    refine rm_iret hC hh hd rfl ⟨by rw [Int.add_zero]; exact hT, hLt, ⟨z, rfl⟩⟩
  refine rv_run hC.1 hC.2.1 (T := rv_t_X12_way) rv_k_X12_way 80 ?_
  refine w_pf hC hh hT hG (by omega) 1 29 (by decide +kernel) rfl rfl (Or.inl ⟨rfl, _, rfl⟩) ⟨_, rfl, by decide, by decide⟩ rfl (by decide) (fun f H locs hh hT hL hP => ?_)
  have hLt := hL
  have no : ∀ (f : Nat → va_E) (H : Heap) (locs : List Loc), rm_h D A st L f H locs → rm_TY cI c1 c2 c3 c4 c5 ad G X L f → rm_Lv G 1 f0 f → rv_G p l e { frames := rk_q_X12_way.2.2.2.2.1, cells := 0, slots := 0, locals := rk_q_X12_way.2.2.2.2.2 } st m ([.ref a0, .int x, .int y, .int i] : List Value).toArray below meth c (MQ below (rk_Q (fun v u => rm_TY cI c1 c2 c3 c4 c5 ad G (X + 0) L u ∧ rm_Lv G 1 f0 u ∧ (fun G _ f v u => ∃ z : Int32, v = some (.int z)) G X f0 v u) (rk_B D (rk_tys cI c1 c2 c3 c4 c5) L A) A) ([.ref a0, .int x, .int y, .int i] : List Value).toArray st 0 0 A) rk_q_X12_way.2.2.1 0 0 H locs 26 [] [(0, .ref a0), (1, .int x), (2, .int y), (3, .int i)] := by
    intro f H locs hh hT hLt
    refine rv_run hC.1 hC.2.1 (T := rv_t_X12_way) rv_k_X12_way 1 ?_
    exact ret _ _ _ f H locs (by decide +kernel) hh hT hLt
  refine rv_run hC.1 hC.2.1 (T := rv_t_X12_way) rv_k_X12_way 80 ?_
  refine w_k hC hh hT hG (by omega) (by omega) 127 (by decide +kernel) rfl (c_X12_isEnd base l cI c1 c2 c3 c4 c5 D ad adV) (rk_all_c (rk_aM hG) (rk_all_c rk_aF rk_all_0)) rfl rfl (Nat.le_of_ble_eq_true rfl) hcs (fun v f H locs hh hT hL hA => ?_)
  rw [Int.add_zero] at hT
  have hLt := rm_lv_tr (k := 1) hLt hL rfl rfl
  obtain ⟨b, rfl, hb⟩ := rk_alt_2 hA
  refine rv_run hC.1 hC.2.1 (T := rv_t_X12_way) rv_k_X12_way 1 ?_
  refine ⟨fun _ => no f H locs hh hT hLt, fun h => ?_⟩
  obtain ⟨xn, hx, hxn⟩ : ∃ n : Nat, x.toInt = (n : Int) ∧ n < 8 := by
    rcases hb with ⟨-, hb⟩ | hb
    · obtain ⟨w9, e9, x9, e10, y1, y2⟩ := hb _ List.mem_cons_self
      cases e9
      cases e10
      exact ⟨x.toInt.toNat, by omega, by omega⟩
    · exact absurd hb h
  refine rv_run hC.1 hC.2.1 (T := rv_t_X12_way) rv_k_X12_way 80 ?_
  refine w_k hC hh hT hG (by omega) (by omega) 127 (by decide +kernel) rfl (c_X12_isEnd base l cI c1 c2 c3 c4 c5 D ad adV) (rk_all_c (rk_aM hG) (rk_all_c rk_aF rk_all_0)) rfl rfl (Nat.le_of_ble_eq_true rfl) hcs (fun v f H locs hh hT hL hA => ?_)
  rw [Int.add_zero] at hT
  have hLt := rm_lv_tr (k := 1) hLt hL rfl rfl
  obtain ⟨b, rfl, hb⟩ := rk_alt_2 hA
  refine rv_run hC.1 hC.2.1 (T := rv_t_X12_way) rv_k_X12_way 1 ?_
  refine ⟨fun _ => no f H locs hh hT hLt, fun h => ?_⟩
  obtain ⟨tn, hy, hyn⟩ : ∃ n : Nat, y.toInt = (n : Int) ∧ n < 8 := by
    rcases hb with ⟨-, hb⟩ | hb
    · obtain ⟨w9, e9, x9, e10, y1, y2⟩ := hb _ List.mem_cons_self
      cases e9
      cases e10
      exact ⟨y.toInt.toNat, by omega, by omega⟩
    · exact absurd hb h
  refine rv_run hC.1 hC.2.1 (T := rv_t_X12_way) rv_k_X12_way 3 ?_
  refine ⟨fun _ => ?_, fun _ => no f H locs hh hT hLt⟩
  have ex := rm_ad (x := (Int8.ofInt 32).toInt32) (y := x) (a := 32) rfl hx (by omega) (by omega)
  have hs : ((Int8.ofInt 32).toInt32 + x).toInt = ((32 + xn : Nat) : Int) := by rw [ex]; omega
  refine rv_run hC.1 hC.2.1 (T := rv_t_X12_way) rv_k_X12_way 80 ?_
  refine w_h hC hh hT hG (by omega) (by omega) 97 (by decide +kernel) rfl (h_otherOf base l cI c1 c2 c3 c4 c5 D ad adV a0 _ (32 + xn) hs (by omega)) hG rfl rfl (Nat.le_of_ble_eq_true rfl) hcs (fun v f1 H locs hh1 hT1 hL hP => ?_)
  obtain ⟨⟨o, rfl, ho⟩, hu⟩ := hP
  subst hu
  have hh := hh1
  have hT := hT1
  clear hh1 hT1 hL
  rw [Int.add_zero] at hT
  have ob := rm_scT hT hG (s := 32 + xn) (w := 0) (by omega) (by decide) rfl
  refine rv_run hC.1 hC.2.1 (T := rv_t_X12_way) rv_k_X12_way 6 ?_
  refine ⟨fun _ => ?_, fun _ => ?_⟩
  · have t71 : rv_G p l e { frames := rk_q_X12_way.2.2.2.2.1, cells := 0, slots := 0, locals := rk_q_X12_way.2.2.2.2.2 } st m ([.ref a0, .int x, .int y, .int i] : List Value).toArray below meth c (MQ below (rk_Q (fun v u => rm_TY cI c1 c2 c3 c4 c5 ad G (X + 0) L u ∧ rm_Lv G 1 f0 u ∧ (fun G _ f v u => ∃ z : Int32, v = some (.int z)) G X f0 v u) (rk_B D (rk_tys cI c1 c2 c3 c4 c5) L A) A) ([.ref a0, .int x, .int y, .int i] : List Value).toArray st 0 0 A) rk_q_X12_way.2.2.1 0 0 H locs 71 [] [(0, .ref a0), (1, .int x), (2, .int y), (3, .int i), (4, .int o)] := by
      refine rv_run hC.1 hC.2.1 (T := rv_t_X12_way) rv_k_X12_way 1 ?_
      exact ret _ _ _ f1 H locs (by decide +kernel) hh hT hLt
    refine rv_run hC.1 hC.2.1 (T := rv_t_X12_way) rv_k_X12_way 3 ?_
    refine ⟨fun _ => t71, fun h => ?_⟩
    have h : ¬ o.toInt = -1 := h
    refine rv_run hC.1 hC.2.1 (T := rv_t_X12_way) rv_k_X12_way 3 ?_
    refine ⟨fun h9 => ?_, fun _ => t71⟩
    have h9 : o.toInt < 32 := h9
    obtain ⟨rn, hrn⟩ : ∃ n : Nat, o.toInt / 8 = (n : Int) := ⟨(o.toInt / 8).toNat, by omega⟩
    have er : (o / (Int8.ofInt 8).toInt32).toInt = (rn : Int) := by
      rw [rk_div_e (by omega) (by decide)]
      exact hrn
    have hr4 : rn < 4 := by omega
    clear t71 no
    refine rv_run hC.1 hC.2.1 (T := rv_t_X12_way) rv_k_X12_way 80 ?_
    refine w_h hC hh hT hG (by omega) (by omega) 315 (by decide +kernel) rfl (h_laysHops base l cI c1 c2 c3 c4 c5 D ad adV a0 y tn hy hyn) hG rfl rfl (Nat.le_of_ble_eq_true rfl) hcs (fun v f H locs hh hT hL hP => ?_)
    rw [Int.add_zero] at hT
    obtain ⟨rfl, hnow, hFX⟩ := hP
    rw [← hnow] at hFX
    have hLt := rm_lv_tr (k := 1) hLt hL rfl rfl
    obtain ⟨hL0, fs, aN, aA, aT, aH, aI, e1, e2, ⟨n1, n2⟩, -, -, ⟨t1, t2⟩, -⟩ := rm_me hT hG
    obtain ⟨hLH, g, hg, th⟩ := rm_ro hT t2 rfl
    have hrw : rm_rw G f a0 10 33 = g := rm_rw_of e1 t1 t2 hg
    refine rv_run hC.1 hC.2.1 (T := rv_t_X12_way) rv_k_X12_way 80 ?_
    refine ⟨by decide, ?_⟩
    refine rm_get (idx := 23) hC hh (by decide +kernel) rfl hL0 e1 t1 ?_
    refine rv_run hC.1 hC.2.1 (T := rv_t_X12_way) rv_k_X12_way 1 ?_
    refine rm_iald hC hh (by decide +kernel) hLH hg rfl (by omega) (by omega) ?_
    rw [rm_clamp er]
    refine rv_run hC.1 hC.2.1 (T := rv_t_X12_way) rv_k_X12_way 2 ?_
    refine ⟨fun h99 => ?_, fun _ => ?_⟩
    · have h99 : (g rn).toInt < 99 := h99
      refine rv_run hC.1 hC.2.1 (T := rv_t_X12_way) rv_k_X12_way 3 ?_
      refine ⟨fun _ => ?_, fun _ => ?_⟩
      · refine rv_run hC.1 hC.2.1 (T := rv_t_X12_way) rv_k_X12_way 2 ?_
        refine ⟨fun _ => ?_, fun hi0 => ?_⟩
        · refine rv_run hC.1 hC.2.1 (T := rv_t_X12_way) rv_k_X12_way 1 ?_
          exact ret _ _ _ f H locs (by decide +kernel) hh hT hLt
        · have hi0 : 0 ≤ i.toInt := hi0
          refine rv_run hC.1 hC.2.1 (T := rv_t_X12_way) rv_k_X12_way 80 ?_
          refine rm_get (idx := 23) hC hh (by decide +kernel) rfl hL0 e1 t1 ?_
          refine rv_run hC.1 hC.2.1 (T := rv_t_X12_way) rv_k_X12_way 1 ?_
          refine rm_iald hC hh (by decide +kernel) hLH hg rfl (by omega) (by omega) ?_
          rw [rm_clamp er]
          refine rv_run hC.1 hC.2.1 (T := rv_t_X12_way) rv_k_X12_way 1 ?_
          refine ⟨fun hi1 => ?_, fun _ => ?_⟩
          · have hi1 : i.toInt < (g rn).toInt := hi1
            rw [← hrw] at hi1 h99
            clear hg th hrw e1 t1 hnow
            have loop : ∀ (d : Nat) (k r : Int32) (kn rm : Nat) (H : Heap) (locs : List Loc), rm_h D A st L f H locs → k.toInt = (kn : Int) → (kn : Int) + (d : Int) = i.toInt → r.toInt = (rm : Int) → rm < 4 → (rm_rw G f a0 10 33 rm).toInt = (rm_rw G f a0 10 33 rn).toInt - (kn : Int) → rv_G p l e { frames := rk_q_X12_way.2.2.2.2.1, cells := 0, slots := 0, locals := rk_q_X12_way.2.2.2.2.2 } st m ([.ref a0, .int x, .int y, .int i] : List Value).toArray below meth c (MQ below (rk_Q (fun v u => rm_TY cI c1 c2 c3 c4 c5 ad G (X + 0) L u ∧ rm_Lv G 1 f0 u ∧ (fun G _ f v u => ∃ z : Int32, v = some (.int z)) G X f0 v u) (rk_B D (rk_tys cI c1 c2 c3 c4 c5) L A) A) ([.ref a0, .int x, .int y, .int i] : List Value).toArray st 0 0 A) rk_q_X12_way.2.2.1 0 0 H locs 132 [] [(0, .ref a0), (1, .int x), (2, .int y), (3, .int i), (4, .int o), (5, .int r), (6, .int k)] := by
              intro d
              induction d with
              | zero =>
                intro k r kn rm H locs hh hk hd hr hrm hw
                obtain ⟨q1, q2, q3⟩ := hFX rm hrm (by omega)
                refine rv_run hC.1 hC.2.1 (T := rv_t_X12_way) rv_k_X12_way 3 ?_
                refine ⟨fun _ => ?_, fun h => absurd h (by show ¬ k.toInt < i.toInt; omega)⟩
                refine rv_run hC.1 hC.2.1 (T := rv_t_X12_way) rv_k_X12_way 80 ?_
                refine w_h hC hh hT hG (by omega) (by omega) 318 (by decide +kernel) rfl (h_onward base l cI c1 c2 c3 c4 c5 D ad adV a0 _ _ rm tn hr hrm hy hyn) ⟨hG, q3⟩ rfl rfl (Nat.le_of_ble_eq_true rfl) hcs (fun v f1 H locs hh1 hT1 hL hP => ?_)
                obtain ⟨⟨z, p, rfl, hz⟩, hu⟩ := hP
                subst hu
                have hh := hh1
                have hT := hT1
                clear hh1 hT1 hL
                rw [Int.add_zero] at hT
                exact ret _ _ _ _ H locs (by decide +kernel) hh hT hLt
              | succ d ih =>
                intro k r kn rm H locs hh hk hd hr hrm hw
                obtain ⟨q1, q2, q3⟩ := hFX rm hrm (by omega)
                have ek := rm_ad (x := k) hk rm_e1 (by omega) (by decide)
                refine rv_run hC.1 hC.2.1 (T := rv_t_X12_way) rv_k_X12_way 3 ?_
                refine ⟨fun h => absurd h (by show ¬ i.toInt ≤ k.toInt; omega), fun _ => ?_⟩
                refine rv_run hC.1 hC.2.1 (T := rv_t_X12_way) rv_k_X12_way 80 ?_
                refine w_h hC hh hT hG (by omega) (by omega) 318 (by decide +kernel) rfl (h_onward base l cI c1 c2 c3 c4 c5 D ad adV a0 _ _ rm tn hr hrm hy hyn) ⟨hG, q3⟩ rfl rfl (Nat.le_of_ble_eq_true rfl) hcs (fun v f1 H locs hh1 hT1 hL hP => ?_)
                obtain ⟨⟨z, p, rfl, hz, hp1, hp2, hon⟩, hu⟩ := hP
                subst hu
                have hh := hh1
                have hT := hT1
                clear hh1 hT1 hL
                rw [Int.add_zero] at hT
                have e8 := rm_mu (x := (Int8.ofInt 8).toInt32) (y := r) (a := 8) (b := 4) rfl (by decide) (by omega) (by decide)
                have e9 := rm_ad (y := z) e8 hz (by omega) (by omega)
                have hs : ((Int8.ofInt 8).toInt32 * r + z).toInt = ((8 * rm + p : Nat) : Int) := by rw [e9]; omega
                refine rv_run hC.1 hC.2.1 (T := rv_t_X12_way) rv_k_X12_way 1 ?_
                refine w_h hC hh hT hG (by omega) (by omega) 97 (by decide +kernel) rfl (h_otherOf base l cI c1 c2 c3 c4 c5 D ad adV a0 _ (8 * rm + p) hs (by omega)) hG rfl rfl (Nat.le_of_ble_eq_true rfl) hcs (fun v f1 H locs hh1 hT1 hL hP => ?_)
                obtain ⟨⟨o2, rfl, ho2⟩, hu⟩ := hP
                subst hu
                have hh := hh1
                have hT := hT1
                clear hh1 hT1 hL
                rw [Int.add_zero] at hT
                rcases hon with ⟨hon, -⟩ | ⟨-, g1, g2, g3⟩
                · omega
                have g0 : o2.toInt = wy_o (rm_now G f1 a0) (8 * rm + p) := ho2
                have ed : (o2 / (Int8.ofInt 8).toInt32).toInt = (((wy_o (rm_now G f1 a0) (8 * rm + p)).toNat / 8 : Nat) : Int) := by
                  rw [rk_div_e (by omega) (by decide)]
                  show o2.toInt / 8 = _
                  omega
                refine rv_run hC.1 hC.2.1 (T := rv_t_X12_way) rv_k_X12_way 5 ?_
                refine ⟨by decide, ?_⟩
                exact ih (k + Int32.ofInt 1) _ (kn + 1) _ H locs hh (by rw [ek]; omega) (by omega) ed (by omega) (by omega)
            refine rv_run hC.1 hC.2.1 (T := rv_t_X12_way) rv_k_X12_way 2 ?_
            exact loop i.toInt.toNat _ _ 0 rn H locs hh rfl (by omega) er hr4 (by omega)
          · refine rv_run hC.1 hC.2.1 (T := rv_t_X12_way) rv_k_X12_way 1 ?_
            exact ret _ _ _ f H locs (by decide +kernel) hh hT hLt
      · refine rv_run hC.1 hC.2.1 (T := rv_t_X12_way) rv_k_X12_way 80 ?_
        refine rm_get (idx := 23) hC hh (by decide +kernel) rfl hL0 e1 t1 ?_
        refine rv_run hC.1 hC.2.1 (T := rv_t_X12_way) rv_k_X12_way 1 ?_
        refine rm_iald hC hh (by decide +kernel) hLH hg rfl (by omega) (by omega) ?_
        exact ret _ _ _ f H locs (by decide +kernel) hh hT hLt
    · refine rv_run hC.1 hC.2.1 (T := rv_t_X12_way) rv_k_X12_way 1 ?_
      exact ret _ _ _ f H locs (by decide +kernel) hh hT hLt
  · refine rv_run hC.1 hC.2.1 (T := rv_t_X12_way) rv_k_X12_way 3 ?_
    refine ⟨fun _ => ?_, fun _ => ?_⟩
    · refine rv_run hC.1 hC.2.1 (T := rv_t_X12_way) rv_k_X12_way 1 ?_
      exact ret _ _ _ f1 H locs (by decide +kernel) hh hT hLt
    · refine rv_run hC.1 hC.2.1 (T := rv_t_X12_way) rv_k_X12_way 2 ?_
      exact ret _ _ _ f1 H locs (by decide +kernel) hh hT hLt
end RMX
