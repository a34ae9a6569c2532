def rv_t_X12_looksAt : rv_T := (.branch 0 (.branch 0 (.branch 0 (.branch 0 (.branch 0 (.branch 0 (.branch 0 (.branch 0 (.leaf (0, .aload_n 0, 1)) (.leaf (128, .aload_n 0, 1))) (.leaf (99999, .nop, 1))) (.branch 0 (.leaf (32, .istore_n 2, 1)) (.leaf (96, .iload_n 2, 1)))) (.branch 0 (.branch 0 (.branch 0 (.leaf (16, .iload_n 1, 1)) (.leaf (144, .aload_n 0, 1))) (.leaf (80, .bipush (8), 2))) (.branch 0 (.leaf (48, .iload_n 1, 1)) (.leaf (112, .aload_n 0, 1))))) (.branch 0 (.branch 0 (.branch 0 (.leaf (136, .aload_n 0, 1)) (.leaf (72, .iload_n 1, 1))) (.leaf (104, .invokevirtual 56, 3))) (.branch 0 (.leaf (88, .goto (5), 3)) (.leaf (120, .iconst 1, 1))))) (.branch 0 (.branch 0 (.branch 0 (.branch 0 (.leaf (132, .iconst 0, 1)) (.leaf (68, .ifCond .le (10), 3))) (.leaf (100, .aload_n 0, 1))) (.branch 0 (.branch 0 (.leaf (148, .invokevirtual 36, 3)) (.leaf (84, .ifCond .ne (7), 3))) (.branch 0 (.leaf (52, .bipush (8), 2)) (.leaf (116, .iload_n 2, 1))))) (.branch 0 (.branch 0 (.leaf (12, .ifCond .ne (132), 3)) (.leaf (108, .iload_n 1, 1))) (.branch 0 (.leaf (156, .bipush (23), 2)) (.branch 0 (.leaf (60, .aload_n 0, 1)) (.leaf (124, .iconst 0, 1))))))) (.branch 0 (.branch 0 (.branch 0 (.branch 0 (.branch 0 (.branch 0 (.leaf (2, .invokevirtual 181, 3)) (.leaf (130, .bipush (24), 2))) (.leaf (66, .istore_n 3, 1))) (.branch 0 (.branch 0 (.leaf (34, .iload_n 2, 1)) (.leaf (162, .return_, 1))) (.leaf (99999, .nop, 1)))) (.branch 0 (.branch 0 (.leaf (146, .bipush (21), 2)) (.leaf (82, .idiv, 1))) (.leaf (114, .bipush (25), 2)))) (.branch 0 (.branch 0 (.branch 0 (.leaf (138, .invokevirtual 181, 3)) (.leaf (74, .invokevirtual 187, 3))) (.leaf (42, .iload_n 1, 1))) (.branch 0 (.branch 0 (.branch 0 (.leaf (26, .iload_n 1, 1)) (.leaf (154, .aload_n 0, 1))) (.leaf (99999, .nop, 1))) (.leaf (99999, .nop, 1))))) (.branch 0 (.branch 0 (.branch 0 (.leaf (6, .iload_n 1, 1)) (.leaf (38, .ifCond .eq (22), 3))) (.branch 0 (.leaf (22, .ifCond .le (122), 3)) (.leaf (54, .invokevirtual 130, 3)))) (.branch 0 (.branch 0 (.leaf (78, .aload_n 0, 1)) (.leaf (46, .pop, 1))) (.branch 0 (.leaf (158, .iconst 0, 1)) (.leaf (62, .iload_n 2, 1))))))) (.branch 0 (.branch 0 (.branch 0 (.branch 0 (.branch 0 (.branch 0 (.branch 0 (.leaf (1, .iload_n 1, 1)) (.leaf (129, .iload_n 1, 1))) (.leaf (99999, .nop, 1))) (.branch 0 (.leaf (33, .aload_n 0, 1)) (.leaf (97, .ifCond .eq (10), 3)))) (.branch 0 (.branch 0 (.branch 0 (.leaf (17, .bipush (20), 2)) (.leaf (145, .iload_n 1, 1))) (.leaf (99999, .nop, 1))) (.branch 0 (.leaf (49, .bipush (8), 2)) (.leaf (113, .iload_n 1, 1))))) (.branch 0 (.branch 0 (.branch 0 (.branch 0 (.leaf (9, .invokevirtual 36, 3)) (.leaf (137, .iload_n 1, 1))) (.leaf (73, .iload_n 3, 1))) (.leaf (41, .aload_n 0, 1))) (.branch 0 (.leaf (25, .aload_n 0, 1)) (.branch 0 (.leaf (57, .goto (-52), 3)) (.leaf (121, .goto (4), 3)))))) (.branch 0 (.branch 0 (.branch 0 (.branch 0 (.branch 0 (.leaf (5, .aload_n 0, 1)) (.leaf (133, .invokevirtual 42, 3))) (.leaf (99999, .nop, 1))) (.leaf (101, .bipush (6), 2))) (.leaf (117, .ifCond .ne (7), 3))) (.branch 0 (.branch 0 (.branch 0 (.leaf (141, .goto (-136), 3)) (.leaf (77, .return_, 1))) (.leaf (109, .invokevirtual 66, 3))) (.branch 0 (.branch 0 (.leaf (29, .invokevirtual 36, 3)) (.leaf (93, .invokevirtual 130, 3))) (.branch 0 (.leaf (61, .iload_n 1, 1)) (.leaf (125, .invokevirtual 42, 3))))))) (.branch 0 (.branch 0 (.branch 0 (.branch 0 (.leaf (67, .iload_n 3, 1)) (.leaf (35, .invokevirtual 79, 3))) (.branch 0 (.branch 0 (.leaf (19, .invokevirtual 36, 3)) (.leaf (83, .iload_n 2, 1))) (.leaf (51, .idiv, 1)))) (.branch 0 (.branch 0 (.leaf (99999, .nop, 1)) (.branch 0 (.leaf (43, .invokevirtual 159, 3)) (.leaf (107, .aload_n 0, 1)))) (.branch 0 (.branch 0 (.branch 0 (.leaf (27, .bipush (26), 2)) (.leaf (155, .iload_n 1, 1))) (.leaf (91, .bipush (6), 2))) (.leaf (99999, .nop, 1))))) (.branch 0 (.branch 0 (.branch 0 (.branch 0 (.leaf (7, .bipush (21), 2)) (.leaf (71, .aload_n 0, 1))) (.leaf (103, .iload_n 1, 1))) (.branch 0 (.branch 0 (.leaf (151, .ifCond .ne (11), 3)) (.leaf (87, .iconst 5, 1))) (.leaf (99999, .nop, 1)))) (.branch 0 (.branch 0 (.branch 0 (.leaf (15, .aload_n 0, 1)) (.leaf (79, .iload_n 1, 1))) (.leaf (47, .aload_n 0, 1))) (.branch 0 (.leaf (159, .invokevirtual 42, 3)) (.leaf (63, .invokevirtual 184, 3))))))))
theorem rv_k_X12_looksAt : rv_tok cX12_looksAt rv_t_X12_looksAt = true := by decide +kernel
section RMX
variable (base : Nat) (l : Launch) (cI c1 c2 c3 c4 c5 : ClassId) (D : va_G) (ad adV : Nat → Nat)
theorem h_looksAt (a0 : Nat) (s : Int32) (sn : Nat) (hs : s.toInt = (sn : Int)) (hsn : sn < 32) : rm_Hm base l cI c1 c2 c3 c4 c5 D ad adV rk_q_X12_looksAt [.ref a0, .int s] (fun G _ f => G a0 = some 12 ∧ rm_one G ∧ rm_INV G f a0) (fun G _ f v u => v = none) 105 3 := by
  unfold rm_Hm
  refine rm_start (M := rk_q_X12_looksAt) (rk_hNw base ad adV) (rk_hNc base ad adV) (by decide +kernel) (mt := rk_mt [rk_q_X12_at, rk_q_X12_isMark, rk_q_X12_logs, rk_q_X12_meant, rk_q_X12_moreRouter, rk_q_X12_puts, rk_q_X12_routes, rk_q_X12_spills, rk_q_X12_spillsAhead, rk_q_X12_takes]) (ml := rk_mlf [(36, 0, 3, 12), (79, 1, 2, 12), (56, 2, 3, 12), (184, 3, 3, 12), (130, 4, 3, 12), (42, 5, 4, 12), (187, 6, 3, 12), (66, 7, 2, 12), (181, 8, 2, 12), (159, 9, 2, 12)]) (fl := rk_flf rk_ftX12) (fun s args h hN => rk_MlOk_of (List.forall_mem_cons.mpr ⟨rk_mck_ok (fun w hw => List.mem_cons_of_mem _ hw) h hN rk_cm_X12_at rk_lk_X12_36, List.forall_mem_cons.mpr ⟨rk_mck_ok (fun w hw => List.mem_cons_of_mem _ hw) h hN rk_cm_X12_isMark rk_lk_X12_79, List.forall_mem_cons.mpr ⟨rk_mck_ok (fun w hw => List.mem_cons_of_mem _ hw) h hN rk_cm_X12_logs rk_lk_X12_56, List.forall_mem_cons.mpr ⟨rk_mck_ok (fun w hw => List.mem_cons_of_mem _ hw) h hN rk_cm_X12_meant rk_lk_X12_184, List.forall_mem_cons.mpr ⟨rk_mck_ok (fun w hw => List.mem_cons_of_mem _ hw) h hN rk_cm_X12_moreRouter rk_lk_X12_130, List.forall_mem_cons.mpr ⟨rk_mck_ok (fun w hw => List.mem_cons_of_mem _ hw) h hN rk_cm_X12_puts rk_lk_X12_42, List.forall_mem_cons.mpr ⟨rk_mck_ok (fun w hw => List.mem_cons_of_mem _ hw) h hN rk_cm_X12_routes rk_lk_X12_187, List.forall_mem_cons.mpr ⟨rk_mck_ok (fun w hw => List.mem_cons_of_mem _ hw) h hN rk_cm_X12_spills rk_lk_X12_66, List.forall_mem_cons.mpr ⟨rk_mck_ok (fun w hw => List.mem_cons_of_mem _ hw) h hN rk_cm_X12_spillsAhead rk_lk_X12_181, List.forall_mem_cons.mpr ⟨rk_mck_ok (fun w hw => List.mem_cons_of_mem _ hw) h hN rk_cm_X12_takes rk_lk_X12_159, fun _ h => absurd h List.not_mem_nil⟩⟩⟩⟩⟩⟩⟩⟩⟩⟩) (by decide +kernel)) (fun s args h hN => rk_flX12 (fun w hw => List.mem_cons_of_mem _ hw) h hN) (rm_cat1 rfl) (Nat.le_of_ble_eq_true rfl) ?_
  intro p e st m below meth c G X L f0 A hC hh hX0 hXC hT hpre
  have hcs : 0 ≤ 0 ∧ 0 ≤ 0 := ⟨Nat.le_refl 0, Nat.le_refl 0⟩
  obtain ⟨hG, h1, hI⟩ := hpre
  have hXt : X + 105 ≤ 2000000000 := hXC
  have hs40 : sn < 40 := by omega
  have e9 : (Int8.ofInt 8).toInt32.toInt = 8 := rfl
  have e8 : (s / (Int8.ofInt 8).toInt32).toInt = ((sn / 8 : Nat) : Int) := by rw [rk_div_e (by omega) (by rw [e9]; decide), e9, hs]; omega
  have hso := rm_so_of G f0 a0 sn
  obtain ⟨hb1, -, hb3, -⟩ := rm_so_b hT hG hs40 hso
  have eph := rm_so_ph hso
  have loop : ∀ (d Q : Nat) (f : Nat → va_E) (H : Heap) (locs : List Loc), Q ≤ d → rm_h D A st L f H locs → Q ≤ 26 → rm_phi (rm_now G f a0) sn ≤ (Q : Int) → rm_TY cI c1 c2 c3 c4 c5 ad G (X + 4 * (26 - (Q : Int))) L f → rm_Lv G 3 f0 f → rm_INV G f a0 → rv_G p l e { frames := rk_q_X12_looksAt.2.2.2.2.1, cells := 0, slots := 0, locals := rk_q_X12_looksAt.2.2.2.2.2 } st m ([.ref a0, .int s] : List Value).toArray below meth c (MQ below (rk_Q (fun v u => rm_TY cI c1 c2 c3 c4 c5 ad G (X + 105) L u ∧ rm_Lv G 3 f0 u ∧ (fun G _ f v u => v = none) G X f0 v u) (rk_B D (rk_tys cI c1 c2 c3 c4 c5) L A) A) ([.ref a0, .int s] : List Value).toArray st 0 0 A) rk_q_X12_looksAt.2.2.1 0 0 H locs 5 [] [(0, .ref a0), (1, .int s)] := by
    intro d
    induction d with
    | zero =>
      intro Q f H locs hd hh hQ hph hT hLt hI
      have hso := rm_so_of G f a0 sn
      obtain ⟨hb1, -, hb3, -⟩ := rm_so_b hT hG hs40 hso
      have eph := rm_so_ph hso
      have t144 : ∀ (H : Heap) (locs : List Loc), rm_h D A st L f H locs → rv_G p l e { frames := rk_q_X12_looksAt.2.2.2.2.1, cells := 0, slots := 0, locals := rk_q_X12_looksAt.2.2.2.2.2 } st m ([.ref a0, .int s] : List Value).toArray below meth c (MQ below (rk_Q (fun v u => rm_TY cI c1 c2 c3 c4 c5 ad G (X + 105) L u ∧ rm_Lv G 3 f0 u ∧ (fun G _ f v u => v = none) G X f0 v u) (rk_B D (rk_tys cI c1 c2 c3 c4 c5) L A) A) ([.ref a0, .int s] : List Value).toArray st 0 0 A) rk_q_X12_looksAt.2.2.1 0 0 H locs 144 [] [(0, .ref a0), (1, .int s)] := by
        intro H locs hh
        refine rv_run hC.1 hC.2.1 (T := rv_t_X12_looksAt) rv_k_X12_looksAt 80 ?_
        refine w_at hC hh hT hG (by omega) (by omega) 36 (by decide +kernel) rfl rfl hs hs40 21 (by decide) (by decide) (Nat.le_of_ble_eq_true rfl) hcs (fun q H locs hh hq => ?_)
        refine rv_run hC.1 hC.2.1 (T := rv_t_X12_looksAt) rv_k_X12_looksAt 1 ?_
        refine ⟨fun _ => ?_, fun _ => ?_⟩
        · refine rm_vret hC hh (by decide +kernel) rfl ⟨rk_TY_X (by omega) hT, hLt, rfl⟩
        · refine rv_run hC.1 hC.2.1 (T := rv_t_X12_looksAt) rv_k_X12_looksAt 80 ?_
          refine w_puts hC hh hT hG (by omega) (by omega) 1 42 (by decide +kernel) rfl rfl hs hs40 23 (by decide) (by decide) rfl (rm_hF rfl) (Nat.le_of_ble_eq_true rfl) hcs (fun f H locs hh hT hL hP => ?_)
          refine rm_vret hC hh (by decide +kernel) rfl ⟨rk_TY_X (by omega) hT, rm_lv_tr (k := 3) hLt hL rfl rfl, rfl⟩
      refine rv_run hC.1 hC.2.1 (T := rv_t_X12_looksAt) rv_k_X12_looksAt 80 ?_
      refine w_at hC hh hT hG (by omega) (by omega) 36 (by decide +kernel) rfl rfl hs hs40 21 (by decide) (by decide) (Nat.le_of_ble_eq_true rfl) hcs (fun q H locs hh hq => ?_)
      refine rv_run hC.1 hC.2.1 (T := rv_t_X12_looksAt) rv_k_X12_looksAt 1 ?_
      refine ⟨fun _ => t144 H locs hh, fun _ => ?_⟩
      refine rv_run hC.1 hC.2.1 (T := rv_t_X12_looksAt) rv_k_X12_looksAt 80 ?_
      refine w_at hC hh hT hG (by omega) (by omega) 36 (by decide +kernel) rfl rfl hs hs40 20 (by decide) (by decide) (Nat.le_of_ble_eq_true rfl) hcs (fun b H locs hh hb => ?_)
      have eb : b.toInt = rm_sc (rm_now G f a0) sn 20 := by rw [hb]; rfl
      refine rv_run hC.1 hC.2.1 (T := rv_t_X12_looksAt) rv_k_X12_looksAt 1 ?_
      refine ⟨fun _ => t144 H locs hh, fun h => ?_⟩
      have h : 0 < b.toInt := h
      omega
    | succ d ih =>
      intro Q f H locs hd hh hQ hph hT hLt hI
      have hso := rm_so_of G f a0 sn
      obtain ⟨hb1, -, hb3, -⟩ := rm_so_b hT hG hs40 hso
      have eph := rm_so_ph hso
      have t144 : ∀ (H : Heap) (locs : List Loc), rm_h D A st L f H locs → rv_G p l e { frames := rk_q_X12_looksAt.2.2.2.2.1, cells := 0, slots := 0, locals := rk_q_X12_looksAt.2.2.2.2.2 } st m ([.ref a0, .int s] : List Value).toArray below meth c (MQ below (rk_Q (fun v u => rm_TY cI c1 c2 c3 c4 c5 ad G (X + 105) L u ∧ rm_Lv G 3 f0 u ∧ (fun G _ f v u => v = none) G X f0 v u) (rk_B D (rk_tys cI c1 c2 c3 c4 c5) L A) A) ([.ref a0, .int s] : List Value).toArray st 0 0 A) rk_q_X12_looksAt.2.2.1 0 0 H locs 144 [] [(0, .ref a0), (1, .int s)] := by
        intro H locs hh
        refine rv_run hC.1 hC.2.1 (T := rv_t_X12_looksAt) rv_k_X12_looksAt 80 ?_
        refine w_at hC hh hT hG (by omega) (by omega) 36 (by decide +kernel) rfl rfl hs hs40 21 (by decide) (by decide) (Nat.le_of_ble_eq_true rfl) hcs (fun q H locs hh hq => ?_)
        refine rv_run hC.1 hC.2.1 (T := rv_t_X12_looksAt) rv_k_X12_looksAt 1 ?_
        refine ⟨fun _ => ?_, fun _ => ?_⟩
        · refine rm_vret hC hh (by decide +kernel) rfl ⟨rk_TY_X (by omega) hT, hLt, rfl⟩
        · refine rv_run hC.1 hC.2.1 (T := rv_t_X12_looksAt) rv_k_X12_looksAt 80 ?_
          refine w_puts hC hh hT hG (by omega) (by omega) 1 42 (by decide +kernel) rfl rfl hs hs40 23 (by decide) (by decide) rfl (rm_hF rfl) (Nat.le_of_ble_eq_true rfl) hcs (fun f H locs hh hT hL hP => ?_)
          refine rm_vret hC hh (by decide +kernel) rfl ⟨rk_TY_X (by omega) hT, rm_lv_tr (k := 3) hLt hL rfl rfl, rfl⟩
      refine rv_run hC.1 hC.2.1 (T := rv_t_X12_looksAt) rv_k_X12_looksAt 80 ?_
      refine w_at hC hh hT hG (by omega) (by omega) 36 (by decide +kernel) rfl rfl hs hs40 21 (by decide) (by decide) (Nat.le_of_ble_eq_true rfl) hcs (fun q H locs hh hq => ?_)
      refine rv_run hC.1 hC.2.1 (T := rv_t_X12_looksAt) rv_k_X12_looksAt 1 ?_
      refine ⟨fun _ => t144 H locs hh, fun _ => ?_⟩
      refine rv_run hC.1 hC.2.1 (T := rv_t_X12_looksAt) rv_k_X12_looksAt 80 ?_
      refine w_at hC hh hT hG (by omega) (by omega) 36 (by decide +kernel) rfl rfl hs hs40 20 (by decide) (by decide) (Nat.le_of_ble_eq_true rfl) hcs (fun b H locs hh hb => ?_)
      have eb : b.toInt = rm_sc (rm_now G f a0) sn 20 := by rw [hb]; rfl
      refine rv_run hC.1 hC.2.1 (T := rv_t_X12_looksAt) rv_k_X12_looksAt 1 ?_
      refine ⟨fun _ => t144 H locs hh, fun h => ?_⟩
      have h : 0 < b.toInt := h
      clear t144
      refine rv_run hC.1 hC.2.1 (T := rv_t_X12_looksAt) rv_k_X12_looksAt 80 ?_
      refine w_at hC hh hT hG (by omega) (by omega) 36 (by decide +kernel) rfl rfl hs hs40 26 (by decide) (by decide) (Nat.le_of_ble_eq_true rfl) hcs (fun x H locs hh hx => ?_)
      have bx := rm_scT hT hG (s := sn) (w := 26) hs40 (by decide) rfl
      have ex : x.toInt = rm_sc (rm_now G f a0) sn 26 := by rw [hx]; rfl
      refine rv_run hC.1 hC.2.1 (T := rv_t_X12_looksAt) rv_k_X12_looksAt 80 ?_
      refine w_k hC hh hT hG (by omega) (by omega) 79 (by decide +kernel) rfl (c_X12_isMark base l cI c1 c2 c3 c4 c5 D ad adV) (rk_all_c (rk_aM hG) (rk_all_c rk_aF rk_all_0)) rfl rfl (Nat.le_of_ble_eq_true rfl) hcs (fun v f H locs hh hT hL hA => ?_)
      rw [Int.add_zero] at hT
      have hp1 := rm_ph1 (rm_lv_up hL rfl) hG hs40
      have hLt := rm_lv_tr (k := 3) hLt hL rfl rfl
      have hI := rm_I1 (rm_lv_up hL rfl) hG hI
      obtain ⟨y, rfl, -⟩ := rk_alt_2 hA
      have hB : 1 ≤ rm_sc (rm_now G f a0) sn 20 := by omega
      refine rv_run hC.1 hC.2.1 (T := rv_t_X12_looksAt) rv_k_X12_looksAt 1 ?_
      refine ⟨fun _ => ?_, fun _ => ?_⟩
      · refine rv_run hC.1 hC.2.1 (T := rv_t_X12_looksAt) rv_k_X12_looksAt 80 ?_
        refine w_ki hC hh hT hG (by omega) (by omega) 184 (by decide +kernel) rfl (c_X12_meant base l cI c1 c2 c3 c4 c5 D ad adV) (rk_all_c (rk_aM hG) (rk_all_c (rk_aI (by omega)) (rk_all_c (rk_aI (by omega)) rk_all_0))) rfl rfl (Nat.le_of_ble_eq_true rfl) hcs (fun y f H locs hh hT hL hy => ?_)
        rw [Int.add_zero] at hT
        have hp2 := rm_ph1 (rm_lv_up hL rfl) hG hs40
        have hLt := rm_lv_tr (k := 3) hLt hL rfl rfl
        have hI := rm_I1 (rm_lv_up hL rfl) hG hI
        refine rv_run hC.1 hC.2.1 (T := rv_t_X12_looksAt) rv_k_X12_looksAt 3 ?_
        refine ⟨fun _ => ?_, fun _ => ?_⟩
        · have t107 : ∀ (u : Nat → va_E) (H : Heap) (locs : List Loc), rm_h D A st L u H locs → rm_TY cI c1 c2 c3 c4 c5 ad G (X + 4 * (26 - (Q : Int)) + 1) L u → rm_Lv G 3 f0 u → rm_Lv G 1 f u → rv_G p l e { frames := rk_q_X12_looksAt.2.2.2.2.1, cells := 0, slots := 0, locals := rk_q_X12_looksAt.2.2.2.2.2 } st m ([.ref a0, .int s] : List Value).toArray below meth c (MQ below (rk_Q (fun v u => rm_TY cI c1 c2 c3 c4 c5 ad G (X + 105) L u ∧ rm_Lv G 3 f0 u ∧ (fun G _ f v u => v = none) G X f0 v u) (rk_B D (rk_tys cI c1 c2 c3 c4 c5) L A) A) ([.ref a0, .int s] : List Value).toArray st 0 0 A) rk_q_X12_looksAt.2.2.1 0 0 H locs 107 [] [(0, .ref a0), (1, .int s), (2, .int x), (3, .int y)] := by
            intro u H locs hh hT hLt hLu
            have t125 : ∀ (j : Int32) (w : Nat → va_E) (H : Heap) (locs : List Loc), rm_h D A st L w H locs → rm_TY cI c1 c2 c3 c4 c5 ad G (X + 4 * (26 - (Q : Int)) + 1) L w → rm_Lv G 3 f0 w → rm_Lv G 1 f w → rm_sc (rm_now G w a0) sn 21 = 2 → 0 ≤ j.toInt ∧ j.toInt ≤ 1 → rv_G p l e { frames := rk_q_X12_looksAt.2.2.2.2.1, cells := 0, slots := 0, locals := rk_q_X12_looksAt.2.2.2.2.2 } st m ([.ref a0, .int s] : List Value).toArray below meth c (MQ below (rk_Q (fun v u => rm_TY cI c1 c2 c3 c4 c5 ad G (X + 105) L u ∧ rm_Lv G 3 f0 u ∧ (fun G _ f v u => v = none) G X f0 v u) (rk_B D (rk_tys cI c1 c2 c3 c4 c5) L A) A) ([.ref a0, .int s] : List Value).toArray st 0 0 A) rk_q_X12_looksAt.2.2.1 0 0 H locs 125 [.int j, .int (Int8.ofInt 25).toInt32, .int s, .ref a0] [(0, .ref a0), (1, .int s), (2, .int x), (3, .int y)] := by
              intro j w H locs hh hT hLt hLu h21 hj
              refine w_puts hC hh hT hG (by omega) (by omega) 1 42 (by decide +kernel) rfl rfl hs hs40 25 (by decide) (by decide) rfl (rm_hI (a := 0) (b := 1) rfl hj.1 hj.2) (Nat.le_of_ble_eq_true rfl) hcs (fun f H locs hh hT hL hP => ?_)
              have h21 : rm_sc (rm_now G f a0) sn 21 = 2 := by
                rw [rm_sc_set hP (by decide) (by decide), if_neg (by omega)]
                exact h21
              have hLt := rm_lv_tr (k := 3) hLt hL rfl rfl
              have hLu := rm_lv_tr (k := 1) hLu hL rfl rfl
              refine rv_run hC.1 hC.2.1 (T := rv_t_X12_looksAt) rv_k_X12_looksAt 80 ?_
              refine w_puts hC hh hT hG (by omega) (by omega) 1 42 (by decide +kernel) rfl rfl hs hs40 24 (by decide) (by decide) rfl (show rk_has G (X + 4 * (26 - (Q : Int)) + 1) (1, 0, 0) (.int (Int32.ofInt 0)) from ⟨Int32.ofInt 0, rfl, by decide, show (0 : Int) ≤ X + 4 * (26 - (Q : Int)) + 1 + 0 by omega⟩) (Nat.le_of_ble_eq_true rfl) hcs (fun f H locs hh hT hL hP => ?_)
              have h21 : rm_sc (rm_now G f a0) sn 21 = 2 := by
                rw [rm_sc_set hP (by decide) (by decide), if_neg (by omega)]
                exact h21
              have hLt := rm_lv_tr (k := 3) hLt hL rfl rfl
              have hLu := rm_lv_tr (k := 1) hLu hL rfl rfl
              have hp9 := rm_ph1 hLu hG hs40
              have hI := rm_I1 hLu hG hI
              refine rv_run hC.1 hC.2.1 (T := rv_t_X12_looksAt) rv_k_X12_looksAt 80 ?_
              refine w_hq hC hh hT hG (by omega) (by omega) 181 (by decide +kernel) rfl (h_spillsAhead base l cI c1 c2 c3 c4 c5 D ad adV a0 s sn hs hsn Q) ⟨hG, h1, hI, (by omega)⟩ rfl rfl (Nat.le_of_ble_eq_true rfl) hcs (fun v f H locs hh hL hP => ?_)
              obtain ⟨rfl, Q2, k1, k2, hT, k3⟩ := hP
              have k3 := k3 ⟨h21, by omega⟩
              have hLt := rm_lv_tr (k := 3) hLt hL rfl rfl
              have hI := rm_I3 hL h1 hG hI
              refine rv_run hC.1 hC.2.1 (T := rv_t_X12_looksAt) rv_k_X12_looksAt 1 ?_
              refine rv_take 2 ?_
              exact ih Q2 f H locs (by omega) hh (by omega) k2 (rk_TY_X (by omega) hT) hLt hI
            refine rv_run hC.1 hC.2.1 (T := rv_t_X12_looksAt) rv_k_X12_looksAt 80 ?_
            refine w_h hC hh hT hG (by omega) (by omega) 66 (by decide +kernel) rfl (h_spills base l cI c1 c2 c3 c4 c5 D ad adV a0 s sn hs hs40) hG rfl rfl (Nat.le_of_ble_eq_true rfl) hcs (fun v f H locs hh hT hL hP => ?_)
            rw [Int.add_zero] at hT
            obtain ⟨rfl, h21⟩ := hP
            have hLt := rm_lv_tr (k := 3) hLt hL rfl rfl
            have hLu := rm_lv_tr (k := 1) hLu hL rfl rfl
            refine rv_run hC.1 hC.2.1 (T := rv_t_X12_looksAt) rv_k_X12_looksAt 5 ?_
            refine ⟨fun _ => ?_, fun _ => ?_⟩
            · refine rv_run hC.1 hC.2.1 (T := rv_t_X12_looksAt) rv_k_X12_looksAt 1 ?_
              exact t125 _ f H locs hh hT hLt hLu h21 (by decide)
            · refine rv_run hC.1 hC.2.1 (T := rv_t_X12_looksAt) rv_k_X12_looksAt 2 ?_
              exact t125 _ f H locs hh hT hLt hLu h21 (by decide)
          have t96 : ∀ (u : Nat → va_E) (H : Heap) (locs : List Loc), rm_h D A st L u H locs → rm_TY cI c1 c2 c3 c4 c5 ad G (X + 4 * (26 - (Q : Int))) L u → rm_Lv G 3 f0 u → rm_Lv G 1 f u → rv_G p l e { frames := rk_q_X12_looksAt.2.2.2.2.1, cells := 0, slots := 0, locals := rk_q_X12_looksAt.2.2.2.2.2 } st m ([.ref a0, .int s] : List Value).toArray below meth c (MQ below (rk_Q (fun v u => rm_TY cI c1 c2 c3 c4 c5 ad G (X + 105) L u ∧ rm_Lv G 3 f0 u ∧ (fun G _ f v u => v = none) G X f0 v u) (rk_B D (rk_tys cI c1 c2 c3 c4 c5) L A) A) ([.ref a0, .int s] : List Value).toArray st 0 0 A) rk_q_X12_looksAt.2.2.1 0 0 H locs 96 [] [(0, .ref a0), (1, .int s), (2, .int x), (3, .int y)] := by
            intro u H locs hh hT hLt hLu
            refine rv_run hC.1 hC.2.1 (T := rv_t_X12_looksAt) rv_k_X12_looksAt 2 ?_
            refine ⟨fun _ => ?_, fun _ => ?_⟩
            · exact t107 u H locs hh (rk_TY_X (by omega) hT) hLt hLu
            · refine rv_run hC.1 hC.2.1 (T := rv_t_X12_looksAt) rv_k_X12_looksAt 80 ?_
              refine w_kv hC hh hT hG (by omega) (by omega) 56 (by decide +kernel) rfl (c_X12_logs base l cI c1 c2 c3 c4 c5 D ad adV) (rk_all_c (rk_aM hG) (rk_all_c rk_aF (rk_all_c rk_aF rk_all_0))) rfl rfl (Nat.le_of_ble_eq_true rfl) hcs (fun f H locs hh hT hL => ?_)
              exact t107 f H locs hh hT (rm_lv_tr (k := 3) hLt hL rfl rfl) (rm_lv_tr (k := 1) hLu hL rfl rfl)
          refine rv_run hC.1 hC.2.1 (T := rv_t_X12_looksAt) rv_k_X12_looksAt 6 ?_
          refine ⟨by decide, fun _ => ?_, fun _ => ?_⟩
          · refine rv_run hC.1 hC.2.1 (T := rv_t_X12_looksAt) rv_k_X12_looksAt 1 ?_
            refine w_moreRouter hC hh hT hG (by omega) 0 (by decide) (by omega) 1 130 (by decide +kernel) rfl rfl e8 (by omega) 6 (by decide) (by decide) rfl (rm_hF rfl) (Nat.le_of_ble_eq_true rfl) hcs (fun f H locs hh hT hL hP => ?_)
            rw [Int.add_zero] at hT
            exact t96 f H locs hh hT (rm_lv_tr (k := 3) hLt hL rfl rfl) hL
          · refine rv_run hC.1 hC.2.1 (T := rv_t_X12_looksAt) rv_k_X12_looksAt 2 ?_
            refine w_moreRouter hC hh hT hG (by omega) 0 (by decide) (by omega) 1 130 (by decide +kernel) rfl rfl e8 (by omega) 5 (by decide) (by decide) rfl (rm_hF rfl) (Nat.le_of_ble_eq_true rfl) hcs (fun f H locs hh hT hL hP => ?_)
            rw [Int.add_zero] at hT
            exact t96 f H locs hh hT (rm_lv_tr (k := 3) hLt hL rfl rfl) hL
        · refine rv_run hC.1 hC.2.1 (T := rv_t_X12_looksAt) rv_k_X12_looksAt 80 ?_
          refine w_h hC hh hT hG (by omega) (by omega) 187 (by decide +kernel) rfl (h_routes base l cI c1 c2 c3 c4 c5 D ad adV a0 s _ sn hs hsn) ⟨hG, h1, hI, (by omega)⟩ rfl rfl (Nat.le_of_ble_eq_true rfl) hcs (fun v f H locs hh hT hL hP => ?_)
          have hP : v = none := hP
          subst hP
          refine rm_vret hC hh (by decide +kernel) rfl ⟨rk_TY_X (by omega) hT, rm_lv_tr (k := 3) hLt hL rfl rfl, rfl⟩
      · have hso := rm_so_of G f a0 sn
        refine rv_run hC.1 hC.2.1 (T := rv_t_X12_looksAt) rv_k_X12_looksAt 80 ?_
        refine w_h hC hh hT hG (by omega) (by omega) 159 (by decide +kernel) rfl (h_takes base l cI c1 c2 c3 c4 c5 D ad adV a0 s sn hs hs40 _ _ _ _ _ hB) ⟨hG, hso⟩ rfl rfl (Nat.le_of_ble_eq_true rfl) hcs (fun v f H locs hh hT hL hP => ?_)
        rw [Int.add_zero] at hT
        obtain ⟨⟨c9, rfl, hc⟩, hst⟩ := hP
        have eph2 := rm_so_ph hso
        have hL3 := rm_st_3 hst hG hso (fun r1 r2 => ⟨by unfold rm_R1 at r1 ⊢; omega, r2⟩) (by omega) hs40
        have hI := rm_I3 hL3 h1 hG hI
        have hLt := rm_lv_tr (k := 3) hLt hL3 rfl rfl
        have hph9 := rm_so_ph hst.2.2
        refine rv_run hC.1 hC.2.1 (T := rv_t_X12_looksAt) rv_k_X12_looksAt 80 ?_
        refine ⟨by decide, ?_⟩
        refine w_moreRouter hC hh hT hG (by omega) 0 (by decide) (by omega) 1 130 (by decide +kernel) rfl rfl e8 (by omega) 8 (by decide) (by decide) rfl (rm_hF rfl) (Nat.le_of_ble_eq_true rfl) hcs (fun f H locs hh hT hL hP => ?_)
        rw [Int.add_zero] at hT
        have hp3 := rm_ph1 hL hG hs40
        have hLt := rm_lv_tr (k := 3) hLt hL rfl rfl
        have hI := rm_I1 hL hG hI
        refine rv_run hC.1 hC.2.1 (T := rv_t_X12_looksAt) rv_k_X12_looksAt 1 ?_
        refine rv_take 2 ?_
        exact ih (Q - 1) f H locs (by omega) hh (by omega) (by omega) (rk_TY_X (by omega) hT) hLt hI
  refine rv_run hC.1 hC.2.1 (T := rv_t_X12_looksAt) rv_k_X12_looksAt 80 ?_
  refine w_hq hC hh hT hG (by omega) (by omega) 181 (by decide +kernel) rfl (h_spillsAhead base l cI c1 c2 c3 c4 c5 D ad adV a0 s sn hs hsn 26) ⟨hG, h1, hI, (by omega)⟩ rfl rfl (Nat.le_of_ble_eq_true rfl) hcs (fun v f H locs hh hL hP => ?_)
  obtain ⟨rfl, Q2, k1, k2, hT, k3⟩ := hP
  have hI := rm_I3 hL h1 hG hI
  exact loop 26 Q2 f H locs k1 hh k1 k2 (rk_TY_X (by omega) hT) hL hI
end RMX
