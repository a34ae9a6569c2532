def rv_t_X12_sendsInRun : rv_T := (.branch 0 (.branch 0 (.branch 0 (.branch 0 (.branch 0 (.branch 0 (.leaf (0, .aload_n 0, 1)) (.leaf (160, .iaload, 1))) (.branch 0 (.branch 0 (.leaf (16, .iconst 0, 1)) (.leaf (80, .iconst (-1), 1))) (.leaf (48, .invokevirtual 193, 3)))) (.branch 0 (.branch 0 (.leaf (8, .iload_n 2, 1)) (.leaf (104, .bipush (17), 2))) (.branch 0 (.branch 0 (.branch 0 (.leaf (24, .sipush (6463), 3)) (.leaf (152, .iload 4, 2))) (.leaf (88, .aload_n 0, 1))) (.leaf (56, .invokevirtual 196, 3))))) (.branch 0 (.branch 0 (.branch 0 (.leaf (4, .invokevirtual 36, 3)) (.branch 0 (.branch 0 (.leaf (36, .iadd, 1)) (.leaf (164, .iload_n 3, 1))) (.leaf (99999, .nop, 1)))) (.branch 0 (.branch 0 (.branch 0 (.leaf (20, .aload_n 0, 1)) (.leaf (148, .aload_n 0, 1))) (.leaf (84, .sipush (258), 3))) (.leaf (99999, .nop, 1)))) (.branch 0 (.branch 0 (.branch 0 (.branch 0 (.leaf (12, .aload_n 0, 1)) (.leaf (140, .goto (6), 3))) (.leaf (99999, .nop, 1))) (.leaf (44, .isub, 1))) (.branch 0 (.branch 0 (.leaf (28, .getfield 7, 3)) (.leaf (92, .iload_n 1, 1))) (.leaf (60, .aload_n 0, 1)))))) (.branch 0 (.branch 0 (.branch 0 (.branch 0 (.branch 0 (.branch 0 (.leaf (2, .bipush (12), 2)) (.leaf (130, .iload_n 3, 1))) (.leaf (66, .ifCond .le (11), 3))) (.branch 0 (.branch 0 (.leaf (34, .iaload, 1)) (.leaf (162, .iadd, 1))) (.leaf (98, .isub, 1)))) (.branch 0 (.leaf (146, .istore 4, 2)) (.leaf (114, .iload_n 3, 1)))) (.branch 0 (.branch 0 (.leaf (74, .goto (4), 3)) (.branch 0 (.leaf (42, .iadd, 1)) (.leaf (106, .invokevirtual 46, 3)))) (.branch 0 (.branch 0 (.leaf (154, .aload_n 0, 1)) (.leaf (90, .iconst 5, 1))) (.leaf (122, .goto (4), 3))))) (.branch 0 (.branch 0 (.branch 0 (.branch 0 (.leaf (134, .ifCond .eq (9), 3)) (.leaf (70, .iload_n 1, 1))) (.branch 0 (.leaf (38, .sipush (260), 3)) (.leaf (102, .aload_n 0, 1)))) (.branch 0 (.leaf (99999, .nop, 1)) (.branch 0 (.leaf (54, .aload_n 0, 1)) (.leaf (118, .ifCond .eq (7), 3))))) (.branch 0 (.branch 0 (.branch 0 (.leaf (14, .bipush (12), 2)) (.leaf (78, .istore_n 3, 1))) (.branch 0 (.leaf (46, .aload_n 0, 1)) (.leaf (110, .iload_n 1, 1)))) (.branch 0 (.branch 0 (.leaf (158, .iload 4, 2)) (.leaf (94, .invokevirtual 36, 3))) (.branch 0 (.leaf (62, .iconst 5, 1)) (.leaf (126, .invokevirtual 42, 3)))))))) (.branch 0 (.branch 0 (.branch 0 (.branch 0 (.branch 0 (.branch 0 (.branch 0 (.leaf (1, .iload_n 1, 1)) (.leaf (129, .aload_n 0, 1))) (.leaf (99999, .nop, 1))) (.branch 0 (.leaf (161, .iconst 1, 1)) (.leaf (97, .iconst 1, 1)))) (.branch 0 (.branch 0 (.leaf (17, .invokevirtual 42, 3)) (.leaf (81, .if_icmp .ne (7), 3))) (.leaf (113, .aload_n 0, 1)))) (.branch 0 (.branch 0 (.branch 0 (.branch 0 (.leaf (9, .ifCond .le (37), 3)) (.leaf (137, .sipush (6465), 3))) (.leaf (99999, .nop, 1))) (.leaf (41, .iload_n 2, 1))) (.branch 0 (.leaf (89, .iload_n 1, 1)) (.leaf (121, .iconst 0, 1))))) (.branch 0 (.branch 0 (.branch 0 (.leaf (69, .aload_n 0, 1)) (.branch 0 (.branch 0 (.leaf (37, .iastore, 1)) (.leaf (165, .ireturn, 1))) (.leaf (99999, .nop, 1)))) (.branch 0 (.branch 0 (.branch 0 (.leaf (21, .getfield 7, 3)) (.leaf (149, .getfield 7, 3))) (.leaf (99999, .nop, 1))) (.leaf (99999, .nop, 1)))) (.branch 0 (.branch 0 (.branch 0 (.leaf (13, .iload_n 1, 1)) (.leaf (77, .iconst (-1), 1))) (.branch 0 (.leaf (45, .ireturn, 1)) (.leaf (109, .aload_n 0, 1)))) (.branch 0 (.leaf (93, .iconst 5, 1)) (.branch 0 (.leaf (61, .iload_n 1, 1)) (.leaf (125, .iconst 1, 1))))))) (.branch 0 (.branch 0 (.branch 0 (.branch 0 (.leaf (131, .invokevirtual 79, 3)) (.branch 0 (.branch 0 (.leaf (35, .iconst 1, 1)) (.leaf (163, .iastore, 1))) (.leaf (99, .invokevirtual 42, 3)))) (.branch 0 (.leaf (99999, .nop, 1)) (.branch 0 (.leaf (51, .ifCond .eq (9), 3)) (.leaf (115, .invokevirtual 79, 3))))) (.branch 0 (.leaf (43, .iconst 1, 1)) (.branch 0 (.branch 0 (.branch 0 (.leaf (27, .aload_n 0, 1)) (.leaf (155, .getfield 7, 3))) (.leaf (91, .aload_n 0, 1))) (.leaf (59, .ireturn, 1))))) (.branch 0 (.branch 0 (.branch 0 (.branch 0 (.leaf (7, .istore_n 2, 1)) (.leaf (71, .invokevirtual 199, 3))) (.leaf (103, .iload_n 1, 1))) (.branch 0 (.leaf (87, .ireturn, 1)) (.leaf (55, .iload_n 1, 1)))) (.branch 0 (.branch 0 (.branch 0 (.leaf (143, .sipush (6464), 3)) (.leaf (79, .iload_n 3, 1))) (.branch 0 (.leaf (47, .iload_n 1, 1)) (.leaf (111, .bipush (14), 2)))) (.branch 0 (.leaf (31, .sipush (6463), 3)) (.leaf (63, .invokevirtual 36, 3))))))))
theorem rv_k_X12_sendsInRun : rv_tok cX12_sendsInRun rv_t_X12_sendsInRun = true := by decide +kernel
section RMX
variable (base : Nat) (l : Launch) (cI c1 c2 c3 c4 c5 : ClassId) (D : va_G) (ad adV : Nat → Nat)
theorem h_sendsInRun (a0 : Nat) (s : Int32) (sn : Nat) (hs : s.toInt = (sn : Int)) (hsn : sn < 40) : rm_Hm base l cI c1 c2 c3 c4 c5 D ad adV rk_q_X12_sendsInRun [.ref a0, .int s] (fun G _ f => G a0 = some 12 ∧ rm_one G ∧ rm_INV G f a0) (fun G _ f v u => ∃ x : Int32, v = some (.int x) ∧ 0 ≤ x.toInt ∧ x.toInt ≤ 323) 0 3 := by
  unfold rm_Hm
  refine rm_start (M := rk_q_X12_sendsInRun) (rk_hNw base ad adV) (rk_hNc base ad adV) (by decide +kernel) (mt := rk_mt [rk_q_X12_at, rk_q_X12_isMark, rk_q_X12_maySell, rk_q_X12_more, rk_q_X12_nextData, rk_q_X12_puts, rk_q_X12_sells]) (ml := rk_mlf [(36, 0, 3, 12), (79, 1, 2, 12), (193, 2, 2, 12), (46, 3, 3, 12), (199, 4, 2, 12), (42, 5, 4, 12), (196, 6, 2, 12)]) (fl := rk_flf rk_ftX12) (fun s args h hN => rk_MlOk_of (List.forall_mem_cons.mpr ⟨rk_mck_ok (fun w hw => List.mem_cons_of_mem _ hw) h hN rk_cm_X12_at rk_lk_X12_36, List.forall_mem_cons.mpr ⟨rk_mck_ok (fun w hw => List.mem_cons_of_mem _ hw) h hN rk_cm_X12_isMark rk_lk_X12_79, List.forall_mem_cons.mpr ⟨rk_mck_ok (fun w hw => List.mem_cons_of_mem _ hw) h hN rk_cm_X12_maySell rk_lk_X12_193, List.forall_mem_cons.mpr ⟨rk_mck_ok (fun w hw => List.mem_cons_of_mem _ hw) h hN rk_cm_X12_more rk_lk_X12_46, List.forall_mem_cons.mpr ⟨rk_mck_ok (fun w hw => List.mem_cons_of_mem _ hw) h hN rk_cm_X12_nextData rk_lk_X12_199, List.forall_mem_cons.mpr ⟨rk_mck_ok (fun w hw => List.mem_cons_of_mem _ hw) h hN rk_cm_X12_puts rk_lk_X12_42, List.forall_mem_cons.mpr ⟨rk_mck_ok (fun w hw => List.mem_cons_of_mem _ hw) h hN rk_cm_X12_sells rk_lk_X12_196, fun _ h => absurd h List.not_mem_nil⟩⟩⟩⟩⟩⟩⟩) (by decide +kernel)) (fun s args h hN => rk_flX12 (fun w hw => List.mem_cons_of_mem _ hw) h hN) (rm_cat1 rfl) (Nat.le_of_ble_eq_true rfl) ?_
  intro p e st m below meth c G X L f0 A hC hh hX0 hXC hT hpre
  have hcs : 0 ≤ 0 ∧ 0 ≤ 0 := ⟨Nat.le_refl 0, Nat.le_refl 0⟩
  obtain ⟨hG, h1, hI⟩ := hpre
  have hLt := rm_lv_rf (G := G) (f := f0) 3
  refine rv_run hC.1 hC.2.1 (T := rv_t_X12_sendsInRun) rv_k_X12_sendsInRun 80 ?_
  refine w_at hC hh hT hG (by omega) (by omega) 36 (by decide +kernel) rfl rfl hs hsn 12 (by decide) (by decide) (Nat.le_of_ble_eq_true rfl) hcs (fun y H locs hh hy => ?_)
  have by1 := rm_scT hT hG (w := 12) hsn (by decide) rfl
  have ey : y.toInt = rm_sc (rm_now G f0 a0) sn 12 := by rw [hy]; rfl
  refine rv_run hC.1 hC.2.1 (T := rv_t_X12_sendsInRun) rv_k_X12_sendsInRun 3 ?_
  refine ⟨fun _ => ?_, fun h => ?_⟩
  · -- no time is to be sent
    refine rv_run hC.1 hC.2.1 (T := rv_t_X12_sendsInRun) rv_k_X12_sendsInRun 80 ?_
    refine w_h hC hh hT hG (by omega) (by omega) 193 (by decide +kernel) rfl (h_maySell base l cI c1 c2 c3 c4 c5 D ad adV a0 s sn hs hsn _ _ _ _ _) ⟨hG, rm_so_of G _ a0 sn⟩ rfl rfl (Nat.le_of_ble_eq_true rfl) hcs (fun v f1 H locs hh1 hT1 hL hP => ?_)
    obtain ⟨⟨x, rfl, hx⟩, hu⟩ := hP
    subst hu
    have hh := hh1
    have hT := hT1
    clear hh1 hT1 hL
    rw [Int.add_zero] at hT
    refine rv_run hC.1 hC.2.1 (T := rv_t_X12_sendsInRun) rv_k_X12_sendsInRun 1 ?_
    refine ⟨fun _ => ?_, fun h => ?_⟩
    · refine rv_run hC.1 hC.2.1 (T := rv_t_X12_sendsInRun) rv_k_X12_sendsInRun 80 ?_
      refine w_at hC hh hT hG (by omega) (by omega) 36 (by decide +kernel) rfl rfl hs hsn 5 (by decide) (by decide) (Nat.le_of_ble_eq_true rfl) hcs (fun z H locs hh hz => ?_)
      -- what goes
      have t78 : ∀ (c9 : Int32) (f : Nat → va_E) (H : Heap) (locs : List Loc), rm_h D A st L f H locs → rm_TY cI c1 c2 c3 c4 c5 ad G X L f → rm_Lv G 3 f1 f → -1 ≤ c9.toInt ∧ c9.toInt ≤ 257 → rv_G p l e { frames := rk_q_X12_sendsInRun.2.2.2.2.1, cells := 0, slots := 0, locals := rk_q_X12_sendsInRun.2.2.2.2.2 } st m ([.ref a0, .int s] : List Value).toArray below meth c (MQ below (rk_Q (fun v u => rm_TY cI c1 c2 c3 c4 c5 ad G (X + 0) L u ∧ rm_Lv G 3 f1 u ∧ (fun G _ f v u => ∃ x : Int32, v = some (.int x) ∧ 0 ≤ x.toInt ∧ x.toInt ≤ 323) G X f1 v u) (rk_B D (rk_tys cI c1 c2 c3 c4 c5) L A) A) ([.ref a0, .int s] : List Value).toArray st 0 0 A) rk_q_X12_sendsInRun.2.2.1 0 0 H locs 78 [.int c9] [(0, .ref a0), (1, .int s), (2, .int y)] := by
        intro c9 f H locs hh hT hLt hc
        refine rv_run hC.1 hC.2.1 (T := rv_t_X12_sendsInRun) rv_k_X12_sendsInRun 4 ?_
        refine ⟨fun h => ?_, fun _ => ?_⟩
        · have hc1 : ¬ c9.toInt = -1 := h
          -- the end
          have t148 : ∀ (k : Int32) (j : Nat) (f : Nat → va_E) (H : Heap) (locs : List Loc), rm_h D A st L f H locs → rm_TY cI c1 c2 c3 c4 c5 ad G X L f → rm_Lv G 3 f1 f → k.toInt = (j : Int) → (j = 6464 ∨ j = 6465) → rv_G p l e { frames := rk_q_X12_sendsInRun.2.2.2.2.1, cells := 0, slots := 0, locals := rk_q_X12_sendsInRun.2.2.2.2.2 } st m ([.ref a0, .int s] : List Value).toArray below meth c (MQ below (rk_Q (fun v u => rm_TY cI c1 c2 c3 c4 c5 ad G (X + 0) L u ∧ rm_Lv G 3 f1 u ∧ (fun G _ f v u => ∃ x : Int32, v = some (.int x) ∧ 0 ≤ x.toInt ∧ x.toInt ≤ 323) G X f1 v u) (rk_B D (rk_tys cI c1 c2 c3 c4 c5) L A) A) ([.ref a0, .int s] : List Value).toArray st 0 0 A) rk_q_X12_sendsInRun.2.2.1 0 0 H locs 148 [] [(0, .ref a0), (1, .int s), (2, .int y), (3, .int c9), (4, .int k)] := by
            intro k j f H locs hh hT hLt hk hj
            have hE : rm_mE j = rk_full ∧ rm_wr 1 24 (j : Int) (j : Int) = true := by
              rcases hj with rfl | rfl
              · exact ⟨by decide +kernel, by decide +kernel⟩
              · exact ⟨by decide +kernel, by decide +kernel⟩
            refine rv_run hC.1 hC.2.1 (T := rv_t_X12_sendsInRun) rv_k_X12_sendsInRun 80 ?_
            refine w_gn hC hh hT hG (by omega) (by decide +kernel) rfl (fun fs aN g e1 n1 n2 hLN eN tN eg => ?_)
            refine rv_run hC.1 hC.2.1 (T := rv_t_X12_sendsInRun) rv_k_X12_sendsInRun 80 ?_
            refine rm_get (idx := 7) hC hh (by decide +kernel) rfl (rm_me hT hG).1 e1 n1 ?_
            refine rv_run hC.1 hC.2.1 (T := rv_t_X12_sendsInRun) rv_k_X12_sendsInRun 80 ?_
            refine rm_iald hC hh (by decide +kernel) hLN eN rfl (by omega) (by omega) ?_
            refine rv_run hC.1 hC.2.1 (T := rv_t_X12_sendsInRun) rv_k_X12_sendsInRun 80 ?_
            refine w_nst hC hh hT hG (by omega) 1 j (by decide +kernel) e1 n1 n2 hLN eN tN hk (by omega) (by rw [hE.1]; exact rk_full_ok _) hE.2 (fun f H locs hh hT hL hP => ?_)
            have hLt := rm_lv_tr (k := 3) hLt hL rfl rfl
            refine rv_run hC.1 hC.2.1 (T := rv_t_X12_sendsInRun) rv_k_X12_sendsInRun 1 ?_
            refine rm_iret hC hh (by decide +kernel) rfl ⟨by rw [Int.add_zero]; exact hT, hLt, ⟨c9, rfl, by omega, by omega⟩⟩
          have t126 : ∀ (k : Int32) (f : Nat → va_E) (H : Heap) (locs : List Loc), rm_h D A st L f H locs → rm_TY cI c1 c2 c3 c4 c5 ad G X L f → rm_Lv G 3 f1 f → 0 ≤ k.toInt ∧ k.toInt ≤ 1 → rv_G p l e { frames := rk_q_X12_sendsInRun.2.2.2.2.1, cells := 0, slots := 0, locals := rk_q_X12_sendsInRun.2.2.2.2.2 } st m ([.ref a0, .int s] : List Value).toArray below meth c (MQ below (rk_Q (fun v u => rm_TY cI c1 c2 c3 c4 c5 ad G (X + 0) L u ∧ rm_Lv G 3 f1 u ∧ (fun G _ f v u => ∃ x : Int32, v = some (.int x) ∧ 0 ≤ x.toInt ∧ x.toInt ≤ 323) G X f1 v u) (rk_B D (rk_tys cI c1 c2 c3 c4 c5) L A) A) ([.ref a0, .int s] : List Value).toArray st 0 0 A) rk_q_X12_sendsInRun.2.2.1 0 0 H locs 126 [.int k, .int (Int8.ofInt 14).toInt32, .int s, .ref a0] [(0, .ref a0), (1, .int s), (2, .int y), (3, .int c9)] := by
            intro k f H locs hh hT hLt hk
            refine w_puts hC hh hT hG (by omega) (by omega) 1 42 (by decide +kernel) rfl rfl hs hsn 14 (by decide) (by decide) rfl (rm_hI (a := 0) (b := 1) rfl hk.1 hk.2) (Nat.le_of_ble_eq_true rfl) hcs (fun f H locs hh hT hL hP => ?_)
            have hLt := rm_lv_tr (k := 3) hLt hL rfl rfl
            refine rv_run hC.1 hC.2.1 (T := rv_t_X12_sendsInRun) rv_k_X12_sendsInRun 80 ?_
            refine w_k hC hh hT hG (by omega) (by omega) 79 (by decide +kernel) rfl (c_X12_isMark base l cI c1 c2 c3 c4 c5 D ad adV) (rk_all_c (rk_aM hG) (rk_all_c rk_aF rk_all_0)) rfl rfl (Nat.le_of_ble_eq_true rfl) hcs (fun v f H locs hh hT hL hA => ?_)
            rw [Int.add_zero] at hT
            have hLt := rm_lv_tr (k := 3) hLt hL rfl rfl
            obtain ⟨x, rfl⟩ := rk_alt_i hA rfl
            refine rv_run hC.1 hC.2.1 (T := rv_t_X12_sendsInRun) rv_k_X12_sendsInRun 1 ?_
            refine ⟨fun _ => ?_, fun _ => ?_⟩
            · refine rv_run hC.1 hC.2.1 (T := rv_t_X12_sendsInRun) rv_k_X12_sendsInRun 2 ?_
              exact t148 _ 6464 f H locs hh hT hLt rfl (Or.inl rfl)
            · refine rv_run hC.1 hC.2.1 (T := rv_t_X12_sendsInRun) rv_k_X12_sendsInRun 3 ?_
              exact t148 _ 6465 f H locs hh hT hLt rfl (Or.inr rfl)
          refine rv_run hC.1 hC.2.1 (T := rv_t_X12_sendsInRun) rv_k_X12_sendsInRun 80 ?_
          refine w_at hC hh hT hG (by omega) (by omega) 36 (by decide +kernel) rfl rfl hs hsn 5 (by decide) (by decide) (Nat.le_of_ble_eq_true rfl) hcs (fun w9 H locs hh hw9 => ?_)
          refine rv_run hC.1 hC.2.1 (T := rv_t_X12_sendsInRun) rv_k_X12_sendsInRun 80 ?_
          refine w_puts hC hh hT hG (by omega) (by omega) 1 42 (by decide +kernel) rfl rfl hs hsn 5 (by decide) (by decide) rfl (rm_hF rfl) (Nat.le_of_ble_eq_true rfl) hcs (fun f H locs hh hT hL hP => ?_)
          have hLt := rm_lv_tr (k := 3) hLt hL rfl rfl
          refine rv_run hC.1 hC.2.1 (T := rv_t_X12_sendsInRun) rv_k_X12_sendsInRun 80 ?_
          refine w_more hC hh hT hG (by omega) 0 (by decide) (by omega) 1 46 (by decide +kernel) rfl rfl hs hsn 17 (by decide) (by decide) rfl (rm_hF rfl) (Nat.le_of_ble_eq_true rfl) hcs (fun f H locs hh hT hL hP => ?_)
          rw [Int.add_zero] at hT
          have hLt := rm_lv_tr (k := 3) hLt hL rfl rfl
          refine rv_run hC.1 hC.2.1 (T := rv_t_X12_sendsInRun) rv_k_X12_sendsInRun 80 ?_
          refine w_k hC hh hT hG (by omega) (by omega) 79 (by decide +kernel) rfl (c_X12_isMark base l cI c1 c2 c3 c4 c5 D ad adV) (rk_all_c (rk_aM hG) (rk_all_c rk_aF rk_all_0)) rfl rfl (Nat.le_of_ble_eq_true rfl) hcs (fun v f H locs hh hT hL hA => ?_)
          rw [Int.add_zero] at hT
          have hLt := rm_lv_tr (k := 3) hLt hL rfl rfl
          obtain ⟨x, rfl⟩ := rk_alt_i hA rfl
          refine rv_run hC.1 hC.2.1 (T := rv_t_X12_sendsInRun) rv_k_X12_sendsInRun 1 ?_
          refine ⟨fun _ => ?_, fun _ => ?_⟩
          · refine rv_run hC.1 hC.2.1 (T := rv_t_X12_sendsInRun) rv_k_X12_sendsInRun 1 ?_
            exact t126 _ f H locs hh hT hLt (by decide)
          · refine rv_run hC.1 hC.2.1 (T := rv_t_X12_sendsInRun) rv_k_X12_sendsInRun 2 ?_
            exact t126 _ f H locs hh hT hLt (by decide)
        · refine rv_run hC.1 hC.2.1 (T := rv_t_X12_sendsInRun) rv_k_X12_sendsInRun 1 ?_
          refine rm_iret hC hh (by decide +kernel) rfl ⟨by rw [Int.add_zero]; exact hT, hLt, ⟨_, rfl, by decide, by decide⟩⟩
      refine rv_run hC.1 hC.2.1 (T := rv_t_X12_sendsInRun) rv_k_X12_sendsInRun 1 ?_
      refine ⟨fun _ => ?_, fun _ => ?_⟩
      · refine rv_run hC.1 hC.2.1 (T := rv_t_X12_sendsInRun) rv_k_X12_sendsInRun 1 ?_
        exact t78 _ _ H locs hh hT hLt (by decide)
      · refine rv_run hC.1 hC.2.1 (T := rv_t_X12_sendsInRun) rv_k_X12_sendsInRun 80 ?_
        refine w_h hC hh hT hG (by omega) (by omega) 199 (by decide +kernel) rfl (h_nextData base l cI c1 c2 c3 c4 c5 D ad adV a0 s sn hs hsn) ⟨hG, h1, hI⟩ rfl rfl (Nat.le_of_ble_eq_true rfl) hcs (fun v f H locs hh hT hL hP => ?_)
        rw [Int.add_zero] at hT
        obtain ⟨c9, rfl, hc⟩ := hP
        refine rv_run hC.1 hC.2.1 (T := rv_t_X12_sendsInRun) rv_k_X12_sendsInRun 1 ?_
        exact t78 c9 f H locs hh hT hL hc
    · have hx0 : ¬ x.toInt = 0 := h
      refine rv_run hC.1 hC.2.1 (T := rv_t_X12_sendsInRun) rv_k_X12_sendsInRun 80 ?_
      refine w_h hC hh hT hG (by omega) (by omega) 196 (by decide +kernel) rfl (h_sells base l cI c1 c2 c3 c4 c5 D ad adV a0 s sn hs hsn _ _ _ _ _ (hx.resolve_left hx0)) ⟨hG, rm_so_of G _ a0 sn⟩ rfl rfl (Nat.le_of_ble_eq_true rfl) hcs (fun v f H locs hh hT hL hP => ?_)
      rw [Int.add_zero] at hT
      have hP : v = some (.int (Int16.ofInt 259).toInt32) := hP
      subst hP
      refine rm_iret hC hh (by decide +kernel) rfl ⟨by rw [Int.add_zero]; exact hT, hL, ⟨_, rfl, by decide, by decide⟩⟩
  · have hy0 : 0 < y.toInt := h
    have e3 := rm_ad (x := (Int16.ofInt 260).toInt32) (y := y) (a := 260) rfl rfl (by decide) (by omega)
    have e4 := rm_su e3 rm_e1 (by omega) (by decide)
    refine rv_run hC.1 hC.2.1 (T := rv_t_X12_sendsInRun) rv_k_X12_sendsInRun 80 ?_
    refine w_puts hC hh hT hG (by omega) (by omega) 1 42 (by decide +kernel) rfl rfl hs hsn 12 (by decide) (by decide) rfl (rm_hI (a := 0) (b := 64) rfl (by decide) (by decide)) (Nat.le_of_ble_eq_true rfl) hcs (fun f H locs hh hT hL hP => ?_)
    have hLt := rm_lv_tr (k := 3) hLt hL rfl rfl
    refine rv_run hC.1 hC.2.1 (T := rv_t_X12_sendsInRun) rv_k_X12_sendsInRun 80 ?_
    refine w_gn hC hh hT hG (by omega) (by decide +kernel) rfl (fun fs aN g e1 n1 n2 hLN eN tN eg => ?_)
    refine rv_run hC.1 hC.2.1 (T := rv_t_X12_sendsInRun) rv_k_X12_sendsInRun 80 ?_
    refine rm_get (idx := 7) hC hh (by decide +kernel) rfl (rm_me hT hG).1 e1 n1 ?_
    refine rv_run hC.1 hC.2.1 (T := rv_t_X12_sendsInRun) rv_k_X12_sendsInRun 80 ?_
    refine rm_iald hC hh (by decide +kernel) hLN eN rfl (by decide) (by decide) ?_
    refine rv_run hC.1 hC.2.1 (T := rv_t_X12_sendsInRun) rv_k_X12_sendsInRun 80 ?_
    refine w_nst hC hh hT hG (by omega) 1 6463 (by decide +kernel) e1 n1 n2 hLN eN tN (by decide) (by decide) (rk_full_ok _) rfl (fun f H locs hh hT hL hP => ?_)
    have hLt := rm_lv_tr (k := 3) hLt hL rfl rfl
    refine rv_run hC.1 hC.2.1 (T := rv_t_X12_sendsInRun) rv_k_X12_sendsInRun 5 ?_
    refine rm_iret hC hh (by decide +kernel) rfl ⟨by rw [Int.add_zero]; exact hT, hLt, ⟨_, rfl, by rw [e4]; omega, by rw [e4]; omega⟩⟩
end RMX
