theorem rm_mD_p : ∀ w, w < 427 → 169 ≤ w → rm_mD.getD w rk_full = rk_full ∧ Nat.beq w 8 = false ∧ Nat.beq w 0 = false := by decide +kernel
theorem rm_mod {r m : Int32} {mn : Int} (hm : m.toInt = mn) (hm1 : 1 ≤ mn) (hr : 0 ≤ r.toInt) : 0 ≤ (r - r / m * m).toInt ∧ (r - r / m * m).toInt < mn := by
  rw [rk_rem_e hr (by rw [hm]; omega), hm]
  exact ⟨Int.emod_nonneg _ (by omega), Int.emod_lt_of_pos _ (by omega)⟩
theorem rm_ecC {cI c1 c2 c3 c4 c5 : ClassId} {ad : Nat → Nat} {G : Nat → Option Nat} {L : List Nat} {X : Int} {f : Nat → va_E} {a0 : Nat} (hT : rm_TY cI c1 c2 c3 c4 c5 ad G X L f) (hG : G a0 = some 12) {e w : Nat} (he : e < 8) (hw : w < 427) (ht : rm_mD.getD w rk_full = (1, 0, 0)) : 0 ≤ rm_ec (rm_now G f a0) e w ∧ rm_ec (rm_now G f a0) e w ≤ X := by
  have h := rm_nowT hT hG (2860 + 427 * e + w) (by omega)
  rw [rm_mE_e he hw, ht] at h
  obtain ⟨x, ex, h1, h2⟩ := h
  cases ex
  rw [Int.add_zero] at h2
  exact ⟨h1, h2⟩
def rv_t_X12_takesAtEnd : rv_T := (.branch 0 (.branch 0 (.branch 0 (.branch 0 (.branch 0 (.branch 0 (.branch 0 (.branch 0 (.leaf (0, .bipush (32), 2)) (.leaf (128, .aload_n 0, 1))) (.leaf (64, .iload_n 3, 1))) (.branch 0 (.branch 0 (.leaf (32, .aload_n 0, 1)) (.leaf (160, .iadd, 1))) (.branch 0 (.leaf (96, .istore 5, 2)) (.leaf (224, .bipush (8), 2))))) (.branch 0 (.branch 0 (.leaf (16, .iload_n 2, 1)) (.branch 0 (.leaf (80, .sipush (169), 3)) (.leaf (208, .invokevirtual 53, 3)))) (.leaf (112, .iadd, 1)))) (.branch 0 (.branch 0 (.branch 0 (.leaf (8, .invokevirtual 50, 3)) (.branch 0 (.leaf (72, .iload 4, 2)) (.leaf (200, .invokevirtual 82, 3)))) (.leaf (104, .invokevirtual 53, 3))) (.branch 0 (.branch 0 (.leaf (152, .if_icmp .ge (32), 3)) (.branch 0 (.leaf (88, .invokevirtual 50, 3)) (.leaf (216, .if_icmp .ne (8), 3)))) (.branch 0 (.branch 0 (.leaf (56, .aload_n 0, 1)) (.leaf (184, .aload_n 0, 1))) (.leaf (120, .iconst 1, 1)))))) (.branch 0 (.branch 0 (.branch 0 (.branch 0 (.branch 0 (.leaf (4, .istore_n 2, 1)) (.leaf (132, .iconst 2, 1))) (.leaf (68, .aload_n 0, 1))) (.branch 0 (.branch 0 (.leaf (36, .invokevirtual 50, 3)) (.leaf (164, .aload_n 0, 1))) (.leaf (100, .iload 5, 2)))) (.branch 0 (.branch 0 (.leaf (148, .iload 6, 2)) (.leaf (212, .iload_n 3, 1))) (.leaf (99999, .nop, 1)))) (.branch 0 (.branch 0 (.branch 0 (.leaf (12, .if_icmp .eq (13), 3)) (.branch 0 (.leaf (76, .invokevirtual 53, 3)) (.leaf (204, .iload_n 1, 1)))) (.branch 0 (.leaf (172, .invokevirtual 50, 3)) (.leaf (108, .iload_n 1, 1)))) (.branch 0 (.branch 0 (.branch 0 (.leaf (28, .invokevirtual 159, 3)) (.leaf (156, .iload_n 1, 1))) (.leaf (99999, .nop, 1))) (.leaf (124, .iconst 0, 1)))))) (.branch 0 (.branch 0 (.branch 0 (.branch 0 (.branch 0 (.branch 0 (.leaf (2, .iload_n 1, 1)) (.leaf (130, .iload 5, 2))) (.leaf (194, .if_icmp .ne (9), 3))) (.branch 0 (.leaf (34, .bipush (6), 2)) (.branch 0 (.leaf (98, .aload_n 0, 1)) (.leaf (226, .iload_n 2, 1))))) (.branch 0 (.leaf (146, .istore 6, 2)) (.branch 0 (.leaf (178, .iinc 6 (1), 3)) (.leaf (114, .sipush (256), 3))))) (.branch 0 (.branch 0 (.branch 0 (.leaf (138, .sipush (6457), 3)) (.leaf (74, .iconst 1, 1))) (.leaf (42, .iload_n 3, 1))) (.branch 0 (.leaf (26, .aload_n 0, 1)) (.branch 0 (.branch 0 (.leaf (58, .sipush (129), 3)) (.leaf (186, .iconst 4, 1))) (.leaf (99999, .nop, 1)))))) (.branch 0 (.branch 0 (.branch 0 (.branch 0 (.branch 0 (.leaf (6, .iload_n 1, 1)) (.leaf (134, .aload_n 0, 1))) (.branch 0 (.leaf (70, .bipush (6), 2)) (.leaf (198, .iload_n 1, 1)))) (.branch 0 (.leaf (166, .sipush (129), 3)) (.branch 0 (.leaf (102, .iload 4, 2)) (.leaf (230, .return_, 1))))) (.branch 0 (.branch 0 (.branch 0 (.leaf (22, .ifCond .ne (4), 3)) (.leaf (150, .bipush (40), 2))) (.leaf (86, .iload_n 1, 1))) (.leaf (99999, .nop, 1)))) (.branch 0 (.branch 0 (.leaf (142, .invokevirtual 53, 3)) (.leaf (46, .ifCond .ne (34), 3))) (.branch 0 (.leaf (94, .imul, 1)) (.leaf (190, .iload_n 3, 1))))))) (.branch 0 (.branch 0 (.branch 0 (.branch 0 (.branch 0 (.branch 0 (.leaf (129, .iload_n 1, 1)) (.leaf (65, .invokevirtual 53, 3))) (.branch 0 (.branch 0 (.leaf (33, .iload_n 1, 1)) (.leaf (161, .iload 6, 2))) (.leaf (99999, .nop, 1)))) (.branch 0 (.branch 0 (.branch 0 (.leaf (17, .bipush (20), 2)) (.leaf (145, .iconst 0, 1))) (.leaf (99999, .nop, 1))) (.branch 0 (.leaf (49, .iload 4, 2)) (.leaf (113, .iload_n 3, 1))))) (.branch 0 (.branch 0 (.leaf (99999, .nop, 1)) (.branch 0 (.branch 0 (.leaf (41, .aload_n 0, 1)) (.leaf (169, .iload 6, 2))) (.leaf (99999, .nop, 1)))) (.branch 0 (.leaf (25, .return_, 1)) (.branch 0 (.branch 0 (.leaf (57, .iload_n 1, 1)) (.leaf (185, .iload_n 1, 1))) (.leaf (121, .goto (4), 3)))))) (.branch 0 (.branch 0 (.branch 0 (.branch 0 (.branch 0 (.leaf (5, .aload_n 0, 1)) (.leaf (133, .iadd, 1))) (.branch 0 (.leaf (69, .iload_n 1, 1)) (.leaf (197, .aload_n 0, 1)))) (.leaf (165, .iload_n 1, 1))) (.branch 0 (.branch 0 (.leaf (99999, .nop, 1)) (.branch 0 (.leaf (85, .aload_n 0, 1)) (.leaf (213, .sipush (256), 3)))) (.branch 0 (.branch 0 (.leaf (53, .if_icmp .ge (15), 3)) (.leaf (181, .goto (-33), 3))) (.leaf (117, .if_icmp .ne (7), 3))))) (.branch 0 (.branch 0 (.branch 0 (.leaf (141, .iaload, 1)) (.leaf (205, .bipush (6), 2))) (.leaf (109, .iload 5, 2))) (.branch 0 (.branch 0 (.leaf (157, .iload 5, 2)) (.branch 0 (.leaf (93, .irem, 1)) (.leaf (221, .goto (5), 3)))) (.branch 0 (.leaf (61, .iload 4, 2)) (.leaf (125, .invokevirtual 53, 3))))))) (.branch 0 (.branch 0 (.branch 0 (.branch 0 (.leaf (3, .iadd, 1)) (.branch 0 (.leaf (163, .iadd, 1)) (.branch 0 (.leaf (99, .iload_n 1, 1)) (.leaf (227, .invokevirtual 56, 3))))) (.branch 0 (.branch 0 (.leaf (19, .invokevirtual 36, 3)) (.branch 0 (.leaf (83, .bipush (43), 2)) (.leaf (211, .aload_n 0, 1)))) (.leaf (51, .bipush (40), 2)))) (.branch 0 (.branch 0 (.branch 0 (.leaf (11, .iconst 1, 1)) (.branch 0 (.leaf (75, .iadd, 1)) (.leaf (203, .aload_n 0, 1)))) (.branch 0 (.branch 0 (.leaf (43, .invokevirtual 79, 3)) (.leaf (171, .iadd, 1))) (.leaf (107, .aload_n 0, 1)))) (.branch 0 (.branch 0 (.branch 0 (.leaf (27, .iload_n 2, 1)) (.leaf (155, .aload_n 0, 1))) (.branch 0 (.leaf (91, .bipush (6), 2)) (.leaf (219, .bipush (7), 2)))) (.leaf (187, .invokevirtual 82, 3))))) (.branch 0 (.branch 0 (.branch 0 (.branch 0 (.branch 0 (.leaf (7, .iconst 0, 1)) (.leaf (135, .getfield 7, 3))) (.leaf (199, .iconst 5, 1))) (.leaf (39, .istore 4, 2))) (.leaf (87, .iconst 4, 1))) (.branch 0 (.branch 0 (.branch 0 (.leaf (15, .aload_n 0, 1)) (.branch 0 (.leaf (79, .return_, 1)) (.leaf (207, .iconst 0, 1)))) (.branch 0 (.leaf (175, .invokevirtual 53, 3)) (.leaf (111, .iconst 1, 1)))) (.branch 0 (.branch 0 (.branch 0 (.leaf (31, .istore_n 3, 1)) (.leaf (159, .iconst 3, 1))) (.leaf (95, .iadd, 1))) (.branch 0 (.branch 0 (.leaf (63, .iadd, 1)) (.leaf (191, .sipush (256), 3))) (.leaf (99999, .nop, 1)))))))))
theorem rv_k_X12_takesAtEnd : rv_tok cX12_takesAtEnd rv_t_X12_takesAtEnd = true := by decide +kernel
section RMX
variable (base : Nat) (l : Launch) (cI c1 c2 c3 c4 c5 : ClassId) (D : va_G) (ad adV : Nat → Nat)
theorem h_takesAtEnd (a0 : Nat) (x : Int32) (en : Nat) (he : x.toInt = (en : Int)) (hen : en < 8) : rm_Hm base l cI c1 c2 c3 c4 c5 D ad adV rk_q_X12_takesAtEnd [.ref a0, .int x] (fun G _ f => G a0 = some 12 ∧ rm_one G ∧ rm_INV G f a0) (fun G _ f v u => v = none) 3 3 := by
  unfold rm_Hm
  refine rm_start (M := rk_q_X12_takesAtEnd) (rk_hNw base ad adV) (rk_hNc base ad adV) (by decide +kernel) (mt := rk_mt [rk_q_X12_at, rk_q_X12_isMark, rk_q_X12_logs, rk_q_X12_moreEnd, rk_q_X12_ofEnd, rk_q_X12_putsEnd, rk_q_X12_takes]) (ml := rk_mlf [(36, 0, 3, 12), (79, 1, 2, 12), (56, 2, 3, 12), (82, 3, 3, 12), (50, 4, 3, 12), (53, 5, 4, 12), (159, 6, 2, 12)]) (fl := rk_flf rk_ftX12) (fun s args h hN => rk_MlOk_of (List.forall_mem_cons.mpr ⟨rk_mck_ok (fun w hw => List.mem_cons_of_mem _ hw) h hN rk_cm_X12_at rk_lk_X12_36, List.forall_mem_cons.mpr ⟨rk_mck_ok (fun w hw => List.mem_cons_of_mem _ hw) h hN rk_cm_X12_isMark rk_lk_X12_79, List.forall_mem_cons.mpr ⟨rk_mck_ok (fun w hw => List.mem_cons_of_mem _ hw) h hN rk_cm_X12_logs rk_lk_X12_56, List.forall_mem_cons.mpr ⟨rk_mck_ok (fun w hw => List.mem_cons_of_mem _ hw) h hN rk_cm_X12_moreEnd rk_lk_X12_82, List.forall_mem_cons.mpr ⟨rk_mck_ok (fun w hw => List.mem_cons_of_mem _ hw) h hN rk_cm_X12_ofEnd rk_lk_X12_50, List.forall_mem_cons.mpr ⟨rk_mck_ok (fun w hw => List.mem_cons_of_mem _ hw) h hN rk_cm_X12_putsEnd rk_lk_X12_53, List.forall_mem_cons.mpr ⟨rk_mck_ok (fun w hw => List.mem_cons_of_mem _ hw) h hN rk_cm_X12_takes rk_lk_X12_159, fun _ h => absurd h List.not_mem_nil⟩⟩⟩⟩⟩⟩⟩) (by decide +kernel)) (fun s args h hN => rk_flX12 (fun w hw => List.mem_cons_of_mem _ hw) h hN) (rm_cat1 rfl) (Nat.le_of_ble_eq_true rfl) ?_
  intro p e st m below meth c G X L f0 A hC hh hX0 hXC hT hpre
  have hcs : 0 ≤ 0 ∧ 0 ≤ 0 := ⟨Nat.le_refl 0, Nat.le_refl 0⟩
  obtain ⟨hG, h1, hI⟩ := hpre
  have hXt : X + 3 ≤ 2000000000 := hXC
  have e0 := rm_ad (x := (Int8.ofInt 32).toInt32) (y := x) (a := 32) rfl he (by omega) (by omega)
  have hs : ((Int8.ofInt 32).toInt32 + x).toInt = ((32 + en : Nat) : Int) := by rw [e0]; omega
  have hs40 : 32 + en < 40 := by omega
  have r25 : ∀ (H : Heap) (locs : List Loc), rm_h D A st L f0 H locs → rv_G p l e { frames := rk_q_X12_takesAtEnd.2.2.2.2.1, cells := 0, slots := 0, locals := rk_q_X12_takesAtEnd.2.2.2.2.2 } st m ([.ref a0, .int x] : List Value).toArray below meth c (MQ below (rk_Q (fun v u => rm_TY cI c1 c2 c3 c4 c5 ad G (X + 3) L u ∧ rm_Lv G 3 f0 u ∧ (fun G _ f v u => v = none) G X f0 v u) (rk_B D (rk_tys cI c1 c2 c3 c4 c5) L A) A) ([.ref a0, .int x] : List Value).toArray st 0 0 A) rk_q_X12_takesAtEnd.2.2.1 0 0 H locs 25 [] [(0, .ref a0), (1, .int x), (2, .int ((Int8.ofInt 32).toInt32 + x))] := by
    intro H locs hh
    refine rm_vret hC hh (by decide +kernel) rfl ⟨rk_TY_X (by omega) hT, rm_lv_rf 3, rfl⟩
  refine rv_run hC.1 hC.2.1 (T := rv_t_X12_takesAtEnd) rv_k_X12_takesAtEnd 80 ?_
  refine w_ofEnd hC hh hT hG (by omega) (by omega) 50 (by decide +kernel) rfl rfl he hen 0 (by decide) (by decide) (Nat.le_of_ble_eq_true rfl) hcs (fun q H locs hh hq => ?_)
  refine rv_run hC.1 hC.2.1 (T := rv_t_X12_takesAtEnd) rv_k_X12_takesAtEnd 2 ?_
  refine ⟨fun _ => r25 H locs hh, fun _ => ?_⟩
  refine rv_run hC.1 hC.2.1 (T := rv_t_X12_takesAtEnd) rv_k_X12_takesAtEnd 80 ?_
  refine w_at hC hh hT hG (by omega) (by omega) 36 (by decide +kernel) rfl rfl hs hs40 20 (by decide) (by decide) (Nat.le_of_ble_eq_true rfl) hcs (fun b H locs hh hb => ?_)
  refine rv_run hC.1 hC.2.1 (T := rv_t_X12_takesAtEnd) rv_k_X12_takesAtEnd 1 ?_
  refine ⟨fun h => ?_, fun _ => r25 H locs hh⟩
  have h : ¬ b.toInt = 0 := h
  have hso := rm_so_of G f0 a0 (32 + en)
  obtain ⟨hb1, -⟩ := rm_so_b hT hG hs40 hso
  have eb : b.toInt = rm_sc (rm_now G f0 a0) (32 + en) 20 := by rw [hb]; rfl
  have hB : 1 ≤ rm_sc (rm_now G f0 a0) (32 + en) 20 := by omega
  refine rv_run hC.1 hC.2.1 (T := rv_t_X12_takesAtEnd) rv_k_X12_takesAtEnd 80 ?_
  refine w_h hC hh hT hG (by omega) (by omega) 159 (by decide +kernel) rfl (h_takes base l cI c1 c2 c3 c4 c5 D ad adV a0 _ (32 + en) hs hs40 _ _ _ _ _ hB) ⟨hG, hso⟩ rfl rfl (Nat.le_of_ble_eq_true rfl) hcs (fun v f H locs hh hT hL hP => ?_)
  rw [Int.add_zero] at hT
  obtain ⟨⟨c9, rfl, hc⟩, hst⟩ := hP
  have hLt := rm_st_3 hst hG hso (fun r1 r2 => ⟨by unfold rm_R1 at r1 ⊢; omega, r2⟩) (by omega) hs40
  refine rv_run hC.1 hC.2.1 (T := rv_t_X12_takesAtEnd) rv_k_X12_takesAtEnd 80 ?_
  refine w_ofEnd hC hh hT hG (by omega) (by omega) 50 (by decide +kernel) rfl rfl he hen 6 (by decide) (by decide) (Nat.le_of_ble_eq_true rfl) hcs (fun n H locs hh hn => ?_)
  have hn6 := rm_ecC hT hG (e := en) (w := 6) hen (by decide) rfl
  have hn6 : 0 ≤ n.toInt ∧ n.toInt ≤ X := by
    rw [hn]
    exact hn6
  refine rv_run hC.1 hC.2.1 (T := rv_t_X12_takesAtEnd) rv_k_X12_takesAtEnd 80 ?_
  refine w_k hC hh hT hG (by omega) (by omega) 79 (by decide +kernel) rfl (c_X12_isMark base l cI c1 c2 c3 c4 c5 D ad adV) (rk_all_c (rk_aM hG) (rk_all_c rk_aF rk_all_0)) rfl rfl (Nat.le_of_ble_eq_true rfl) hcs (fun v f H locs hh hT hL hA => ?_)
  rw [Int.add_zero] at hT
  have hLt := rm_lv_tr (k := 3) hLt hL rfl rfl
  obtain ⟨y, rfl, -⟩ := rk_alt_2 hA
  refine rv_run hC.1 hC.2.1 (T := rv_t_X12_takesAtEnd) rv_k_X12_takesAtEnd 1 ?_
  refine ⟨fun _ => ?_, fun _ => ?_⟩
  · have hr6 := rm_ecC hT hG (e := en) (w := 4) hen (by decide) rfl
    refine rv_run hC.1 hC.2.1 (T := rv_t_X12_takesAtEnd) rv_k_X12_takesAtEnd 80 ?_
    refine w_ofEnd hC hh hT hG (by omega) (by omega) 50 (by decide +kernel) rfl rfl he hen 4 (by decide) (by decide) (Nat.le_of_ble_eq_true rfl) hcs (fun r H locs hh hr => ?_)
    have hr4 : 0 ≤ r.toInt ∧ r.toInt ≤ X := by
      rw [hr]
      exact hr6
    have hm := rm_mod (r := r) (m := (Int8.ofInt 6).toInt32) (mn := 6) rfl (by decide) hr4.1
    have e7 := rm_mu (x := (Int8.ofInt 43).toInt32) (a := 43) rfl (by decide) hm (by decide)
    have e8 := rm_ad (x := (Int16.ofInt 169).toInt32) (a := 169) rfl e7 (by omega) (by omega)
    obtain ⟨jn, hj⟩ : ∃ j : Nat, (r - r / (Int8.ofInt 6).toInt32 * (Int8.ofInt 6).toInt32).toInt = (j : Int) := ⟨_, (Int.toNat_of_nonneg hm.1).symm⟩
    have hK : ((Int16.ofInt 169).toInt32 + (Int8.ofInt 43).toInt32 * (r - r / (Int8.ofInt 6).toInt32 * (Int8.ofInt 6).toInt32)).toInt = ((169 + 43 * jn : Nat) : Int) := by rw [e8, hj]; omega
    have hj6 : jn < 6 := by omega
    refine rv_run hC.1 hC.2.1 (T := rv_t_X12_takesAtEnd) rv_k_X12_takesAtEnd 80 ?_
    refine ⟨by decide, ?_⟩
    obtain ⟨p1, p2, p3⟩ := rm_mD_p (169 + 43 * jn) (by omega) (by omega)
    refine w_putsEnd hC hh hT hG (by omega) (by omega) 1 53 (by decide +kernel) rfl rfl he hen (169 + 43 * jn) hK (by omega) (by rw [p2, p3]; rfl) (rm_hF p1) (Nat.le_of_ble_eq_true rfl) hcs (fun f H locs hh hT hL hP => ?_)
    have hLt := rm_lv_tr (k := 3) hLt hL rfl rfl
    have t203 : ∀ (i : Int32) (f : Nat → va_E) (H : Heap) (locs : List Loc), rm_h D A st L f H locs → rm_TY cI c1 c2 c3 c4 c5 ad G (X + 1) L f → rm_Lv G 3 f0 f → rv_G p l e { frames := rk_q_X12_takesAtEnd.2.2.2.2.1, cells := 0, slots := 0, locals := rk_q_X12_takesAtEnd.2.2.2.2.2 } st m ([.ref a0, .int x] : List Value).toArray below meth c (MQ below (rk_Q (fun v u => rm_TY cI c1 c2 c3 c4 c5 ad G (X + 3) L u ∧ rm_Lv G 3 f0 u ∧ (fun G _ f v u => v = none) G X f0 v u) (rk_B D (rk_tys cI c1 c2 c3 c4 c5) L A) A) ([.ref a0, .int x] : List Value).toArray st 0 0 A) rk_q_X12_takesAtEnd.2.2.1 0 0 H locs 203 [] [(0, .ref a0), (1, .int x), (2, .int ((Int8.ofInt 32).toInt32 + x)), (3, .int c9), (4, .int n), (5, .int ((Int16.ofInt 169).toInt32 + (Int8.ofInt 43).toInt32 * (r - r / (Int8.ofInt 6).toInt32 * (Int8.ofInt 6).toInt32))), (6, .int i)] := by
      intro i f H locs hh hT hLt
      refine rv_run hC.1 hC.2.1 (T := rv_t_X12_takesAtEnd) rv_k_X12_takesAtEnd 80 ?_
      refine w_putsEnd hC hh hT hG (by omega) (by omega) 1 53 (by decide +kernel) rfl rfl he hen 6 (by decide) (by decide) rfl (show rk_has G (X + 1) (1, 0, 0) (.int (Int32.ofInt 0)) from ⟨Int32.ofInt 0, rfl, by decide, show (0 : Int) ≤ X + 1 + 0 by omega⟩) (Nat.le_of_ble_eq_true rfl) hcs (fun f H locs hh hT hL hP => ?_)
      have hLt := rm_lv_tr (k := 3) hLt hL rfl rfl
      refine rv_run hC.1 hC.2.1 (T := rv_t_X12_takesAtEnd) rv_k_X12_takesAtEnd 4 ?_
      refine ⟨fun _ => ?_, fun _ => ?_⟩
      · refine rv_run hC.1 hC.2.1 (T := rv_t_X12_takesAtEnd) rv_k_X12_takesAtEnd 80 ?_
        refine w_kv hC hh hT hG (by omega) (by omega) 56 (by decide +kernel) rfl (c_X12_logs base l cI c1 c2 c3 c4 c5 D ad adV) (rk_all_c (rk_aM hG) (rk_all_c rk_aF (rk_all_c rk_aF rk_all_0))) rfl rfl (Nat.le_of_ble_eq_true rfl) hcs (fun f H locs hh hT hL => ?_)
        have hLt := rm_lv_tr (k := 3) hLt hL rfl rfl
        refine rm_vret hC hh (by decide +kernel) rfl ⟨rk_TY_X (by omega) hT, hLt, rfl⟩
      · refine rv_run hC.1 hC.2.1 (T := rv_t_X12_takesAtEnd) rv_k_X12_takesAtEnd 80 ?_
        refine w_kv hC hh hT hG (by omega) (by omega) 56 (by decide +kernel) rfl (c_X12_logs base l cI c1 c2 c3 c4 c5 D ad adV) (rk_all_c (rk_aM hG) (rk_all_c rk_aF (rk_all_c rk_aF rk_all_0))) rfl rfl (Nat.le_of_ble_eq_true rfl) hcs (fun f H locs hh hT hL => ?_)
        have hLt := rm_lv_tr (k := 3) hLt hL rfl rfl
        refine rm_vret hC hh (by decide +kernel) rfl ⟨rk_TY_X (by omega) hT, hLt, rfl⟩
    have t184 : ∀ (i : Int32) (f : Nat → va_E) (H : Heap) (locs : List Loc), rm_h D A st L f H locs → rm_TY cI c1 c2 c3 c4 c5 ad G X L f → rm_Lv G 3 f0 f → rv_G p l e { frames := rk_q_X12_takesAtEnd.2.2.2.2.1, cells := 0, slots := 0, locals := rk_q_X12_takesAtEnd.2.2.2.2.2 } st m ([.ref a0, .int x] : List Value).toArray below meth c (MQ below (rk_Q (fun v u => rm_TY cI c1 c2 c3 c4 c5 ad G (X + 3) L u ∧ rm_Lv G 3 f0 u ∧ (fun G _ f v u => v = none) G X f0 v u) (rk_B D (rk_tys cI c1 c2 c3 c4 c5) L A) A) ([.ref a0, .int x] : List Value).toArray st 0 0 A) rk_q_X12_takesAtEnd.2.2.1 0 0 H locs 184 [] [(0, .ref a0), (1, .int x), (2, .int ((Int8.ofInt 32).toInt32 + x)), (3, .int c9), (4, .int n), (5, .int ((Int16.ofInt 169).toInt32 + (Int8.ofInt 43).toInt32 * (r - r / (Int8.ofInt 6).toInt32 * (Int8.ofInt 6).toInt32))), (6, .int i)] := by
      intro i f H locs hh hT hLt
      have hr6 := rm_ecC hT hG (e := en) (w := 4) hen (by decide) rfl
      have e9 : (rm_now G f a0 (2860 + 427 * en + 4) + Int32.ofInt 1).toInt = rm_ec (rm_now G f a0) en 4 + 1 := rk_add_e (y := Int32.ofInt 1) (by show _ ≤ rm_ec (rm_now G f a0) en 4 + 1; omega) (by show rm_ec (rm_now G f a0) en 4 + 1 ≤ _; omega)
      refine rv_run hC.1 hC.2.1 (T := rv_t_X12_takesAtEnd) rv_k_X12_takesAtEnd 80 ?_
      refine w_moreEnd hC hh hT hG (by omega) 1 (by decide) (by omega) 1 82 (by decide +kernel) rfl rfl he hen 4 (by decide) (by decide) rfl (show rk_has G (X + 1) (1, 0, 0) _ from ⟨_, rfl, by rw [e9]; omega, by rw [e9]; omega⟩) (Nat.le_of_ble_eq_true rfl) hcs (fun f H locs hh hT hL hP => ?_)
      have hLt := rm_lv_tr (k := 3) hLt hL rfl rfl
      refine rv_run hC.1 hC.2.1 (T := rv_t_X12_takesAtEnd) rv_k_X12_takesAtEnd 3 ?_
      refine ⟨fun _ => t203 i f H locs hh hT hLt, fun _ => ?_⟩
      refine rv_run hC.1 hC.2.1 (T := rv_t_X12_takesAtEnd) rv_k_X12_takesAtEnd 80 ?_
      refine w_moreEnd hC hh hT hG (by omega) 0 (by decide) (by omega) 1 82 (by decide +kernel) rfl rfl he hen 5 (by decide) (by decide) rfl (rm_hF rfl) (Nat.le_of_ble_eq_true rfl) hcs (fun f H locs hh hT hL hP => ?_)
      rw [Int.add_zero] at hT
      exact t203 i f H locs hh hT (rm_lv_tr (k := 3) hLt hL rfl rfl)
    have loop : ∀ (d : Nat) (i : Int32) (nn : Nat) (f : Nat → va_E) (H : Heap) (locs : List Loc), rm_h D A st L f H locs → rm_TY cI c1 c2 c3 c4 c5 ad G X L f → rm_Lv G 3 f0 f → i.toInt = (nn : Int) → nn + d = 40 → rv_G p l e { frames := rk_q_X12_takesAtEnd.2.2.2.2.1, cells := 0, slots := 0, locals := rk_q_X12_takesAtEnd.2.2.2.2.2 } st m ([.ref a0, .int x] : List Value).toArray below meth c (MQ below (rk_Q (fun v u => rm_TY cI c1 c2 c3 c4 c5 ad G (X + 3) L u ∧ rm_Lv G 3 f0 u ∧ (fun G _ f v u => v = none) G X f0 v u) (rk_B D (rk_tys cI c1 c2 c3 c4 c5) L A) A) ([.ref a0, .int x] : List Value).toArray st 0 0 A) rk_q_X12_takesAtEnd.2.2.1 0 0 H locs 148 [] [(0, .ref a0), (1, .int x), (2, .int ((Int8.ofInt 32).toInt32 + x)), (3, .int c9), (4, .int n), (5, .int ((Int16.ofInt 169).toInt32 + (Int8.ofInt 43).toInt32 * (r - r / (Int8.ofInt 6).toInt32 * (Int8.ofInt 6).toInt32))), (6, .int i)] := by
      intro d
      induction d with
      | zero =>
        intro i nn f H locs hh hT hLt hi hd
        refine rv_run hC.1 hC.2.1 (T := rv_t_X12_takesAtEnd) rv_k_X12_takesAtEnd 3 ?_
        exact ⟨fun _ => t184 i f H locs hh hT hLt, fun h => absurd h (by show ¬ i.toInt < 40; omega)⟩
      | succ d ih =>
        intro i nn f H locs hh hT hLt hi hd
        have e9 := rm_ad (x := i) hi rm_e1 (by omega) (by decide)
        have e10 := rm_ad (x := (Int16.ofInt 129).toInt32) (a := 129) rfl hi (by omega) (by omega)
        have e11 := rm_ad (x := ((Int16.ofInt 169).toInt32 + (Int8.ofInt 43).toInt32 * (r - r / (Int8.ofInt 6).toInt32 * (Int8.ofInt 6).toInt32))) (y := Int32.ofInt 3) (b := 3) hK rfl (by omega) (by omega)
        have e12 := rm_ad (y := i) e11 hi (by omega) (by omega)
        refine rv_run hC.1 hC.2.1 (T := rv_t_X12_takesAtEnd) rv_k_X12_takesAtEnd 3 ?_
        refine ⟨fun h => absurd h (by show ¬ 40 ≤ i.toInt; omega), fun _ => ?_⟩
        refine rv_run hC.1 hC.2.1 (T := rv_t_X12_takesAtEnd) rv_k_X12_takesAtEnd 80 ?_
        refine w_ofEnd hC hh hT hG (by omega) (by omega) 50 (by decide +kernel) rfl rfl he hen (129 + nn) (by rw [e10]; omega) (by omega) (Nat.le_of_ble_eq_true rfl) hcs (fun z H locs hh hz => ?_)
        obtain ⟨p1, p2, p3⟩ := rm_mD_p (172 + 43 * jn + nn) (by omega) (by omega)
        refine w_putsEnd hC hh hT hG (by omega) (by omega) 1 53 (by decide +kernel) rfl rfl he hen (172 + 43 * jn + nn) (by rw [e12]; omega) (by omega) (by rw [p2, p3]; rfl) (rm_hF p1) (Nat.le_of_ble_eq_true rfl) hcs (fun f H locs hh hT hL hP => ?_)
        have hLt := rm_lv_tr (k := 3) hLt hL rfl rfl
        refine rv_run hC.1 hC.2.1 (T := rv_t_X12_takesAtEnd) rv_k_X12_takesAtEnd 2 ?_
        exact ih (i + Int32.ofInt 1) (nn + 1) f H locs hh hT hLt (by rw [e9]; omega) (by omega)
    have t125 : ∀ (q : Int32) (f : Nat → va_E) (H : Heap) (locs : List Loc), rm_h D A st L f H locs → rm_TY cI c1 c2 c3 c4 c5 ad G X L f → rm_Lv G 3 f0 f → rv_G p l e { frames := rk_q_X12_takesAtEnd.2.2.2.2.1, cells := 0, slots := 0, locals := rk_q_X12_takesAtEnd.2.2.2.2.2 } st m ([.ref a0, .int x] : List Value).toArray below meth c (MQ below (rk_Q (fun v u => rm_TY cI c1 c2 c3 c4 c5 ad G (X + 3) L u ∧ rm_Lv G 3 f0 u ∧ (fun G _ f v u => v = none) G X f0 v u) (rk_B D (rk_tys cI c1 c2 c3 c4 c5) L A) A) ([.ref a0, .int x] : List Value).toArray st 0 0 A) rk_q_X12_takesAtEnd.2.2.1 0 0 H locs 125 [.int q, .int (((Int16.ofInt 169).toInt32 + (Int8.ofInt 43).toInt32 * (r - r / (Int8.ofInt 6).toInt32 * (Int8.ofInt 6).toInt32)) + Int32.ofInt 1), .int x, .ref a0] [(0, .ref a0), (1, .int x), (2, .int ((Int8.ofInt 32).toInt32 + x)), (3, .int c9), (4, .int n), (5, .int ((Int16.ofInt 169).toInt32 + (Int8.ofInt 43).toInt32 * (r - r / (Int8.ofInt 6).toInt32 * (Int8.ofInt 6).toInt32)))] := by
      intro q f H locs hh hT hLt
      have e11 := rm_ad (x := ((Int16.ofInt 169).toInt32 + (Int8.ofInt 43).toInt32 * (r - r / (Int8.ofInt 6).toInt32 * (Int8.ofInt 6).toInt32))) hK rm_e1 (by omega) (by omega)
      have e12 := rm_ad (x := ((Int16.ofInt 169).toInt32 + (Int8.ofInt 43).toInt32 * (r - r / (Int8.ofInt 6).toInt32 * (Int8.ofInt 6).toInt32))) (y := Int32.ofInt 2) (b := 2) hK rfl (by omega) (by omega)
      obtain ⟨p1, p2, p3⟩ := rm_mD_p (170 + 43 * jn) (by omega) (by omega)
      refine w_putsEnd hC hh hT hG (by omega) (by omega) 1 53 (by decide +kernel) rfl rfl he hen (170 + 43 * jn) (by rw [e11]; omega) (by omega) (by rw [p2, p3]; rfl) (rm_hF p1) (Nat.le_of_ble_eq_true rfl) hcs (fun f H locs hh hT hL hP => ?_)
      have hLt := rm_lv_tr (k := 3) hLt hL rfl rfl
      refine rv_run hC.1 hC.2.1 (T := rv_t_X12_takesAtEnd) rv_k_X12_takesAtEnd 80 ?_
      refine w_gn hC hh hT hG (by omega) (by decide +kernel) rfl (fun fs aN g e1 n1 n2 hLN eN tN eg => ?_)
      refine rv_run hC.1 hC.2.1 (T := rv_t_X12_takesAtEnd) rv_k_X12_takesAtEnd 80 ?_
      refine rm_iald hC hh (by decide +kernel) hLN eN rfl (by decide) (by decide) ?_
      obtain ⟨p1, p2, p3⟩ := rm_mD_p (171 + 43 * jn) (by omega) (by omega)
      refine w_putsEnd hC hh hT hG (by omega) (by omega) 1 53 (by decide +kernel) rfl rfl he hen (171 + 43 * jn) (by rw [e12]; omega) (by omega) (by rw [p2, p3]; rfl) (rm_hF p1) (Nat.le_of_ble_eq_true rfl) hcs (fun f H locs hh hT hL hP => ?_)
      have hLt := rm_lv_tr (k := 3) hLt hL rfl rfl
      refine rv_run hC.1 hC.2.1 (T := rv_t_X12_takesAtEnd) rv_k_X12_takesAtEnd 2 ?_
      exact loop 40 _ 0 f H locs hh hT hLt rfl rfl
    refine rv_run hC.1 hC.2.1 (T := rv_t_X12_takesAtEnd) rv_k_X12_takesAtEnd 8 ?_
    refine ⟨fun _ => ?_, fun _ => ?_⟩
    · refine rv_run hC.1 hC.2.1 (T := rv_t_X12_takesAtEnd) rv_k_X12_takesAtEnd 1 ?_
      exact t125 _ f H locs hh hT hLt
    · refine rv_run hC.1 hC.2.1 (T := rv_t_X12_takesAtEnd) rv_k_X12_takesAtEnd 2 ?_
      exact t125 _ f H locs hh hT hLt
  · have t68 : ∀ (f : Nat → va_E) (H : Heap) (locs : List Loc), rm_h D A st L f H locs → rm_TY cI c1 c2 c3 c4 c5 ad G X L f → rm_Lv G 3 f0 f → rv_G p l e { frames := rk_q_X12_takesAtEnd.2.2.2.2.1, cells := 0, slots := 0, locals := rk_q_X12_takesAtEnd.2.2.2.2.2 } st m ([.ref a0, .int x] : List Value).toArray below meth c (MQ below (rk_Q (fun v u => rm_TY cI c1 c2 c3 c4 c5 ad G (X + 3) L u ∧ rm_Lv G 3 f0 u ∧ (fun G _ f v u => v = none) G X f0 v u) (rk_B D (rk_tys cI c1 c2 c3 c4 c5) L A) A) ([.ref a0, .int x] : List Value).toArray st 0 0 A) rk_q_X12_takesAtEnd.2.2.1 0 0 H locs 68 [] [(0, .ref a0), (1, .int x), (2, .int ((Int8.ofInt 32).toInt32 + x)), (3, .int c9), (4, .int n)] := by
      intro f H locs hh hT hLt
      have hT : rm_TY cI c1 c2 c3 c4 c5 ad G (X + 3) L f := rk_TY_X (by omega) hT
      have e9 : (n + Int32.ofInt 1).toInt = n.toInt + 1 := rk_add_e (y := Int32.ofInt 1) (by show _ ≤ n.toInt + 1; omega) (by show n.toInt + 1 ≤ _; omega)
      refine rv_run hC.1 hC.2.1 (T := rv_t_X12_takesAtEnd) rv_k_X12_takesAtEnd 80 ?_
      refine w_putsEnd hC hh hT hG (by omega) (by omega) 1 53 (by decide +kernel) rfl rfl he hen 6 (by decide) (by decide) rfl (show rk_has G (X + 3) (1, 0, 0) _ from ⟨_, rfl, by rw [e9]; omega, by rw [e9]; omega⟩) (Nat.le_of_ble_eq_true rfl) hcs (fun f H locs hh hT hL hP => ?_)
      have hLt := rm_lv_tr (k := 3) hLt hL rfl rfl
      refine rm_vret hC hh (by decide +kernel) rfl ⟨hT, hLt, rfl⟩
    refine rv_run hC.1 hC.2.1 (T := rv_t_X12_takesAtEnd) rv_k_X12_takesAtEnd 3 ?_
    refine ⟨fun _ => t68 f H locs hh hT hLt, fun h => ?_⟩
    have h : n.toInt < 40 := h
    obtain ⟨nn, hnn⟩ : ∃ j : Nat, n.toInt = (j : Int) := ⟨n.toInt.toNat, by omega⟩
    have e9 := rm_ad (x := (Int16.ofInt 129).toInt32) (a := 129) rfl hnn (by omega) (by omega)
    obtain ⟨q1, q2, q3⟩ := rm_mD_q (129 + nn) (by omega) (by omega)
    refine rv_run hC.1 hC.2.1 (T := rv_t_X12_takesAtEnd) rv_k_X12_takesAtEnd 80 ?_
    refine w_putsEnd hC hh hT hG (by omega) (by omega) 1 53 (by decide +kernel) rfl rfl he hen (129 + nn) (by rw [e9]; omega) (by omega) (by rw [q2, q3]; rfl) (rm_hI q1 hc.1 hc.2) (Nat.le_of_ble_eq_true rfl) hcs (fun f H locs hh hT hL hP => ?_)
    exact t68 f H locs hh hT (rm_lv_tr (k := 3) hLt hL rfl rfl)
end RMX
