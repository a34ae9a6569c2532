def rv_t_X12_routes : rv_T := (.branch 0 (.branch 0 (.branch 0 (.branch 0 (.branch 0 (.branch 0 (.branch 0 (.leaf (0, .aload_n 0, 1)) (.leaf (64, .invokevirtual 159, 3))) (.leaf (99999, .nop, 1))) (.branch 0 (.branch 0 (.leaf (16, .invokevirtual 46, 3)) (.leaf (80, .invokevirtual 56, 3))) (.leaf (48, .iload_n 1, 1)))) (.branch 0 (.branch 0 (.branch 0 (.leaf (8, .iconst (-1), 1)) (.leaf (72, .idiv, 1))) (.leaf (40, .iload_n 1, 1))) (.branch 0 (.leaf (88, .iconst 0, 1)) (.leaf (56, .sipush (256), 3))))) (.branch 0 (.branch 0 (.leaf (68, .aload_n 0, 1)) (.branch 0 (.branch 0 (.leaf (20, .iload_n 1, 1)) (.leaf (84, .iload_n 1, 1))) (.leaf (52, .invokevirtual 42, 3)))) (.branch 0 (.branch 0 (.leaf (12, .aload_n 0, 1)) (.leaf (44, .invokevirtual 42, 3))) (.leaf (92, .irem, 1))))) (.branch 0 (.branch 0 (.branch 0 (.branch 0 (.leaf (2, .iload_n 2, 1)) (.branch 0 (.leaf (34, .iload_n 1, 1)) (.leaf (98, .iconst 0, 1)))) (.leaf (99999, .nop, 1))) (.branch 0 (.branch 0 (.leaf (74, .invokevirtual 130, 3)) (.leaf (106, .invokevirtual 111, 3))) (.branch 0 (.branch 0 (.leaf (26, .aload_n 0, 1)) (.leaf (90, .bipush (8), 2))) (.leaf (99999, .nop, 1))))) (.branch 0 (.branch 0 (.branch 0 (.branch 0 (.leaf (6, .istore_n 3, 1)) (.leaf (70, .bipush (8), 2))) (.branch 0 (.leaf (38, .return_, 1)) (.leaf (102, .iload_n 1, 1)))) (.leaf (99999, .nop, 1))) (.branch 0 (.branch 0 (.branch 0 (.leaf (14, .bipush (23), 2)) (.leaf (78, .iconst 4, 1))) (.leaf (99999, .nop, 1))) (.branch 0 (.leaf (30, .if_icmp .le (8), 3)) (.leaf (62, .aload_n 0, 1))))))) (.branch 0 (.branch 0 (.branch 0 (.branch 0 (.branch 0 (.leaf (1, .iload_n 1, 1)) (.leaf (33, .aload_n 0, 1))) (.leaf (49, .bipush (22), 2))) (.branch 0 (.branch 0 (.branch 0 (.leaf (9, .if_icmp .ne (30), 3)) (.leaf (73, .iconst 4, 1))) (.branch 0 (.leaf (41, .bipush (21), 2)) (.leaf (105, .irem, 1)))) (.leaf (89, .iload_n 1, 1)))) (.branch 0 (.branch 0 (.leaf (69, .iload_n 1, 1)) (.branch 0 (.branch 0 (.leaf (21, .bipush (23), 2)) (.leaf (85, .bipush (8), 2))) (.leaf (99999, .nop, 1)))) (.branch 0 (.branch 0 (.branch 0 (.leaf (13, .iload_n 1, 1)) (.leaf (77, .aload_n 0, 1))) (.leaf (109, .return_, 1))) (.leaf (93, .bipush (7), 2))))) (.branch 0 (.branch 0 (.branch 0 (.branch 0 (.branch 0 (.leaf (3, .invokevirtual 172, 3)) (.leaf (67, .pop, 1))) (.branch 0 (.leaf (35, .invokevirtual 178, 3)) (.leaf (99, .goto (7), 3)))) (.branch 0 (.branch 0 (.leaf (19, .aload_n 0, 1)) (.leaf (83, .aload_n 0, 1))) (.leaf (51, .iload_n 3, 1)))) (.branch 0 (.leaf (43, .iconst 1, 1)) (.branch 0 (.leaf (27, .invokevirtual 175, 3)) (.leaf (59, .if_icmp .lt (9), 3))))) (.branch 0 (.branch 0 (.branch 0 (.leaf (7, .iload_n 3, 1)) (.branch 0 (.leaf (39, .aload_n 0, 1)) (.leaf (103, .bipush (8), 2)))) (.branch 0 (.branch 0 (.leaf (23, .invokevirtual 36, 3)) (.leaf (87, .idiv, 1))) (.leaf (55, .iload_n 2, 1)))) (.branch 0 (.branch 0 (.leaf (79, .iload_n 1, 1)) (.leaf (47, .aload_n 0, 1))) (.branch 0 (.leaf (95, .if_icmp .ne (7), 3)) (.leaf (63, .iload_n 1, 1))))))))
theorem rv_k_X12_routes : rv_tok cX12_routes rv_t_X12_routes = true := by decide +kernel
section RMX
variable (base : Nat) (l : Launch) (cI c1 c2 c3 c4 c5 : ClassId) (D : va_G) (ad adV : Nat → Nat)
theorem h_routes (a0 : Nat) (s x : Int32) (sn : Nat) (hs : s.toInt = (sn : Int)) (hsn : sn < 32) : rm_Hm base l cI c1 c2 c3 c4 c5 D ad adV rk_q_X12_routes [.ref a0, .int s, .int x] (fun G _ f => G a0 = some 12 ∧ rm_one G ∧ rm_INV G f a0 ∧ 1 ≤ rm_sc (rm_now G f a0) sn 20) (fun G _ f v u => v = none) 1 3 := by
  unfold rm_Hm
  refine rm_start (M := rk_q_X12_routes) (rk_hNw base ad adV) (rk_hNc base ad adV) (by decide +kernel) (mt := rk_mt [rk_q_X12_at, rk_q_X12_cuts, rk_q_X12_leastOpen, rk_q_X12_logs, rk_q_X12_more, rk_q_X12_moreRouter, rk_q_X12_puts, rk_q_X12_putsRouter, rk_q_X12_takes, rk_q_X12_watchOf]) (ml := rk_mlf [(36, 0, 3, 12), (178, 1, 2, 12), (172, 2, 3, 12), (56, 3, 3, 12), (46, 4, 3, 12), (130, 5, 3, 12), (42, 6, 4, 12), (111, 7, 4, 12), (159, 8, 2, 12), (175, 9, 1, 12)]) (fl := rk_flf rk_ftX12) (fun s args h hN => rk_MlOk_of (List.forall_mem_cons.mpr ⟨rk_mck_ok (fun w hw => List.mem_cons_of_mem _ hw) h hN rk_cm_X12_at rk_lk_X12_36, List.forall_mem_cons.mpr ⟨rk_mck_ok (fun w hw => List.mem_cons_of_mem _ hw) h hN rk_cm_X12_cuts rk_lk_X12_178, List.forall_mem_cons.mpr ⟨rk_mck_ok (fun w hw => List.mem_cons_of_mem _ hw) h hN rk_cm_X12_leastOpen rk_lk_X12_172, List.forall_mem_cons.mpr ⟨rk_mck_ok (fun w hw => List.mem_cons_of_mem _ hw) h hN rk_cm_X12_logs rk_lk_X12_56, List.forall_mem_cons.mpr ⟨rk_mck_ok (fun w hw => List.mem_cons_of_mem _ hw) h hN rk_cm_X12_more rk_lk_X12_46, List.forall_mem_cons.mpr ⟨rk_mck_ok (fun w hw => List.mem_cons_of_mem _ hw) h hN rk_cm_X12_moreRouter rk_lk_X12_130, List.forall_mem_cons.mpr ⟨rk_mck_ok (fun w hw => List.mem_cons_of_mem _ hw) h hN rk_cm_X12_puts rk_lk_X12_42, List.forall_mem_cons.mpr ⟨rk_mck_ok (fun w hw => List.mem_cons_of_mem _ hw) h hN rk_cm_X12_putsRouter rk_lk_X12_111, List.forall_mem_cons.mpr ⟨rk_mck_ok (fun w hw => List.mem_cons_of_mem _ hw) h hN rk_cm_X12_takes rk_lk_X12_159, List.forall_mem_cons.mpr ⟨rk_mck_ok (fun w hw => List.mem_cons_of_mem _ hw) h hN rk_cm_X12_watchOf rk_lk_X12_175, fun _ h => absurd h List.not_mem_nil⟩⟩⟩⟩⟩⟩⟩⟩⟩⟩) (by decide +kernel)) (fun s args h hN => rk_flX12 (fun w hw => List.mem_cons_of_mem _ hw) h hN) (rm_cat1 rfl) (Nat.le_of_ble_eq_true rfl) ?_
  intro p e st m below meth c G X L f0 A hC hh hX0 hXC hT hpre
  have hcs : 0 ≤ 0 ∧ 0 ≤ 0 := ⟨Nat.le_refl 0, Nat.le_refl 0⟩
  obtain ⟨hG, h1, hI, hB⟩ := hpre
  have hLt := rm_lv_rf (G := G) (f := f0) 3
  have hs40 : sn < 40 := by omega
  have e9 : (Int8.ofInt 8).toInt32.toInt = 8 := rfl
  have e8 : (s / (Int8.ofInt 8).toInt32).toInt = ((sn / 8 : Nat) : Int) := by rw [rk_div_e (by omega) (by rw [e9]; decide), e9, hs]; omega
  have er := rm_rem8 hs hs40
  refine rv_run hC.1 hC.2.1 (T := rv_t_X12_routes) rv_k_X12_routes 80 ?_
  refine w_k hC hh hT hG (by omega) (by omega) 172 (by decide +kernel) rfl (c_X12_leastOpen base l cI c1 c2 c3 c4 c5 D ad adV) (rk_all_c (rk_aM hG) (rk_all_c (rk_aI (by omega)) (rk_all_c rk_aF rk_all_0))) rfl rfl (Nat.le_of_ble_eq_true rfl) hcs (fun v f H locs hh hT hL hA => ?_)
  rw [Int.add_zero] at hT
  have hLt := rm_lv_tr (k := 3) hLt hL rfl rfl
  have hRC : rm_RCE G f0 f := (rm_lvb (rm_lv_up (m := 1) hL rfl) (by decide) rfl : rm_Rb 1 G f0 f)
  have hI := rm_I1 (rm_lv_up hL rfl) hG hI
  have hB : 1 ≤ rm_sc (rm_now G f a0) sn 20 := by rw [rm_RCE_sc hRC hG hs40 rfl]; exact hB
  obtain ⟨pt, rfl, hpt⟩ : ∃ y : Int32, v = some (.int y) ∧ ((1 ≤ y.toInt ∧ y.toInt ≤ 31) ∨ y.toInt = -1) := by
    obtain ⟨a, ha, h1, h2⟩ := hA
    rcases List.mem_cons.mp ha with rfl | ha
    · obtain ⟨w, e1, x, e2, y1, y2⟩ := (h1 : ∃ w, v = some w ∧ rk_has G (X + 0) (0, 1, 31) w)
      exact ⟨x, by rw [e1, e2], Or.inl ⟨y1, y2⟩⟩
    · rw [List.mem_singleton] at ha
      subst ha
      obtain ⟨w, e1, x, e2, y1, y2⟩ := (h1 : ∃ w, v = some w ∧ rk_has G (X + 0) (0, -1, -1) w)
      exact ⟨x, by rw [e1, e2], Or.inr (by omega)⟩
  refine rv_run hC.1 hC.2.1 (T := rv_t_X12_routes) rv_k_X12_routes 4 ?_
  refine ⟨fun h => ?_, fun _ => ?_⟩
  · have hp1 : ¬ pt.toInt = -1 := h
    have hpt : 1 ≤ pt.toInt ∧ pt.toInt ≤ 31 := hpt.resolve_right hp1
    refine rv_run hC.1 hC.2.1 (T := rv_t_X12_routes) rv_k_X12_routes 80 ?_
    refine w_puts hC hh hT hG (by omega) (by omega) 1 42 (by decide +kernel) rfl rfl hs hs40 21 (by decide) (by decide) rfl (rm_hI (a := 0) (b := 2) rfl (by decide) (by decide)) (Nat.le_of_ble_eq_true rfl) hcs (fun f H locs hh hT hL hP => ?_)
    have hB : 1 ≤ rm_sc (rm_now G f a0) sn 20 := by rw [rm_RCE_sc (rm_lvb hL (by decide) rfl : rm_Rb 1 G _ f) hG hs40 rfl]; exact hB
    have hLt := rm_lv_tr (k := 3) hLt hL rfl rfl
    have hI := rm_I1 hL hG hI
    refine rv_run hC.1 hC.2.1 (T := rv_t_X12_routes) rv_k_X12_routes 80 ?_
    refine w_puts hC hh hT hG (by omega) (by omega) 1 42 (by decide +kernel) rfl rfl hs hs40 22 (by decide) (by decide) rfl (rm_hI (a := 0) (b := 31) rfl (by omega) (by omega)) (Nat.le_of_ble_eq_true rfl) hcs (fun f H locs hh hT hL hP => ?_)
    have hB : 1 ≤ rm_sc (rm_now G f a0) sn 20 := by rw [rm_RCE_sc (rm_lvb hL (by decide) rfl : rm_Rb 1 G _ f) hG hs40 rfl]; exact hB
    have hLt := rm_lv_tr (k := 3) hLt hL rfl rfl
    have hI := rm_I1 hL hG hI
    have t106 : ∀ (k : Int32) (f : Nat → va_E) (H : Heap) (locs : List Loc), rm_h D A st L f H locs → rm_TY cI c1 c2 c3 c4 c5 ad G (X + 1) L f → rm_Lv G 3 f0 f → 0 ≤ k.toInt ∧ k.toInt ≤ 7 → rv_G p l e { frames := rk_q_X12_routes.2.2.2.2.1, cells := 0, slots := 0, locals := rk_q_X12_routes.2.2.2.2.2 } st m ([.ref a0, .int s, .int x] : List Value).toArray below meth c (MQ below (rk_Q (fun v u => rm_TY cI c1 c2 c3 c4 c5 ad G (X + 1) L u ∧ rm_Lv G 3 f0 u ∧ (fun G _ f v u => v = none) G X f0 v u) (rk_B D (rk_tys cI c1 c2 c3 c4 c5) L A) A) ([.ref a0, .int s, .int x] : List Value).toArray st 0 0 A) rk_q_X12_routes.2.2.1 0 0 H locs 106 [.int k, .int (Int32.ofInt 0), .int (s / (Int8.ofInt 8).toInt32), .ref a0] [(0, .ref a0), (1, .int s), (2, .int x), (3, .int pt)] := by
      intro k f H locs hh hT hLt hk
      refine w_putsRouter hC hh hT hG (by omega) (by omega) 1 111 (by decide +kernel) rfl rfl e8 (by omega) 0 (by decide) (by decide) rfl (rm_hI (a := 0) (b := 7) rfl hk.1 hk.2) (Nat.le_of_ble_eq_true rfl) hcs (fun f H locs hh hT hL hP => ?_)
      have hLt := rm_lv_tr (k := 3) hLt hL rfl rfl
      refine rv_run hC.1 hC.2.1 (T := rv_t_X12_routes) rv_k_X12_routes 80 ?_
      refine rm_vret hC hh (by decide +kernel) rfl ⟨hT, hLt, rfl⟩
    have t68 : ∀ (f : Nat → va_E) (H : Heap) (locs : List Loc), rm_h D A st L f H locs → rm_TY cI c1 c2 c3 c4 c5 ad G X L f → rm_Lv G 3 f0 f → rv_G p l e { frames := rk_q_X12_routes.2.2.2.2.1, cells := 0, slots := 0, locals := rk_q_X12_routes.2.2.2.2.2 } st m ([.ref a0, .int s, .int x] : List Value).toArray below meth c (MQ below (rk_Q (fun v u => rm_TY cI c1 c2 c3 c4 c5 ad G (X + 1) L u ∧ rm_Lv G 3 f0 u ∧ (fun G _ f v u => v = none) G X f0 v u) (rk_B D (rk_tys cI c1 c2 c3 c4 c5) L A) A) ([.ref a0, .int s, .int x] : List Value).toArray st 0 0 A) rk_q_X12_routes.2.2.1 0 0 H locs 68 [] [(0, .ref a0), (1, .int s), (2, .int x), (3, .int pt)] := by
      intro f H locs hh hT hLt
      refine rv_run hC.1 hC.2.1 (T := rv_t_X12_routes) rv_k_X12_routes 80 ?_
      refine ⟨by decide, ?_⟩
      refine w_moreRouter hC hh hT hG (by omega) 0 (by decide) (by omega) 1 130 (by decide +kernel) rfl rfl e8 (by omega) 4 (by decide) (by decide) rfl (rm_hF rfl) (Nat.le_of_ble_eq_true rfl) hcs (fun f H locs hh hT hL hP => ?_)
      rw [Int.add_zero] at hT
      have hLt := rm_lv_tr (k := 3) hLt hL rfl rfl
      refine rv_run hC.1 hC.2.1 (T := rv_t_X12_routes) rv_k_X12_routes 80 ?_
      refine w_kv hC hh hT hG (by omega) (by omega) 56 (by decide +kernel) rfl (c_X12_logs base l cI c1 c2 c3 c4 c5 D ad adV) (rk_all_c (rk_aM hG) (rk_all_c rk_aF (rk_all_c rk_aF rk_all_0))) rfl rfl (Nat.le_of_ble_eq_true rfl) hcs (fun f H locs hh hT hL => ?_)
      have hLt := rm_lv_tr (k := 3) hLt hL rfl rfl
      refine rv_run hC.1 hC.2.1 (T := rv_t_X12_routes) rv_k_X12_routes 10 ?_
      refine ⟨by decide, by decide, fun _ => ?_, fun _ => ?_⟩
      · refine rv_run hC.1 hC.2.1 (T := rv_t_X12_routes) rv_k_X12_routes 3 ?_
        refine ⟨by decide, ?_⟩
        exact t106 _ f H locs hh hT hLt (by rw [er]; omega)
      · refine rv_run hC.1 hC.2.1 (T := rv_t_X12_routes) rv_k_X12_routes 2 ?_
        exact t106 _ f H locs hh hT hLt (by decide)
    refine rv_run hC.1 hC.2.1 (T := rv_t_X12_routes) rv_k_X12_routes 3 ?_
    refine ⟨fun _ => t68 f H locs hh hT hLt, fun _ => ?_⟩
    have hso := rm_so_of G f a0 sn
    obtain ⟨hb1, -⟩ := rm_so_b hT hG hs40 hso
    refine rv_run hC.1 hC.2.1 (T := rv_t_X12_routes) rv_k_X12_routes 80 ?_
    refine w_h hC hh hT hG (by omega) (by omega) 159 (by decide +kernel) rfl (h_takes base l cI c1 c2 c3 c4 c5 D ad adV a0 s sn hs hs40 _ _ _ _ _ hB) ⟨hG, hso⟩ rfl rfl (Nat.le_of_ble_eq_true rfl) hcs (fun v f H locs hh hT hL hP => ?_)
    rw [Int.add_zero] at hT
    obtain ⟨⟨c9, rfl, hc⟩, hst⟩ := hP
    have hL3 := rm_st_3 hst hG hso (fun r1 r2 => ⟨by unfold rm_R1 at r1 ⊢; omega, r2⟩) (by omega) hs40
    refine rv_run hC.1 hC.2.1 (T := rv_t_X12_routes) rv_k_X12_routes 1 ?_
    exact t68 f H locs hh hT (rm_lv_tr (k := 3) hLt hL3 rfl rfl)
  · refine rv_run hC.1 hC.2.1 (T := rv_t_X12_routes) rv_k_X12_routes 80 ?_
    refine w_more hC hh hT hG (by omega) 0 (by decide) (by omega) 1 46 (by decide +kernel) rfl rfl hs hs40 23 (by decide) (by decide) rfl (rm_hF rfl) (Nat.le_of_ble_eq_true rfl) hcs (fun f H locs hh hT hL hP => ?_)
    rw [Int.add_zero] at hT
    have hLt := rm_lv_tr (k := 3) hLt hL rfl rfl
    refine rv_run hC.1 hC.2.1 (T := rv_t_X12_routes) rv_k_X12_routes 80 ?_
    refine w_at hC hh hT hG (by omega) (by omega) 36 (by decide +kernel) rfl rfl hs hs40 23 (by decide) (by decide) (Nat.le_of_ble_eq_true rfl) hcs (fun y H locs hh hy => ?_)
    refine rv_run hC.1 hC.2.1 (T := rv_t_X12_routes) rv_k_X12_routes 80 ?_
    refine w_ki hC hh hT hG (by omega) (by omega) 175 (by decide +kernel) rfl (c_X12_watchOf base l cI c1 c2 c3 c4 c5 D ad adV) (rk_all_c (rk_aM hG) rk_all_0) rfl rfl (Nat.le_of_ble_eq_true rfl) hcs (fun z f H locs hh hT hL hz => ?_)
    rw [Int.add_zero] at hT
    have hLt := rm_lv_tr (k := 3) hLt hL rfl rfl
    refine rv_run hC.1 hC.2.1 (T := rv_t_X12_routes) rv_k_X12_routes 1 ?_
    refine ⟨fun _ => ?_, fun _ => ?_⟩
    · refine rm_vret hC hh (by decide +kernel) rfl ⟨rk_TY_X (by omega) hT, hLt, rfl⟩
    · refine rv_run hC.1 hC.2.1 (T := rv_t_X12_routes) rv_k_X12_routes 80 ?_
      refine w_kv hC hh hT hG (by omega) (by omega) 178 (by decide +kernel) rfl (c_X12_cuts base l cI c1 c2 c3 c4 c5 D ad adV) (rk_all_c (rk_aM hG) (rk_all_c (rk_aI (by omega)) rk_all_0)) rfl rfl (Nat.le_of_ble_eq_true rfl) hcs (fun f H locs hh hT hL => ?_)
      have hLt := rm_lv_tr (k := 3) hLt hL rfl rfl
      refine rv_run hC.1 hC.2.1 (T := rv_t_X12_routes) rv_k_X12_routes 80 ?_
      refine rm_vret hC hh (by decide +kernel) rfl ⟨hT, hLt, rfl⟩
end RMX
