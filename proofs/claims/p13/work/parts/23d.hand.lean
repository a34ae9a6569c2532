theorem rk_alt_2 {G : Nat → Option Nat} {X : Int} {av : List Value} {q : List (Nat × rk_AV)} {v : Option Value} (h : rk_alt G X av [((0, 1, 1), q), ((0, 0, 0), [])] v) : ∃ x : Int32, v = some (.int x) ∧ ((x.toInt = 1 ∧ ∀ z ∈ q, ∃ w, av[z.1]? = some w ∧ rk_has G X z.2 w) ∨ x.toInt = 0) := by
  obtain ⟨a, ha, h1, h2⟩ := h
  rcases List.mem_cons.mp ha with rfl | ha
  · obtain ⟨w, e1, x, e2, y1, y2⟩ := (h1 : ∃ w, v = some w ∧ rk_has G X (0, 1, 1) w)
    exact ⟨x, by rw [e1, e2], Or.inl ⟨by omega, h2⟩⟩
  · rw [List.mem_singleton] at ha
    subst ha
    obtain ⟨w, e1, x, e2, y1, y2⟩ := (h1 : ∃ w, v = some w ∧ rk_has G X (0, 0, 0) w)
    exact ⟨x, by rw [e1, e2], Or.inr (by omega)⟩
def rv_t_X12_isLive : rv_T := (.branch 0 (.branch 0 (.leaf (0, .aload_n 0, 1)) (.branch 0 (.branch 0 (.leaf (2, .iconst 3, 1)) (.leaf (10, .iconst 1, 1))) (.branch 0 (.leaf (6, .iconst 3, 1)) (.leaf (14, .iconst 0, 1))))) (.branch 0 (.leaf (1, .iload_n 1, 1)) (.branch 0 (.branch 0 (.leaf (3, .invokevirtual 36, 3)) (.leaf (11, .goto (4), 3))) (.branch 0 (.leaf (7, .if_icmp .lt (7), 3)) (.leaf (15, .ireturn, 1))))))
theorem rv_k_X12_isLive : rv_tok cX12_isLive rv_t_X12_isLive = true := by decide +kernel
def rv_t_X12_otherOf : rv_T := (.branch 0 (.branch 0 (.branch 0 (.branch 0 (.leaf (0, .aload_n 0, 1)) (.leaf (8, .ireturn, 1))) (.leaf (99999, .nop, 1))) (.branch 0 (.leaf (2, .iconst 0, 1)) (.leaf (6, .iconst 1, 1)))) (.branch 0 (.leaf (1, .iload_n 1, 1)) (.branch 0 (.leaf (3, .invokevirtual 36, 3)) (.leaf (7, .isub, 1)))))
theorem rv_k_X12_otherOf : rv_tok cX12_otherOf rv_t_X12_otherOf = true := by decide +kernel
def rv_t_X12_maySell : rv_T := (.branch 0 (.branch 0 (.branch 0 (.branch 0 (.leaf (0, .aload_n 0, 1)) (.branch 0 (.leaf (8, .iload_n 1, 1)) (.leaf (24, .iconst 0, 1)))) (.branch 0 (.branch 0 (.leaf (4, .invokevirtual 36, 3)) (.leaf (20, .iconst 1, 1))) (.leaf (99999, .nop, 1)))) (.branch 0 (.leaf (2, .bipush (20), 2)) (.leaf (14, .iadd, 1)))) (.branch 0 (.branch 0 (.branch 0 (.branch 0 (.leaf (1, .iload_n 1, 1)) (.leaf (17, .if_icmp .gt (7), 3))) (.branch 0 (.leaf (9, .bipush (6), 2)) (.leaf (25, .ireturn, 1)))) (.leaf (21, .goto (4), 3))) (.branch 0 (.leaf (11, .invokevirtual 36, 3)) (.branch 0 (.leaf (7, .aload_n 0, 1)) (.leaf (15, .bipush (16), 2))))))
theorem rv_k_X12_maySell : rv_tok cX12_maySell rv_t_X12_maySell = true := by decide +kernel
def rv_t_X12_sells : rv_T := (.branch 0 (.branch 0 (.branch 0 (.branch 0 (.branch 0 (.branch 0 (.leaf (0, .aload_n 0, 1)) (.leaf (32, .iconst 1, 1))) (.leaf (99999, .nop, 1))) (.branch 0 (.leaf (8, .invokevirtual 36, 3)) (.leaf (24, .aload_n 0, 1)))) (.branch 0 (.leaf (4, .aload_n 0, 1)) (.leaf (28, .sipush (6462), 3)))) (.branch 0 (.branch 0 (.branch 0 (.branch 0 (.leaf (2, .bipush (6), 2)) (.leaf (34, .iastore, 1))) (.leaf (18, .getfield 7, 3))) (.leaf (99999, .nop, 1))) (.branch 0 (.branch 0 (.branch 0 (.leaf (6, .bipush (6), 2)) (.leaf (38, .ireturn, 1))) (.leaf (99999, .nop, 1))) (.leaf (14, .invokevirtual 42, 3))))) (.branch 0 (.branch 0 (.branch 0 (.branch 0 (.branch 0 (.leaf (1, .iload_n 1, 1)) (.leaf (33, .iadd, 1))) (.leaf (17, .aload_n 0, 1))) (.leaf (25, .getfield 7, 3))) (.branch 0 (.branch 0 (.leaf (5, .iload_n 1, 1)) (.leaf (21, .sipush (6462), 3))) (.leaf (13, .iadd, 1)))) (.branch 0 (.branch 0 (.leaf (35, .sipush (259), 3)) (.leaf (11, .bipush (8), 2))) (.leaf (31, .iaload, 1)))))
theorem rv_k_X12_sells : rv_tok cX12_sells rv_t_X12_sells = true := by decide +kernel
def rv_t_X12_hears : rv_T := (.branch 0 (.branch 0 (.branch 0 (.branch 0 (.branch 0 (.branch 0 (.branch 0 (.branch 0 (.leaf (0, .aload_n 0, 1)) (.leaf (128, .iconst 5, 1))) (.leaf (99999, .nop, 1))) (.branch 0 (.leaf (32, .iload_n 1, 1)) (.leaf (96, .iload_n 2, 1)))) (.branch 0 (.branch 0 (.branch 0 (.leaf (16, .iconst 1, 1)) (.leaf (144, .iload_n 2, 1))) (.leaf (80, .invokevirtual 46, 3))) (.leaf (112, .bipush (8), 2)))) (.branch 0 (.branch 0 (.leaf (72, .iaload, 1)) (.leaf (104, .iload_n 1, 1))) (.branch 0 (.leaf (152, .iload_n 1, 1)) (.branch 0 (.leaf (184, .idiv, 1)) (.leaf (120, .bipush (9), 2)))))) (.branch 0 (.branch 0 (.branch 0 (.branch 0 (.branch 0 (.leaf (4, .iload_n 2, 1)) (.leaf (132, .bipush (24), 2))) (.leaf (99999, .nop, 1))) (.branch 0 (.leaf (164, .aload_n 0, 1)) (.leaf (100, .if_icmp .ne (43), 3)))) (.branch 0 (.branch 0 (.leaf (148, .ifCond .eq (9), 3)) (.leaf (84, .iconst 3, 1))) (.leaf (180, .aload_n 0, 1)))) (.branch 0 (.branch 0 (.branch 0 (.leaf (140, .invokevirtual 88, 3)) (.leaf (76, .aload_n 0, 1))) (.leaf (108, .iconst 5, 1))) (.leaf (92, .invokevirtual 88, 3))))) (.branch 0 (.branch 0 (.branch 0 (.branch 0 (.branch 0 (.leaf (2, .bipush (7), 2)) (.branch 0 (.leaf (66, .getfield 7, 3)) (.leaf (194, .goto (16), 3)))) (.leaf (34, .invokevirtual 36, 3))) (.branch 0 (.branch 0 (.leaf (18, .goto (4), 3)) (.leaf (210, .return_, 1))) (.branch 0 (.leaf (50, .aload_n 0, 1)) (.leaf (114, .iadd, 1))))) (.branch 0 (.branch 0 (.branch 0 (.branch 0 (.leaf (10, .iload_n 1, 1)) (.leaf (138, .iload_n 1, 1))) (.leaf (202, .iload_n 2, 1))) (.branch 0 (.branch 0 (.leaf (42, .iload_n 1, 1)) (.leaf (170, .iconst 5, 1))) (.leaf (106, .aload_n 0, 1)))) (.branch 0 (.branch 0 (.branch 0 (.leaf (26, .iconst (-1), 1)) (.leaf (154, .invokevirtual 140, 3))) (.leaf (90, .iload_n 1, 1))) (.branch 0 (.branch 0 (.leaf (58, .ifCond .le (38), 3)) (.leaf (186, .sipush (260), 3))) (.leaf (122, .iconst 1, 1)))))) (.branch 0 (.branch 0 (.branch 0 (.branch 0 (.branch 0 (.leaf (6, .if_icmp .ne (15), 3)) (.leaf (134, .if_icmp .le (9), 3))) (.leaf (198, .iload_n 1, 1))) (.branch 0 (.branch 0 (.leaf (38, .if_icmp .ne (12), 3)) (.leaf (166, .iconst 3, 1))) (.leaf (99999, .nop, 1)))) (.branch 0 (.branch 0 (.leaf (22, .invokevirtual 42, 3)) (.leaf (86, .invokevirtual 56, 3))) (.branch 0 (.branch 0 (.leaf (54, .sipush (6459), 3)) (.leaf (182, .bipush (8), 2))) (.leaf (118, .aload_n 0, 1))))) (.branch 0 (.branch 0 (.branch 0 (.leaf (99999, .nop, 1)) (.branch 0 (.leaf (78, .bipush (19), 2)) (.leaf (206, .isub, 1)))) (.branch 0 (.branch 0 (.leaf (46, .invokevirtual 42, 3)) (.leaf (174, .iload_n 1, 1))) (.leaf (99999, .nop, 1)))) (.branch 0 (.branch 0 (.branch 0 (.leaf (30, .return_, 1)) (.leaf (158, .sipush (260), 3))) (.leaf (99999, .nop, 1))) (.branch 0 (.branch 0 (.leaf (62, .invokevirtual 133, 3)) (.leaf (190, .iload_n 1, 1))) (.leaf (126, .aload_n 0, 1)))))))) (.branch 0 (.branch 0 (.branch 0 (.branch 0 (.branch 0 (.branch 0 (.branch 0 (.leaf (1, .iload_n 1, 1)) (.leaf (129, .invokevirtual 36, 3))) (.leaf (65, .aload_n 0, 1))) (.branch 0 (.branch 0 (.leaf (33, .iconst 3, 1)) (.leaf (161, .if_icmp .lt (49), 3))) (.leaf (97, .sipush (259), 3)))) (.branch 0 (.branch 0 (.branch 0 (.leaf (17, .iadd, 1)) (.leaf (145, .invokevirtual 137, 3))) (.leaf (99999, .nop, 1))) (.branch 0 (.branch 0 (.leaf (49, .return_, 1)) (.leaf (177, .if_icmp .ge (20), 3))) (.leaf (99999, .nop, 1))))) (.branch 0 (.branch 0 (.branch 0 (.branch 0 (.leaf (9, .aload_n 0, 1)) (.leaf (137, .aload_n 0, 1))) (.branch 0 (.leaf (73, .if_icmp .ge (23), 3)) (.leaf (201, .isub, 1)))) (.branch 0 (.leaf (41, .aload_n 0, 1)) (.leaf (105, .iconst 5, 1)))) (.branch 0 (.branch 0 (.branch 0 (.leaf (25, .iload_n 2, 1)) (.leaf (153, .iload_n 2, 1))) (.leaf (89, .aload_n 0, 1))) (.branch 0 (.branch 0 (.leaf (57, .iaload, 1)) (.leaf (185, .iload_n 2, 1))) (.leaf (99999, .nop, 1)))))) (.branch 0 (.branch 0 (.branch 0 (.branch 0 (.leaf (5, .iconst (-1), 1)) (.branch 0 (.leaf (69, .sipush (6459), 3)) (.leaf (197, .aload_n 0, 1)))) (.branch 0 (.branch 0 (.leaf (37, .iconst 3, 1)) (.leaf (165, .iload_n 1, 1))) (.leaf (99999, .nop, 1)))) (.branch 0 (.branch 0 (.leaf (21, .iconst 0, 1)) (.leaf (85, .iload_n 1, 1))) (.leaf (181, .iload_n 1, 1)))) (.branch 0 (.branch 0 (.branch 0 (.leaf (13, .invokevirtual 36, 3)) (.leaf (77, .iload_n 1, 1))) (.branch 0 (.leaf (45, .iconst 1, 1)) (.leaf (109, .invokevirtual 36, 3)))) (.branch 0 (.leaf (157, .iload_n 2, 1)) (.branch 0 (.branch 0 (.leaf (61, .aload_n 0, 1)) (.leaf (189, .isub, 1))) (.leaf (99999, .nop, 1))))))) (.branch 0 (.branch 0 (.branch 0 (.leaf (99999, .nop, 1)) (.branch 0 (.leaf (83, .aload_n 0, 1)) (.branch 0 (.leaf (51, .getfield 7, 3)) (.leaf (115, .invokevirtual 42, 3))))) (.branch 0 (.branch 0 (.branch 0 (.branch 0 (.leaf (11, .bipush (7), 2)) (.leaf (139, .iconst 1, 1))) (.leaf (203, .sipush (260), 3))) (.branch 0 (.branch 0 (.leaf (43, .bipush (8), 2)) (.leaf (171, .if_icmp .ne (39), 3))) (.leaf (107, .iload_n 1, 1)))) (.branch 0 (.branch 0 (.leaf (27, .if_icmp .ne (4), 3)) (.leaf (91, .iconst 1, 1))) (.leaf (123, .invokevirtual 42, 3))))) (.branch 0 (.branch 0 (.branch 0 (.leaf (199, .bipush (32), 2)) (.branch 0 (.leaf (167, .invokevirtual 36, 3)) (.leaf (103, .aload_n 0, 1)))) (.branch 0 (.leaf (151, .aload_n 0, 1)) (.leaf (119, .iload_n 1, 1)))) (.branch 0 (.branch 0 (.branch 0 (.leaf (143, .aload_n 0, 1)) (.leaf (207, .invokevirtual 146, 3))) (.leaf (175, .bipush (32), 2))) (.branch 0 (.branch 0 (.leaf (31, .aload_n 0, 1)) (.leaf (95, .return_, 1))) (.branch 0 (.leaf (191, .invokevirtual 143, 3)) (.leaf (127, .iload_n 1, 1)))))))))
theorem rv_k_X12_hears : rv_tok cX12_hears rv_t_X12_hears = true := by decide +kernel
def rv_t_X12_hearsAll : rv_T := (.branch 0 (.branch 0 (.branch 0 (.branch 0 (.branch 0 (.branch 0 (.leaf (0, .iconst 0, 1)) (.leaf (32, .invokevirtual 36, 3))) (.leaf (16, .aload_n 0, 1))) (.branch 0 (.branch 0 (.leaf (8, .aload_n 0, 1)) (.leaf (40, .goto (16), 3))) (.branch 0 (.leaf (24, .goto (35), 3)) (.leaf (56, .invokevirtual 149, 3))))) (.branch 0 (.leaf (36, .if_icmp .ne (7), 3)) (.branch 0 (.leaf (44, .aload_n 0, 1)) (.leaf (28, .iload_n 1, 1))))) (.branch 0 (.branch 0 (.branch 0 (.leaf (2, .iload_n 1, 1)) (.leaf (18, .invokevirtual 85, 3))) (.leaf (10, .invokevirtual 32, 3))) (.branch 0 (.leaf (54, .iconst 1, 1)) (.branch 0 (.leaf (46, .invokevirtual 97, 3)) (.branch 0 (.leaf (30, .iload_n 1, 1)) (.leaf (62, .goto (-60), 3))))))) (.branch 0 (.branch 0 (.branch 0 (.branch 0 (.branch 0 (.branch 0 (.leaf (1, .istore_n 1, 1)) (.leaf (65, .return_, 1))) (.leaf (99999, .nop, 1))) (.branch 0 (.leaf (17, .iload_n 1, 1)) (.leaf (49, .bipush (10), 2)))) (.leaf (9, .iload_n 1, 1))) (.branch 0 (.branch 0 (.leaf (5, .if_icmp .ge (60), 3)) (.leaf (21, .ifCond .ne (6), 3))) (.branch 0 (.branch 0 (.leaf (13, .ifCond .eq (46), 3)) (.leaf (45, .iload_n 1, 1))) (.leaf (29, .aload_n 0, 1))))) (.branch 0 (.branch 0 (.branch 0 (.branch 0 (.leaf (3, .bipush (40), 2)) (.leaf (35, .iconst 1, 1))) (.leaf (51, .invokevirtual 36, 3))) (.branch 0 (.leaf (43, .aload_n 0, 1)) (.branch 0 (.leaf (27, .aload_n 0, 1)) (.leaf (59, .iinc 1 (1), 3))))) (.branch 0 (.branch 0 (.leaf (39, .iconst (-1), 1)) (.leaf (55, .isub, 1))) (.leaf (31, .iconst 1, 1))))))
theorem rv_k_X12_hearsAll : rv_tok cX12_hearsAll rv_t_X12_hearsAll = true := by decide +kernel
section RMX
variable (base : Nat) (l : Launch) (cI c1 c2 c3 c4 c5 : ClassId) (D : va_G) (ad adV : Nat → Nat)
theorem h_isLive (a0 : Nat) (s : Int32) (sn : Nat) (hs : s.toInt = (sn : Int)) (hsn : sn < 40) : rm_Hm base l cI c1 c2 c3 c4 c5 D ad adV rk_q_X12_isLive [.ref a0, .int s] (fun G _ f => G a0 = some 12) (fun G _ f v u => (∃ x : Int32, v = some (.int x) ∧ ((x.toInt = 1 ∧ 3 ≤ rm_sc (rm_now G f a0) sn 3) ∨ (x.toInt = 0 ∧ rm_sc (rm_now G f a0) sn 3 < 3))) ∧ u = f) 0 0 := by
  unfold rm_Hm
  refine rm_start (M := rk_q_X12_isLive) (rk_hNw base ad adV) (rk_hNc base ad adV) (by decide +kernel) (mt := rk_mt [rk_q_X12_at]) (ml := rk_mlf [(36, 0, 3, 12)]) (fl := rk_flf rk_ftX12) (fun s args h hN => rk_MlOk_of (List.forall_mem_cons.mpr ⟨rk_mck_ok (fun w hw => List.mem_cons_of_mem _ hw) h hN rk_cm_X12_at rk_lk_X12_36, fun _ h => absurd h List.not_mem_nil⟩) (by decide +kernel)) (fun s args h hN => rk_flX12 (fun w hw => List.mem_cons_of_mem _ hw) h hN) (rm_cat1 rfl) (Nat.le_of_ble_eq_true rfl) ?_
  intro p e st m below meth c G X L f0 A hC hh hX0 hXC hT hpre
  have hcs : 0 ≤ 0 ∧ 0 ≤ 0 := ⟨Nat.le_refl 0, Nat.le_refl 0⟩
  have hG : G a0 = some 12 := hpre
  refine rv_run hC.1 hC.2.1 (T := rv_t_X12_isLive) rv_k_X12_isLive 80 ?_
  refine w_at hC hh hT hG (by omega) (by omega) 36 (by decide +kernel) rfl rfl hs hsn 3 (by decide) (by decide) (Nat.le_of_ble_eq_true rfl) hcs (fun y H locs hh hy => ?_)
  have ey : y.toInt = rm_sc (rm_now G f0 a0) sn 3 := by rw [hy]; rfl
  refine rv_run hC.1 hC.2.1 (T := rv_t_X12_isLive) rv_k_X12_isLive 2 ?_
  refine ⟨fun h => ?_, fun h => ?_⟩
  · have h : y.toInt < 3 := h
    refine rv_run hC.1 hC.2.1 (T := rv_t_X12_isLive) rv_k_X12_isLive 1 ?_
    refine rm_zret hC hh (by decide +kernel) rfl (Or.inl rfl) ⟨by rw [Int.add_zero]; exact hT, rm_lv_rf 0, ⟨_, rfl, Or.inr ⟨rfl, by omega⟩⟩, rfl⟩
  · have h : 3 ≤ y.toInt := h
    refine rv_run hC.1 hC.2.1 (T := rv_t_X12_isLive) rv_k_X12_isLive 2 ?_
    refine rm_zret hC hh (by decide +kernel) rfl (Or.inr rfl) ⟨by rw [Int.add_zero]; exact hT, rm_lv_rf 0, ⟨_, rfl, Or.inl ⟨rfl, by omega⟩⟩, rfl⟩
theorem h_otherOf (a0 : Nat) (s : Int32) (sn : Nat) (hs : s.toInt = (sn : Int)) (hsn : sn < 40) : rm_Hm base l cI c1 c2 c3 c4 c5 D ad adV rk_q_X12_otherOf [.ref a0, .int s] (fun G _ f => G a0 = some 12) (fun G _ f v u => (∃ x : Int32, v = some (.int x) ∧ x.toInt = rm_sc (rm_now G f a0) sn 0 - 1) ∧ u = f) 0 0 := by
  unfold rm_Hm
  refine rm_start (M := rk_q_X12_otherOf) (rk_hNw base ad adV) (rk_hNc base ad adV) (by decide +kernel) (mt := rk_mt [rk_q_X12_at]) (ml := rk_mlf [(36, 0, 3, 12)]) (fl := rk_flf rk_ftX12) (fun s args h hN => rk_MlOk_of (List.forall_mem_cons.mpr ⟨rk_mck_ok (fun w hw => List.mem_cons_of_mem _ hw) h hN rk_cm_X12_at rk_lk_X12_36, fun _ h => absurd h List.not_mem_nil⟩) (by decide +kernel)) (fun s args h hN => rk_flX12 (fun w hw => List.mem_cons_of_mem _ hw) h hN) (rm_cat1 rfl) (Nat.le_of_ble_eq_true rfl) ?_
  intro p e st m below meth c G X L f0 A hC hh hX0 hXC hT hpre
  have hcs : 0 ≤ 0 ∧ 0 ≤ 0 := ⟨Nat.le_refl 0, Nat.le_refl 0⟩
  have hG : G a0 = some 12 := hpre
  refine rv_run hC.1 hC.2.1 (T := rv_t_X12_otherOf) rv_k_X12_otherOf 80 ?_
  refine w_at hC hh hT hG (by omega) (by omega) 36 (by decide +kernel) rfl rfl hs hsn 0 (by decide) (by decide) (Nat.le_of_ble_eq_true rfl) hcs (fun y H locs hh hy => ?_)
  have ey : y.toInt = rm_sc (rm_now G f0 a0) sn 0 := by rw [hy]; rfl
  have b1 := rm_scT hT hG (w := 0) hsn (by decide) rfl
  have e3 := rm_su ey rm_e1 (by omega) (by decide)
  refine rv_run hC.1 hC.2.1 (T := rv_t_X12_otherOf) rv_k_X12_otherOf 2 ?_
  refine rm_iret hC hh (by decide +kernel) rfl ⟨by rw [Int.add_zero]; exact hT, rm_lv_rf 0, ⟨_, rfl, e3⟩, rfl⟩
theorem h_maySell (a0 : Nat) (s : Int32) (sn : Nat) (hs : s.toInt = (sn : Int)) (hsn : sn < 40) (B S C T O : Int) : rm_Hm base l cI c1 c2 c3 c4 c5 D ad adV rk_q_X12_maySell [.ref a0, .int s] (fun G _ f => G a0 = some 12 ∧ rm_so G f a0 sn B S C T O) (fun G _ f v u => (∃ x : Int32, v = some (.int x) ∧ (x.toInt = 0 ∨ B + S ≤ 16)) ∧ u = f) 0 0 := by
  unfold rm_Hm
  refine rm_start (M := rk_q_X12_maySell) (rk_hNw base ad adV) (rk_hNc base ad adV) (by decide +kernel) (mt := rk_mt [rk_q_X12_at]) (ml := rk_mlf [(36, 0, 3, 12)]) (fl := rk_flf rk_ftX12) (fun s args h hN => rk_MlOk_of (List.forall_mem_cons.mpr ⟨rk_mck_ok (fun w hw => List.mem_cons_of_mem _ hw) h hN rk_cm_X12_at rk_lk_X12_36, fun _ h => absurd h List.not_mem_nil⟩) (by decide +kernel)) (fun s args h hN => rk_flX12 (fun w hw => List.mem_cons_of_mem _ hw) h hN) (rm_cat1 rfl) (Nat.le_of_ble_eq_true rfl) ?_
  intro p e st m below meth c G X L f0 A hC hh hX0 hXC hT hpre
  have hcs : 0 ≤ 0 ∧ 0 ≤ 0 := ⟨Nat.le_refl 0, Nat.le_refl 0⟩
  obtain ⟨hG, hso⟩ := hpre
  obtain ⟨hb1, hb2, -⟩ := rm_so_b hT hG hsn hso
  refine rv_run hC.1 hC.2.1 (T := rv_t_X12_maySell) rv_k_X12_maySell 80 ?_
  refine w_at hC hh hT hG (by omega) (by omega) 36 (by decide +kernel) rfl rfl hs hsn 20 (by decide) (by decide) (Nat.le_of_ble_eq_true rfl) hcs (fun y H locs hh hy => ?_)
  have ey : y.toInt = B := by rw [hy]; exact hso.1
  refine rv_run hC.1 hC.2.1 (T := rv_t_X12_maySell) rv_k_X12_maySell 80 ?_
  refine w_at hC hh hT hG (by omega) (by omega) 36 (by decide +kernel) rfl rfl hs hsn 6 (by decide) (by decide) (Nat.le_of_ble_eq_true rfl) hcs (fun z H locs hh hz => ?_)
  have ez : z.toInt = S := by rw [hz]; exact hso.2.1
  have e3 := rm_ad ey ez (by omega) (by omega)
  refine rv_run hC.1 hC.2.1 (T := rv_t_X12_maySell) rv_k_X12_maySell 3 ?_
  refine ⟨fun h => ?_, fun h => ?_⟩
  · refine rv_run hC.1 hC.2.1 (T := rv_t_X12_maySell) rv_k_X12_maySell 1 ?_
    refine rm_zret hC hh (by decide +kernel) rfl (Or.inl rfl) ⟨by rw [Int.add_zero]; exact hT, rm_lv_rf 0, ⟨_, rfl, Or.inl rfl⟩, rfl⟩
  · have h : (y + z).toInt ≤ 16 := h
    refine rv_run hC.1 hC.2.1 (T := rv_t_X12_maySell) rv_k_X12_maySell 2 ?_
    refine rm_zret hC hh (by decide +kernel) rfl (Or.inr rfl) ⟨by rw [Int.add_zero]; exact hT, rm_lv_rf 0, ⟨_, rfl, Or.inr (by omega)⟩, rfl⟩
theorem h_sells (a0 : Nat) (s : Int32) (sn : Nat) (hs : s.toInt = (sn : Int)) (hsn : sn < 40) (B S C T O : Int) (hB : B + S ≤ 16) : rm_Hm base l cI c1 c2 c3 c4 c5 D ad adV rk_q_X12_sells [.ref a0, .int s] (fun G _ f => G a0 = some 12 ∧ rm_so G f a0 sn B S C T O) (fun G _ f v u => v = some (.int (Int16.ofInt 259).toInt32)) 0 3 := by
  unfold rm_Hm
  refine rm_start (M := rk_q_X12_sells) (rk_hNw base ad adV) (rk_hNc base ad adV) (by decide +kernel) (mt := rk_mt [rk_q_X12_at, rk_q_X12_puts]) (ml := rk_mlf [(36, 0, 3, 12), (42, 1, 4, 12)]) (fl := rk_flf rk_ftX12) (fun s args h hN => rk_MlOk_of (List.forall_mem_cons.mpr ⟨rk_mck_ok (fun w hw => List.mem_cons_of_mem _ hw) h hN rk_cm_X12_at rk_lk_X12_36, List.forall_mem_cons.mpr ⟨rk_mck_ok (fun w hw => List.mem_cons_of_mem _ hw) h hN rk_cm_X12_puts rk_lk_X12_42, fun _ h => absurd h List.not_mem_nil⟩⟩) (by decide +kernel)) (fun s args h hN => rk_flX12 (fun w hw => List.mem_cons_of_mem _ hw) h hN) (rm_cat1 rfl) (Nat.le_of_ble_eq_true rfl) ?_
  intro p e st m below meth c G X L f0 A hC hh hX0 hXC hT hpre
  have hcs : 0 ≤ 0 ∧ 0 ≤ 0 := ⟨Nat.le_refl 0, Nat.le_refl 0⟩
  obtain ⟨hG, hso⟩ := hpre
  have hst := rm_st_rf hso
  obtain ⟨hb1, hb2, -⟩ := rm_so_b hT hG hsn hso
  refine rv_run hC.1 hC.2.1 (T := rv_t_X12_sells) rv_k_X12_sells 80 ?_
  refine w_at hC hh hT hG (by omega) (by omega) 36 (by decide +kernel) rfl rfl hs hsn 6 (by decide) (by decide) (Nat.le_of_ble_eq_true rfl) hcs (fun y H locs hh hy => ?_)
  have ey : y.toInt = S := by rw [hy]; exact hso.2.1
  have e3 := rm_ad ey (y := (Int8.ofInt 8).toInt32) (b := 8) rfl (by omega) (by decide)
  refine rv_run hC.1 hC.2.1 (T := rv_t_X12_sells) rv_k_X12_sells 80 ?_
  refine w_puts hC hh hT hG (by omega) (by omega) 15 42 (by decide +kernel) rfl rfl hs hsn 6 (by decide) (by decide) rfl (rm_hI (a := 0) (b := 24) rfl (by rw [e3]; omega) (by rw [e3]; omega)) (Nat.le_of_ble_eq_true rfl) hcs (fun f H locs hh hT hL hP => ?_)
  have hst := rm_st_S hst hL hP
  rw [e3] at hst
  refine rv_run hC.1 hC.2.1 (T := rv_t_X12_sells) rv_k_X12_sells 80 ?_
  refine w_gn hC hh hT hG (by omega) (by decide +kernel) rfl (fun fs aN g e1 n1 n2 hLN eN tN eg => ?_)
  refine rv_run hC.1 hC.2.1 (T := rv_t_X12_sells) rv_k_X12_sells 80 ?_
  refine rm_get (idx := 7) hC hh (by decide +kernel) rfl (rm_me hT hG).1 e1 n1 ?_
  refine rv_run hC.1 hC.2.1 (T := rv_t_X12_sells) rv_k_X12_sells 80 ?_
  refine rm_iald hC hh (by decide +kernel) hLN eN rfl (by decide) (by decide) ?_
  refine rv_run hC.1 hC.2.1 (T := rv_t_X12_sells) rv_k_X12_sells 80 ?_
  refine w_nst hC hh hT hG (by omega) 1 6462 (by decide +kernel) e1 n1 n2 hLN eN tN (by decide) (by decide) (rk_full_ok _) rfl (fun f H locs hh hT hL hP => ?_)
  have hst := rm_st_1 hst hL hG hsn
  refine rv_run hC.1 hC.2.1 (T := rv_t_X12_sells) rv_k_X12_sells 1 ?_
  refine rm_iret hC hh (by decide +kernel) rfl ⟨by rw [Int.add_zero]; exact hT, rm_st_3 hst hG hso (fun r1 r2 => ⟨Or.inr ⟨by omega, by omega⟩, r2⟩) (Int.le_refl _) hsn, rfl⟩
theorem h_hears (a0 : Nat) (s ch : Int32) (sn : Nat) (hs : s.toInt = (sn : Int)) (hsn : sn < 40) (hc : -1 ≤ ch.toInt ∧ ch.toInt ≤ 323) : rm_Hm base l cI c1 c2 c3 c4 c5 D ad adV rk_q_X12_hears [.ref a0, .int s, .int ch] (fun G _ f => G a0 = some 12 ∧ rm_INV G f a0 ∧ 1 ≤ rm_sc (rm_now G f a0) sn 3) (fun G _ f v u => v = none) 3 7 := by
  unfold rm_Hm
  refine rm_start (M := rk_q_X12_hears) (rk_hNw base ad adV) (rk_hNc base ad adV) (by decide +kernel) (mt := rk_mt [rk_q_X12_at, rk_q_X12_comesToEnd, rk_q_X12_comesToRouter, rk_q_X12_draw, rk_q_X12_falls, rk_q_X12_hearsData, rk_q_X12_isData, rk_q_X12_logs, rk_q_X12_more, rk_q_X12_puts]) (ml := rk_mlf [(36, 0, 3, 12), (146, 1, 3, 12), (143, 2, 4, 12), (133, 3, 1, 12), (88, 4, 3, 12), (140, 5, 3, 12), (137, 6, 2, 12), (56, 7, 3, 12), (46, 8, 3, 12), (42, 9, 4, 12)]) (fl := rk_flf rk_ftX12) (fun s args h hN => rk_MlOk_of (List.forall_mem_cons.mpr ⟨rk_mck_ok (fun w hw => List.mem_cons_of_mem _ hw) h hN rk_cm_X12_at rk_lk_X12_36, List.forall_mem_cons.mpr ⟨rk_mck_ok (fun w hw => List.mem_cons_of_mem _ hw) h hN rk_cm_X12_comesToEnd rk_lk_X12_146, List.forall_mem_cons.mpr ⟨rk_mck_ok (fun w hw => List.mem_cons_of_mem _ hw) h hN rk_cm_X12_comesToRouter rk_lk_X12_143, List.forall_mem_cons.mpr ⟨rk_mck_ok (fun w hw => List.mem_cons_of_mem _ hw) h hN rk_cm_X12_draw rk_lk_X12_133, List.forall_mem_cons.mpr ⟨rk_mck_ok (fun w hw => List.mem_cons_of_mem _ hw) h hN rk_cm_X12_falls rk_lk_X12_88, List.forall_mem_cons.mpr ⟨rk_mck_ok (fun w hw => List.mem_cons_of_mem _ hw) h hN rk_cm_X12_hearsData rk_lk_X12_140, List.forall_mem_cons.mpr ⟨rk_mck_ok (fun w hw => List.mem_cons_of_mem _ hw) h hN rk_cm_X12_isData rk_lk_X12_137, List.forall_mem_cons.mpr ⟨rk_mck_ok (fun w hw => List.mem_cons_of_mem _ hw) h hN rk_cm_X12_logs rk_lk_X12_56, List.forall_mem_cons.mpr ⟨rk_mck_ok (fun w hw => List.mem_cons_of_mem _ hw) h hN rk_cm_X12_more rk_lk_X12_46, List.forall_mem_cons.mpr ⟨rk_mck_ok (fun w hw => List.mem_cons_of_mem _ hw) h hN rk_cm_X12_puts rk_lk_X12_42, fun _ h => absurd h List.not_mem_nil⟩⟩⟩⟩⟩⟩⟩⟩⟩⟩) (by decide +kernel)) (fun s args h hN => rk_flX12 (fun w hw => List.mem_cons_of_mem _ hw) h hN) (rm_cat1 rfl) (Nat.le_of_ble_eq_true rfl) ?_
  intro p e st m below meth c G X L f0 A hC hh hX0 hXC hT hpre
  have hcs : 0 ≤ 0 ∧ 0 ≤ 0 := ⟨Nat.le_refl 0, Nat.le_refl 0⟩
  obtain ⟨hG, hI, hT1⟩ := hpre
  have hso := rm_so_of G f0 a0 sn
  obtain ⟨hr1, hr2⟩ := hI.1 sn hsn
  generalize rm_sc (rm_now G f0 a0) sn 20 = B at hso hr1
  generalize rm_sc (rm_now G f0 a0) sn 6 = S at hso hr1
  generalize rm_sc (rm_now G f0 a0) sn 13 = C at hso hr1
  generalize rm_sc (rm_now G f0 a0) sn 3 = T at hso hr2 hT1
  generalize rm_sc (rm_now G f0 a0) sn 0 = O at hso hr2
  have hst := rm_st_rf hso
  obtain ⟨hb1, hb2, hb3, hb4, hb5⟩ := rm_so_b hT hG hsn hso
  have hBC : B + C ≤ 25 := by unfold rm_R1 at hr1; omega
  have hO : 1 ≤ O := hr2 hT1
  have seven : ∀ f, rm_st G f0 f a0 sn B S C T O → rm_Lv G 7 f0 f := fun f hst => rm_st_7 hst hG hso (fun r1 r2 => ⟨r1, r2⟩) hsn
  -- the end
  have r210 : ∀ (f : Nat → va_E) (H : Heap) (locs : List Loc), rm_h D A st L f H locs → rm_TY cI c1 c2 c3 c4 c5 ad G (X + 3) L f → rm_Lv G 7 f0 f → rv_G p l e { frames := rk_q_X12_hears.2.2.2.2.1, cells := 0, slots := 0, locals := rk_q_X12_hears.2.2.2.2.2 } st m ([.ref a0, .int s, .int ch] : List Value).toArray below meth c (MQ below (rk_Q (fun v u => rm_TY cI c1 c2 c3 c4 c5 ad G (X + 3) L u ∧ rm_Lv G 7 f0 u ∧ (fun G _ f v u => v = none) G X f0 v u) (rk_B D (rk_tys cI c1 c2 c3 c4 c5) L A) A) ([.ref a0, .int s, .int ch] : List Value).toArray st 0 0 A) rk_q_X12_hears.2.2.1 0 0 H locs 210 [] [(0, .ref a0), (1, .int s), (2, .int ch)] := by
    intro f H locs hh hT hL
    refine rm_vret hC hh (by decide +kernel) rfl ⟨hT, hL, rfl⟩
  -- no time
  have t157 : ∀ (f : Nat → va_E) (H : Heap) (locs : List Loc), rm_h D A st L f H locs → rm_TY cI c1 c2 c3 c4 c5 ad G (X + 3) L f → rm_Lv G 7 f0 f → ch.toInt < 260 → rv_G p l e { frames := rk_q_X12_hears.2.2.2.2.1, cells := 0, slots := 0, locals := rk_q_X12_hears.2.2.2.2.2 } st m ([.ref a0, .int s, .int ch] : List Value).toArray below meth c (MQ below (rk_Q (fun v u => rm_TY cI c1 c2 c3 c4 c5 ad G (X + 3) L u ∧ rm_Lv G 7 f0 u ∧ (fun G _ f v u => v = none) G X f0 v u) (rk_B D (rk_tys cI c1 c2 c3 c4 c5) L A) A) ([.ref a0, .int s, .int ch] : List Value).toArray st 0 0 A) rk_q_X12_hears.2.2.1 0 0 H locs 157 [] [(0, .ref a0), (1, .int s), (2, .int ch)] := by
    intro f H locs hh hT hL hc2
    refine rv_run hC.1 hC.2.1 (T := rv_t_X12_hears) rv_k_X12_hears 3 ?_
    refine ⟨fun _ => r210 f H locs hh hT hL, fun h => absurd h (by show ¬ 260 ≤ ch.toInt; omega)⟩
  -- credit was heard, and it may have fallen
  have t143c : ∀ (f : Nat → va_E) (H : Heap) (locs : List Loc), rm_h D A st L f H locs → rm_TY cI c1 c2 c3 c4 c5 ad G (X + 2) L f → rm_Lv G 7 f0 f → ch.toInt = 259 → rv_G p l e { frames := rk_q_X12_hears.2.2.2.2.1, cells := 0, slots := 0, locals := rk_q_X12_hears.2.2.2.2.2 } st m ([.ref a0, .int s, .int ch] : List Value).toArray below meth c (MQ below (rk_Q (fun v u => rm_TY cI c1 c2 c3 c4 c5 ad G (X + 3) L u ∧ rm_Lv G 7 f0 u ∧ (fun G _ f v u => v = none) G X f0 v u) (rk_B D (rk_tys cI c1 c2 c3 c4 c5) L A) A) ([.ref a0, .int s, .int ch] : List Value).toArray st 0 0 A) rk_q_X12_hears.2.2.1 0 0 H locs 143 [] [(0, .ref a0), (1, .int s), (2, .int ch)] := by
    intro f H locs hh hT hL7 hc2
    refine rv_run hC.1 hC.2.1 (T := rv_t_X12_hears) rv_k_X12_hears 80 ?_
    refine w_k hC hh hT hG (by omega) (by omega) 137 (by decide +kernel) rfl (c_X12_isData base l cI c1 c2 c3 c4 c5 D ad adV) (rk_all_c (rk_aM hG) (rk_all_c rk_aF rk_all_0)) rfl rfl (Nat.le_of_ble_eq_true rfl) hcs (fun v f H locs hh hT hL hA => ?_)
    rw [Int.add_zero] at hT
    have hL7 := rm_lv_tr (k := 7) hL7 hL rfl rfl
    obtain ⟨x, rfl, hx⟩ := rk_alt_2 hA
    refine rv_run hC.1 hC.2.1 (T := rv_t_X12_hears) rv_k_X12_hears 1 ?_
    refine ⟨fun h => t157 f H locs hh (rk_TY_X (by omega) hT) hL7 (by omega), fun h => ?_⟩
    rcases hx with ⟨-, hx⟩ | hx
    · obtain ⟨w9, e9, x9, e10, y1, y2⟩ := hx _ List.mem_cons_self
      cases e9
      cases e10
      omega
    · exact absurd hx h
  -- all else
  have t143 : ∀ (f : Nat → va_E) (H : Heap) (locs : List Loc), rm_h D A st L f H locs → rm_TY cI c1 c2 c3 c4 c5 ad G X L f → rm_st G f0 f a0 sn B S C T O → rv_G p l e { frames := rk_q_X12_hears.2.2.2.2.1, cells := 0, slots := 0, locals := rk_q_X12_hears.2.2.2.2.2 } st m ([.ref a0, .int s, .int ch] : List Value).toArray below meth c (MQ below (rk_Q (fun v u => rm_TY cI c1 c2 c3 c4 c5 ad G (X + 3) L u ∧ rm_Lv G 7 f0 u ∧ (fun G _ f v u => v = none) G X f0 v u) (rk_B D (rk_tys cI c1 c2 c3 c4 c5) L A) A) ([.ref a0, .int s, .int ch] : List Value).toArray st 0 0 A) rk_q_X12_hears.2.2.1 0 0 H locs 143 [] [(0, .ref a0), (1, .int s), (2, .int ch)] := by
    intro f H locs hh hT hst
    refine rv_run hC.1 hC.2.1 (T := rv_t_X12_hears) rv_k_X12_hears 80 ?_
    refine w_k hC hh hT hG (by omega) (by omega) 137 (by decide +kernel) rfl (c_X12_isData base l cI c1 c2 c3 c4 c5 D ad adV) (rk_all_c (rk_aM hG) (rk_all_c rk_aF rk_all_0)) rfl rfl (Nat.le_of_ble_eq_true rfl) hcs (fun v f H locs hh hT hL hA => ?_)
    rw [Int.add_zero] at hT
    have hst := rm_st_1 hst (rm_lv_up hL rfl) hG hsn
    obtain ⟨x, rfl, hx⟩ := rk_alt_2 hA
    refine rv_run hC.1 hC.2.1 (T := rv_t_X12_hears) rv_k_X12_hears 1 ?_
    refine ⟨fun h => ?_, fun h => ?_⟩
    · -- 157
      refine rv_run hC.1 hC.2.1 (T := rv_t_X12_hears) rv_k_X12_hears 3 ?_
      refine ⟨fun _ => r210 f H locs hh (rk_TY_X (by omega) hT) (seven f hst), fun h => ?_⟩
      have h260 : 260 ≤ ch.toInt := h
      refine rv_run hC.1 hC.2.1 (T := rv_t_X12_hears) rv_k_X12_hears 80 ?_
      refine w_at hC hh hT hG (by omega) (by omega) 36 (by decide +kernel) rfl rfl hs hsn 3 (by decide) (by decide) (Nat.le_of_ble_eq_true rfl) hcs (fun y H locs hh hy => ?_)
      refine rv_run hC.1 hC.2.1 (T := rv_t_X12_hears) rv_k_X12_hears 2 ?_
      refine ⟨fun _ => r210 f H locs hh (rk_TY_X (by omega) hT) (seven f hst), fun _ => ?_⟩
      have e7 := rm_su (x := ch) (y := (Int16.ofInt 260).toInt32) rfl (b := 260) rfl (by omega) (by decide)
      refine rv_run hC.1 hC.2.1 (T := rv_t_X12_hears) rv_k_X12_hears 3 ?_
      refine ⟨fun h => ?_, fun h => ?_⟩
      · have h32 : 32 ≤ s.toInt := h
        have e8 := rm_su (x := s) (y := (Int8.ofInt 32).toInt32) hs (b := 32) rfl (by omega) (by decide)
        refine rv_run hC.1 hC.2.1 (T := rv_t_X12_hears) rv_k_X12_hears 80 ?_
        refine w_kv hC hh hT hG (by omega) (by omega) 146 (by decide +kernel) rfl (c_X12_comesToEnd base l cI c1 c2 c3 c4 c5 D ad adV) (rk_all_c (rk_aM hG) (rk_all_c (rk_aI (by rw [e8]; omega)) (rk_all_c (rk_aI (by rw [e7]; omega)) rk_all_0))) rfl rfl (Nat.le_of_ble_eq_true rfl) hcs (fun f H locs hh hT hL => ?_)
        rw [Int.add_zero] at hT
        exact r210 f H locs hh (rk_TY_X (by omega) hT) (seven f (rm_st_1 hst hL hG hsn))
      · have h32 : s.toInt < 32 := h
        have e9 : (Int8.ofInt 8).toInt32.toInt = 8 := rfl
        have e8 : (s / (Int8.ofInt 8).toInt32).toInt = ((sn / 8 : Nat) : Int) := by rw [rk_div_e (by omega) (by rw [e9]; decide), e9, hs]; omega
        refine rv_run hC.1 hC.2.1 (T := rv_t_X12_hears) rv_k_X12_hears 80 ?_
        refine ⟨by decide, ?_⟩
        refine w_kv hC hh hT hG (by omega) (by omega) 143 (by decide +kernel) rfl (c_X12_comesToRouter base l cI c1 c2 c3 c4 c5 D ad adV) (rk_all_c (rk_aM hG) (rk_all_c (rk_aI (by rw [e8]; omega)) (rk_all_c (rk_aI (by rw [e7]; omega)) (rk_all_c rk_aF rk_all_0)))) rfl rfl (Nat.le_of_ble_eq_true rfl) hcs (fun f H locs hh hT hL => ?_)
        rw [Int.add_zero] at hT
        refine rv_run hC.1 hC.2.1 (T := rv_t_X12_hears) rv_k_X12_hears 1 ?_
        exact r210 f H locs hh (rk_TY_X (by omega) hT) (seven f (rm_st_1 hst hL hG hsn))
    · rcases hx with ⟨-, hx⟩ | hx
      · obtain ⟨w9, e9, x9, e10, y1, y2⟩ := hx _ List.mem_cons_self
        cases e9
        cases e10
        refine rv_run hC.1 hC.2.1 (T := rv_t_X12_hears) rv_k_X12_hears 80 ?_
        refine w_h hC hh hT hG (by omega) (by omega) 140 (by decide +kernel) rfl (h_hearsData base l cI c1 c2 c3 c4 c5 D ad adV a0 s ch sn hs hsn B S C T O ⟨y1, y2⟩ hr1 hr2 hT1) ⟨hG, hst.2.2⟩ rfl rfl (Nat.le_of_ble_eq_true rfl) hcs (fun v f H locs hh hT hL hP => ?_)
        have hP : v = none := hP
        subst hP
        exact t157 f H locs hh (rk_TY_X (by omega) hT) (rm_lv_tr (k := 7) (seven _ hst) hL rfl rfl) (by omega)
      · exact absurd hx h
  have t96 : ∀ (f : Nat → va_E) (H : Heap) (locs : List Loc), rm_h D A st L f H locs → rm_TY cI c1 c2 c3 c4 c5 ad G X L f → rm_st G f0 f a0 sn B S C T O → rv_G p l e { frames := rk_q_X12_hears.2.2.2.2.1, cells := 0, slots := 0, locals := rk_q_X12_hears.2.2.2.2.2 } st m ([.ref a0, .int s, .int ch] : List Value).toArray below meth c (MQ below (rk_Q (fun v u => rm_TY cI c1 c2 c3 c4 c5 ad G (X + 3) L u ∧ rm_Lv G 7 f0 u ∧ (fun G _ f v u => v = none) G X f0 v u) (rk_B D (rk_tys cI c1 c2 c3 c4 c5) L A) A) ([.ref a0, .int s, .int ch] : List Value).toArray st 0 0 A) rk_q_X12_hears.2.2.1 0 0 H locs 96 [] [(0, .ref a0), (1, .int s), (2, .int ch)] := by
    intro f H locs hh hT hst
    refine rv_run hC.1 hC.2.1 (T := rv_t_X12_hears) rv_k_X12_hears 3 ?_
    refine ⟨fun _ => t143 f H locs hh hT hst, fun h => ?_⟩
    have h259 : ch.toInt = 259 := h
    refine rv_run hC.1 hC.2.1 (T := rv_t_X12_hears) rv_k_X12_hears 80 ?_
    refine w_at hC hh hT hG (by omega) (by omega) 36 (by decide +kernel) rfl rfl hs hsn 5 (by decide) (by decide) (Nat.le_of_ble_eq_true rfl) hcs (fun y H locs hh hy => ?_)
    refine rv_run hC.1 hC.2.1 (T := rv_t_X12_hears) rv_k_X12_hears 80 ?_
    refine w_puts hC hh hT hG (by omega) (by omega) 1 42 (by decide +kernel) rfl rfl hs hsn 5 (by decide) (by decide) rfl (rm_hF rfl) (Nat.le_of_ble_eq_true rfl) hcs (fun f H locs hh hT hL hP => ?_)
    have hst := rm_st_1 hst hL hG hsn
    refine rv_run hC.1 hC.2.1 (T := rv_t_X12_hears) rv_k_X12_hears 80 ?_
    refine w_puts hC hh hT hG (by omega) (by omega) 1 42 (by decide +kernel) rfl rfl hs hsn 9 (by decide) (by decide) rfl (rm_hI (a := 0) (b := 1) rfl (by decide) (by decide)) (Nat.le_of_ble_eq_true rfl) hcs (fun f H locs hh hT hL hP => ?_)
    have hst := rm_st_1 hst hL hG hsn
    refine rv_run hC.1 hC.2.1 (T := rv_t_X12_hears) rv_k_X12_hears 80 ?_
    refine w_at hC hh hT hG (by omega) (by omega) 36 (by decide +kernel) rfl rfl hs hsn 5 (by decide) (by decide) (Nat.le_of_ble_eq_true rfl) hcs (fun z H locs hh hz => ?_)
    refine rv_run hC.1 hC.2.1 (T := rv_t_X12_hears) rv_k_X12_hears 2 ?_
    refine ⟨fun _ => t143c f H locs hh (rk_TY_X (by omega) hT) (seven f hst) h259, fun _ => ?_⟩
    refine rv_run hC.1 hC.2.1 (T := rv_t_X12_hears) rv_k_X12_hears 80 ?_
    refine w_h hC hh hT hG (by omega) (by omega) 88 (by decide +kernel) rfl (h_falls base l cI c1 c2 c3 c4 c5 D ad adV a0 s _ sn hs hsn B S C T O (by decide) hr1) ⟨hG, hst.2.2⟩ rfl rfl (Nat.le_of_ble_eq_true rfl) hcs (fun v f H locs hh hT hL hP => ?_)
    obtain ⟨rfl, hP⟩ := hP
    have hst := rm_st_c hst hP
    exact t143c f H locs hh hT (rm_st_7 hst hG hso (fun _ _ => ⟨Or.inl ⟨rfl, by omega⟩, fun _ => hO⟩) hsn) h259
  have t31 : ∀ (f : Nat → va_E) (H : Heap) (locs : List Loc), rm_h D A st L f H locs → rm_TY cI c1 c2 c3 c4 c5 ad G X L f → rm_st G f0 f a0 sn B S C T O → rv_G p l e { frames := rk_q_X12_hears.2.2.2.2.1, cells := 0, slots := 0, locals := rk_q_X12_hears.2.2.2.2.2 } st m ([.ref a0, .int s, .int ch] : List Value).toArray below meth c (MQ below (rk_Q (fun v u => rm_TY cI c1 c2 c3 c4 c5 ad G (X + 3) L u ∧ rm_Lv G 7 f0 u ∧ (fun G _ f v u => v = none) G X f0 v u) (rk_B D (rk_tys cI c1 c2 c3 c4 c5) L A) A) ([.ref a0, .int s, .int ch] : List Value).toArray st 0 0 A) rk_q_X12_hears.2.2.1 0 0 H locs 31 [] [(0, .ref a0), (1, .int s), (2, .int ch)] := by
    intro f H locs hh hT hst
    refine rv_run hC.1 hC.2.1 (T := rv_t_X12_hears) rv_k_X12_hears 80 ?_
    refine w_at hC hh hT hG (by omega) (by omega) 36 (by decide +kernel) rfl rfl hs hsn 3 (by decide) (by decide) (Nat.le_of_ble_eq_true rfl) hcs (fun y H locs hh hy => ?_)
    refine rv_run hC.1 hC.2.1 (T := rv_t_X12_hears) rv_k_X12_hears 2 ?_
    refine ⟨fun _ => ?_, fun _ => ?_⟩
    · refine rv_run hC.1 hC.2.1 (T := rv_t_X12_hears) rv_k_X12_hears 80 ?_
      refine w_gn hC hh hT hG (by omega) (by decide +kernel) rfl (fun fs aN g e1 n1 n2 hLN eN tN eg => ?_)
      refine rv_run hC.1 hC.2.1 (T := rv_t_X12_hears) rv_k_X12_hears 80 ?_
      refine rm_iald hC hh (by decide +kernel) hLN eN rfl (by decide) (by decide) ?_
      refine rv_run hC.1 hC.2.1 (T := rv_t_X12_hears) rv_k_X12_hears 1 ?_
      refine ⟨fun _ => t96 f H locs hh hT hst, fun _ => ?_⟩
      refine rv_run hC.1 hC.2.1 (T := rv_t_X12_hears) rv_k_X12_hears 80 ?_
      refine w_ki hC hh hT hG (by omega) (by omega) 133 (by decide +kernel) rfl (c_X12_draw base l cI c1 c2 c3 c4 c5 D ad adV) (rk_all_c (rk_aM hG) rk_all_0) rfl rfl (Nat.le_of_ble_eq_true rfl) hcs (fun z f H locs hh hT hL hz => ?_)
      rw [Int.add_zero] at hT
      have hst := rm_st_1 hst hL hG hsn
      refine rv_run hC.1 hC.2.1 (T := rv_t_X12_hears) rv_k_X12_hears 80 ?_
      refine w_gn hC hh hT hG (by omega) (by decide +kernel) rfl (fun fs aN g e1 n1 n2 hLN eN tN eg => ?_)
      refine rv_run hC.1 hC.2.1 (T := rv_t_X12_hears) rv_k_X12_hears 80 ?_
      refine rm_iald hC hh (by decide +kernel) hLN eN rfl (by decide) (by decide) ?_
      refine rv_run hC.1 hC.2.1 (T := rv_t_X12_hears) rv_k_X12_hears 1 ?_
      refine ⟨fun _ => t96 f H locs hh hT hst, fun _ => ?_⟩
      refine rv_run hC.1 hC.2.1 (T := rv_t_X12_hears) rv_k_X12_hears 80 ?_
      refine w_more hC hh hT hG (by omega) 0 (by decide) (by omega) 1 46 (by decide +kernel) rfl rfl hs hsn 19 (by decide) (by decide) rfl (rm_hF rfl) (Nat.le_of_ble_eq_true rfl) hcs (fun f H locs hh hT hL hP => ?_)
      rw [Int.add_zero] at hT
      have hst := rm_st_1 hst hL hG hsn
      refine rv_run hC.1 hC.2.1 (T := rv_t_X12_hears) rv_k_X12_hears 80 ?_
      refine w_kv hC hh hT hG (by omega) (by omega) 56 (by decide +kernel) rfl (c_X12_logs base l cI c1 c2 c3 c4 c5 D ad adV) (rk_all_c (rk_aM hG) (rk_all_c rk_aF (rk_all_c rk_aF rk_all_0))) rfl rfl (Nat.le_of_ble_eq_true rfl) hcs (fun f H locs hh hT hL => ?_)
      have hst := rm_st_1 hst hL hG hsn
      refine rv_run hC.1 hC.2.1 (T := rv_t_X12_hears) rv_k_X12_hears 80 ?_
      refine w_h hC hh hT hG (by omega) (by omega) 88 (by decide +kernel) rfl (h_falls base l cI c1 c2 c3 c4 c5 D ad adV a0 s _ sn hs hsn B S C T O (by decide) hr1) ⟨hG, hst.2.2⟩ rfl rfl (Nat.le_of_ble_eq_true rfl) hcs (fun v f H locs hh hT hL hP => ?_)
      obtain ⟨rfl, hP⟩ := hP
      have hst := rm_st_c hst hP
      refine rv_run hC.1 hC.2.1 (T := rv_t_X12_hears) rv_k_X12_hears 80 ?_
      refine rm_vret hC hh (by decide +kernel) rfl ⟨rk_TY_X (by omega) hT, rm_st_7 hst hG hso (fun _ _ => ⟨Or.inl ⟨rfl, by omega⟩, fun _ => hO⟩) hsn, rfl⟩
    · refine rv_run hC.1 hC.2.1 (T := rv_t_X12_hears) rv_k_X12_hears 80 ?_
      refine w_puts hC hh hT hG (by omega) (by omega) 1 42 (by decide +kernel) rfl rfl hs hsn 8 (by decide) (by decide) rfl (rm_hI (a := 0) (b := 1) rfl (by decide) (by decide)) (Nat.le_of_ble_eq_true rfl) hcs (fun f H locs hh hT hL hP => ?_)
      have hst := rm_st_1 hst hL hG hsn
      refine rv_run hC.1 hC.2.1 (T := rv_t_X12_hears) rv_k_X12_hears 80 ?_
      refine rm_vret hC hh (by decide +kernel) rfl ⟨rk_TY_X (by omega) hT, seven f hst, rfl⟩
  have t22 : ∀ (k : Int32) (H : Heap) (locs : List Loc), rm_h D A st L f0 H locs → rv_G p l e { frames := rk_q_X12_hears.2.2.2.2.1, cells := 0, slots := 0, locals := rk_q_X12_hears.2.2.2.2.2 } st m ([.ref a0, .int s, .int ch] : List Value).toArray below meth c (MQ below (rk_Q (fun v u => rm_TY cI c1 c2 c3 c4 c5 ad G (X + 3) L u ∧ rm_Lv G 7 f0 u ∧ (fun G _ f v u => v = none) G X f0 v u) (rk_B D (rk_tys cI c1 c2 c3 c4 c5) L A) A) ([.ref a0, .int s, .int ch] : List Value).toArray st 0 0 A) rk_q_X12_hears.2.2.1 0 0 H locs 22 [.int k, .int (Int8.ofInt 7).toInt32, .int s, .ref a0] [(0, .ref a0), (1, .int s), (2, .int ch)] := by
    intro k H locs hh
    refine w_puts hC hh hT hG (by omega) (by omega) 1 42 (by decide +kernel) rfl rfl hs hsn 7 (by decide) (by decide) rfl (rm_hF rfl) (Nat.le_of_ble_eq_true rfl) hcs (fun f H locs hh hT hL hP => ?_)
    have hst := rm_st_1 hst hL hG hsn
    refine rv_run hC.1 hC.2.1 (T := rv_t_X12_hears) rv_k_X12_hears 3 ?_
    refine ⟨fun _ => t31 f H locs hh hT hst, fun _ => ?_⟩
    refine rv_run hC.1 hC.2.1 (T := rv_t_X12_hears) rv_k_X12_hears 80 ?_
    refine rm_vret hC hh (by decide +kernel) rfl ⟨rk_TY_X (by omega) hT, seven f hst, rfl⟩
  refine rv_run hC.1 hC.2.1 (T := rv_t_X12_hears) rv_k_X12_hears 6 ?_
  refine ⟨fun _ => ?_, fun _ => ?_⟩
  · refine rv_run hC.1 hC.2.1 (T := rv_t_X12_hears) rv_k_X12_hears 1 ?_
    exact t22 _ st.heap [] hh
  · refine rv_run hC.1 hC.2.1 (T := rv_t_X12_hears) rv_k_X12_hears 80 ?_
    refine w_at hC hh hT hG (by omega) (by omega) 36 (by decide +kernel) rfl rfl hs hsn 7 (by decide) (by decide) (Nat.le_of_ble_eq_true rfl) hcs (fun y H locs hh hy => ?_)
    refine rv_run hC.1 hC.2.1 (T := rv_t_X12_hears) rv_k_X12_hears 3 ?_
    exact t22 _ H locs hh
theorem h_hearsAll (a0 : Nat) : rm_Hm base l cI c1 c2 c3 c4 c5 D ad adV rk_q_X12_hearsAll [.ref a0] (fun G _ f => G a0 = some 12 ∧ rm_one G ∧ rm_INV G f a0) (fun G _ f v u => v = none) 120 7 := by
  unfold rm_Hm
  refine rm_start (M := rk_q_X12_hearsAll) (rk_hNw base ad adV) (rk_hNc base ad adV) (by decide +kernel) (mt := rk_mt [rk_q_X12_at, rk_q_X12_hears, rk_q_X12_isLive, rk_q_X12_isSocket, rk_q_X12_otherOf]) (ml := rk_mlf [(36, 0, 3, 12), (149, 1, 3, 12), (85, 2, 2, 12), (32, 3, 2, 12), (97, 4, 2, 12)]) (fl := rk_flf rk_ftX12) (fun s args h hN => rk_MlOk_of (List.forall_mem_cons.mpr ⟨rk_mck_ok (fun w hw => List.mem_cons_of_mem _ hw) h hN rk_cm_X12_at rk_lk_X12_36, List.forall_mem_cons.mpr ⟨rk_mck_ok (fun w hw => List.mem_cons_of_mem _ hw) h hN rk_cm_X12_hears rk_lk_X12_149, List.forall_mem_cons.mpr ⟨rk_mck_ok (fun w hw => List.mem_cons_of_mem _ hw) h hN rk_cm_X12_isLive rk_lk_X12_85, List.forall_mem_cons.mpr ⟨rk_mck_ok (fun w hw => List.mem_cons_of_mem _ hw) h hN rk_cm_X12_isSocket rk_lk_X12_32, List.forall_mem_cons.mpr ⟨rk_mck_ok (fun w hw => List.mem_cons_of_mem _ hw) h hN rk_cm_X12_otherOf rk_lk_X12_97, fun _ h => absurd h List.not_mem_nil⟩⟩⟩⟩⟩) (by decide +kernel)) (fun s args h hN => rk_flX12 (fun w hw => List.mem_cons_of_mem _ hw) h hN) (rm_cat1 rfl) (Nat.le_of_ble_eq_true rfl) ?_
  intro p e st m below meth c G X L f0 A hC hh hX0 hXC hT hpre
  have hcs : 0 ≤ 0 ∧ 0 ≤ 0 := ⟨Nat.le_refl 0, Nat.le_refl 0⟩
  obtain ⟨hG, h1, hI⟩ := hpre
  have loop : ∀ (n : Nat) (k : Int32) (kn : Nat) (f : Nat → va_E) (H : Heap) (locs : List Loc), rm_h D A st L f H locs → rm_TY cI c1 c2 c3 c4 c5 ad G (X + 3 * (kn : Int)) L f → rm_Lv G 7 f0 f → rm_INV G f a0 → k.toInt = (kn : Int) → kn + n = 40 → rv_G p l e { frames := rk_q_X12_hearsAll.2.2.2.2.1, cells := 0, slots := 0, locals := rk_q_X12_hearsAll.2.2.2.2.2 } st m ([.ref a0] : List Value).toArray below meth c (MQ below (rk_Q (fun v u => rm_TY cI c1 c2 c3 c4 c5 ad G (X + 120) L u ∧ rm_Lv G 7 f0 u ∧ (fun G _ f v u => v = none) G X f0 v u) (rk_B D (rk_tys cI c1 c2 c3 c4 c5) L A) A) ([.ref a0] : List Value).toArray st 0 0 A) rk_q_X12_hearsAll.2.2.1 0 0 H locs 2 [] [(0, .ref a0), (1, .int k)] := by
    intro n
    induction n with
    | zero =>
      intro k kn f H locs hh hT hLt hI hk hn
      refine rv_run hC.1 hC.2.1 (T := rv_t_X12_hearsAll) rv_k_X12_hearsAll 3 ?_
      refine ⟨fun _ => ?_, fun h => absurd h (by show ¬ k.toInt < 40; omega)⟩
      refine rm_vret hC hh (by decide +kernel) rfl ⟨rk_TY_X (by omega) hT, hLt, rfl⟩
    | succ n ih =>
      intro k kn f H locs hh hT hLt hI hk hn
      have e7 := rm_ad (x := k) hk rm_e1 (by omega) (by decide)
      have nxt : ∀ (f : Nat → va_E) (H : Heap) (locs : List Loc), rm_h D A st L f H locs → rm_TY cI c1 c2 c3 c4 c5 ad G (X + 3 * (kn : Int) + 3) L f → rm_Lv G 7 f0 f → rm_INV G f a0 → rv_G p l e { frames := rk_q_X12_hearsAll.2.2.2.2.1, cells := 0, slots := 0, locals := rk_q_X12_hearsAll.2.2.2.2.2 } st m ([.ref a0] : List Value).toArray below meth c (MQ below (rk_Q (fun v u => rm_TY cI c1 c2 c3 c4 c5 ad G (X + 120) L u ∧ rm_Lv G 7 f0 u ∧ (fun G _ f v u => v = none) G X f0 v u) (rk_B D (rk_tys cI c1 c2 c3 c4 c5) L A) A) ([.ref a0] : List Value).toArray st 0 0 A) rk_q_X12_hearsAll.2.2.1 0 0 H locs 59 [] [(0, .ref a0), (1, .int k)] := by
        intro f H locs hh hT hLt hI
        refine rv_run hC.1 hC.2.1 (T := rv_t_X12_hearsAll) rv_k_X12_hearsAll 2 ?_
        exact ih (k + Int32.ofInt 1) (kn + 1) f H locs hh (rk_TY_X (by omega) hT) hLt hI (by rw [e7]; omega) (by omega)
      refine rv_run hC.1 hC.2.1 (T := rv_t_X12_hearsAll) rv_k_X12_hearsAll 3 ?_
      refine ⟨fun h => absurd h (by show ¬ 40 ≤ k.toInt; omega), fun _ => ?_⟩
      refine rv_run hC.1 hC.2.1 (T := rv_t_X12_hearsAll) rv_k_X12_hearsAll 80 ?_
      refine w_k hC hh hT hG (by omega) (by omega) 32 (by decide +kernel) rfl (c_X12_isSocket base l cI c1 c2 c3 c4 c5 D ad adV) (rk_all_c (rk_aM hG) (rk_all_c rk_aF rk_all_0)) rfl rfl (Nat.le_of_ble_eq_true rfl) hcs (fun v f H locs hh hT hL hA => ?_)
      rw [Int.add_zero] at hT
      have hLt := rm_lv_tr (k := 7) hLt hL rfl rfl
      have hI := rm_I1 (rm_lv_up hL rfl) hG hI
      obtain ⟨x, rfl⟩ := rk_alt_i hA rfl
      refine rv_run hC.1 hC.2.1 (T := rv_t_X12_hearsAll) rv_k_X12_hearsAll 1 ?_
      refine ⟨fun _ => nxt f H locs hh (rk_TY_X (by omega) hT) hLt hI, fun _ => ?_⟩
      refine rv_run hC.1 hC.2.1 (T := rv_t_X12_hearsAll) rv_k_X12_hearsAll 80 ?_
      refine w_h hC hh hT hG (by omega) (by omega) 85 (by decide +kernel) rfl (h_isLive base l cI c1 c2 c3 c4 c5 D ad adV a0 k kn hk (by omega)) hG rfl rfl (Nat.le_of_ble_eq_true rfl) hcs (fun v f1 H locs hh1 hT1 hL hP => ?_)
      obtain ⟨⟨y, rfl, hy⟩, hu⟩ := hP
      subst hu
      have hh := hh1
      have hT := hT1
      clear hh1 hT1 hL
      rw [Int.add_zero] at hT
      refine rv_run hC.1 hC.2.1 (T := rv_t_X12_hearsAll) rv_k_X12_hearsAll 1 ?_
      refine ⟨fun h => ?_, fun _ => ?_⟩
      · have h3 : 3 ≤ rm_sc (rm_now G f1 a0) kn 3 := by
          have h : ¬ y.toInt = 0 := h
          rcases hy with hy | hy
          · exact hy.2
          · exact absurd hy.1 h
        have t56 : ∀ (ch : Int32) (H : Heap) (locs : List Loc), rm_h D A st L f1 H locs → -1 ≤ ch.toInt ∧ ch.toInt ≤ 323 → rv_G p l e { frames := rk_q_X12_hearsAll.2.2.2.2.1, cells := 0, slots := 0, locals := rk_q_X12_hearsAll.2.2.2.2.2 } st m ([.ref a0] : List Value).toArray below meth c (MQ below (rk_Q (fun v u => rm_TY cI c1 c2 c3 c4 c5 ad G (X + 120) L u ∧ rm_Lv G 7 f0 u ∧ (fun G _ f v u => v = none) G X f0 v u) (rk_B D (rk_tys cI c1 c2 c3 c4 c5) L A) A) ([.ref a0] : List Value).toArray st 0 0 A) rk_q_X12_hearsAll.2.2.1 0 0 H locs 56 [.int ch, .int k, .ref a0] [(0, .ref a0), (1, .int k)] := by
          intro ch H locs hh hc
          refine w_h hC hh hT hG (by omega) (by omega) 149 (by decide +kernel) rfl (h_hears base l cI c1 c2 c3 c4 c5 D ad adV a0 k ch kn hk (by omega) hc) ⟨hG, hI, by omega⟩ rfl rfl (Nat.le_of_ble_eq_true rfl) hcs (fun v f H locs hh hT hL hP => ?_)
          have hP : v = none := hP
          subst hP
          exact nxt f H locs hh hT (rm_lv_tr (k := 7) hLt hL rfl rfl) (rm_I7 hL h1 hG hI)
        refine rv_run hC.1 hC.2.1 (T := rv_t_X12_hearsAll) rv_k_X12_hearsAll 80 ?_
        refine w_at hC hh hT hG (by omega) (by omega) 36 (by decide +kernel) rfl rfl hk (by omega) 1 (by decide) (by decide) (Nat.le_of_ble_eq_true rfl) hcs (fun z H locs hh hz => ?_)
        refine rv_run hC.1 hC.2.1 (T := rv_t_X12_hearsAll) rv_k_X12_hearsAll 2 ?_
        refine ⟨fun _ => ?_, fun _ => ?_⟩
        · refine rv_run hC.1 hC.2.1 (T := rv_t_X12_hearsAll) rv_k_X12_hearsAll 80 ?_
          refine w_h hC hh hT hG (by omega) (by omega) 97 (by decide +kernel) rfl (h_otherOf base l cI c1 c2 c3 c4 c5 D ad adV a0 k kn hk (by omega)) hG rfl rfl (Nat.le_of_ble_eq_true rfl) hcs (fun v f1 H locs hh1 hT1 hL hP => ?_)
          obtain ⟨⟨w, rfl, hw⟩, hu⟩ := hP
          subst hu
          have hh := hh1
          have hT := hT1
          clear hh1 hT1 hL
          rw [Int.add_zero] at hT
          have hO := (hI.1 kn (by omega)).2 (by omega)
          have b1 := rm_scT hT hG (s := kn) (w := 0) (by omega) (by decide) rfl
          obtain ⟨on, hon⟩ : ∃ n : Nat, w.toInt = (n : Int) := ⟨w.toInt.toNat, by omega⟩
          refine rv_run hC.1 hC.2.1 (T := rv_t_X12_hearsAll) rv_k_X12_hearsAll 80 ?_
          refine w_at hC hh hT hG (by omega) (by omega) 36 (by decide +kernel) rfl rfl hon (by omega) 10 (by decide) (by decide) (Nat.le_of_ble_eq_true rfl) hcs (fun u H locs hh hu => ?_)
          have b2 := rm_scT hT hG (s := on) (w := 10) (by omega) (by decide) rfl
          have eu : u.toInt = rm_sc (rm_now G f1 a0) on 10 := by rw [hu]; rfl
          have e3 := rm_su (x := u) rfl rm_e1 (by omega) (by decide)
          refine rv_run hC.1 hC.2.1 (T := rv_t_X12_hearsAll) rv_k_X12_hearsAll 2 ?_
          exact t56 _ H locs hh (by rw [e3]; omega)
        · refine rv_run hC.1 hC.2.1 (T := rv_t_X12_hearsAll) rv_k_X12_hearsAll 2 ?_
          exact t56 _ H locs hh (by decide)
      · refine rv_run hC.1 hC.2.1 (T := rv_t_X12_hearsAll) rv_k_X12_hearsAll 1 ?_
        exact nxt _ H locs hh (rk_TY_X (by omega) hT) hLt hI
  refine rv_run hC.1 hC.2.1 (T := rv_t_X12_hearsAll) rv_k_X12_hearsAll 2 ?_
  exact loop 40 _ 0 f0 st.heap [] hh (by simpa using hT) (rm_lv_rf 7) hI rfl rfl
end RMX
