theorem rk_alt_i {G : Nat → Option Nat} {X : Int} {av : List Value} {alts : List rk_Alt} {v : Option Value} (h : rk_alt G X av alts v) (hk : (alts.all fun a => Nat.beq a.1.1 0) = true) : ∃ x : Int32, v = some (.int x) := by
  obtain ⟨a, ha, h1, -⟩ := h
  have h0 := Nat.eq_of_beq_eq_true (List.all_eq_true.mp hk a ha)
  obtain ⟨⟨t, p, q⟩, l⟩ := a
  dsimp only at h0
  subst h0
  obtain ⟨w, e1, x, e2, -⟩ := (h1 : ∃ w, v = some w ∧ rk_has G X (0, p, q) w)
  exact ⟨x, by rw [e1, e2]⟩
def rv_t_X12_joins : rv_T := (.branch 0 (.branch 0 (.branch 0 (.branch 0 (.branch 0 (.branch 0 (.leaf (0, .aload_n 0, 1)) (.leaf (32, .aload_n 0, 1))) (.leaf (99999, .nop, 1))) (.leaf (99999, .nop, 1))) (.branch 0 (.branch 0 (.leaf (4, .iconst 1, 1)) (.leaf (20, .iconst 1, 1))) (.branch 0 (.leaf (12, .iload_n 1, 1)) (.leaf (28, .iconst 0, 1))))) (.branch 0 (.branch 0 (.branch 0 (.branch 0 (.leaf (2, .iconst 0, 1)) (.leaf (34, .invokevirtual 91, 3))) (.leaf (18, .aload_n 0, 1))) (.branch 0 (.branch 0 (.leaf (10, .iload_n 2, 1)) (.leaf (42, .return_, 1))) (.leaf (26, .iload_n 2, 1)))) (.branch 0 (.branch 0 (.branch 0 (.leaf (6, .invokevirtual 42, 3)) (.leaf (38, .iload_n 2, 1))) (.leaf (22, .invokevirtual 42, 3))) (.leaf (14, .iadd, 1))))) (.branch 0 (.branch 0 (.branch 0 (.branch 0 (.branch 0 (.leaf (1, .iload_n 1, 1)) (.leaf (33, .iload_n 1, 1))) (.leaf (99999, .nop, 1))) (.branch 0 (.leaf (9, .aload_n 0, 1)) (.leaf (25, .aload_n 0, 1)))) (.branch 0 (.branch 0 (.branch 0 (.leaf (5, .iadd, 1)) (.leaf (37, .aload_n 0, 1))) (.leaf (21, .iconst 0, 1))) (.branch 0 (.leaf (13, .iconst 1, 1)) (.leaf (29, .invokevirtual 42, 3))))) (.branch 0 (.branch 0 (.branch 0 (.leaf (3, .iload_n 2, 1)) (.leaf (19, .iload_n 1, 1))) (.branch 0 (.leaf (11, .iconst 0, 1)) (.leaf (27, .iconst 1, 1)))) (.branch 0 (.leaf (39, .invokevirtual 91, 3)) (.leaf (15, .invokevirtual 42, 3))))))
theorem rv_k_X12_joins : rv_tok cX12_joins rv_t_X12_joins = true := by decide +kernel
def rv_t_X12_hearsData : rv_T := (.branch 0 (.branch 0 (.branch 0 (.branch 0 (.branch 0 (.branch 0 (.leaf (0, .aload_n 0, 1)) (.leaf (32, .iload_n 1, 1))) (.leaf (99999, .nop, 1))) (.branch 0 (.branch 0 (.leaf (72, .iload_n 2, 1)) (.leaf (40, .invokevirtual 42, 3))) (.leaf (56, .invokevirtual 79, 3)))) (.branch 0 (.branch 0 (.leaf (99999, .nop, 1)) (.branch 0 (.leaf (20, .aload_n 0, 1)) (.leaf (52, .bipush (13), 2)))) (.branch 0 (.branch 0 (.branch 0 (.leaf (12, .bipush (6), 2)) (.leaf (76, .return_, 1))) (.leaf (44, .iload_n 1, 1))) (.leaf (28, .iload_n 1, 1))))) (.branch 0 (.branch 0 (.branch 0 (.branch 0 (.branch 0 (.leaf (2, .iconst 3, 1)) (.leaf (66, .iconst 1, 1))) (.leaf (99999, .nop, 1))) (.leaf (50, .aload_n 0, 1))) (.branch 0 (.leaf (10, .aload_n 0, 1)) (.leaf (26, .return_, 1)))) (.branch 0 (.branch 0 (.branch 0 (.branch 0 (.leaf (6, .iconst 4, 1)) (.leaf (70, .aload_n 0, 1))) (.leaf (38, .iconst 1, 1))) (.branch 0 (.leaf (22, .iconst 1, 1)) (.leaf (54, .aload_n 0, 1)))) (.branch 0 (.leaf (14, .invokevirtual 36, 3)) (.leaf (62, .iconst 0, 1)))))) (.branch 0 (.branch 0 (.branch 0 (.branch 0 (.branch 0 (.leaf (1, .iload_n 1, 1)) (.leaf (33, .bipush (6), 2))) (.leaf (17, .ifCond .ne (10), 3))) (.leaf (73, .invokevirtual 59, 3))) (.branch 0 (.leaf (21, .iload_n 1, 1)) (.branch 0 (.leaf (45, .bipush (18), 2)) (.leaf (29, .bipush (6), 2))))) (.branch 0 (.branch 0 (.branch 0 (.branch 0 (.branch 0 (.leaf (3, .invokevirtual 36, 3)) (.leaf (67, .invokevirtual 42, 3))) (.leaf (35, .invokevirtual 36, 3))) (.leaf (51, .iload_n 1, 1))) (.branch 0 (.branch 0 (.leaf (11, .iload_n 1, 1)) (.leaf (43, .aload_n 0, 1))) (.branch 0 (.leaf (27, .aload_n 0, 1)) (.leaf (59, .ifCond .eq (7), 3))))) (.branch 0 (.branch 0 (.branch 0 (.branch 0 (.leaf (7, .if_icmp .eq (13), 3)) (.leaf (71, .iload_n 1, 1))) (.leaf (39, .isub, 1))) (.branch 0 (.leaf (23, .invokevirtual 88, 3)) (.leaf (55, .iload_n 2, 1)))) (.branch 0 (.leaf (47, .invokevirtual 46, 3)) (.branch 0 (.leaf (31, .aload_n 0, 1)) (.leaf (63, .goto (4), 3))))))))
theorem rv_k_X12_hearsData : rv_tok cX12_hearsData rv_t_X12_hearsData = true := by decide +kernel
def rv_t_X12_grows : rv_T := (.branch 0 (.branch 0 (.branch 0 (.branch 0 (.branch 0 (.branch 0 (.branch 0 (.branch 0 (.leaf (0, .aload_n 0, 1)) (.leaf (128, .aload_n 0, 1))) (.leaf (99999, .nop, 1))) (.branch 0 (.leaf (32, .invokevirtual 56, 3)) (.leaf (96, .invokevirtual 36, 3)))) (.branch 0 (.branch 0 (.branch 0 (.leaf (16, .invokevirtual 36, 3)) (.leaf (144, .if_icmp .ne (15), 3))) (.leaf (99999, .nop, 1))) (.branch 0 (.leaf (48, .aload_n 0, 1)) (.leaf (112, .iload_n 2, 1))))) (.branch 0 (.branch 0 (.branch 0 (.leaf (8, .iconst 4, 1)) (.leaf (72, .iconst 2, 1))) (.leaf (104, .iload_n 1, 1))) (.branch 0 (.branch 0 (.leaf (24, .bipush (16), 2)) (.leaf (88, .iconst 3, 1))) (.leaf (56, .iconst 1, 1))))) (.branch 0 (.branch 0 (.branch 0 (.leaf (68, .invokevirtual 73, 3)) (.branch 0 (.leaf (36, .iload_n 1, 1)) (.leaf (100, .if_icmp .ne (12), 3)))) (.branch 0 (.branch 0 (.leaf (148, .bipush (6), 2)) (.leaf (84, .invokevirtual 73, 3))) (.leaf (99999, .nop, 1)))) (.branch 0 (.branch 0 (.branch 0 (.leaf (12, .aload_n 0, 1)) (.leaf (76, .iload_n 3, 1))) (.leaf (44, .iconst 4, 1))) (.branch 0 (.branch 0 (.leaf (156, .invokevirtual 88, 3)) (.leaf (92, .aload_n 0, 1))) (.branch 0 (.leaf (60, .iload_n 3, 1)) (.leaf (124, .iconst 1, 1))))))) (.branch 0 (.branch 0 (.branch 0 (.branch 0 (.branch 0 (.branch 0 (.leaf (2, .iconst 3, 1)) (.leaf (130, .iconst 5, 1))) (.leaf (66, .iload_n 1, 1))) (.leaf (99999, .nop, 1))) (.branch 0 (.leaf (82, .iload_n 1, 1)) (.branch 0 (.leaf (50, .iconst 4, 1)) (.leaf (114, .if_icmp .ne (23), 3))))) (.branch 0 (.branch 0 (.leaf (138, .iconst 3, 1)) (.branch 0 (.leaf (42, .aload_n 0, 1)) (.leaf (106, .invokevirtual 73, 3)))) (.branch 0 (.branch 0 (.branch 0 (.leaf (26, .invokevirtual 46, 3)) (.leaf (154, .iload_n 1, 1))) (.leaf (99999, .nop, 1))) (.leaf (99999, .nop, 1))))) (.branch 0 (.branch 0 (.branch 0 (.branch 0 (.branch 0 (.leaf (6, .istore_n 2, 1)) (.leaf (134, .goto (25), 3))) (.leaf (99999, .nop, 1))) (.leaf (38, .invokevirtual 88, 3))) (.branch 0 (.branch 0 (.branch 0 (.leaf (22, .aload_n 0, 1)) (.leaf (150, .if_icmp .ne (9), 3))) (.leaf (99999, .nop, 1))) (.branch 0 (.leaf (54, .istore_n 3, 1)) (.leaf (118, .iload_n 1, 1))))) (.branch 0 (.branch 0 (.branch 0 (.branch 0 (.leaf (14, .bipush (7), 2)) (.leaf (142, .iload_n 2, 1))) (.leaf (78, .if_icmp .ne (9), 3))) (.leaf (99999, .nop, 1))) (.branch 0 (.branch 0 (.leaf (30, .iconst 2, 1)) (.leaf (94, .bipush (8), 2))) (.leaf (62, .if_icmp .ne (9), 3))))))) (.branch 0 (.branch 0 (.branch 0 (.branch 0 (.branch 0 (.branch 0 (.branch 0 (.leaf (1, .iload_n 1, 1)) (.leaf (129, .iload_n 1, 1))) (.leaf (65, .aload_n 0, 1))) (.leaf (99999, .nop, 1))) (.branch 0 (.leaf (81, .aload_n 0, 1)) (.branch 0 (.leaf (49, .iload_n 1, 1)) (.leaf (113, .iconst 4, 1))))) (.branch 0 (.branch 0 (.branch 0 (.branch 0 (.leaf (9, .if_icmp .lt (33), 3)) (.leaf (137, .iload_n 2, 1))) (.leaf (73, .if_icmp .ne (14), 3))) (.branch 0 (.leaf (41, .return_, 1)) (.leaf (105, .iconst 4, 1)))) (.branch 0 (.branch 0 (.leaf (153, .aload_n 0, 1)) (.leaf (89, .if_icmp .ne (23), 3))) (.branch 0 (.leaf (57, .if_icmp .ne (14), 3)) (.leaf (121, .invokevirtual 36, 3)))))) (.branch 0 (.branch 0 (.leaf (37, .iconst 1, 1)) (.leaf (117, .aload_n 0, 1))) (.branch 0 (.branch 0 (.branch 0 (.leaf (13, .iload_n 1, 1)) (.leaf (77, .iconst 4, 1))) (.branch 0 (.leaf (45, .invokevirtual 46, 3)) (.leaf (109, .goto (50), 3)))) (.branch 0 (.branch 0 (.leaf (29, .aload_n 0, 1)) (.leaf (93, .iload_n 1, 1))) (.branch 0 (.leaf (61, .iconst 2, 1)) (.leaf (125, .if_icmp .ne (12), 3))))))) (.branch 0 (.branch 0 (.branch 0 (.branch 0 (.branch 0 (.branch 0 (.leaf (3, .invokevirtual 36, 3)) (.leaf (131, .invokevirtual 73, 3))) (.leaf (67, .iconst 2, 1))) (.branch 0 (.leaf (35, .aload_n 0, 1)) (.leaf (99, .iconst 1, 1)))) (.branch 0 (.branch 0 (.branch 0 (.leaf (19, .ifCond .le (23), 3)) (.leaf (147, .iload_n 3, 1))) (.leaf (83, .iconst 3, 1))) (.leaf (51, .invokevirtual 36, 3)))) (.branch 0 (.branch 0 (.leaf (139, .if_icmp .eq (8), 3)) (.leaf (43, .iload_n 1, 1))) (.leaf (155, .iconst 1, 1)))) (.branch 0 (.branch 0 (.branch 0 (.branch 0 (.leaf (7, .iload_n 2, 1)) (.leaf (71, .iload_n 2, 1))) (.leaf (103, .aload_n 0, 1))) (.branch 0 (.branch 0 (.leaf (23, .iload_n 1, 1)) (.leaf (87, .iload_n 2, 1))) (.branch 0 (.leaf (55, .iload_n 2, 1)) (.leaf (119, .bipush (9), 2))))) (.branch 0 (.leaf (143, .iconst 4, 1)) (.branch 0 (.branch 0 (.branch 0 (.leaf (31, .iload_n 1, 1)) (.leaf (159, .return_, 1))) (.leaf (99999, .nop, 1))) (.leaf (99999, .nop, 1))))))))
theorem rv_k_X12_grows : rv_tok cX12_grows rv_t_X12_grows = true := by decide +kernel
section RMX
variable (base : Nat) (l : Launch) (cI c1 c2 c3 c4 c5 : ClassId) (D : va_G) (ad adV : Nat → Nat)
theorem h_joins (a0 : Nat) (a b : Int32) (an bn : Nat) (ha : a.toInt = (an : Int)) (hb : b.toInt = (bn : Int)) (han : an < 40) (hbn : bn < 40) : rm_Hm base l cI c1 c2 c3 c4 c5 D ad adV rk_q_X12_joins [.ref a0, .int a, .int b] (fun G _ f => G a0 = some 12 ∧ rm_one G ∧ rm_INV G f a0) (fun G _ f v u => v = none) 4 3 := by
  unfold rm_Hm
  refine rm_start (M := rk_q_X12_joins) (rk_hNw base ad adV) (rk_hNc base ad adV) (by decide +kernel) (mt := rk_mt [rk_q_X12_puts, rk_q_X12_settles]) (ml := rk_mlf [(42, 0, 4, 12), (91, 1, 2, 12)]) (fl := rk_flf rk_ftX12) (fun s args h hN => rk_MlOk_of (List.forall_mem_cons.mpr ⟨rk_mck_ok (fun w hw => List.mem_cons_of_mem _ hw) h hN rk_cm_X12_puts rk_lk_X12_42, List.forall_mem_cons.mpr ⟨rk_mck_ok (fun w hw => List.mem_cons_of_mem _ hw) h hN rk_cm_X12_settles rk_lk_X12_91, fun _ h => absurd h List.not_mem_nil⟩⟩) (by decide +kernel)) (fun s args h hN => rk_flX12 (fun w hw => List.mem_cons_of_mem _ hw) h hN) (rm_cat1 rfl) (Nat.le_of_ble_eq_true rfl) ?_
  intro p e st m below meth c G X L f0 A hC hh hX0 hXC hT hpre
  have hcs : 0 ≤ 0 ∧ 0 ≤ 0 := ⟨Nat.le_refl 0, Nat.le_refl 0⟩
  obtain ⟨hG, h1, hI⟩ := hpre
  have hLt := rm_lv_rf (G := G) (f := f0) 3
  have eb := rm_ad hb rm_e1 (by omega) (by decide)
  have ea := rm_ad ha rm_e1 (by omega) (by decide)
  have put : ∀ (f u : Nat → va_E) (s : Nat) (x : Int32), s < 40 → 1 ≤ x.toInt → rm_Lv G 15 f u → (∀ i, rm_now G u a0 i = if i = 64 * s + 0 then x else rm_now G f a0 i) → rm_Lv G 3 f u := fun f u s x hs hx hL hP => rm_st_3 (rm_st_O (rm_st_rf (rm_so_of G f a0 s)) hL hP) hG (rm_so_of G f a0 s) (fun r1 r2 => ⟨r1, fun _ => hx⟩) (Int.le_refl _) hs
  refine rv_run hC.1 hC.2.1 (T := rv_t_X12_joins) rv_k_X12_joins 80 ?_
  refine w_puts hC hh hT hG (by omega) (by omega) 15 42 (by decide +kernel) rfl rfl ha han 0 (by decide) (by decide) rfl (rm_hI (a := 0) (b := 40) rfl (by rw [eb]; omega) (by rw [eb]; omega)) (Nat.le_of_ble_eq_true rfl) hcs (fun f H locs hh hT hL hP => ?_)
  have hL3 := put _ _ an _ han (by rw [eb]; omega) hL hP
  have hLt := rm_lv_tr (k := 3) hLt hL3 rfl rfl
  have hI := rm_I3 hL3 h1 hG hI
  refine rv_run hC.1 hC.2.1 (T := rv_t_X12_joins) rv_k_X12_joins 80 ?_
  refine w_puts hC hh hT hG (by omega) (by omega) 15 42 (by decide +kernel) rfl rfl hb hbn 0 (by decide) (by decide) rfl (rm_hI (a := 0) (b := 40) rfl (by rw [ea]; omega) (by rw [ea]; omega)) (Nat.le_of_ble_eq_true rfl) hcs (fun f H locs hh hT hL hP => ?_)
  have hL3 := put _ _ bn _ hbn (by rw [ea]; omega) hL hP
  have hLt := rm_lv_tr (k := 3) hLt hL3 rfl rfl
  have hI := rm_I3 hL3 h1 hG hI
  refine rv_run hC.1 hC.2.1 (T := rv_t_X12_joins) rv_k_X12_joins 80 ?_
  refine w_puts hC hh hT hG (by omega) (by omega) 1 42 (by decide +kernel) rfl rfl ha han 1 (by decide) (by decide) rfl (rm_hI (a := 0) (b := 1) rfl (by decide) (by decide)) (Nat.le_of_ble_eq_true rfl) hcs (fun f H locs hh hT hL hP => ?_)
  have hLt := rm_lv_tr (k := 3) hLt hL rfl rfl
  have hI := rm_I1 hL hG hI
  refine rv_run hC.1 hC.2.1 (T := rv_t_X12_joins) rv_k_X12_joins 80 ?_
  refine w_puts hC hh hT hG (by omega) (by omega) 1 42 (by decide +kernel) rfl rfl hb hbn 1 (by decide) (by decide) rfl (rm_hI (a := 0) (b := 1) rfl (by decide) (by decide)) (Nat.le_of_ble_eq_true rfl) hcs (fun f H locs hh hT hL hP => ?_)
  have hLt := rm_lv_tr (k := 3) hLt hL rfl rfl
  have hI := rm_I1 hL hG hI
  refine rv_run hC.1 hC.2.1 (T := rv_t_X12_joins) rv_k_X12_joins 80 ?_
  refine w_h hC hh hT hG (by omega) (by omega) 91 (by decide +kernel) rfl (h_settles base l cI c1 c2 c3 c4 c5 D ad adV a0 a an ha han _ _ _ _ _ (hI.1 an han).1) ⟨hG, rm_so_of G f a0 an⟩ rfl rfl (Nat.le_of_ble_eq_true rfl) hcs (fun v f H locs hh hT hL hP => ?_)
  obtain ⟨rfl, -⟩ := hP
  have hLt := rm_lv_tr (k := 3) hLt hL rfl rfl
  have hI := rm_I3 hL h1 hG hI
  refine rv_run hC.1 hC.2.1 (T := rv_t_X12_joins) rv_k_X12_joins 80 ?_
  refine w_h hC hh hT hG (by omega) (by omega) 91 (by decide +kernel) rfl (h_settles base l cI c1 c2 c3 c4 c5 D ad adV a0 b bn hb hbn _ _ _ _ _ (hI.1 bn hbn).1) ⟨hG, rm_so_of G f a0 bn⟩ rfl rfl (Nat.le_of_ble_eq_true rfl) hcs (fun v f H locs hh hT hL hP => ?_)
  obtain ⟨rfl, -⟩ := hP
  have hLt := rm_lv_tr (k := 3) hLt hL rfl rfl
  have hI := rm_I3 hL h1 hG hI
  refine rv_run hC.1 hC.2.1 (T := rv_t_X12_joins) rv_k_X12_joins 80 ?_
  refine rm_vret hC hh (by decide +kernel) rfl ⟨rk_TY_X (by omega) hT, hLt, rfl⟩
theorem h_hearsData (a0 : Nat) (s x : Int32) (sn : Nat) (hs : s.toInt = (sn : Int)) (hsn : sn < 40) (B S C T O : Int) (hx : 0 ≤ x.toInt ∧ x.toInt ≤ 257) (hr1 : rm_R1 B S C) (hr2 : rm_R2 T O) (hT1 : 1 ≤ T) : rm_Hm base l cI c1 c2 c3 c4 c5 D ad adV rk_q_X12_hearsData [.ref a0, .int s, .int x] (fun G _ f => G a0 = some 12 ∧ rm_so G f a0 sn B S C T O) (fun G _ f v u => v = none) 2 7 := by
  unfold rm_Hm
  refine rm_start (M := rk_q_X12_hearsData) (rk_hNw base ad adV) (rk_hNc base ad adV) (by decide +kernel) (mt := rk_mt [rk_q_X12_at, rk_q_X12_buffers, rk_q_X12_falls, rk_q_X12_isMark, rk_q_X12_more, rk_q_X12_puts]) (ml := rk_mlf [(36, 0, 3, 12), (59, 1, 3, 12), (88, 2, 3, 12), (79, 3, 2, 12), (46, 4, 3, 12), (42, 5, 4, 12)]) (fl := rk_flf rk_ftX12) (fun s args h hN => rk_MlOk_of (List.forall_mem_cons.mpr ⟨rk_mck_ok (fun w hw => List.mem_cons_of_mem _ hw) h hN rk_cm_X12_at rk_lk_X12_36, List.forall_mem_cons.mpr ⟨rk_mck_ok (fun w hw => List.mem_cons_of_mem _ hw) h hN rk_cm_X12_buffers rk_lk_X12_59, List.forall_mem_cons.mpr ⟨rk_mck_ok (fun w hw => List.mem_cons_of_mem _ hw) h hN rk_cm_X12_falls rk_lk_X12_88, List.forall_mem_cons.mpr ⟨rk_mck_ok (fun w hw => List.mem_cons_of_mem _ hw) h hN rk_cm_X12_isMark rk_lk_X12_79, List.forall_mem_cons.mpr ⟨rk_mck_ok (fun w hw => List.mem_cons_of_mem _ hw) h hN rk_cm_X12_more rk_lk_X12_46, List.forall_mem_cons.mpr ⟨rk_mck_ok (fun w hw => List.mem_cons_of_mem _ hw) h hN rk_cm_X12_puts rk_lk_X12_42, fun _ h => absurd h List.not_mem_nil⟩⟩⟩⟩⟩⟩) (by decide +kernel)) (fun s args h hN => rk_flX12 (fun w hw => List.mem_cons_of_mem _ hw) h hN) (rm_cat1 rfl) (Nat.le_of_ble_eq_true rfl) ?_
  intro p e st m below meth c G X L f0 A hC hh hX0 hXC hT hpre
  have hcs : 0 ≤ 0 ∧ 0 ≤ 0 := ⟨Nat.le_refl 0, Nat.le_refl 0⟩
  obtain ⟨hG, hso⟩ := hpre
  have hst := rm_st_rf hso
  obtain ⟨hb1, hb2, hb3, hb4, hb5⟩ := rm_so_b hT hG hsn hso
  have hBC : B + C ≤ 25 := by unfold rm_R1 at hr1; omega
  have hO : 1 ≤ O := hr2 hT1
  have t20 : ∀ (H : Heap) (locs : List Loc), rm_h D A st L f0 H locs → rv_G p l e { frames := rk_q_X12_hearsData.2.2.2.2.1, cells := 0, slots := 0, locals := rk_q_X12_hearsData.2.2.2.2.2 } st m ([.ref a0, .int s, .int x] : List Value).toArray below meth c (MQ below (rk_Q (fun v u => rm_TY cI c1 c2 c3 c4 c5 ad G (X + 2) L u ∧ rm_Lv G 7 f0 u ∧ (fun G _ f v u => v = none) G X f0 v u) (rk_B D (rk_tys cI c1 c2 c3 c4 c5) L A) A) ([.ref a0, .int s, .int x] : List Value).toArray st 0 0 A) rk_q_X12_hearsData.2.2.1 0 0 H locs 20 [] [(0, .ref a0), (1, .int s), (2, .int x)] := by
    intro H locs hh
    refine rv_run hC.1 hC.2.1 (T := rv_t_X12_hearsData) rv_k_X12_hearsData 80 ?_
    refine w_h hC hh hT hG (by omega) (by omega) 88 (by decide +kernel) rfl (h_falls base l cI c1 c2 c3 c4 c5 D ad adV a0 s _ sn hs hsn B S C T O (by decide) hr1) ⟨hG, hst.2.2⟩ rfl rfl (Nat.le_of_ble_eq_true rfl) hcs (fun v f H locs hh hT hL hP => ?_)
    obtain ⟨rfl, hP⟩ := hP
    refine rv_run hC.1 hC.2.1 (T := rv_t_X12_hearsData) rv_k_X12_hearsData 80 ?_
    refine rm_vret hC hh (by decide +kernel) rfl ⟨hT, rm_st_7 hP hG hso (fun _ _ => ⟨Or.inl ⟨rfl, by omega⟩, fun _ => hO⟩) hsn, rfl⟩
  refine rv_run hC.1 hC.2.1 (T := rv_t_X12_hearsData) rv_k_X12_hearsData 80 ?_
  refine w_at hC hh hT hG (by omega) (by omega) 36 (by decide +kernel) rfl rfl hs hsn 3 (by decide) (by decide) (Nat.le_of_ble_eq_true rfl) hcs (fun y H locs hh hy => ?_)
  refine rv_run hC.1 hC.2.1 (T := rv_t_X12_hearsData) rv_k_X12_hearsData 2 ?_
  refine ⟨fun h => t20 H locs hh, fun h => ?_⟩
  refine rv_run hC.1 hC.2.1 (T := rv_t_X12_hearsData) rv_k_X12_hearsData 80 ?_
  refine w_at hC hh hT hG (by omega) (by omega) 36 (by decide +kernel) rfl rfl hs hsn 6 (by decide) (by decide) (Nat.le_of_ble_eq_true rfl) hcs (fun z H locs hh hz => ?_)
  have ez : z.toInt = S := by rw [hz]; exact hso.2.1
  refine rv_run hC.1 hC.2.1 (T := rv_t_X12_hearsData) rv_k_X12_hearsData 1 ?_
  refine ⟨fun h => ?_, fun h => t20 H locs hh⟩
  have h : ¬ z.toInt = 0 := h
  refine rv_run hC.1 hC.2.1 (T := rv_t_X12_hearsData) rv_k_X12_hearsData 80 ?_
  refine w_at hC hh hT hG (by omega) (by omega) 36 (by decide +kernel) rfl rfl hs hsn 6 (by decide) (by decide) (Nat.le_of_ble_eq_true rfl) hcs (fun z2 H locs hh hz2 => ?_)
  have ez2 : z2.toInt = S := by rw [hz2]; exact hso.2.1
  have e3 := rm_su ez2 rm_e1 (by omega) (by decide)
  refine rv_run hC.1 hC.2.1 (T := rv_t_X12_hearsData) rv_k_X12_hearsData 80 ?_
  refine w_puts hC hh hT hG (by omega) (by omega) 15 42 (by decide +kernel) rfl rfl hs hsn 6 (by decide) (by decide) rfl (rm_hI (a := 0) (b := 24) rfl (by rw [e3]; omega) (by rw [e3]; omega)) (Nat.le_of_ble_eq_true rfl) hcs (fun f H locs hh hT hL hP => ?_)
  have hst := rm_st_S hst hL hP
  rw [e3] at hst
  refine rv_run hC.1 hC.2.1 (T := rv_t_X12_hearsData) rv_k_X12_hearsData 80 ?_
  refine w_more hC hh hT hG (by omega) 0 (by decide) (by omega) 1 46 (by decide +kernel) rfl rfl hs hsn 18 (by decide) (by decide) rfl (rm_hF rfl) (Nat.le_of_ble_eq_true rfl) hcs (fun f H locs hh hT hL hP => ?_)
  rw [Int.add_zero] at hT
  have hst := rm_st_1 hst hL hG hsn
  -- the last two
  have t67 : ∀ (k : Int32) (f : Nat → va_E) (H : Heap) (locs : List Loc), rm_h D A st L f H locs → rm_TY cI c1 c2 c3 c4 c5 ad G X L f → rm_st G f0 f a0 sn B (S - 1) C T O → 0 ≤ k.toInt ∧ k.toInt ≤ 1 → rv_G p l e { frames := rk_q_X12_hearsData.2.2.2.2.1, cells := 0, slots := 0, locals := rk_q_X12_hearsData.2.2.2.2.2 } st m ([.ref a0, .int s, .int x] : List Value).toArray below meth c (MQ below (rk_Q (fun v u => rm_TY cI c1 c2 c3 c4 c5 ad G (X + 2) L u ∧ rm_Lv G 7 f0 u ∧ (fun G _ f v u => v = none) G X f0 v u) (rk_B D (rk_tys cI c1 c2 c3 c4 c5) L A) A) ([.ref a0, .int s, .int x] : List Value).toArray st 0 0 A) rk_q_X12_hearsData.2.2.1 0 0 H locs 67 [.int k, .int (Int8.ofInt 13).toInt32, .int s, .ref a0] [(0, .ref a0), (1, .int s), (2, .int x)] := by
    intro k f H locs hh hT hst hk
    refine w_puts hC hh hT hG (by omega) (by omega) 15 42 (by decide +kernel) rfl rfl hs hsn 13 (by decide) (by decide) rfl (rm_hI (a := 0) (b := 1) rfl hk.1 hk.2) (Nat.le_of_ble_eq_true rfl) hcs (fun f H locs hh hT hL hP => ?_)
    have hst := rm_st_C hst hL hP
    refine rv_run hC.1 hC.2.1 (T := rv_t_X12_hearsData) rv_k_X12_hearsData 80 ?_
    refine w_h hC hh hT hG (by omega) (by omega) 59 (by decide +kernel) rfl (h_buffers base l cI c1 c2 c3 c4 c5 D ad adV a0 s x sn hs hsn B (S - 1) k.toInt T O (by unfold rm_R1 at hr1; omega) hx) ⟨hG, hst.2.2⟩ rfl rfl (Nat.le_of_ble_eq_true rfl) hcs (fun v f H locs hh hT hL hP => ?_)
    rw [Int.add_zero] at hT
    obtain ⟨rfl, hP⟩ := hP
    have hst := rm_st_c hst hP
    refine rv_run hC.1 hC.2.1 (T := rv_t_X12_hearsData) rv_k_X12_hearsData 80 ?_
    refine rm_vret hC hh (by decide +kernel) rfl ⟨rk_TY_X (by omega) hT, rm_st_7 hst hG hso (fun _ _ => ⟨by unfold rm_R1 at hr1 ⊢; omega, hr2⟩) hsn, rfl⟩
  refine rv_run hC.1 hC.2.1 (T := rv_t_X12_hearsData) rv_k_X12_hearsData 80 ?_
  refine w_k hC hh hT hG (by omega) (by omega) 79 (by decide +kernel) rfl (c_X12_isMark base l cI c1 c2 c3 c4 c5 D ad adV) (rk_all_c (rk_aM hG) (rk_all_c rk_aF rk_all_0)) rfl rfl (Nat.le_of_ble_eq_true rfl) hcs (fun v f H locs hh hT hL hA => ?_)
  rw [Int.add_zero] at hT
  obtain ⟨x2, rfl⟩ : ∃ x2 : Int32, v = some (.int x2) := rk_alt_i hA rfl
  have hst := rm_st_1 hst (rm_lv_up hL rfl) hG hsn
  refine rv_run hC.1 hC.2.1 (T := rv_t_X12_hearsData) rv_k_X12_hearsData 1 ?_
  refine ⟨fun h => ?_, fun h => ?_⟩
  · refine rv_run hC.1 hC.2.1 (T := rv_t_X12_hearsData) rv_k_X12_hearsData 1 ?_
    exact t67 _ f H locs hh hT hst (by decide)
  · refine rv_run hC.1 hC.2.1 (T := rv_t_X12_hearsData) rv_k_X12_hearsData 2 ?_
    exact t67 _ f H locs hh hT hst (by decide)
theorem h_grows (a0 : Nat) (s : Int32) (sn : Nat) (hs : s.toInt = (sn : Int)) (hsn : sn < 40) : rm_Hm base l cI c1 c2 c3 c4 c5 D ad adV rk_q_X12_grows [.ref a0, .int s] (fun G _ f => G a0 = some 12 ∧ rm_one G ∧ rm_INV G f a0) (fun G _ f v u => v = none) 3 3 := by
  unfold rm_Hm
  refine rm_start (M := rk_q_X12_grows) (rk_hNw base ad adV) (rk_hNc base ad adV) (by decide +kernel) (mt := rk_mt [rk_q_X12_at, rk_q_X12_becomes, rk_q_X12_falls, rk_q_X12_logs, rk_q_X12_more]) (ml := rk_mlf [(36, 0, 3, 12), (73, 1, 3, 12), (88, 2, 3, 12), (56, 3, 3, 12), (46, 4, 3, 12)]) (fl := rk_flf rk_ftX12) (fun s args h hN => rk_MlOk_of (List.forall_mem_cons.mpr ⟨rk_mck_ok (fun w hw => List.mem_cons_of_mem _ hw) h hN rk_cm_X12_at rk_lk_X12_36, List.forall_mem_cons.mpr ⟨rk_mck_ok (fun w hw => List.mem_cons_of_mem _ hw) h hN rk_cm_X12_becomes rk_lk_X12_73, List.forall_mem_cons.mpr ⟨rk_mck_ok (fun w hw => List.mem_cons_of_mem _ hw) h hN rk_cm_X12_falls rk_lk_X12_88, List.forall_mem_cons.mpr ⟨rk_mck_ok (fun w hw => List.mem_cons_of_mem _ hw) h hN rk_cm_X12_logs rk_lk_X12_56, List.forall_mem_cons.mpr ⟨rk_mck_ok (fun w hw => List.mem_cons_of_mem _ hw) h hN rk_cm_X12_more rk_lk_X12_46, fun _ h => absurd h List.not_mem_nil⟩⟩⟩⟩⟩) (by decide +kernel)) (fun s args h hN => rk_flX12 (fun w hw => List.mem_cons_of_mem _ hw) h hN) (rm_cat1 rfl) (Nat.le_of_ble_eq_true rfl) ?_
  intro p e st m below meth c G X L f0 A hC hh hX0 hXC hT hpre
  have hcs : 0 ≤ 0 ∧ 0 ≤ 0 := ⟨Nat.le_refl 0, Nat.le_refl 0⟩
  obtain ⟨hG, h1, hI⟩ := hpre
  have hso := rm_so_of G f0 a0 sn
  obtain ⟨hr1, hr2⟩ := hI.1 sn hsn
  generalize rm_sc (rm_now G f0 a0) sn 20 = B at hso hr1
  generalize rm_sc (rm_now G f0 a0) sn 6 = S at hso hr1
  generalize rm_sc (rm_now G f0 a0) sn 13 = C at hso hr1
  generalize rm_sc (rm_now G f0 a0) sn 3 = T at hso hr2
  generalize rm_sc (rm_now G f0 a0) sn 0 = O at hso hr2
  have hst := rm_st_rf hso
  obtain ⟨hb1, hb2, hb3, hb4, hb5⟩ := rm_so_b hT hG hsn hso
  have hBC : B + C ≤ 25 := by unfold rm_R1 at hr1; omega
  refine rv_run hC.1 hC.2.1 (T := rv_t_X12_grows) rv_k_X12_grows 80 ?_
  refine w_at hC hh hT hG (by omega) (by omega) 36 (by decide +kernel) rfl rfl hs hsn 3 (by decide) (by decide) (Nat.le_of_ble_eq_true rfl) hcs (fun y H locs hh hy => ?_)
  have ey : y.toInt = T := by rw [hy]; exact hst.2.2.2.2.2.1
  -- falls
  have fall : ∀ (f : Nat → va_E) (lo : List (Nat × Value)) (pc : Nat) (H : Heap) (locs : List Loc), rm_h D A st L f H locs → rm_TY cI c1 c2 c3 c4 c5 ad G (X + 1) L f → rm_st G f0 f a0 sn B S C T O → 1 ≤ T → decode cX12_grows pc = .ok (.invokevirtual 88, 3) → (∀ (H : Heap) (locs : List Loc) (f : Nat → va_E), rm_h D A st L f H locs → rm_TY cI c1 c2 c3 c4 c5 ad G (X + 3) L f → rm_Lv G 3 f0 f → rv_G p l e { frames := rk_q_X12_grows.2.2.2.2.1, cells := 0, slots := 0, locals := rk_q_X12_grows.2.2.2.2.2 } st m ([.ref a0, .int s] : List Value).toArray below meth c (MQ below (rk_Q (fun v u => rm_TY cI c1 c2 c3 c4 c5 ad G (X + 3) L u ∧ rm_Lv G 3 f0 u ∧ (fun G _ f v u => v = none) G X f0 v u) (rk_B D (rk_tys cI c1 c2 c3 c4 c5) L A) A) ([.ref a0, .int s] : List Value).toArray st 0 0 A) rk_q_X12_grows.2.2.1 0 0 H locs (pc + 3) [] lo) → rv_G p l e { frames := rk_q_X12_grows.2.2.2.2.1, cells := 0, slots := 0, locals := rk_q_X12_grows.2.2.2.2.2 } st m ([.ref a0, .int s] : List Value).toArray below meth c (MQ below (rk_Q (fun v u => rm_TY cI c1 c2 c3 c4 c5 ad G (X + 3) L u ∧ rm_Lv G 3 f0 u ∧ (fun G _ f v u => v = none) G X f0 v u) (rk_B D (rk_tys cI c1 c2 c3 c4 c5) L A) A) ([.ref a0, .int s] : List Value).toArray st 0 0 A) rk_q_X12_grows.2.2.1 0 0 H locs pc [.int (Int32.ofInt 1), .int s, .ref a0] lo := by
    intro f lo pc H locs hh hT hst hT1 hdg kk
    refine w_h hC hh hT hG (by omega) (C := 2) (by omega) 88 hdg rfl (h_falls base l cI c1 c2 c3 c4 c5 D ad adV a0 s _ sn hs hsn B S C T O (by decide) hr1) ⟨hG, hst.2.2⟩ rfl rfl (Nat.le_of_ble_eq_true rfl) hcs (fun v f H locs hh hT hL hP => ?_)
    obtain ⟨rfl, hP⟩ := hP
    have hst := rm_st_c hst hP
    exact kk H locs f hh (rk_TY_X (by omega) hT) (rm_st_3 hst hG hso (fun _ _ => ⟨Or.inl ⟨rfl, by omega⟩, fun _ => hr2 hT1⟩) (by omega) hsn)
  -- another state
  have bec : ∀ (x : Int32) (f : Nat → va_E) (lo : List (Nat × Value)) (pc : Nat) (H : Heap) (locs : List Loc), rm_h D A st L f H locs → rm_TY cI c1 c2 c3 c4 c5 ad G X L f → rm_st G f0 f a0 sn B S C T O → 1 ≤ T → 0 ≤ x.toInt ∧ x.toInt ≤ 5 → decode cX12_grows pc = .ok (.invokevirtual 73, 3) → (∀ (H : Heap) (locs : List Loc) (f : Nat → va_E), rm_h D A st L f H locs → rm_TY cI c1 c2 c3 c4 c5 ad G (X + 1) L f → rm_Lv G 3 f0 f → rv_G p l e { frames := rk_q_X12_grows.2.2.2.2.1, cells := 0, slots := 0, locals := rk_q_X12_grows.2.2.2.2.2 } st m ([.ref a0, .int s] : List Value).toArray below meth c (MQ below (rk_Q (fun v u => rm_TY cI c1 c2 c3 c4 c5 ad G (X + 3) L u ∧ rm_Lv G 3 f0 u ∧ (fun G _ f v u => v = none) G X f0 v u) (rk_B D (rk_tys cI c1 c2 c3 c4 c5) L A) A) ([.ref a0, .int s] : List Value).toArray st 0 0 A) rk_q_X12_grows.2.2.1 0 0 H locs (pc + 3) [] lo) → rv_G p l e { frames := rk_q_X12_grows.2.2.2.2.1, cells := 0, slots := 0, locals := rk_q_X12_grows.2.2.2.2.2 } st m ([.ref a0, .int s] : List Value).toArray below meth c (MQ below (rk_Q (fun v u => rm_TY cI c1 c2 c3 c4 c5 ad G (X + 3) L u ∧ rm_Lv G 3 f0 u ∧ (fun G _ f v u => v = none) G X f0 v u) (rk_B D (rk_tys cI c1 c2 c3 c4 c5) L A) A) ([.ref a0, .int s] : List Value).toArray st 0 0 A) rk_q_X12_grows.2.2.1 0 0 H locs pc [.int x, .int s, .ref a0] lo := by
    intro x f lo pc H locs hh hT hst hT1 hx hdg kk
    refine w_h hC hh hT hG (by omega) (C := 1) (by omega) 73 hdg rfl (h_becomes base l cI c1 c2 c3 c4 c5 D ad adV a0 s x sn hs hsn B S C T O hx) ⟨hG, hst.2.2⟩ rfl rfl (Nat.le_of_ble_eq_true rfl) hcs (fun v f H locs hh hT hL hP => ?_)
    obtain ⟨rfl, hP⟩ := hP
    have hst := rm_st_c hst hP
    exact kk H locs f hh hT (rm_st_3 hst hG hso (fun _ _ => ⟨hr1, fun _ => hr2 hT1⟩) (Int.le_refl _) hsn)
  -- the end, as nothing is left that fits the state
  have r159 : ∀ (k : Int32) (f : Nat → va_E) (H : Heap) (locs : List Loc), rm_h D A st L f H locs → rm_TY cI c1 c2 c3 c4 c5 ad G (X + 3) L f → rm_Lv G 3 f0 f → rv_G p l e { frames := rk_q_X12_grows.2.2.2.2.1, cells := 0, slots := 0, locals := rk_q_X12_grows.2.2.2.2.2 } st m ([.ref a0, .int s] : List Value).toArray below meth c (MQ below (rk_Q (fun v u => rm_TY cI c1 c2 c3 c4 c5 ad G (X + 3) L u ∧ rm_Lv G 3 f0 u ∧ (fun G _ f v u => v = none) G X f0 v u) (rk_B D (rk_tys cI c1 c2 c3 c4 c5) L A) A) ([.ref a0, .int s] : List Value).toArray st 0 0 A) rk_q_X12_grows.2.2.1 0 0 H locs 159 [] [(0, .ref a0), (1, .int s), (2, .int y), (3, .int k)] := by
    intro k f H locs hh hT hL
    refine rm_vret hC hh (by decide +kernel) rfl ⟨hT, hL, rfl⟩
  -- from 87 on with a state that isn't 3 or 4
  have t87 : ∀ (k : Int32) (f : Nat → va_E) (H : Heap) (locs : List Loc), rm_h D A st L f H locs → rm_TY cI c1 c2 c3 c4 c5 ad G (X + 1) L f → rm_Lv G 3 f0 f → ¬ T = 3 → ¬ T = 4 → rv_G p l e { frames := rk_q_X12_grows.2.2.2.2.1, cells := 0, slots := 0, locals := rk_q_X12_grows.2.2.2.2.2 } st m ([.ref a0, .int s] : List Value).toArray below meth c (MQ below (rk_Q (fun v u => rm_TY cI c1 c2 c3 c4 c5 ad G (X + 3) L u ∧ rm_Lv G 3 f0 u ∧ (fun G _ f v u => v = none) G X f0 v u) (rk_B D (rk_tys cI c1 c2 c3 c4 c5) L A) A) ([.ref a0, .int s] : List Value).toArray st 0 0 A) rk_q_X12_grows.2.2.1 0 0 H locs 87 [] [(0, .ref a0), (1, .int s), (2, .int y), (3, .int k)] := by
    intro k f H locs hh hT hL h3 h4
    refine rv_run hC.1 hC.2.1 (T := rv_t_X12_grows) rv_k_X12_grows 3 ?_
    refine ⟨fun _ => ?_, fun h => absurd h (by show ¬ y.toInt = 3; omega)⟩
    refine rv_run hC.1 hC.2.1 (T := rv_t_X12_grows) rv_k_X12_grows 3 ?_
    refine ⟨fun _ => ?_, fun h => absurd h (by show ¬ y.toInt = 4; omega)⟩
    refine rv_run hC.1 hC.2.1 (T := rv_t_X12_grows) rv_k_X12_grows 3 ?_
    refine ⟨fun h => absurd h (by show ¬ y.toInt = 3; omega), fun _ => ?_⟩
    refine rv_run hC.1 hC.2.1 (T := rv_t_X12_grows) rv_k_X12_grows 3 ?_
    refine ⟨fun _ => r159 k f H locs hh (rk_TY_X (by omega) hT) hL, fun h => absurd h (by show ¬ y.toInt = 4; omega)⟩
  have t42 : ∀ (f : Nat → va_E) (H : Heap) (locs : List Loc), rm_h D A st L f H locs → rm_TY cI c1 c2 c3 c4 c5 ad G X L f → rm_st G f0 f a0 sn B S C T O → rv_G p l e { frames := rk_q_X12_grows.2.2.2.2.1, cells := 0, slots := 0, locals := rk_q_X12_grows.2.2.2.2.2 } st m ([.ref a0, .int s] : List Value).toArray below meth c (MQ below (rk_Q (fun v u => rm_TY cI c1 c2 c3 c4 c5 ad G (X + 3) L u ∧ rm_Lv G 3 f0 u ∧ (fun G _ f v u => v = none) G X f0 v u) (rk_B D (rk_tys cI c1 c2 c3 c4 c5) L A) A) ([.ref a0, .int s] : List Value).toArray st 0 0 A) rk_q_X12_grows.2.2.1 0 0 H locs 42 [] [(0, .ref a0), (1, .int s), (2, .int y)] := by
    intro f H locs hh hT hst
    refine rv_run hC.1 hC.2.1 (T := rv_t_X12_grows) rv_k_X12_grows 80 ?_
    refine w_more hC hh hT hG (by omega) 0 (by decide) (by omega) 1 46 (by decide +kernel) rfl rfl hs hsn 4 (by decide) (by decide) rfl (rm_hF rfl) (Nat.le_of_ble_eq_true rfl) hcs (fun f H locs hh hT hL hP => ?_)
    rw [Int.add_zero] at hT
    have hst := rm_st_1 hst hL hG hsn
    refine rv_run hC.1 hC.2.1 (T := rv_t_X12_grows) rv_k_X12_grows 80 ?_
    refine w_at hC hh hT hG (by omega) (by omega) 36 (by decide +kernel) rfl rfl hs hsn 4 (by decide) (by decide) (Nat.le_of_ble_eq_true rfl) hcs (fun k H locs hh hk => ?_)
    have hL0 : rm_Lv G 3 f0 f := rm_st_3 hst hG hso (fun r1 r2 => ⟨r1, r2⟩) (Int.le_refl _) hsn
    refine rv_run hC.1 hC.2.1 (T := rv_t_X12_grows) rv_k_X12_grows 4 ?_
    -- 1: reset
    refine ⟨fun h => ?_, fun h => ?_⟩
    · have n1 : ¬ y.toInt = 1 := h
      refine rv_run hC.1 hC.2.1 (T := rv_t_X12_grows) rv_k_X12_grows 3 ?_
      -- 2: wait
      refine ⟨fun h => ?_, fun h => ?_⟩
      · have n2 : ¬ y.toInt = 2 := h
        refine rv_run hC.1 hC.2.1 (T := rv_t_X12_grows) rv_k_X12_grows 3 ?_
        -- 3: started
        refine ⟨fun h => ?_, fun h => ?_⟩
        · have n3 : ¬ y.toInt = 3 := h
          refine rv_run hC.1 hC.2.1 (T := rv_t_X12_grows) rv_k_X12_grows 3 ?_
          refine ⟨fun h => ?_, fun h => ?_⟩
          · have n4 : ¬ y.toInt = 4 := h
            refine rv_run hC.1 hC.2.1 (T := rv_t_X12_grows) rv_k_X12_grows 3 ?_
            refine ⟨fun h => absurd h n3, fun _ => ?_⟩
            refine rv_run hC.1 hC.2.1 (T := rv_t_X12_grows) rv_k_X12_grows 3 ?_
            refine ⟨fun _ => r159 k f H locs hh (rk_TY_X (by omega) hT) hL0, fun h => absurd h n4⟩
          · have n4 : y.toInt = 4 := h
            refine rv_run hC.1 hC.2.1 (T := rv_t_X12_grows) rv_k_X12_grows 80 ?_
            refine w_at hC hh hT hG (by omega) (by omega) 36 (by decide +kernel) rfl rfl hs hsn 9 (by decide) (by decide) (Nat.le_of_ble_eq_true rfl) hcs (fun z H locs hh hz => ?_)
            refine rv_run hC.1 hC.2.1 (T := rv_t_X12_grows) rv_k_X12_grows 2 ?_
            refine ⟨fun _ => ?_, fun _ => ?_⟩
            · refine rv_run hC.1 hC.2.1 (T := rv_t_X12_grows) rv_k_X12_grows 3 ?_
              refine ⟨fun h => absurd h n3, fun _ => ?_⟩
              refine rv_run hC.1 hC.2.1 (T := rv_t_X12_grows) rv_k_X12_grows 3 ?_
              refine ⟨fun h => absurd n4 h, fun _ => ?_⟩
              refine rv_run hC.1 hC.2.1 (T := rv_t_X12_grows) rv_k_X12_grows 3 ?_
              refine ⟨fun _ => r159 k f H locs hh (rk_TY_X (by omega) hT) hL0, fun _ => ?_⟩
              refine rv_run hC.1 hC.2.1 (T := rv_t_X12_grows) rv_k_X12_grows 3 ?_
              exact fall f _ 156 H locs hh (rk_TY_X (by omega) hT) hst (by omega) (by decide +kernel) (fun H locs f hh hT hL => r159 k f H locs hh hT hL)
            · refine rv_run hC.1 hC.2.1 (T := rv_t_X12_grows) rv_k_X12_grows 3 ?_
              refine bec _ f _ 131 H locs hh hT hst (by omega) (by decide) (by decide +kernel) (fun H locs f hh hT hL => ?_)
              refine rv_run hC.1 hC.2.1 (T := rv_t_X12_grows) rv_k_X12_grows 1 ?_
              exact r159 k f H locs hh (rk_TY_X (by omega) hT) hL
        · have n3 : y.toInt = 3 := h
          refine rv_run hC.1 hC.2.1 (T := rv_t_X12_grows) rv_k_X12_grows 80 ?_
          refine w_at hC hh hT hG (by omega) (by omega) 36 (by decide +kernel) rfl rfl hs hsn 8 (by decide) (by decide) (Nat.le_of_ble_eq_true rfl) hcs (fun z H locs hh hz => ?_)
          refine rv_run hC.1 hC.2.1 (T := rv_t_X12_grows) rv_k_X12_grows 2 ?_
          refine ⟨fun _ => ?_, fun _ => ?_⟩
          · refine rv_run hC.1 hC.2.1 (T := rv_t_X12_grows) rv_k_X12_grows 3 ?_
            refine ⟨fun _ => ?_, fun h => absurd h (by show ¬ y.toInt = 4; omega)⟩
            refine rv_run hC.1 hC.2.1 (T := rv_t_X12_grows) rv_k_X12_grows 3 ?_
            refine ⟨fun _ => ?_, fun h => absurd n3 h⟩
            refine rv_run hC.1 hC.2.1 (T := rv_t_X12_grows) rv_k_X12_grows 3 ?_
            refine ⟨fun _ => r159 k f H locs hh (rk_TY_X (by omega) hT) hL0, fun _ => ?_⟩
            refine rv_run hC.1 hC.2.1 (T := rv_t_X12_grows) rv_k_X12_grows 3 ?_
            exact fall f _ 156 H locs hh (rk_TY_X (by omega) hT) hst (by omega) (by decide +kernel) (fun H locs f hh hT hL => r159 k f H locs hh hT hL)
          · refine rv_run hC.1 hC.2.1 (T := rv_t_X12_grows) rv_k_X12_grows 3 ?_
            refine bec _ f _ 106 H locs hh hT hst (by omega) (by decide) (by decide +kernel) (fun H locs f hh hT hL => ?_)
            refine rv_run hC.1 hC.2.1 (T := rv_t_X12_grows) rv_k_X12_grows 1 ?_
            exact r159 k f H locs hh (rk_TY_X (by omega) hT) hL
      · have n2 : y.toInt = 2 := h
        refine rv_run hC.1 hC.2.1 (T := rv_t_X12_grows) rv_k_X12_grows 3 ?_
        refine ⟨fun _ => t87 k f H locs hh (rk_TY_X (by omega) hT) hL0 (by omega) (by omega), fun _ => ?_⟩
        refine rv_run hC.1 hC.2.1 (T := rv_t_X12_grows) rv_k_X12_grows 3 ?_
        exact bec _ f _ 84 H locs hh hT hst (by omega) (by decide) (by decide +kernel) (fun H locs f hh hT hL => t87 k f H locs hh hT hL (by omega) (by omega))
    · have n1 : y.toInt = 1 := h
      have t71 : ∀ (f : Nat → va_E) (H : Heap) (locs : List Loc), rm_h D A st L f H locs → rm_TY cI c1 c2 c3 c4 c5 ad G (X + 1) L f → rm_Lv G 3 f0 f → rv_G p l e { frames := rk_q_X12_grows.2.2.2.2.1, cells := 0, slots := 0, locals := rk_q_X12_grows.2.2.2.2.2 } st m ([.ref a0, .int s] : List Value).toArray below meth c (MQ below (rk_Q (fun v u => rm_TY cI c1 c2 c3 c4 c5 ad G (X + 3) L u ∧ rm_Lv G 3 f0 u ∧ (fun G _ f v u => v = none) G X f0 v u) (rk_B D (rk_tys cI c1 c2 c3 c4 c5) L A) A) ([.ref a0, .int s] : List Value).toArray st 0 0 A) rk_q_X12_grows.2.2.1 0 0 H locs 71 [] [(0, .ref a0), (1, .int s), (2, .int y), (3, .int k)] := by
        intro f H locs hh hT hL
        refine rv_run hC.1 hC.2.1 (T := rv_t_X12_grows) rv_k_X12_grows 3 ?_
        refine ⟨fun _ => t87 k f H locs hh hT hL (by omega) (by omega), fun h => absurd h (by show ¬ y.toInt = 2; omega)⟩
      refine rv_run hC.1 hC.2.1 (T := rv_t_X12_grows) rv_k_X12_grows 3 ?_
      refine ⟨fun _ => t71 f H locs hh (rk_TY_X (by omega) hT) hL0, fun _ => ?_⟩
      refine rv_run hC.1 hC.2.1 (T := rv_t_X12_grows) rv_k_X12_grows 3 ?_
      exact bec _ f _ 68 H locs hh hT hst (by omega) (by decide) (by decide +kernel) (fun H locs f hh hT hL => t71 f H locs hh hT hL)
  refine rv_run hC.1 hC.2.1 (T := rv_t_X12_grows) rv_k_X12_grows 4 ?_
  refine ⟨fun h => t42 f0 H locs hh hT hst, fun h => ?_⟩
  have h4 : 4 ≤ y.toInt := h
  refine rv_run hC.1 hC.2.1 (T := rv_t_X12_grows) rv_k_X12_grows 80 ?_
  refine w_at hC hh hT hG (by omega) (by omega) 36 (by decide +kernel) rfl rfl hs hsn 7 (by decide) (by decide) (Nat.le_of_ble_eq_true rfl) hcs (fun z H locs hh hz => ?_)
  refine rv_run hC.1 hC.2.1 (T := rv_t_X12_grows) rv_k_X12_grows 1 ?_
  refine ⟨fun h => t42 f0 H locs hh hT hst, fun h => ?_⟩
  refine rv_run hC.1 hC.2.1 (T := rv_t_X12_grows) rv_k_X12_grows 80 ?_
  refine w_more hC hh hT hG (by omega) 0 (by decide) (by omega) 1 46 (by decide +kernel) rfl rfl hs hsn 16 (by decide) (by decide) rfl (rm_hF rfl) (Nat.le_of_ble_eq_true rfl) hcs (fun f H locs hh hT hL hP => ?_)
  rw [Int.add_zero] at hT
  have hst := rm_st_1 hst hL hG hsn
  refine rv_run hC.1 hC.2.1 (T := rv_t_X12_grows) rv_k_X12_grows 80 ?_
  refine w_kv hC hh hT hG (by omega) (by omega) 56 (by decide +kernel) rfl (c_X12_logs base l cI c1 c2 c3 c4 c5 D ad adV) (rk_all_c (rk_aM hG) (rk_all_c rk_aF (rk_all_c rk_aF rk_all_0))) rfl rfl (Nat.le_of_ble_eq_true rfl) hcs (fun f H locs hh hT hL => ?_)
  have hst := rm_st_1 hst hL hG hsn
  refine rv_run hC.1 hC.2.1 (T := rv_t_X12_grows) rv_k_X12_grows 3 ?_
  refine fall f _ 38 H locs hh hT hst (by omega) (by decide +kernel) (fun H locs f hh hT hL => ?_)
  refine rm_vret hC hh (by decide +kernel) rfl ⟨hT, hL, rfl⟩
end RMX
