theorem rm_sp3 {G : Nat → Option Nat} {f u : Nat → va_E} {a0 : Nat} (hL : rm_Lv G 3 f u) (hG : G a0 = some 12) : rm_fi u a0 8 = rm_fi f a0 8 ∧ rm_fi f a0 7 ≤ rm_fi u a0 7 ∧ rm_fi f a0 9 ≤ rm_fi u a0 9 :=
  ⟨((rm_lvb hL (by decide) rfl : rm_Rb 9 G f u) a0 hG).1, ((rm_lvb hL (by decide) rfl : rm_Rb 9 G f u) a0 hG).2, (rm_lvb hL (by decide) rfl : rm_Rb 10 G f u) a0 hG⟩
def rv_t_X12_text : rv_T := (.branch 0 (.branch 0 (.branch 0 (.branch 0 (.branch 0 (.branch 0 (.branch 0 (.branch 0 (.leaf (0, .aload_n 0, 1)) (.leaf (128, .ifCond .ne (5), 3))) (.leaf (64, .if_icmp .eq (60), 3))) (.leaf (99999, .nop, 1))) (.leaf (112, .bipush (59), 2))) (.branch 0 (.branch 0 (.leaf (99999, .nop, 1)) (.branch 0 (.leaf (40, .getfield 7, 3)) (.leaf (104, .getfield 236, 3)))) (.branch 0 (.branch 0 (.leaf (24, .iconst 0, 1)) (.leaf (88, .invokevirtual 275, 3))) (.branch 0 (.leaf (56, .ifCond .ne (68), 3)) (.leaf (120, .istore_n 1, 1)))))) (.branch 0 (.branch 0 (.branch 0 (.branch 0 (.leaf (132, .ireturn, 1)) (.leaf (68, .ldc_w 296, 3))) (.leaf (99999, .nop, 1))) (.branch 0 (.branch 0 (.leaf (20, .putfield 227, 3)) (.leaf (84, .aload_n 0, 1))) (.leaf (52, .aload_n 0, 1)))) (.branch 0 (.branch 0 (.leaf (12, .getfield 227, 3)) (.leaf (44, .getfield 13, 3))) (.branch 0 (.leaf (28, .aload_n 0, 1)) (.branch 0 (.leaf (60, .invokevirtual 264, 3)) (.leaf (124, .aload_n 0, 1))))))) (.branch 0 (.branch 0 (.branch 0 (.branch 0 (.leaf (2, .putfield 29, 3)) (.branch 0 (.leaf (34, .iconst (-1), 1)) (.leaf (98, .goto (13), 3)))) (.branch 0 (.branch 0 (.branch 0 (.leaf (18, .aload_n 0, 1)) (.leaf (146, .ireturn, 1))) (.leaf (99999, .nop, 1))) (.branch 0 (.leaf (50, .iconst 0, 1)) (.leaf (114, .invokevirtual 282, 3))))) (.branch 0 (.branch 0 (.branch 0 (.branch 0 (.leaf (10, .aload_n 0, 1)) (.leaf (138, .aload_n 0, 1))) (.leaf (74, .ifCond .eq (10), 3))) (.leaf (99999, .nop, 1))) (.leaf (99999, .nop, 1)))) (.branch 0 (.branch 0 (.branch 0 (.branch 0 (.branch 0 (.leaf (6, .iconst 0, 1)) (.leaf (134, .aload_n 0, 1))) (.leaf (99999, .nop, 1))) (.branch 0 (.leaf (38, .aload_n 0, 1)) (.leaf (102, .iconst 1, 1)))) (.leaf (118, .iconst 1, 1))) (.branch 0 (.branch 0 (.branch 0 (.leaf (142, .invokevirtual 292, 3)) (.leaf (78, .invokevirtual 298, 3))) (.leaf (110, .pop, 1))) (.branch 0 (.branch 0 (.leaf (30, .putfield 249, 3)) (.leaf (94, .aload_n 0, 1))) (.leaf (99999, .nop, 1))))))) (.branch 0 (.branch 0 (.branch 0 (.branch 0 (.branch 0 (.leaf (1, .iconst 0, 1)) (.leaf (33, .aload_n 0, 1))) (.branch 0 (.branch 0 (.leaf (145, .iconst (-1), 1)) (.leaf (81, .goto (30), 3))) (.leaf (99999, .nop, 1)))) (.branch 0 (.leaf (99999, .nop, 1)) (.branch 0 (.leaf (25, .putfield 245, 3)) (.leaf (121, .goto (-69), 3))))) (.branch 0 (.branch 0 (.branch 0 (.branch 0 (.branch 0 (.leaf (5, .aload_n 0, 1)) (.leaf (133, .aload_n 0, 1))) (.leaf (99999, .nop, 1))) (.leaf (101, .aload_n 0, 1))) (.branch 0 (.leaf (85, .ldc_w 301, 3)) (.branch 0 (.leaf (53, .getfield 245, 3)) (.leaf (117, .iload_n 1, 1))))) (.branch 0 (.leaf (77, .aload_n 0, 1)) (.branch 0 (.leaf (29, .iconst 0, 1)) (.leaf (125, .getfield 245, 3)))))) (.branch 0 (.branch 0 (.branch 0 (.branch 0 (.branch 0 (.leaf (131, .iload_n 1, 1)) (.leaf (67, .aload_n 0, 1))) (.leaf (35, .putfield 19, 3))) (.branch 0 (.leaf (19, .iconst 0, 1)) (.leaf (51, .istore_n 1, 1)))) (.branch 0 (.branch 0 (.branch 0 (.branch 0 (.leaf (11, .aload_n 0, 1)) (.leaf (139, .getfield 7, 3))) (.leaf (99999, .nop, 1))) (.branch 0 (.leaf (43, .aload_n 0, 1)) (.leaf (107, .invokevirtual 270, 3)))) (.branch 0 (.leaf (91, .ifCond .eq (10), 3)) (.leaf (59, .aload_n 0, 1))))) (.branch 0 (.branch 0 (.branch 0 (.branch 0 (.branch 0 (.leaf (7, .putfield 236, 3)) (.leaf (135, .getfield 13, 3))) (.leaf (71, .invokevirtual 275, 3))) (.branch 0 (.leaf (39, .aload_n 0, 1)) (.leaf (103, .aload_n 0, 1)))) (.branch 0 (.leaf (23, .aload_n 0, 1)) (.leaf (119, .iadd, 1)))) (.branch 0 (.branch 0 (.leaf (15, .putfield 239, 3)) (.branch 0 (.leaf (47, .invokevirtual 292, 3)) (.leaf (111, .aload_n 0, 1)))) (.branch 0 (.leaf (95, .invokevirtual 303, 3)) (.leaf (63, .iconst (-1), 1))))))))
theorem rv_k_X12_text : rv_tok cX12_text rv_t_X12_text = true := by decide +kernel
section RMX
variable (base : Nat) (l : Launch) (cI c1 c2 c3 c4 c5 : ClassId) (D : va_G) (ad adV : Nat → Nat)
theorem h_text (a0 : Nat) : rm_Hm base l cI c1 c2 c3 c4 c5 D ad adV rk_q_X12_text [.ref a0] (fun G _ f => G a0 = some 12 ∧ rm_one G ∧ rm_INV G f a0) (fun G _ f v u => ∃ x : Int32, v = some (.int x) ∧ -1 ≤ x.toInt ∧ x.toInt ≤ 400) 2000 1911 := by
  unfold rm_Hm
  refine rm_start (M := rk_q_X12_text) (rk_hNw base ad adV) (rk_hNc base ad adV) (by decide +kernel) (mt := rk_mt [rk_q_X12_behindBlanks, rk_q_X12_copies, rk_q_X12_errs, rk_q_X12_readCable, rk_q_X12_readTable, rk_q_X12_sign, rk_q_X12_takesWord]) (ml := rk_mlf [(264, 0, 1, 12), (292, 1, 3, 12), (270, 2, 3, 12), (298, 3, 1, 12), (303, 4, 1, 12), (282, 5, 2, 12), (275, 6, 2, 12)]) (fl := rk_flf rk_ftX12) (fun s args h hN => rk_MlOk_of (List.forall_mem_cons.mpr ⟨rk_mck_ok (fun w hw => List.mem_cons_of_mem _ hw) h hN rk_cm_X12_behindBlanks rk_lk_X12_264, List.forall_mem_cons.mpr ⟨rk_mck_ok (fun w hw => List.mem_cons_of_mem _ hw) h hN rk_cm_X12_copies rk_lk_X12_292, List.forall_mem_cons.mpr ⟨rk_mck_ok (fun w hw => List.mem_cons_of_mem _ hw) h hN rk_cm_X12_errs rk_lk_X12_270, List.forall_mem_cons.mpr ⟨rk_mck_ok (fun w hw => List.mem_cons_of_mem _ hw) h hN rk_cm_X12_readCable rk_lk_X12_298, List.forall_mem_cons.mpr ⟨rk_mck_ok (fun w hw => List.mem_cons_of_mem _ hw) h hN rk_cm_X12_readTable rk_lk_X12_303, List.forall_mem_cons.mpr ⟨rk_mck_ok (fun w hw => List.mem_cons_of_mem _ hw) h hN rk_cm_X12_sign rk_lk_X12_282, List.forall_mem_cons.mpr ⟨rk_mck_ok (fun w hw => List.mem_cons_of_mem _ hw) h hN rk_cm_X12_takesWord rk_lk_X12_275, fun _ h => absurd h List.not_mem_nil⟩⟩⟩⟩⟩⟩⟩) (by decide +kernel)) (fun s args h hN => rk_flX12 (fun w hw => List.mem_cons_of_mem _ hw) h hN) (rm_cat1 rfl) (Nat.le_of_ble_eq_true rfl) ?_
  intro p e st m below meth c G X L f0 A hC hh hX0 hXC hT hpre
  have hcs : 0 ≤ 0 ∧ 0 ≤ 0 := ⟨Nat.le_refl 0, Nat.le_refl 0⟩
  obtain ⟨hG, h1, hI⟩ := hpre
  have hXt : X + 2000 ≤ 2000000000 := hXC
  have w1 : ∀ (Y : Int) (f u : Nat → va_E), rm_TY cI c1 c2 c3 c4 c5 ad G Y L u → rm_Lv G 3 f u → rm_fi f a0 9 = 1 → rm_fi u a0 9 = 1 := by
    intro Y f u hT hL h9
    have b9 := rm_fiT hT hG (i := 9) rfl
    have s9 := rm_sp3 hL hG
    omega
  have t124 : ∀ (n : Int32) (nn : Nat) (f : Nat → va_E) (H : Heap) (locs : List Loc), rm_h D A st L f H locs → rm_TY cI c1 c2 c3 c4 c5 ad G (X + 4 * (nn : Int)) L f → rm_Lv G 1911 f0 f → rm_INV G f a0 → n.toInt = (nn : Int) → ((rm_fi f a0 9 = 1 ∧ nn ≤ 401) ∨ (nn : Int) ≤ rm_fi f a0 7) → rv_G p l e { frames := rk_q_X12_text.2.2.2.2.1, cells := 0, slots := 0, locals := rk_q_X12_text.2.2.2.2.2 } st m ([.ref a0] : List Value).toArray below meth c (MQ below (rk_Q (fun v u => rm_TY cI c1 c2 c3 c4 c5 ad G (X + 2000) L u ∧ rm_Lv G 1911 f0 u ∧ (fun G _ f v u => ∃ x : Int32, v = some (.int x) ∧ -1 ≤ x.toInt ∧ x.toInt ≤ 400) G X f0 v u) (rk_B D (rk_tys cI c1 c2 c3 c4 c5) L A) A) ([.ref a0] : List Value).toArray st 0 0 A) rk_q_X12_text.2.2.1 0 0 H locs 124 [] [(0, .ref a0), (1, .int n)] := by
    intro n nn f H locs hh hT hLt hI hn hj
    have b7 := rm_fiT hT hG (i := 7) rfl
    refine rv_run hC.1 hC.2.1 (T := rv_t_X12_text) rv_k_X12_text 80 ?_
    refine w_gf hC hh hT hG (by omega) 245 (by decide +kernel) rfl rfl (fun x hx hx2 => ?_)
    refine rv_run hC.1 hC.2.1 (T := rv_t_X12_text) rv_k_X12_text 1 ?_
    refine ⟨fun _ => ?_, fun h => ?_⟩
    · refine rv_run hC.1 hC.2.1 (T := rv_t_X12_text) rv_k_X12_text 80 ?_
      obtain ⟨hL0, fs, aN, aA, aT, aH, aI, e1, e2, ⟨n1, n2⟩, ⟨m1, m2⟩, -⟩ := rm_me hT hG
      refine rm_get (idx := 13) hC hh (by decide +kernel) rfl hL0 e1 m1 ?_
      refine rv_run hC.1 hC.2.1 (T := rv_t_X12_text) rv_k_X12_text 80 ?_
      refine rm_get (idx := 7) hC hh (by decide +kernel) rfl hL0 e1 n1 ?_
      refine w_h hC hh hT hG (by omega) (by omega) 292 (by decide +kernel) rfl (h_copies_1 base l cI c1 c2 c3 c4 c5 D ad adV a0 aA aN) ⟨hG, m2, n2⟩ rfl rfl (Nat.le_of_ble_eq_true rfl) hcs (fun v f H locs hh hT hL hP => ?_)
      rw [Int.add_zero] at hT
      have hP : v = none := hP
      subst hP
      have hLt := rm_lv_tr (k := 1911) hLt hL rfl rfl
      refine rv_run hC.1 hC.2.1 (T := rv_t_X12_text) rv_k_X12_text 1 ?_
      refine rm_iret hC hh (by decide +kernel) rfl ⟨rk_TY_X (by omega) hT, hLt, ⟨_, rfl, by decide, by decide⟩⟩
    · have h : x.toInt = 0 := h
      refine rv_run hC.1 hC.2.1 (T := rv_t_X12_text) rv_k_X12_text 1 ?_
      refine rm_iret hC hh (by decide +kernel) rfl ⟨rk_TY_X (by omega) hT, hLt, ⟨n, rfl, by omega, by omega⟩⟩
  have tW : ∀ (n : Int32) (nn : Nat) (f : Nat → va_E) (H : Heap) (locs : List Loc), rm_h D A st L f H locs → rm_TY cI c1 c2 c3 c4 c5 ad G (X + 4 * (nn : Int)) L f → rm_Lv G 1911 f0 f → rm_INV G f a0 → n.toInt = (nn : Int) → rm_fi f a0 9 = 1 → nn ≤ 401 → rv_G p l e { frames := rk_q_X12_text.2.2.2.2.1, cells := 0, slots := 0, locals := rk_q_X12_text.2.2.2.2.2 } st m ([.ref a0] : List Value).toArray below meth c (MQ below (rk_Q (fun v u => rm_TY cI c1 c2 c3 c4 c5 ad G (X + 2000) L u ∧ rm_Lv G 1911 f0 u ∧ (fun G _ f v u => ∃ x : Int32, v = some (.int x) ∧ -1 ≤ x.toInt ∧ x.toInt ≤ 400) G X f0 v u) (rk_B D (rk_tys cI c1 c2 c3 c4 c5) L A) A) ([.ref a0] : List Value).toArray st 0 0 A) rk_q_X12_text.2.2.1 0 0 H locs 52 [] [(0, .ref a0), (1, .int n)] := by
    intro n nn f H locs hh hT hLt hI hn h9 h4
    refine rv_run hC.1 hC.2.1 (T := rv_t_X12_text) rv_k_X12_text 80 ?_
    refine w_gf hC hh hT hG (by omega) 245 (by decide +kernel) rfl rfl (fun x hx hx2 => ?_)
    refine rv_run hC.1 hC.2.1 (T := rv_t_X12_text) rv_k_X12_text 1 ?_
    refine ⟨fun _ => t124 n nn f H locs hh hT hLt hI hn (Or.inl ⟨h9, h4⟩), fun h => ?_⟩
    have h : x.toInt = 0 := h
    omega
  have step : ∀ d : Int, (0 < d → ∀ (n : Int32) (nn : Nat) (f : Nat → va_E) (H : Heap) (locs : List Loc), rm_h D A st L f H locs → rm_TY cI c1 c2 c3 c4 c5 ad G (X + 4 * (nn : Int)) L f → rm_Lv G 1911 f0 f → rm_INV G f a0 → n.toInt = (nn : Int) → (nn : Int) ≤ rm_fi f a0 7 → rm_fi f a0 8 - rm_fi f a0 7 < d → rv_G p l e { frames := rk_q_X12_text.2.2.2.2.1, cells := 0, slots := 0, locals := rk_q_X12_text.2.2.2.2.2 } st m ([.ref a0] : List Value).toArray below meth c (MQ below (rk_Q (fun v u => rm_TY cI c1 c2 c3 c4 c5 ad G (X + 2000) L u ∧ rm_Lv G 1911 f0 u ∧ (fun G _ f v u => ∃ x : Int32, v = some (.int x) ∧ -1 ≤ x.toInt ∧ x.toInt ≤ 400) G X f0 v u) (rk_B D (rk_tys cI c1 c2 c3 c4 c5) L A) A) ([.ref a0] : List Value).toArray st 0 0 A) rk_q_X12_text.2.2.1 0 0 H locs 52 [] [(0, .ref a0), (1, .int n)]) → ∀ (n : Int32) (nn : Nat) (f : Nat → va_E) (H : Heap) (locs : List Loc), rm_h D A st L f H locs → rm_TY cI c1 c2 c3 c4 c5 ad G (X + 4 * (nn : Int)) L f → rm_Lv G 1911 f0 f → rm_INV G f a0 → n.toInt = (nn : Int) → (nn : Int) ≤ rm_fi f a0 7 → rm_fi f a0 8 - rm_fi f a0 7 ≤ d → rv_G p l e { frames := rk_q_X12_text.2.2.2.2.1, cells := 0, slots := 0, locals := rk_q_X12_text.2.2.2.2.2 } st m ([.ref a0] : List Value).toArray below meth c (MQ below (rk_Q (fun v u => rm_TY cI c1 c2 c3 c4 c5 ad G (X + 2000) L u ∧ rm_Lv G 1911 f0 u ∧ (fun G _ f v u => ∃ x : Int32, v = some (.int x) ∧ -1 ≤ x.toInt ∧ x.toInt ≤ 400) G X f0 v u) (rk_B D (rk_tys cI c1 c2 c3 c4 c5) L A) A) ([.ref a0] : List Value).toArray st 0 0 A) rk_q_X12_text.2.2.1 0 0 H locs 52 [] [(0, .ref a0), (1, .int n)] := by
    intro d kk n nn f H locs hh hT hLt hI hn hj hm
    have b7 := rm_fiT hT hG (i := 7) rfl
    have t111 : ∀ (f : Nat → va_E) (H : Heap) (locs : List Loc), rm_h D A st L f H locs → rm_TY cI c1 c2 c3 c4 c5 ad G (X + 4 * (nn : Int) + 4) L f → rm_Lv G 1911 f0 f → rm_INV G f a0 → (rm_fi f a0 9 = 1 ∨ (0 < d ∧ (nn : Int) + 1 ≤ rm_fi f a0 7 ∧ rm_fi f a0 8 - rm_fi f a0 7 < d)) → rv_G p l e { frames := rk_q_X12_text.2.2.2.2.1, cells := 0, slots := 0, locals := rk_q_X12_text.2.2.2.2.2 } st m ([.ref a0] : List Value).toArray below meth c (MQ below (rk_Q (fun v u => rm_TY cI c1 c2 c3 c4 c5 ad G (X + 2000) L u ∧ rm_Lv G 1911 f0 u ∧ (fun G _ f v u => ∃ x : Int32, v = some (.int x) ∧ -1 ≤ x.toInt ∧ x.toInt ≤ 400) G X f0 v u) (rk_B D (rk_tys cI c1 c2 c3 c4 c5) L A) A) ([.ref a0] : List Value).toArray st 0 0 A) rk_q_X12_text.2.2.1 0 0 H locs 111 [] [(0, .ref a0), (1, .int n)] := by
      intro f H locs hh hT hLt hI hj
      have en := rm_ad (x := n) hn rm_e1 (by omega) (by decide)
      refine rv_run hC.1 hC.2.1 (T := rv_t_X12_text) rv_k_X12_text 80 ?_
      refine w_h hC hh hT hG (by omega) (by omega) 282 (by decide +kernel) rfl (h_sign base l cI c1 c2 c3 c4 c5 D ad adV a0 _ (by decide)) hG rfl rfl (Nat.le_of_ble_eq_true rfl) hcs (fun v u H locs hh hT hL hP => ?_)
      rw [Int.add_zero] at hT
      have hP : v = none := hP
      subst hP
      have s1 := rm_sp hL hG
      have hLt := rm_lv_tr (k := 1911) hLt hL rfl rfl
      have hI := rm_I1 hL hG hI
      have hT : rm_TY cI c1 c2 c3 c4 c5 ad G (X + 4 * ((nn + 1 : Nat) : Int)) L u := rk_TY_X (by omega) hT
      have b9 := rm_fiT hT hG (i := 9) rfl
      refine rv_run hC.1 hC.2.1 (T := rv_t_X12_text) rv_k_X12_text 5 ?_
      by_cases h9 : rm_fi u a0 9 = 1
      · exact tW _ (nn + 1) u H locs hh hT hLt hI (by rw [en]; omega) h9 (by omega)
      · obtain ⟨g1, g2, g3⟩ := hj.resolve_left (by omega)
        exact kk g1 _ (nn + 1) u H locs hh hT hLt hI (by rw [en]; omega) (by omega) (by omega)
    refine rv_run hC.1 hC.2.1 (T := rv_t_X12_text) rv_k_X12_text 80 ?_
    refine w_gf hC hh hT hG (by omega) 245 (by decide +kernel) rfl rfl (fun x hx hx2 => ?_)
    refine rv_run hC.1 hC.2.1 (T := rv_t_X12_text) rv_k_X12_text 1 ?_
    refine ⟨fun _ => t124 n nn f H locs hh hT hLt hI hn (Or.inr hj), fun _ => ?_⟩
    refine rv_run hC.1 hC.2.1 (T := rv_t_X12_text) rv_k_X12_text 80 ?_
    refine w_h hC hh hT hG (by omega) (by omega) 264 (by decide +kernel) rfl (h_behindBlanks base l cI c1 c2 c3 c4 c5 D ad adV a0) hG rfl rfl (Nat.le_of_ble_eq_true rfl) hcs (fun v f1 H locs hh hT hL hP => ?_)
    rw [Int.add_zero] at hT
    obtain ⟨y, rfl, hy1, hy2, hy3, -⟩ := hP
    have s1 := rm_sp hL hG
    have hLt := rm_lv_tr (k := 1911) hLt hL rfl rfl
    have hI := rm_I1 hL hG hI
    refine rv_run hC.1 hC.2.1 (T := rv_t_X12_text) rv_k_X12_text 2 ?_
    refine ⟨fun _ => t124 n nn f1 H locs hh hT hLt hI hn (Or.inr (by omega)), fun h => ?_⟩
    have h : ¬ y.toInt = -1 := h
    have hlt := hy3.resolve_right h
    refine rv_run hC.1 hC.2.1 (T := rv_t_X12_text) rv_k_X12_text 80 ?_
    refine rj_ldcw (idx := 296) (i := 0) (tx := "cable") hC (by decide +kernel) (by decide) ?_
    refine w_h hC hh hT hG (by omega) (by omega) 275 (by decide +kernel) rfl (h_takesWord base l cI c1 c2 c3 c4 c5 D ad adV a0 0 (by decide)) hG rfl rfl (Nat.le_of_ble_eq_true rfl) hcs (fun v f2 H locs hh hT hL hP => ?_)
    rw [Int.add_zero] at hT
    obtain ⟨w, rfl, hw⟩ := hP
    have s2 := rm_sp hL hG
    have hLt := rm_lv_tr (k := 1911) hLt hL rfl rfl
    have hI := rm_I1 hL hG hI
    refine rv_run hC.1 hC.2.1 (T := rv_t_X12_text) rv_k_X12_text 1 ?_
    refine ⟨fun _ => ?_, fun h => ?_⟩
    · refine rv_run hC.1 hC.2.1 (T := rv_t_X12_text) rv_k_X12_text 80 ?_
      refine rj_ldcw (idx := 301) (i := 1) (tx := "table") hC (by decide +kernel) (by decide) ?_
      refine w_h hC hh hT hG (by omega) (by omega) 275 (by decide +kernel) rfl (h_takesWord base l cI c1 c2 c3 c4 c5 D ad adV a0 1 (by decide)) hG rfl rfl (Nat.le_of_ble_eq_true rfl) hcs (fun v f3 H locs hh hT hL hP => ?_)
      rw [Int.add_zero] at hT
      obtain ⟨w, rfl, hw⟩ := hP
      have s3 := rm_sp hL hG
      have hLt := rm_lv_tr (k := 1911) hLt hL rfl rfl
      have hI := rm_I1 hL hG hI
      refine rv_run hC.1 hC.2.1 (T := rv_t_X12_text) rv_k_X12_text 1 ?_
      refine ⟨fun _ => ?_, fun h => ?_⟩
      · refine rv_run hC.1 hC.2.1 (T := rv_t_X12_text) rv_k_X12_text 80 ?_
        refine w_gf hC hh hT hG (by omega) 236 (by decide +kernel) rfl rfl (fun z hz hz2 => ?_)
        refine w_h hC hh hT hG (by omega) (by omega) 270 (by decide +kernel) rfl (h_errs base l cI c1 c2 c3 c4 c5 D ad adV a0 _ _) hG rfl rfl (Nat.le_of_ble_eq_true rfl) hcs (fun v f H locs hh hT hL hP => ?_)
        rw [Int.add_zero] at hT
        obtain ⟨⟨x9, rfl, -⟩, h9, -⟩ := hP
        have hLt := rm_lv_tr (k := 1911) hLt hL rfl rfl
        have hI := rm_I1 hL hG hI
        refine rv_run hC.1 hC.2.1 (T := rv_t_X12_text) rv_k_X12_text 1 ?_
        exact t111 f H locs hh (rk_TY_X (by omega) hT) hLt hI (Or.inl h9)
      · have h : ¬ w.toInt = 0 := h
        have hw := hw.resolve_left h
        refine rv_run hC.1 hC.2.1 (T := rv_t_X12_text) rv_k_X12_text 80 ?_
        refine w_h hC hh hT hG (by omega) (by omega) 303 (by decide +kernel) rfl (h_readTable base l cI c1 c2 c3 c4 c5 D ad adV a0) hG rfl rfl (Nat.le_of_ble_eq_true rfl) hcs (fun v f4 H locs hh hT hL hP => ?_)
        rw [Int.add_zero] at hT
        have hP : v = none := hP
        subst hP
        have s4 := rm_sp hL hG
        have hLt := rm_lv_tr (k := 1911) hLt hL rfl rfl
        have hI := rm_I1 hL hG hI
        refine rv_run hC.1 hC.2.1 (T := rv_t_X12_text) rv_k_X12_text 1 ?_
        exact t111 f4 H locs hh (rk_TY_X (by omega) hT) hLt hI (Or.inr ⟨by omega, by omega, by omega⟩)
    · have h : ¬ w.toInt = 0 := h
      have hw := hw.resolve_left h
      refine rv_run hC.1 hC.2.1 (T := rv_t_X12_text) rv_k_X12_text 80 ?_
      refine w_kI hC hh hT hG (by omega) (by omega) 298 (by decide +kernel) rfl (c_X12_readCable base l cI c1 c2 c3 c4 c5 D ad adV) (rk_all_c (rk_aM hG) rk_all_0) (rm_PI_of h1 hG hI) rfl rfl (Nat.le_of_ble_eq_true rfl) hcs (fun v f4 H locs hh hT hL hA => ?_)
      cases rk_alt_vn hA
      have s4 := rm_sp3 hL hG
      have hLt := rm_lv_tr (k := 1911) hLt hL rfl rfl
      have hI := rm_I3 hL h1 hG hI
      refine rv_run hC.1 hC.2.1 (T := rv_t_X12_text) rv_k_X12_text 1 ?_
      exact t111 f4 H locs hh hT hLt hI (Or.inr ⟨by omega, by omega, by omega⟩)
  have loop : ∀ (d : Nat) (n : Int32) (nn : Nat) (f : Nat → va_E) (H : Heap) (locs : List Loc), rm_h D A st L f H locs → rm_TY cI c1 c2 c3 c4 c5 ad G (X + 4 * (nn : Int)) L f → rm_Lv G 1911 f0 f → rm_INV G f a0 → n.toInt = (nn : Int) → (nn : Int) ≤ rm_fi f a0 7 → rm_fi f a0 8 - rm_fi f a0 7 ≤ (d : Int) → rv_G p l e { frames := rk_q_X12_text.2.2.2.2.1, cells := 0, slots := 0, locals := rk_q_X12_text.2.2.2.2.2 } st m ([.ref a0] : List Value).toArray below meth c (MQ below (rk_Q (fun v u => rm_TY cI c1 c2 c3 c4 c5 ad G (X + 2000) L u ∧ rm_Lv G 1911 f0 u ∧ (fun G _ f v u => ∃ x : Int32, v = some (.int x) ∧ -1 ≤ x.toInt ∧ x.toInt ≤ 400) G X f0 v u) (rk_B D (rk_tys cI c1 c2 c3 c4 c5) L A) A) ([.ref a0] : List Value).toArray st 0 0 A) rk_q_X12_text.2.2.1 0 0 H locs 52 [] [(0, .ref a0), (1, .int n)] := by
    intro d
    induction d with
    | zero =>
      intro n nn f H locs hh hT hLt hI hn hj hm
      exact step 0 (fun h => absurd h (by decide)) n nn f H locs hh hT hLt hI hn hj hm
    | succ d ih =>
      intro n nn f H locs hh hT hLt hI hn hj hm
      exact step ((d : Int) + 1) (fun _ n nn f H locs hh hT hLt hI hn hj hm => ih n nn f H locs hh hT hLt hI hn hj (by omega)) n nn f H locs hh hT hLt hI hn hj (by omega)
  refine rv_run hC.1 hC.2.1 (T := rv_t_X12_text) rv_k_X12_text 80 ?_
  refine w_pf hC hh hT hG (by omega) 1 29 (by decide +kernel) rfl rfl (Or.inl ⟨rfl, _, rfl⟩) ⟨_, rfl, by decide, by decide⟩ rfl (by decide) (fun f H locs hh hT hL hP => ?_)
  have hLt := rm_lv_up (m := 1911) hL rfl
  have hI := rm_INV_eq (rm_lvb hL (by decide) rfl : rm_Rb 1 G _ _) (rm_lvb hL (by decide) rfl : rm_Rb 8 G _ _) hG hI
  refine rv_run hC.1 hC.2.1 (T := rv_t_X12_text) rv_k_X12_text 80 ?_
  refine w_pf hC hh hT hG (by omega) 513 236 (by decide +kernel) rfl rfl (Or.inl ⟨rfl, _, rfl⟩) ⟨_, rfl, by decide, by decide⟩ rfl (by decide) (fun f H locs hh hT hL hP => ?_)
  have hLt := rm_lv_tr (k := 1911) hLt hL rfl rfl
  have hI := rm_INV_eq (rm_lvb hL (by decide) rfl : rm_Rb 1 G _ _) (rm_lvb hL (by decide) rfl : rm_Rb 8 G _ _) hG hI
  refine rv_run hC.1 hC.2.1 (T := rv_t_X12_text) rv_k_X12_text 80 ?_
  refine w_gf hC hh hT hG (by omega) 227 (by decide +kernel) rfl rfl (fun x hx hx2 => ?_)
  refine w_pf hC hh hT hG (by omega) 513 239 (by decide +kernel) rfl rfl (Or.inl ⟨rfl, _, rfl⟩) ⟨_, rfl, hx2.1, hx2.2⟩ rfl (by decide) (fun f H locs hh hT hL hP => ?_)
  have hLt := rm_lv_tr (k := 1911) hLt hL rfl rfl
  have hI := rm_INV_eq (rm_lvb hL (by decide) rfl : rm_Rb 1 G _ _) (rm_lvb hL (by decide) rfl : rm_Rb 8 G _ _) hG hI
  refine rv_run hC.1 hC.2.1 (T := rv_t_X12_text) rv_k_X12_text 80 ?_
  refine w_pf hC hh hT hG (by omega) 17 227 (by decide +kernel) rfl rfl (Or.inl ⟨rfl, _, rfl⟩) ⟨_, rfl, by decide, by decide⟩ rfl (by decide) (fun f H locs hh hT hL hP => ?_)
  have hLt := rm_lv_tr (k := 1911) hLt hL rfl rfl
  have hI := rm_INV_eq (rm_lvb hL (by decide) rfl : rm_Rb 1 G _ _) (rm_lvb hL (by decide) rfl : rm_Rb 8 G _ _) hG hI
  refine rv_run hC.1 hC.2.1 (T := rv_t_X12_text) rv_k_X12_text 80 ?_
  refine w_pf hC hh hT hG (by omega) 1025 245 (by decide +kernel) rfl rfl (Or.inr ⟨rfl, Or.inl rfl⟩) ⟨_, rfl, by decide, by decide⟩ rfl (by decide) (fun f H locs hh hT hL hP => ?_)
  have hLt := rm_lv_tr (k := 1911) hLt hL rfl rfl
  have hI := rm_INV_eq (rm_lvb hL (by decide) rfl : rm_Rb 1 G _ _) (rm_lvb hL (by decide) rfl : rm_Rb 8 G _ _) hG hI
  refine rv_run hC.1 hC.2.1 (T := rv_t_X12_text) rv_k_X12_text 80 ?_
  refine w_pf hC hh hT hG (by omega) 1 249 (by decide +kernel) rfl rfl (Or.inl ⟨rfl, _, rfl⟩) (rk_full_ok _) rfl (by decide) (fun f H locs hh hT hL hP => ?_)
  have hLt := rm_lv_tr (k := 1911) hLt hL rfl rfl
  have hI := rm_INV_eq (rm_lvb hL (by decide) rfl : rm_Rb 1 G _ _) (rm_lvb hL (by decide) rfl : rm_Rb 8 G _ _) hG hI
  refine rv_run hC.1 hC.2.1 (T := rv_t_X12_text) rv_k_X12_text 80 ?_
  refine w_pf hC hh hT hG (by omega) 1 19 (by decide +kernel) rfl rfl (Or.inl ⟨rfl, _, rfl⟩) (rk_full_ok _) rfl (by decide) (fun f H locs hh hT hL hP => ?_)
  have hLt := rm_lv_tr (k := 1911) hLt hL rfl rfl
  have hI := rm_INV_eq (rm_lvb hL (by decide) rfl : rm_Rb 1 G _ _) (rm_lvb hL (by decide) rfl : rm_Rb 8 G _ _) hG hI
  refine rv_run hC.1 hC.2.1 (T := rv_t_X12_text) rv_k_X12_text 80 ?_
  obtain ⟨hL0, fs, aN, aA, aT, aH, aI, e1, e2, ⟨n1, n2⟩, ⟨m1, m2⟩, -⟩ := rm_me hT hG
  refine rm_get (idx := 7) hC hh (by decide +kernel) rfl hL0 e1 n1 ?_
  refine rv_run hC.1 hC.2.1 (T := rv_t_X12_text) rv_k_X12_text 80 ?_
  refine rm_get (idx := 13) hC hh (by decide +kernel) rfl hL0 e1 m1 ?_
  refine w_h hC hh hT hG (by omega) (by omega) 292 (by decide +kernel) rfl (h_copies_0 base l cI c1 c2 c3 c4 c5 D ad adV a0 aN aA) ⟨hG, n2, m2⟩ rfl rfl (Nat.le_of_ble_eq_true rfl) hcs (fun v f H locs hh hT hL hP => ?_)
  rw [Int.add_zero] at hT
  have hP : v = none := hP
  subst hP
  have hLt := rm_lv_tr (k := 1911) hLt hL rfl rfl
  have hI := (rm_lvb hL (by decide) rfl : rm_Rb 3 G _ f) h1 a0 hG hI
  have b7 := rm_fiT hT hG (i := 7) rfl
  have b8 := rm_fiT hT hG (i := 8) rfl
  refine rv_run hC.1 hC.2.1 (T := rv_t_X12_text) rv_k_X12_text 2 ?_
  exact loop 400 _ 0 f H locs hh (rk_TY_X (by omega) hT) hLt hI rfl (by omega) (by omega)
end RMX
