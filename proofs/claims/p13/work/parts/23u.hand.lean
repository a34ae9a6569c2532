def rv_t_X12_isDigit : rv_T := (.branch 0 (.branch 0 (.branch 0 (.branch 0 (.branch 0 (.leaf (0, .iload_n 1, 1)) (.leaf (16, .iconst 0, 1))) (.leaf (99999, .nop, 1))) (.leaf (12, .iconst 1, 1))) (.leaf (6, .iload_n 1, 1))) (.branch 0 (.branch 0 (.branch 0 (.branch 0 (.leaf (1, .bipush (48), 2)) (.leaf (17, .ireturn, 1))) (.leaf (9, .if_icmp .gt (7), 3))) (.leaf (13, .goto (4), 3))) (.branch 0 (.leaf (3, .if_icmp .lt (13), 3)) (.leaf (7, .bipush (57), 2)))))
theorem rv_k_X12_isDigit : rv_tok cX12_isDigit rv_t_X12_isDigit = true := by decide +kernel
def rv_t_X12_number : rv_T := (.branch 0 (.branch 0 (.branch 0 (.branch 0 (.branch 0 (.branch 0 (.branch 0 (.leaf (0, .aload_n 0, 1)) (.leaf (64, .iload 4, 2))) (.leaf (99999, .nop, 1))) (.leaf (112, .ireturn, 1))) (.branch 0 (.branch 0 (.branch 0 (.leaf (8, .ireturn, 1)) (.leaf (72, .bipush (48), 2))) (.leaf (40, .invokevirtual 242, 3))) (.leaf (99999, .nop, 1)))) (.branch 0 (.branch 0 (.branch 0 (.branch 0 (.leaf (4, .ifCond .eq (5), 3)) (.leaf (68, .invokevirtual 242, 3))) (.leaf (36, .istore 4, 2))) (.branch 0 (.branch 0 (.leaf (20, .aload_n 0, 1)) (.leaf (84, .putfield 236, 3))) (.leaf (99999, .nop, 1)))) (.leaf (108, .iload_n 3, 1)))) (.branch 0 (.branch 0 (.branch 0 (.branch 0 (.leaf (66, .imul, 1)) (.branch 0 (.leaf (34, .istore_n 3, 1)) (.leaf (98, .ifCond .eq (8), 3)))) (.leaf (82, .iconst 1, 1))) (.branch 0 (.branch 0 (.branch 0 (.leaf (10, .aload_n 0, 1)) (.leaf (74, .isub, 1))) (.leaf (106, .aload_n 0, 1))) (.branch 0 (.branch 0 (.leaf (26, .invokevirtual 270, 3)) (.leaf (90, .aload_n 0, 1))) (.leaf (99999, .nop, 1))))) (.branch 0 (.branch 0 (.leaf (38, .aload_n 0, 1)) (.branch 0 (.leaf (22, .aload_n 0, 1)) (.leaf (54, .if_icmp .le (8), 3)))) (.branch 0 (.branch 0 (.branch 0 (.leaf (14, .invokevirtual 267, 3)) (.leaf (78, .aload_n 0, 1))) (.leaf (46, .ifCond .eq (44), 3))) (.branch 0 (.branch 0 (.leaf (30, .aload_n 0, 1)) (.leaf (94, .iload_n 2, 1))) (.leaf (62, .bipush (10), 2))))))) (.branch 0 (.branch 0 (.branch 0 (.branch 0 (.leaf (1, .getfield 245, 3)) (.branch 0 (.leaf (17, .ifCond .ne (13), 3)) (.leaf (49, .iload 4, 2)))) (.branch 0 (.leaf (9, .aload_n 0, 1)) (.leaf (57, .iload 4, 2)))) (.branch 0 (.branch 0 (.leaf (101, .iload 4, 2)) (.leaf (21, .iconst 1, 1))) (.branch 0 (.branch 0 (.leaf (77, .aload_n 0, 1)) (.leaf (109, .invokevirtual 270, 3))) (.branch 0 (.branch 0 (.leaf (29, .ireturn, 1)) (.leaf (93, .iload_n 1, 1))) (.leaf (99999, .nop, 1)))))) (.branch 0 (.branch 0 (.branch 0 (.branch 0 (.leaf (67, .aload_n 0, 1)) (.leaf (35, .iconst 0, 1))) (.branch 0 (.leaf (83, .iadd, 1)) (.leaf (51, .sipush (9999), 3)))) (.branch 0 (.branch 0 (.branch 0 (.leaf (11, .invokevirtual 264, 3)) (.leaf (75, .istore 4, 2))) (.branch 0 (.leaf (43, .invokevirtual 267, 3)) (.leaf (107, .iconst 2, 1)))) (.branch 0 (.leaf (91, .iload 4, 2)) (.leaf (59, .goto (16), 3))))) (.branch 0 (.branch 0 (.branch 0 (.branch 0 (.leaf (7, .iconst 0, 1)) (.leaf (71, .iadd, 1))) (.branch 0 (.leaf (39, .aload_n 0, 1)) (.leaf (103, .goto (9), 3)))) (.branch 0 (.branch 0 (.leaf (23, .getfield 236, 3)) (.leaf (87, .goto (-49), 3))) (.leaf (99999, .nop, 1)))) (.branch 0 (.leaf (79, .getfield 236, 3)) (.branch 0 (.branch 0 (.leaf (31, .getfield 236, 3)) (.leaf (95, .invokevirtual 104, 3))) (.leaf (99999, .nop, 1))))))))
theorem rv_k_X12_number : rv_tok cX12_number rv_t_X12_number = true := by decide +kernel
section RMX
variable (base : Nat) (l : Launch) (cI c1 c2 c3 c4 c5 : ClassId) (D : va_G) (ad adV : Nat → Nat)
theorem h_isDigit (a0 : Nat) (x : Int32) : rm_Hm base l cI c1 c2 c3 c4 c5 D ad adV rk_q_X12_isDigit [.ref a0, .int x] (fun G _ f => G a0 = some 12) (fun G _ f v u => (∃ y : Int32, v = some (.int y) ∧ ((y.toInt = 1 ∧ 48 ≤ x.toInt ∧ x.toInt ≤ 57) ∨ (y.toInt = 0 ∧ (x.toInt < 48 ∨ 57 < x.toInt)))) ∧ u = f) 0 0 := by
  unfold rm_Hm
  refine rm_start (M := rk_q_X12_isDigit) (rk_hNw base ad adV) (rk_hNc base ad adV) (by decide +kernel) (mt := rk_mt []) (ml := rk_mlf []) (fl := rk_flf rk_ftX12) (fun s args h hN => rk_MlOk_of (fun _ h => absurd h List.not_mem_nil) (by decide +kernel)) (fun s args h hN => rk_flX12 (fun w hw => List.mem_cons_of_mem _ hw) h hN) (rm_cat1 rfl) (Nat.le_of_ble_eq_true rfl) ?_
  intro p e st m below meth c G X L f0 A hC hh hX0 hXC hT hpre
  have hcs : 0 ≤ 0 ∧ 0 ≤ 0 := ⟨Nat.le_refl 0, Nat.le_refl 0⟩
  refine rv_run hC.1 hC.2.1 (T := rv_t_X12_isDigit) rv_k_X12_isDigit 3 ?_
  refine ⟨fun h => ?_, fun h => ?_⟩
  · have h : x.toInt < 48 := h
    refine rv_run hC.1 hC.2.1 (T := rv_t_X12_isDigit) rv_k_X12_isDigit 1 ?_
    refine rm_zret hC hh (by decide +kernel) rfl (Or.inl rfl) ⟨by rw [Int.add_zero]; exact hT, rm_lv_rf 0, ⟨_, rfl, Or.inr ⟨rfl, Or.inl h⟩⟩, rfl⟩
  · have h1 : 48 ≤ x.toInt := h
    refine rv_run hC.1 hC.2.1 (T := rv_t_X12_isDigit) rv_k_X12_isDigit 3 ?_
    refine ⟨fun h => ?_, fun h => ?_⟩
    · have h : 57 < x.toInt := h
      refine rv_run hC.1 hC.2.1 (T := rv_t_X12_isDigit) rv_k_X12_isDigit 1 ?_
      refine rm_zret hC hh (by decide +kernel) rfl (Or.inl rfl) ⟨by rw [Int.add_zero]; exact hT, rm_lv_rf 0, ⟨_, rfl, Or.inr ⟨rfl, Or.inr h⟩⟩, rfl⟩
    · have h2 : x.toInt ≤ 57 := h
      refine rv_run hC.1 hC.2.1 (T := rv_t_X12_isDigit) rv_k_X12_isDigit 2 ?_
      refine rm_zret hC hh (by decide +kernel) rfl (Or.inr rfl) ⟨by rw [Int.add_zero]; exact hT, rm_lv_rf 0, ⟨_, rfl, Or.inl ⟨rfl, h1, h2⟩⟩, rfl⟩
theorem h_number (a0 : Nat) (a b : Int32) (hb0 : 0 ≤ a.toInt ∧ 0 ≤ b.toInt) : rm_Hm base l cI c1 c2 c3 c4 c5 D ad adV rk_q_X12_number [.ref a0, .int a, .int b] (fun G _ f => G a0 = some 12) (fun G _ f v u => ∃ x : Int32, v = some (.int x) ∧ 0 ≤ x.toInt ∧ x.toInt ≤ b.toInt ∧ (rm_fi u a0 9 = 1 ∨ (a.toInt ≤ x.toInt ∧ rm_fi f a0 7 < rm_fi u a0 7 ∧ rm_fi u a0 7 ≤ rm_fi u a0 8))) 0 1 := by
  unfold rm_Hm
  refine rm_start (M := rk_q_X12_number) (rk_hNw base ad adV) (rk_hNc base ad adV) (by decide +kernel) (mt := rk_mt [rk_q_X12_behindBlanks, rk_q_X12_errs, rk_q_X12_here, rk_q_X12_isDigit, rk_q_X12_isIn]) (ml := rk_mlf [(264, 0, 1, 12), (270, 1, 3, 12), (242, 2, 1, 12), (267, 3, 2, 12), (104, 4, 4, 12)]) (fl := rk_flf rk_ftX12) (fun s args h hN => rk_MlOk_of (List.forall_mem_cons.mpr ⟨rk_mck_ok (fun w hw => List.mem_cons_of_mem _ hw) h hN rk_cm_X12_behindBlanks rk_lk_X12_264, List.forall_mem_cons.mpr ⟨rk_mck_ok (fun w hw => List.mem_cons_of_mem _ hw) h hN rk_cm_X12_errs rk_lk_X12_270, List.forall_mem_cons.mpr ⟨rk_mck_ok (fun w hw => List.mem_cons_of_mem _ hw) h hN rk_cm_X12_here rk_lk_X12_242, List.forall_mem_cons.mpr ⟨rk_mck_ok (fun w hw => List.mem_cons_of_mem _ hw) h hN rk_cm_X12_isDigit rk_lk_X12_267, List.forall_mem_cons.mpr ⟨rk_mck_ok (fun w hw => List.mem_cons_of_mem _ hw) h hN rk_cm_X12_isIn rk_lk_X12_104, fun _ h => absurd h List.not_mem_nil⟩⟩⟩⟩⟩) (by decide +kernel)) (fun s args h hN => rk_flX12 (fun w hw => List.mem_cons_of_mem _ hw) h hN) (rm_cat1 rfl) (Nat.le_of_ble_eq_true rfl) ?_
  intro p e st m below meth c G X L f0 A hC hh hX0 hXC hT hpre
  have hcs : 0 ≤ 0 ∧ 0 ≤ 0 := ⟨Nat.le_refl 0, Nat.le_refl 0⟩
  have hG : G a0 = some 12 := hpre
  have t90 : ∀ (q acc : Int32) (f : Nat → va_E) (H : Heap) (locs : List Loc), rm_h D A st L f H locs → rm_TY cI c1 c2 c3 c4 c5 ad G X L f → rm_Lv G 1 f0 f → rm_fi f0 a0 7 < rm_fi f a0 7 ∧ rm_fi f a0 7 ≤ rm_fi f a0 8 → rv_G p l e { frames := rk_q_X12_number.2.2.2.2.1, cells := 0, slots := 0, locals := rk_q_X12_number.2.2.2.2.2 } st m ([.ref a0, .int a, .int b] : List Value).toArray below meth c (MQ below (rk_Q (fun v u => rm_TY cI c1 c2 c3 c4 c5 ad G (X + 0) L u ∧ rm_Lv G 1 f0 u ∧ (fun G _ f v u => ∃ x : Int32, v = some (.int x) ∧ 0 ≤ x.toInt ∧ x.toInt ≤ b.toInt ∧ (rm_fi u a0 9 = 1 ∨ (a.toInt ≤ x.toInt ∧ rm_fi f a0 7 < rm_fi u a0 7 ∧ rm_fi u a0 7 ≤ rm_fi u a0 8))) G X f0 v u) (rk_B D (rk_tys cI c1 c2 c3 c4 c5) L A) A) ([.ref a0, .int a, .int b] : List Value).toArray st 0 0 A) rk_q_X12_number.2.2.1 0 0 H locs 90 [] [(0, .ref a0), (1, .int a), (2, .int b), (3, .int q), (4, .int acc)] := by
    intro q acc f H locs hh hT hLt hsp
    refine rv_run hC.1 hC.2.1 (T := rv_t_X12_number) rv_k_X12_number 80 ?_
    refine w_h hC hh hT hG (by omega) (by omega) 104 (by decide +kernel) rfl (h_isIn base l cI c1 c2 c3 c4 c5 D ad adV a0 acc a b) hG rfl rfl (Nat.le_of_ble_eq_true rfl) hcs (fun v f1 H locs hh1 hT1 hL hP => ?_)
    obtain ⟨⟨y, rfl, hy⟩, hu⟩ := hP
    subst hu
    have hh := hh1
    have hT := hT1
    clear hh1 hT1 hL
    rw [Int.add_zero] at hT
    refine rv_run hC.1 hC.2.1 (T := rv_t_X12_number) rv_k_X12_number 1 ?_
    refine ⟨fun _ => ?_, fun h => ?_⟩
    · refine rv_run hC.1 hC.2.1 (T := rv_t_X12_number) rv_k_X12_number 80 ?_
      refine w_h hC hh hT hG (by omega) (by omega) 270 (by decide +kernel) rfl (h_errs base l cI c1 c2 c3 c4 c5 D ad adV a0 _ _) hG rfl rfl (Nat.le_of_ble_eq_true rfl) hcs (fun v f H locs hh hT hL hP => ?_)
      rw [Int.add_zero] at hT
      obtain ⟨⟨x9, rfl, h9⟩, h10, -⟩ := hP
      refine rm_iret hC hh (by decide +kernel) rfl ⟨by rw [Int.add_zero]; exact hT, rm_lv_tr (k := 1) hLt hL rfl rfl, ⟨x9, rfl, by omega, by omega, Or.inl h10⟩⟩
    · have h : ¬ y.toInt = 0 := h
      refine rv_run hC.1 hC.2.1 (T := rv_t_X12_number) rv_k_X12_number 2 ?_
      refine rm_iret hC hh (by decide +kernel) rfl ⟨by rw [Int.add_zero]; exact hT, hLt, ⟨acc, rfl, by omega, by omega, Or.inr ⟨by omega, hsp⟩⟩⟩
  have loop : ∀ (d : Nat) (q acc : Int32) (f : Nat → va_E) (H : Heap) (locs : List Loc), rm_h D A st L f H locs → rm_TY cI c1 c2 c3 c4 c5 ad G X L f → rm_Lv G 1 f0 f → rm_fi f a0 8 - rm_fi f a0 7 ≤ (d : Int) → ((rm_fi f0 a0 7 < rm_fi f a0 7 ∧ rm_fi f a0 7 ≤ rm_fi f a0 8) ∨ (48 ≤ rm_hv G f a0 ∧ rm_hv G f a0 ≤ 57)) → rv_G p l e { frames := rk_q_X12_number.2.2.2.2.1, cells := 0, slots := 0, locals := rk_q_X12_number.2.2.2.2.2 } st m ([.ref a0, .int a, .int b] : List Value).toArray below meth c (MQ below (rk_Q (fun v u => rm_TY cI c1 c2 c3 c4 c5 ad G (X + 0) L u ∧ rm_Lv G 1 f0 u ∧ (fun G _ f v u => ∃ x : Int32, v = some (.int x) ∧ 0 ≤ x.toInt ∧ x.toInt ≤ b.toInt ∧ (rm_fi u a0 9 = 1 ∨ (a.toInt ≤ x.toInt ∧ rm_fi f a0 7 < rm_fi u a0 7 ∧ rm_fi u a0 7 ≤ rm_fi u a0 8))) G X f0 v u) (rk_B D (rk_tys cI c1 c2 c3 c4 c5) L A) A) ([.ref a0, .int a, .int b] : List Value).toArray st 0 0 A) rk_q_X12_number.2.2.1 0 0 H locs 38 [] [(0, .ref a0), (1, .int a), (2, .int b), (3, .int q), (4, .int acc)] := by
    intro d
    induction d with
    | zero =>
      intro q acc f H locs hh hT hLt hd hst
      refine rv_run hC.1 hC.2.1 (T := rv_t_X12_number) rv_k_X12_number 80 ?_
      refine w_h hC hh hT hG (by omega) (by omega) 242 (by decide +kernel) rfl (h_here base l cI c1 c2 c3 c4 c5 D ad adV a0) hG rfl rfl (Nat.le_of_ble_eq_true rfl) hcs (fun v f1 H locs hh1 hT1 hL hP => ?_)
      obtain ⟨⟨y, rfl, hy1, hy2, hy3, hy4⟩, hu⟩ := hP
      subst hu
      have hh := hh1
      have hT := hT1
      clear hh1 hT1 hL
      rw [Int.add_zero] at hT
      refine w_h hC hh hT hG (by omega) (by omega) 267 (by decide +kernel) rfl (h_isDigit base l cI c1 c2 c3 c4 c5 D ad adV a0 y) hG rfl rfl (Nat.le_of_ble_eq_true rfl) hcs (fun v f1 H locs hh1 hT1 hL hP => ?_)
      obtain ⟨⟨x, rfl, hx⟩, hu⟩ := hP
      subst hu
      have hh := hh1
      have hT := hT1
      clear hh1 hT1 hL
      rw [Int.add_zero] at hT
      refine rv_run hC.1 hC.2.1 (T := rv_t_X12_number) rv_k_X12_number 1 ?_
      refine ⟨fun h => ?_, fun h => ?_⟩
      · have h : x.toInt = 0 := h
        exact t90 q acc _ H locs hh hT hLt (by omega)
      · have h : ¬ x.toInt = 0 := h
        omega
    | succ d ih =>
      intro q acc f H locs hh hT hLt hd hst
      refine rv_run hC.1 hC.2.1 (T := rv_t_X12_number) rv_k_X12_number 80 ?_
      refine w_h hC hh hT hG (by omega) (by omega) 242 (by decide +kernel) rfl (h_here base l cI c1 c2 c3 c4 c5 D ad adV a0) hG rfl rfl (Nat.le_of_ble_eq_true rfl) hcs (fun v f1 H locs hh1 hT1 hL hP => ?_)
      obtain ⟨⟨y, rfl, hy1, hy2, hy3, hy4⟩, hu⟩ := hP
      subst hu
      have hh := hh1
      have hT := hT1
      clear hh1 hT1 hL
      rw [Int.add_zero] at hT
      refine w_h hC hh hT hG (by omega) (by omega) 267 (by decide +kernel) rfl (h_isDigit base l cI c1 c2 c3 c4 c5 D ad adV a0 y) hG rfl rfl (Nat.le_of_ble_eq_true rfl) hcs (fun v f1 H locs hh1 hT1 hL hP => ?_)
      obtain ⟨⟨x, rfl, hx⟩, hu⟩ := hP
      subst hu
      have hh := hh1
      have hT := hT1
      clear hh1 hT1 hL
      rw [Int.add_zero] at hT
      refine rv_run hC.1 hC.2.1 (T := rv_t_X12_number) rv_k_X12_number 1 ?_
      refine ⟨fun h => ?_, fun h => ?_⟩
      · have h : x.toInt = 0 := h
        exact t90 q acc _ H locs hh hT hLt (by omega)
      have h : ¬ x.toInt = 0 := h
      have b8 := rm_fiT hT hG (i := 8) rfl
      have sp0 := rm_sp hLt hG
      have t75 : ∀ (k : Int32) (g : Nat → va_E) (H : Heap) (locs : List Loc), rm_h D A st L g H locs → rm_TY cI c1 c2 c3 c4 c5 ad G X L g → rm_Lv G 1 f0 g → rm_fi g a0 8 - rm_fi g a0 7 ≤ (d : Int) + 1 → rm_fi g a0 7 < rm_fi g a0 8 → rm_fi g a0 8 ≤ 400 → rv_G p l e { frames := rk_q_X12_number.2.2.2.2.1, cells := 0, slots := 0, locals := rk_q_X12_number.2.2.2.2.2 } st m ([.ref a0, .int a, .int b] : List Value).toArray below meth c (MQ below (rk_Q (fun v u => rm_TY cI c1 c2 c3 c4 c5 ad G (X + 0) L u ∧ rm_Lv G 1 f0 u ∧ (fun G _ f v u => ∃ x : Int32, v = some (.int x) ∧ 0 ≤ x.toInt ∧ x.toInt ≤ b.toInt ∧ (rm_fi u a0 9 = 1 ∨ (a.toInt ≤ x.toInt ∧ rm_fi f a0 7 < rm_fi u a0 7 ∧ rm_fi u a0 7 ≤ rm_fi u a0 8))) G X f0 v u) (rk_B D (rk_tys cI c1 c2 c3 c4 c5) L A) A) ([.ref a0, .int a, .int b] : List Value).toArray st 0 0 A) rk_q_X12_number.2.2.1 0 0 H locs 75 [.int k] [(0, .ref a0), (1, .int a), (2, .int b), (3, .int q), (4, .int acc)] := by
        intro k g H locs hh hT hLt hd hlt b8
        have sp0 := rm_sp hLt hG
        refine rv_run hC.1 hC.2.1 (T := rv_t_X12_number) rv_k_X12_number 80 ?_
        refine w_gf hC hh hT hG (by omega) 236 (by decide +kernel) rfl rfl (fun z hz hz2 => ?_)
        have e3 := rm_ad (x := z) rfl rm_e1 (by omega) (by decide)
        refine rv_run hC.1 hC.2.1 (T := rv_t_X12_number) rv_k_X12_number 80 ?_
        refine w_pf hC hh hT hG (by omega) 513 236 (by decide +kernel) rfl rfl (Or.inl ⟨rfl, _, rfl⟩) ⟨_, rfl, by rw [e3]; omega, by rw [e3]; omega⟩ rfl (by decide) (fun u H locs hh hT hL hP => ?_)
        have e7 := rm_fi_of hP.1
        have e8 : rm_fi u a0 8 = rm_fi g a0 8 := by
          unfold rm_fi
          rw [hP.2.1 8 (by decide)]
        have hL1 := rm_fin9 hL (fun b hb => by
          by_cases hba : b = a0
          · subst hba
            exact ⟨e8, by omega⟩
          · unfold rm_fi
            rw [hP.2.2.1 b hba]
            exact ⟨rfl, Int.le_refl _⟩)
        refine rv_run hC.1 hC.2.1 (T := rv_t_X12_number) rv_k_X12_number 1 ?_
        exact ih q k u H locs hh hT (rm_lv_tr (k := 1) hLt hL1 rfl rfl) (by omega) (Or.inl (by omega))
      refine rv_run hC.1 hC.2.1 (T := rv_t_X12_number) rv_k_X12_number 3 ?_
      refine ⟨fun _ => ?_, fun _ => ?_⟩
      · refine rv_run hC.1 hC.2.1 (T := rv_t_X12_number) rv_k_X12_number 80 ?_
        refine w_h hC hh hT hG (by omega) (by omega) 242 (by decide +kernel) rfl (h_here base l cI c1 c2 c3 c4 c5 D ad adV a0) hG rfl rfl (Nat.le_of_ble_eq_true rfl) hcs (fun v f1 H locs hh1 hT1 hL hP => ?_)
        obtain ⟨⟨y2, rfl, hz⟩, hu⟩ := hP
        subst hu
        have hh := hh1
        have hT := hT1
        clear hh1 hT1 hL
        rw [Int.add_zero] at hT
        refine rv_run hC.1 hC.2.1 (T := rv_t_X12_number) rv_k_X12_number 3 ?_
        exact t75 _ _ H locs hh hT hLt (by omega) (by omega) (by omega)
      · refine rv_run hC.1 hC.2.1 (T := rv_t_X12_number) rv_k_X12_number 2 ?_
        exact t75 _ _ H locs hh hT hLt (by omega) (by omega) (by omega)
  refine rv_run hC.1 hC.2.1 (T := rv_t_X12_number) rv_k_X12_number 80 ?_
  refine w_gf hC hh hT hG (by omega) 245 (by decide +kernel) rfl rfl (fun x hx hx2 => ?_)
  refine rv_run hC.1 hC.2.1 (T := rv_t_X12_number) rv_k_X12_number 1 ?_
  refine ⟨fun _ => ?_, fun h => ?_⟩
  · refine rv_run hC.1 hC.2.1 (T := rv_t_X12_number) rv_k_X12_number 80 ?_
    refine w_h hC hh hT hG (by omega) (by omega) 264 (by decide +kernel) rfl (h_behindBlanks base l cI c1 c2 c3 c4 c5 D ad adV a0) hG rfl rfl (Nat.le_of_ble_eq_true rfl) hcs (fun v f H locs hh hT hL hP => ?_)
    rw [Int.add_zero] at hT
    obtain ⟨y, rfl, hy1, hy2, hy3, hy4⟩ := hP
    have hLt := hL
    refine w_h hC hh hT hG (by omega) (by omega) 267 (by decide +kernel) rfl (h_isDigit base l cI c1 c2 c3 c4 c5 D ad adV a0 y) hG rfl rfl (Nat.le_of_ble_eq_true rfl) hcs (fun v f1 H locs hh1 hT1 hL hP => ?_)
    obtain ⟨⟨w, rfl, hw⟩, hu⟩ := hP
    subst hu
    have hh := hh1
    have hT := hT1
    clear hh1 hT1 hL
    rw [Int.add_zero] at hT
    refine rv_run hC.1 hC.2.1 (T := rv_t_X12_number) rv_k_X12_number 1 ?_
    refine ⟨fun h => ?_, fun h => ?_⟩
    · have h : ¬ w.toInt = 0 := h
      have b8 := rm_fiT hT hG (i := 8) rfl
      have b7 := rm_fiT hT hG (i := 7) rfl
      refine rv_run hC.1 hC.2.1 (T := rv_t_X12_number) rv_k_X12_number 80 ?_
      refine w_gf hC hh hT hG (by omega) 236 (by decide +kernel) rfl rfl (fun z hz hz2 => ?_)
      refine rv_run hC.1 hC.2.1 (T := rv_t_X12_number) rv_k_X12_number 3 ?_
      exact loop (rm_fi f1 a0 8 - rm_fi f1 a0 7).toNat z _ _ H locs hh hT hLt (by omega) (Or.inr (by omega))
    · refine rv_run hC.1 hC.2.1 (T := rv_t_X12_number) rv_k_X12_number 80 ?_
      refine w_gf hC hh hT hG (by omega) 236 (by decide +kernel) rfl rfl (fun z hz hz2 => ?_)
      refine w_h hC hh hT hG (by omega) (by omega) 270 (by decide +kernel) rfl (h_errs base l cI c1 c2 c3 c4 c5 D ad adV a0 _ _) hG rfl rfl (Nat.le_of_ble_eq_true rfl) hcs (fun v f H locs hh hT hL hP => ?_)
      rw [Int.add_zero] at hT
      obtain ⟨⟨x9, rfl, h9⟩, h10, -⟩ := hP
      refine rm_iret hC hh (by decide +kernel) rfl ⟨by rw [Int.add_zero]; exact hT, rm_lv_tr (k := 1) hLt hL rfl rfl, ⟨x9, rfl, by omega, by omega, Or.inl h10⟩⟩
  · have h : ¬ x.toInt = 0 := h
    refine rv_run hC.1 hC.2.1 (T := rv_t_X12_number) rv_k_X12_number 1 ?_
    refine rm_iret hC hh (by decide +kernel) rfl ⟨by rw [Int.add_zero]; exact hT, rm_lv_rf 1, ⟨_, rfl, by decide, hb0.2, Or.inl (by omega)⟩⟩
end RMX
