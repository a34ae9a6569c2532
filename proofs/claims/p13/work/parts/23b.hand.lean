/-- the input from which a port gets: none, or one that is routed to it -/
def rm_cd (g : Nat → Int32) (sn p : Nat) : Prop := rm_sc g (sn - sn % 8 + p) 21 = 1 ∧ rm_sc g (sn - sn % 8 + p) 22 = (sn : Int)
def rm_rt (g : Nat → Int32) (sn : Nat) (r : Int) : Prop := (r = -1 ∧ ∀ p, 1 ≤ p → p ≤ 7 → ¬ rm_cd g sn p) ∨ ∃ p, 1 ≤ p ∧ p ≤ 7 ∧ rm_cd g sn p ∧ r = ((sn - sn % 8 + p : Nat) : Int)
theorem rm_rem8 {s : Int32} {sn : Nat} (hs : s.toInt = (sn : Int)) (hsn : sn < 40) : (s - s / (Int8.ofInt 8).toInt32 * (Int8.ofInt 8).toInt32).toInt = ((sn % 8 : Nat) : Int) := by
  have e8 : (Int8.ofInt 8).toInt32.toInt = 8 := rfl
  rw [rk_rem_e (by omega) (by rw [e8]; decide), e8, hs]
  omega
def rv_t_X12_routedTo : rv_T := (.branch 0 (.branch 0 (.branch 0 (.branch 0 (.branch 0 (.branch 0 (.leaf (0, .iload_n 1, 1)) (.leaf (32, .bipush (22), 2))) (.branch 0 (.leaf (16, .iload_n 2, 1)) (.leaf (48, .goto (-39), 3)))) (.branch 0 (.leaf (8, .istore_n 3, 1)) (.leaf (24, .iconst 1, 1)))) (.branch 0 (.branch 0 (.leaf (4, .irem, 1)) (.leaf (52, .ireturn, 1))) (.branch 0 (.branch 0 (.leaf (12, .if_icmp .ge (39), 3)) (.leaf (44, .ireturn, 1))) (.leaf (28, .aload_n 0, 1))))) (.branch 0 (.branch 0 (.branch 0 (.branch 0 (.leaf (2, .bipush (8), 2)) (.leaf (34, .invokevirtual 36, 3))) (.leaf (18, .iadd, 1))) (.branch 0 (.branch 0 (.leaf (10, .bipush (8), 2)) (.leaf (42, .iload_n 3, 1))) (.leaf (99999, .nop, 1)))) (.branch 0 (.branch 0 (.branch 0 (.leaf (6, .istore_n 2, 1)) (.leaf (38, .if_icmp .ne (7), 3))) (.leaf (99999, .nop, 1))) (.leaf (30, .iload_n 3, 1))))) (.branch 0 (.branch 0 (.branch 0 (.branch 0 (.leaf (1, .iload_n 1, 1)) (.leaf (17, .iload_n 3, 1))) (.branch 0 (.branch 0 (.leaf (9, .iload_n 3, 1)) (.leaf (41, .iload_n 2, 1))) (.leaf (25, .if_icmp .ne (20), 3)))) (.branch 0 (.branch 0 (.branch 0 (.leaf (5, .isub, 1)) (.leaf (37, .iload_n 1, 1))) (.leaf (21, .invokevirtual 36, 3))) (.branch 0 (.leaf (45, .iinc 3 (1), 3)) (.leaf (29, .iload_n 2, 1))))) (.branch 0 (.branch 0 (.branch 0 (.leaf (99999, .nop, 1)) (.branch 0 (.leaf (19, .bipush (21), 2)) (.leaf (51, .iconst (-1), 1)))) (.leaf (43, .iadd, 1))) (.branch 0 (.leaf (7, .iconst 1, 1)) (.branch 0 (.leaf (15, .aload_n 0, 1)) (.leaf (31, .iadd, 1)))))))
theorem rv_k_X12_routedTo : rv_tok cX12_routedTo rv_t_X12_routedTo = true := by decide +kernel
def rv_t_X12_falls : rv_T := (.branch 0 (.branch 0 (.branch 0 (.branch 0 (.branch 0 (.branch 0 (.branch 0 (.branch 0 (.leaf (0, .aload_n 0, 1)) (.leaf (128, .aload_n 0, 1))) (.leaf (64, .iload_n 1, 1))) (.branch 0 (.leaf (32, .iconst 0, 1)) (.leaf (96, .bipush (32), 2)))) (.branch 0 (.leaf (16, .iconst 0, 1)) (.branch 0 (.leaf (48, .invokevirtual 36, 3)) (.leaf (112, .aload_n 0, 1))))) (.branch 0 (.branch 0 (.branch 0 (.leaf (8, .iconst 1, 1)) (.leaf (72, .bipush (32), 2))) (.leaf (40, .iconst 0, 1))) (.branch 0 (.branch 0 (.leaf (24, .iconst 0, 1)) (.leaf (88, .iload_n 1, 1))) (.branch 0 (.leaf (56, .iload_n 1, 1)) (.leaf (120, .aload_n 0, 1)))))) (.branch 0 (.branch 0 (.branch 0 (.branch 0 (.leaf (4, .invokevirtual 46, 3)) (.leaf (68, .invokevirtual 42, 3))) (.leaf (36, .aload_n 0, 1))) (.branch 0 (.leaf (20, .aload_n 0, 1)) (.branch 0 (.leaf (52, .if_icmp .ne (11), 3)) (.leaf (116, .isub, 1))))) (.branch 0 (.branch 0 (.leaf (99999, .nop, 1)) (.branch 0 (.leaf (44, .aload_n 0, 1)) (.leaf (108, .iconst 1, 1)))) (.branch 0 (.branch 0 (.leaf (28, .aload_n 0, 1)) (.leaf (92, .invokevirtual 66, 3))) (.branch 0 (.leaf (60, .invokevirtual 59, 3)) (.leaf (124, .iconst 0, 1))))))) (.branch 0 (.branch 0 (.branch 0 (.branch 0 (.branch 0 (.branch 0 (.leaf (2, .bipush (15), 2)) (.leaf (130, .iload_n 2, 1))) (.leaf (99999, .nop, 1))) (.leaf (98, .if_icmp .lt (22), 3))) (.branch 0 (.leaf (82, .iconst (-1), 1)) (.leaf (114, .bipush (32), 2)))) (.branch 0 (.branch 0 (.branch 0 (.leaf (10, .invokevirtual 56, 3)) (.leaf (74, .if_icmp .ge (21), 3))) (.leaf (99999, .nop, 1))) (.leaf (122, .bipush (14), 2)))) (.branch 0 (.branch 0 (.branch 0 (.leaf (134, .return_, 1)) (.branch 0 (.leaf (38, .bipush (11), 2)) (.leaf (102, .iload_n 1, 1)))) (.branch 0 (.branch 0 (.leaf (22, .bipush (6), 2)) (.leaf (86, .aload_n 0, 1))) (.leaf (99999, .nop, 1)))) (.branch 0 (.branch 0 (.branch 0 (.leaf (14, .iload_n 1, 1)) (.leaf (78, .iload_n 1, 1))) (.leaf (46, .bipush (13), 2))) (.leaf (30, .bipush (12), 2)))))) (.branch 0 (.branch 0 (.branch 0 (.branch 0 (.branch 0 (.branch 0 (.branch 0 (.leaf (1, .iload_n 1, 1)) (.leaf (129, .iload_n 1, 1))) (.leaf (65, .bipush (13), 2))) (.leaf (33, .invokevirtual 42, 3))) (.branch 0 (.leaf (17, .invokevirtual 42, 3)) (.leaf (113, .iload_n 1, 1)))) (.branch 0 (.branch 0 (.leaf (9, .iload_n 1, 1)) (.branch 0 (.leaf (41, .invokevirtual 42, 3)) (.leaf (105, .invokevirtual 36, 3)))) (.branch 0 (.branch 0 (.leaf (25, .invokevirtual 42, 3)) (.leaf (89, .invokevirtual 62, 3))) (.branch 0 (.leaf (57, .sipush (257), 3)) (.leaf (121, .iload_n 1, 1)))))) (.branch 0 (.branch 0 (.branch 0 (.leaf (99999, .nop, 1)) (.branch 0 (.leaf (37, .iload_n 1, 1)) (.leaf (101, .aload_n 0, 1)))) (.branch 0 (.leaf (21, .iload_n 1, 1)) (.leaf (117, .invokevirtual 70, 3)))) (.branch 0 (.branch 0 (.branch 0 (.leaf (13, .aload_n 0, 1)) (.leaf (77, .aload_n 0, 1))) (.branch 0 (.leaf (45, .iload_n 1, 1)) (.leaf (109, .if_icmp .ne (11), 3)))) (.branch 0 (.leaf (29, .iload_n 1, 1)) (.leaf (125, .invokevirtual 42, 3)))))) (.branch 0 (.branch 0 (.branch 0 (.branch 0 (.branch 0 (.leaf (131, .invokevirtual 73, 3)) (.leaf (67, .iconst 0, 1))) (.leaf (99999, .nop, 1))) (.branch 0 (.leaf (83, .if_icmp .eq (12), 3)) (.leaf (51, .iconst 1, 1)))) (.leaf (99999, .nop, 1))) (.branch 0 (.branch 0 (.branch 0 (.branch 0 (.leaf (7, .aload_n 0, 1)) (.leaf (71, .iload_n 1, 1))) (.leaf (103, .bipush (14), 2))) (.branch 0 (.leaf (87, .aload_n 0, 1)) (.leaf (55, .aload_n 0, 1)))) (.branch 0 (.branch 0 (.branch 0 (.leaf (15, .iconst 5, 1)) (.leaf (79, .invokevirtual 62, 3))) (.leaf (99999, .nop, 1))) (.branch 0 (.leaf (95, .iload_n 1, 1)) (.leaf (63, .aload_n 0, 1))))))))
theorem rv_k_X12_falls : rv_tok cX12_falls rv_t_X12_falls = true := by decide +kernel
def rv_t_X12_settles : rv_T := (.branch 0 (.branch 0 (.branch 0 (.branch 0 (.branch 0 (.leaf (0, .aload_n 0, 1)) (.leaf (48, .iload_n 1, 1))) (.branch 0 (.leaf (40, .invokevirtual 73, 3)) (.branch 0 (.branch 0 (.leaf (24, .iload_n 2, 1)) (.leaf (88, .return_, 1))) (.leaf (56, .return_, 1))))) (.branch 0 (.leaf (84, .iconst 0, 1)) (.branch 0 (.branch 0 (.branch 0 (.leaf (12, .invokevirtual 36, 3)) (.leaf (76, .invokevirtual 88, 3))) (.leaf (44, .ifCond .ne (12), 3))) (.leaf (28, .aload_n 0, 1))))) (.branch 0 (.branch 0 (.branch 0 (.branch 0 (.branch 0 (.leaf (2, .iconst 0, 1)) (.leaf (66, .iload_n 1, 1))) (.leaf (34, .ifCond .ne (9), 3))) (.branch 0 (.branch 0 (.leaf (18, .iconst 1, 1)) (.leaf (82, .aload_n 0, 1))) (.leaf (50, .invokevirtual 36, 3)))) (.branch 0 (.branch 0 (.branch 0 (.leaf (10, .iload_n 1, 1)) (.leaf (74, .iload_n 1, 1))) (.leaf (99999, .nop, 1))) (.leaf (58, .iload_n 1, 1)))) (.branch 0 (.branch 0 (.branch 0 (.branch 0 (.leaf (6, .ifCond .le (16), 3)) (.leaf (70, .ifCond .eq (12), 3))) (.leaf (38, .iload_n 1, 1))) (.leaf (22, .iconst 0, 1))) (.branch 0 (.leaf (99999, .nop, 1)) (.branch 0 (.leaf (30, .iconst 3, 1)) (.leaf (62, .invokevirtual 42, 3))))))) (.branch 0 (.branch 0 (.branch 0 (.branch 0 (.branch 0 (.branch 0 (.leaf (1, .iload_n 1, 1)) (.leaf (65, .aload_n 0, 1))) (.leaf (99999, .nop, 1))) (.leaf (49, .iconst 3, 1))) (.branch 0 (.branch 0 (.branch 0 (.leaf (9, .aload_n 0, 1)) (.leaf (73, .aload_n 0, 1))) (.leaf (99999, .nop, 1))) (.branch 0 (.leaf (25, .ifCond .eq (18), 3)) (.leaf (57, .aload_n 0, 1))))) (.branch 0 (.branch 0 (.leaf (37, .aload_n 0, 1)) (.branch 0 (.leaf (85, .invokevirtual 73, 3)) (.leaf (53, .ifCond .ne (4), 3)))) (.branch 0 (.leaf (99999, .nop, 1)) (.branch 0 (.leaf (29, .iload_n 1, 1)) (.leaf (61, .iconst 0, 1)))))) (.branch 0 (.branch 0 (.branch 0 (.branch 0 (.branch 0 (.leaf (3, .invokevirtual 36, 3)) (.leaf (67, .invokevirtual 85, 3))) (.leaf (99999, .nop, 1))) (.branch 0 (.branch 0 (.leaf (19, .goto (4), 3)) (.leaf (83, .iload_n 1, 1))) (.leaf (99999, .nop, 1)))) (.branch 0 (.branch 0 (.branch 0 (.leaf (11, .iconst 2, 1)) (.leaf (75, .iconst 0, 1))) (.leaf (43, .iload_n 2, 1))) (.leaf (59, .bipush (10), 2)))) (.branch 0 (.branch 0 (.leaf (39, .iconst 1, 1)) (.leaf (23, .istore_n 2, 1))) (.branch 0 (.branch 0 (.branch 0 (.leaf (15, .ifCond .ne (7), 3)) (.leaf (79, .goto (9), 3))) (.leaf (47, .aload_n 0, 1))) (.leaf (31, .invokevirtual 36, 3)))))))
theorem rv_k_X12_settles : rv_tok cX12_settles rv_t_X12_settles = true := by decide +kernel
section RMX
variable (base : Nat) (l : Launch) (cI c1 c2 c3 c4 c5 : ClassId) (D : va_G) (ad adV : Nat → Nat)
theorem h_routedTo (a0 : Nat) (s : Int32) (sn : Nat) (hs : s.toInt = (sn : Int)) (hsn : sn < 40) : rm_Hm base l cI c1 c2 c3 c4 c5 D ad adV rk_q_X12_routedTo [.ref a0, .int s] (fun G _ f => G a0 = some 12) (fun G _ f v u => (∃ x : Int32, v = some (.int x) ∧ rm_rt (rm_now G f a0) sn x.toInt) ∧ u = f) 0 0 := by
  unfold rm_Hm
  refine rm_start (M := rk_q_X12_routedTo) (rk_hNw base ad adV) (rk_hNc base ad adV) (by decide +kernel) (mt := rk_mt [rk_q_X12_at]) (ml := rk_mlf [(36, 0, 3, 12)]) (fl := rk_flf rk_ftX12) (fun s args h hN => rk_MlOk_of (List.forall_mem_cons.mpr ⟨rk_mck_ok (fun w hw => List.mem_cons_of_mem _ hw) h hN rk_cm_X12_at rk_lk_X12_36, fun _ h => absurd h List.not_mem_nil⟩) (by decide +kernel)) (fun s args h hN => rk_flX12 (fun w hw => List.mem_cons_of_mem _ hw) h hN) (rm_cat1 rfl) (Nat.le_of_ble_eq_true rfl) ?_
  intro p e st m below meth c G X L f0 A hC hh hX0 hXC hT hpre
  have hcs : 0 ≤ 0 ∧ 0 ≤ 0 := ⟨Nat.le_refl 0, Nat.le_refl 0⟩
  have hG : G a0 = some 12 := hpre
  have e8 := rm_rem8 hs hsn
  have e9 := rm_su hs e8 (by omega) (by omega)
  refine rv_run hC.1 hC.2.1 (T := rv_t_X12_routedTo) rv_k_X12_routedTo 8 ?_
  refine ⟨by decide, ?_⟩
  have loop : ∀ (n : Nat) (fr k : Int32) (H : Heap) (locs : List Loc), fr.toInt = (sn : Int) - ((sn % 8 : Nat) : Int) → rm_h D A st L f0 H locs → 1 ≤ k.toInt → 8 - k.toInt = (n : Int) → (∀ p : Nat, 1 ≤ p → (p : Int) < k.toInt → ¬ rm_cd (rm_now G f0 a0) sn p) → rv_G p l e { frames := rk_q_X12_routedTo.2.2.2.2.1, cells := 0, slots := 0, locals := rk_q_X12_routedTo.2.2.2.2.2 } st m ([.ref a0, .int s] : List Value).toArray below meth c (MQ below (rk_Q (fun v u => rm_TY cI c1 c2 c3 c4 c5 ad G (X + 0) L u ∧ rm_Lv G 0 f0 u ∧ (fun G _ f v u => (∃ x : Int32, v = some (.int x) ∧ rm_rt (rm_now G f a0) sn x.toInt) ∧ u = f) G X f0 v u) (rk_B D (rk_tys cI c1 c2 c3 c4 c5) L A) A) ([.ref a0, .int s] : List Value).toArray st 0 0 A) rk_q_X12_routedTo.2.2.1 0 0 H locs 9 [] [(0, .ref a0), (1, .int s), (2, .int fr), (3, .int k)] := by
    intro n
    induction n with
    | zero =>
      intro fr k H locs e9 hh hk hn hno
      refine rv_run hC.1 hC.2.1 (T := rv_t_X12_routedTo) rv_k_X12_routedTo 3 ?_
      refine ⟨fun h => ?_, fun h => absurd h (by show ¬ k.toInt < 8; omega)⟩
      refine rv_run hC.1 hC.2.1 (T := rv_t_X12_routedTo) rv_k_X12_routedTo 1 ?_
      refine rm_iret hC hh (by decide +kernel) rfl ⟨by rw [Int.add_zero]; exact hT, rm_lv_rf 0, ⟨_, rfl, Or.inl ⟨rfl, fun p h1 h2 => hno p h1 (by omega)⟩⟩, rfl⟩
    | succ n ih =>
      intro fr k H locs e9 hh hk hn hno
      obtain ⟨kn, hkn⟩ : ∃ n : Nat, k.toInt = (n : Int) := ⟨k.toInt.toNat, by omega⟩
      have e10 := rm_ad e9 hkn (by omega) (by omega)
      have e11 : (fr + k).toInt = ((sn - sn % 8 + kn : Nat) : Int) := by rw [e10]; omega
      have h40 : sn - sn % 8 + kn < 40 := by omega
      have e7 := rm_ad (x := k) rfl rm_e1 (by omega) (by decide)
      have nxt : ∀ (H : Heap) (locs : List Loc), rm_h D A st L f0 H locs → ¬ rm_cd (rm_now G f0 a0) sn kn → rv_G p l e { frames := rk_q_X12_routedTo.2.2.2.2.1, cells := 0, slots := 0, locals := rk_q_X12_routedTo.2.2.2.2.2 } st m ([.ref a0, .int s] : List Value).toArray below meth c (MQ below (rk_Q (fun v u => rm_TY cI c1 c2 c3 c4 c5 ad G (X + 0) L u ∧ rm_Lv G 0 f0 u ∧ (fun G _ f v u => (∃ x : Int32, v = some (.int x) ∧ rm_rt (rm_now G f a0) sn x.toInt) ∧ u = f) G X f0 v u) (rk_B D (rk_tys cI c1 c2 c3 c4 c5) L A) A) ([.ref a0, .int s] : List Value).toArray st 0 0 A) rk_q_X12_routedTo.2.2.1 0 0 H locs 45 [] [(0, .ref a0), (1, .int s), (2, .int fr), (3, .int k)] := by
        intro H locs hh hc
        refine rv_run hC.1 hC.2.1 (T := rv_t_X12_routedTo) rv_k_X12_routedTo 2 ?_
        refine ih fr (k + Int32.ofInt 1) H locs e9 hh (by rw [e7]; omega) (by rw [e7]; omega) (fun p h1 h2 => ?_)
        rw [e7] at h2
        by_cases hp : p = kn
        · rw [hp]; exact hc
        · exact hno p h1 (by omega)
      refine rv_run hC.1 hC.2.1 (T := rv_t_X12_routedTo) rv_k_X12_routedTo 3 ?_
      refine ⟨fun h => absurd h (by show ¬ 8 ≤ k.toInt; omega), fun h => ?_⟩
      refine rv_run hC.1 hC.2.1 (T := rv_t_X12_routedTo) rv_k_X12_routedTo 80 ?_
      refine w_at hC hh hT hG (by omega) (by omega) 36 (by decide +kernel) rfl rfl e11 h40 21 (by decide) (by decide) (Nat.le_of_ble_eq_true rfl) hcs (fun y H locs hh hy => ?_)
      have ey : y.toInt = rm_sc (rm_now G f0 a0) (sn - sn % 8 + kn) 21 := by rw [hy]; rfl
      refine rv_run hC.1 hC.2.1 (T := rv_t_X12_routedTo) rv_k_X12_routedTo 2 ?_
      refine ⟨fun h => nxt H locs hh (fun hc => h (by show y.toInt = 1; rw [ey]; exact hc.1)), fun h => ?_⟩
      have h1 : y.toInt = 1 := h
      refine rv_run hC.1 hC.2.1 (T := rv_t_X12_routedTo) rv_k_X12_routedTo 80 ?_
      refine w_at hC hh hT hG (by omega) (by omega) 36 (by decide +kernel) rfl rfl e11 h40 22 (by decide) (by decide) (Nat.le_of_ble_eq_true rfl) hcs (fun z H locs hh hz => ?_)
      have ez : z.toInt = rm_sc (rm_now G f0 a0) (sn - sn % 8 + kn) 22 := by rw [hz]; rfl
      refine rv_run hC.1 hC.2.1 (T := rv_t_X12_routedTo) rv_k_X12_routedTo 2 ?_
      refine ⟨fun h => nxt H locs hh (fun hc => h (by show z.toInt = s.toInt; rw [ez, hs]; exact hc.2)), fun h => ?_⟩
      have h2 : z.toInt = s.toInt := h
      refine rv_run hC.1 hC.2.1 (T := rv_t_X12_routedTo) rv_k_X12_routedTo 3 ?_
      refine rm_iret hC hh (by decide +kernel) rfl ⟨by rw [Int.add_zero]; exact hT, rm_lv_rf 0, ⟨_, rfl, Or.inr ⟨kn, by omega, by omega, ⟨by rw [← ey]; exact h1, by rw [← ez, h2, hs]⟩, e11⟩⟩, rfl⟩
  exact loop 7 _ (Int32.ofInt 1) st.heap [] e9 hh (by decide) rfl (fun p h1 h2 => by have : (Int32.ofInt 1).toInt = 1 := rfl; omega)
theorem h_falls (a0 : Nat) (s x : Int32) (sn : Nat) (hs : s.toInt = (sn : Int)) (hsn : sn < 40) (B S C T O : Int) (hx : 0 ≤ x.toInt ∧ x.toInt ≤ 5) (hr1 : rm_R1 B S C) : rm_Hm base l cI c1 c2 c3 c4 c5 D ad adV rk_q_X12_falls [.ref a0, .int s, .int x] (fun G _ f => G a0 = some 12 ∧ rm_so G f a0 sn B S C T O) (fun G _ f v u => v = none ∧ rm_st G f u a0 sn (B + C) 0 0 x.toInt O) 2 15 := by
  unfold rm_Hm
  refine rm_start (M := rk_q_X12_falls) (rk_hNw base ad adV) (rk_hNc base ad adV) (by decide +kernel) (mt := rk_mt [rk_q_X12_at, rk_q_X12_becomes, rk_q_X12_buffers, rk_q_X12_logs, rk_q_X12_losesQueue, rk_q_X12_more, rk_q_X12_puts, rk_q_X12_routedTo, rk_q_X12_spills]) (ml := rk_mlf [(36, 0, 3, 12), (73, 1, 3, 12), (59, 2, 3, 12), (56, 3, 3, 12), (70, 4, 2, 12), (46, 5, 3, 12), (42, 6, 4, 12), (62, 7, 2, 12), (66, 8, 2, 12)]) (fl := rk_flf rk_ftX12) (fun s args h hN => rk_MlOk_of (List.forall_mem_cons.mpr ⟨rk_mck_ok (fun w hw => List.mem_cons_of_mem _ hw) h hN rk_cm_X12_at rk_lk_X12_36, List.forall_mem_cons.mpr ⟨rk_mck_ok (fun w hw => List.mem_cons_of_mem _ hw) h hN rk_cm_X12_becomes rk_lk_X12_73, List.forall_mem_cons.mpr ⟨rk_mck_ok (fun w hw => List.mem_cons_of_mem _ hw) h hN rk_cm_X12_buffers rk_lk_X12_59, List.forall_mem_cons.mpr ⟨rk_mck_ok (fun w hw => List.mem_cons_of_mem _ hw) h hN rk_cm_X12_logs rk_lk_X12_56, List.forall_mem_cons.mpr ⟨rk_mck_ok (fun w hw => List.mem_cons_of_mem _ hw) h hN rk_cm_X12_losesQueue rk_lk_X12_70, List.forall_mem_cons.mpr ⟨rk_mck_ok (fun w hw => List.mem_cons_of_mem _ hw) h hN rk_cm_X12_more rk_lk_X12_46, List.forall_mem_cons.mpr ⟨rk_mck_ok (fun w hw => List.mem_cons_of_mem _ hw) h hN rk_cm_X12_puts rk_lk_X12_42, List.forall_mem_cons.mpr ⟨rk_mck_ok (fun w hw => List.mem_cons_of_mem _ hw) h hN rk_cm_X12_routedTo rk_lk_X12_62, List.forall_mem_cons.mpr ⟨rk_mck_ok (fun w hw => List.mem_cons_of_mem _ hw) h hN rk_cm_X12_spills rk_lk_X12_66, fun _ h => absurd h List.not_mem_nil⟩⟩⟩⟩⟩⟩⟩⟩⟩) (by decide +kernel)) (fun s args h hN => rk_flX12 (fun w hw => List.mem_cons_of_mem _ hw) h hN) (rm_cat1 rfl) (Nat.le_of_ble_eq_true rfl) ?_
  intro p e st m below meth c G X L f0 A hC hh hX0 hXC hT hpre
  have hcs : 0 ≤ 0 ∧ 0 ≤ 0 := ⟨Nat.le_refl 0, Nat.le_refl 0⟩
  obtain ⟨hG, hso⟩ := hpre
  have hst := rm_st_rf hso
  obtain ⟨hb1, hb2, hb3, hb4, hb5⟩ := rm_so_b hT hG hsn hso
  have hBC : B + C ≤ 25 := by unfold rm_R1 at hr1; omega
  -- the end
  have t120 : ∀ (f : Nat → va_E) (H : Heap) (locs : List Loc), rm_h D A st L f H locs → rm_TY cI c1 c2 c3 c4 c5 ad G (X + 1) L f → rm_st G f0 f a0 sn (B + C) 0 0 T O → rv_G p l e { frames := rk_q_X12_falls.2.2.2.2.1, cells := 0, slots := 0, locals := rk_q_X12_falls.2.2.2.2.2 } st m ([.ref a0, .int s, .int x] : List Value).toArray below meth c (MQ below (rk_Q (fun v u => rm_TY cI c1 c2 c3 c4 c5 ad G (X + 2) L u ∧ rm_Lv G 15 f0 u ∧ (fun G _ f v u => v = none ∧ rm_st G f u a0 sn (B + C) 0 0 x.toInt O) G X f0 v u) (rk_B D (rk_tys cI c1 c2 c3 c4 c5) L A) A) ([.ref a0, .int s, .int x] : List Value).toArray st 0 0 A) rk_q_X12_falls.2.2.1 0 0 H locs 120 [] [(0, .ref a0), (1, .int s), (2, .int x)] := by
    intro f H locs hh hT hst
    refine rv_run hC.1 hC.2.1 (T := rv_t_X12_falls) rv_k_X12_falls 80 ?_
    refine w_puts hC hh hT hG (by omega) (by omega) 1 42 (by decide +kernel) rfl rfl hs hsn 14 (by decide) (by decide) rfl (rm_hI (a := 0) (b := 1) rfl (by decide) (by decide)) (Nat.le_of_ble_eq_true rfl) hcs (fun f H locs hh hT hL hP => ?_)
    have hst := rm_st_1 hst hL hG hsn
    refine rv_run hC.1 hC.2.1 (T := rv_t_X12_falls) rv_k_X12_falls 80 ?_
    refine w_h hC hh hT hG (by omega) (by omega) 73 (by decide +kernel) rfl (h_becomes base l cI c1 c2 c3 c4 c5 D ad adV a0 s x sn hs hsn (B + C) 0 0 T O hx) ⟨hG, hst.2.2⟩ rfl rfl (Nat.le_of_ble_eq_true rfl) hcs (fun v f H locs hh hT hL hP => ?_)
    obtain ⟨rfl, hP⟩ := hP
    have hst := rm_st_c hst hP
    refine rv_run hC.1 hC.2.1 (T := rv_t_X12_falls) rv_k_X12_falls 80 ?_
    refine rm_vret hC hh (by decide +kernel) rfl ⟨rk_TY_X (by omega) hT, hst.1, rfl, hst⟩
  have t95 : ∀ (f : Nat → va_E) (H : Heap) (locs : List Loc), rm_h D A st L f H locs → rm_TY cI c1 c2 c3 c4 c5 ad G (X + 1) L f → rm_st G f0 f a0 sn (B + C) 0 0 T O → rv_G p l e { frames := rk_q_X12_falls.2.2.2.2.1, cells := 0, slots := 0, locals := rk_q_X12_falls.2.2.2.2.2 } st m ([.ref a0, .int s, .int x] : List Value).toArray below meth c (MQ below (rk_Q (fun v u => rm_TY cI c1 c2 c3 c4 c5 ad G (X + 2) L u ∧ rm_Lv G 15 f0 u ∧ (fun G _ f v u => v = none ∧ rm_st G f u a0 sn (B + C) 0 0 x.toInt O) G X f0 v u) (rk_B D (rk_tys cI c1 c2 c3 c4 c5) L A) A) ([.ref a0, .int s, .int x] : List Value).toArray st 0 0 A) rk_q_X12_falls.2.2.1 0 0 H locs 95 [] [(0, .ref a0), (1, .int s), (2, .int x)] := by
    intro f H locs hh hT hst
    refine rv_run hC.1 hC.2.1 (T := rv_t_X12_falls) rv_k_X12_falls 3 ?_
    refine ⟨fun h => t120 f H locs hh hT hst, fun h => ?_⟩
    have h : 32 ≤ s.toInt := h
    refine rv_run hC.1 hC.2.1 (T := rv_t_X12_falls) rv_k_X12_falls 80 ?_
    refine w_at hC hh hT hG (by omega) (by omega) 36 (by decide +kernel) rfl rfl hs hsn 14 (by decide) (by decide) (Nat.le_of_ble_eq_true rfl) hcs (fun y H locs hh hy => ?_)
    refine rv_run hC.1 hC.2.1 (T := rv_t_X12_falls) rv_k_X12_falls 2 ?_
    refine ⟨fun h => t120 f H locs hh hT hst, fun h => ?_⟩
    have e1 := rm_su (x := s) (y := (Int8.ofInt 32).toInt32) hs (b := 32) rfl (by omega) (by decide)
    refine rv_run hC.1 hC.2.1 (T := rv_t_X12_falls) rv_k_X12_falls 80 ?_
    refine w_h hC hh hT hG (by omega) (by omega) 70 (by decide +kernel) rfl (h_losesQueue base l cI c1 c2 c3 c4 c5 D ad adV a0 _ (sn - 32) (by rw [e1]; omega) (by omega)) hG rfl rfl (Nat.le_of_ble_eq_true rfl) hcs (fun v f H locs hh hT hL hP => ?_)
    rw [Int.add_zero] at hT
    obtain ⟨rfl, hP⟩ := hP
    exact t120 f H locs hh hT (rm_st_E hst hL hP hsn)
  have t63 : ∀ (f : Nat → va_E) (H : Heap) (locs : List Loc), rm_h D A st L f H locs → rm_TY cI c1 c2 c3 c4 c5 ad G (X + 1) L f → rm_st G f0 f a0 sn (B + C) 0 C T O → rv_G p l e { frames := rk_q_X12_falls.2.2.2.2.1, cells := 0, slots := 0, locals := rk_q_X12_falls.2.2.2.2.2 } st m ([.ref a0, .int s, .int x] : List Value).toArray below meth c (MQ below (rk_Q (fun v u => rm_TY cI c1 c2 c3 c4 c5 ad G (X + 2) L u ∧ rm_Lv G 15 f0 u ∧ (fun G _ f v u => v = none ∧ rm_st G f u a0 sn (B + C) 0 0 x.toInt O) G X f0 v u) (rk_B D (rk_tys cI c1 c2 c3 c4 c5) L A) A) ([.ref a0, .int s, .int x] : List Value).toArray st 0 0 A) rk_q_X12_falls.2.2.1 0 0 H locs 63 [] [(0, .ref a0), (1, .int s), (2, .int x)] := by
    intro f H locs hh hT hst
    refine rv_run hC.1 hC.2.1 (T := rv_t_X12_falls) rv_k_X12_falls 80 ?_
    refine w_puts hC hh hT hG (by omega) (by omega) 15 42 (by decide +kernel) rfl rfl hs hsn 13 (by decide) (by decide) rfl (rm_hI (a := 0) (b := 1) rfl (by decide) (by decide)) (Nat.le_of_ble_eq_true rfl) hcs (fun f H locs hh hT hL hP => ?_)
    have hst := rm_st_C hst hL hP
    rw [rm_e0] at hst
    refine rv_run hC.1 hC.2.1 (T := rv_t_X12_falls) rv_k_X12_falls 3 ?_
    refine ⟨fun h => t95 f H locs hh hT hst, fun h => ?_⟩
    have h : s.toInt < 32 := h
    refine rv_run hC.1 hC.2.1 (T := rv_t_X12_falls) rv_k_X12_falls 80 ?_
    refine w_h hC hh hT hG (by omega) (by omega) 62 (by decide +kernel) rfl (h_routedTo base l cI c1 c2 c3 c4 c5 D ad adV a0 s sn hs hsn) hG rfl rfl (Nat.le_of_ble_eq_true rfl) hcs (fun v f1 H locs hh1 hT1 hL hP => ?_)
    obtain ⟨⟨y, rfl, hy⟩, hu⟩ := hP
    subst hu
    have hh := hh1
    have hT := hT1
    clear hh1 hT1 hL
    rw [Int.add_zero] at hT
    refine rv_run hC.1 hC.2.1 (T := rv_t_X12_falls) rv_k_X12_falls 2 ?_
    refine ⟨fun h => t95 _ H locs hh hT hst, fun h => ?_⟩
    have hy1 : ¬ y.toInt = -1 := h
    refine rv_run hC.1 hC.2.1 (T := rv_t_X12_falls) rv_k_X12_falls 80 ?_
    refine w_h hC hh hT hG (by omega) (by omega) 62 (by decide +kernel) rfl (h_routedTo base l cI c1 c2 c3 c4 c5 D ad adV a0 s sn hs hsn) hG rfl rfl (Nat.le_of_ble_eq_true rfl) hcs (fun v f1 H locs hh1 hT1 hL hP => ?_)
    obtain ⟨⟨z, rfl, hz⟩, hu⟩ := hP
    subst hu
    have hh := hh1
    have hT := hT1
    clear hh1 hT1 hL
    rw [Int.add_zero] at hT
    have hz2 : 0 ≤ z.toInt ∧ z.toInt ≤ 39 := by
      rcases hz with ⟨-, hno⟩ | ⟨p9, h1, h2, h3, h4⟩
      · rcases hy with ⟨h9, -⟩ | ⟨p9, h1, h2, h3, h4⟩
        · exact absurd h9 hy1
        · exact absurd h3 (hno p9 h1 h2)
      · omega
    show rv_G p l e { frames := rk_q_X12_falls.2.2.2.2.1, cells := 0, slots := 0, locals := rk_q_X12_falls.2.2.2.2.2 } st m ([.ref a0, .int s, .int x] : List Value).toArray below meth c (MQ below (rk_Q (fun v u => rm_TY cI c1 c2 c3 c4 c5 ad G (X + 2) L u ∧ rm_Lv G 15 f0 u ∧ (fun G _ f v u => v = none ∧ rm_st G f u a0 sn (B + C) 0 0 x.toInt O) G X f0 v u) (rk_B D (rk_tys cI c1 c2 c3 c4 c5) L A) A) ([.ref a0, .int s, .int x] : List Value).toArray st 0 0 A) rk_q_X12_falls.2.2.1 0 0 H locs 92 [.int z, .ref a0] [(0, .ref a0), (1, .int s), (2, .int x)]
    refine w_kv hC hh hT hG (by omega) (by omega) 66 (by decide +kernel) rfl (c_X12_spills base l cI c1 c2 c3 c4 c5 D ad adV) (rk_all_c (rk_aM hG) (rk_all_c (rk_aI hz2) rk_all_0)) rfl rfl (Nat.le_of_ble_eq_true rfl) hcs (fun f H locs hh hT hL => ?_)
    rw [Int.add_zero] at hT
    exact t95 f H locs hh hT (rm_st_1 hst hL hG hsn)
  refine rv_run hC.1 hC.2.1 (T := rv_t_X12_falls) rv_k_X12_falls 80 ?_
  refine w_more hC hh hT hG (by omega) 0 (by decide) (by omega) 1 46 (by decide +kernel) rfl rfl hs hsn 15 (by decide) (by decide) rfl (rm_hF rfl) (Nat.le_of_ble_eq_true rfl) hcs (fun f H locs hh hT hL hP => ?_)
  rw [Int.add_zero] at hT
  have hst := rm_st_1 hst hL hG hsn
  refine rv_run hC.1 hC.2.1 (T := rv_t_X12_falls) rv_k_X12_falls 80 ?_
  refine w_kv hC hh hT hG (by omega) (by omega) 56 (by decide +kernel) rfl (c_X12_logs base l cI c1 c2 c3 c4 c5 D ad adV) (rk_all_c (rk_aM hG) (rk_all_c rk_aF (rk_all_c rk_aF rk_all_0))) rfl rfl (Nat.le_of_ble_eq_true rfl) hcs (fun f H locs hh hT hL => ?_)
  have hst := rm_st_1 hst hL hG hsn
  refine rv_run hC.1 hC.2.1 (T := rv_t_X12_falls) rv_k_X12_falls 80 ?_
  refine w_puts hC hh hT hG (by omega) (by omega) 1 42 (by decide +kernel) rfl rfl hs hsn 5 (by decide) (by decide) rfl (rm_hF rfl) (Nat.le_of_ble_eq_true rfl) hcs (fun f H locs hh hT hL hP => ?_)
  have hst := rm_st_1 hst hL hG hsn
  refine rv_run hC.1 hC.2.1 (T := rv_t_X12_falls) rv_k_X12_falls 80 ?_
  refine w_puts hC hh hT hG (by omega) (by omega) 15 42 (by decide +kernel) rfl rfl hs hsn 6 (by decide) (by decide) rfl (rm_hI (a := 0) (b := 24) rfl (by decide) (by decide)) (Nat.le_of_ble_eq_true rfl) hcs (fun f H locs hh hT hL hP => ?_)
  have hst := rm_st_S hst hL hP
  rw [rm_e0] at hst
  refine rv_run hC.1 hC.2.1 (T := rv_t_X12_falls) rv_k_X12_falls 80 ?_
  refine w_puts hC hh hT hG (by omega) (by omega) 1 42 (by decide +kernel) rfl rfl hs hsn 12 (by decide) (by decide) rfl (rm_hI (a := 0) (b := 64) rfl (by decide) (by decide)) (Nat.le_of_ble_eq_true rfl) hcs (fun f H locs hh hT hL hP => ?_)
  have hst := rm_st_1 hst hL hG hsn
  refine rv_run hC.1 hC.2.1 (T := rv_t_X12_falls) rv_k_X12_falls 80 ?_
  refine w_puts hC hh hT hG (by omega) (by omega) 1 42 (by decide +kernel) rfl rfl hs hsn 11 (by decide) (by decide) rfl (rm_hI (a := 0) (b := 1) rfl (by decide) (by decide)) (Nat.le_of_ble_eq_true rfl) hcs (fun f H locs hh hT hL hP => ?_)
  have hst := rm_st_1 hst hL hG hsn
  refine rv_run hC.1 hC.2.1 (T := rv_t_X12_falls) rv_k_X12_falls 80 ?_
  refine w_at hC hh hT hG (by omega) (by omega) 36 (by decide +kernel) rfl rfl hs hsn 13 (by decide) (by decide) (Nat.le_of_ble_eq_true rfl) hcs (fun y H locs hh hy => ?_)
  have ey : y.toInt = C := by rw [hy]; exact hst.2.2.2.2.1
  refine rv_run hC.1 hC.2.1 (T := rv_t_X12_falls) rv_k_X12_falls 2 ?_
  refine ⟨fun h => ?_, fun h => ?_⟩
  · have h : ¬ y.toInt = 1 := h
    have hC0 : C = 0 := by omega
    have e1 : B = B + C := by omega
    rw [e1] at hst
    exact t63 f H locs hh hT hst
  · have h : y.toInt = 1 := h
    refine rv_run hC.1 hC.2.1 (T := rv_t_X12_falls) rv_k_X12_falls 80 ?_
    refine w_h hC hh hT hG (by omega) (by omega) 59 (by decide +kernel) rfl (h_buffers base l cI c1 c2 c3 c4 c5 D ad adV a0 s _ sn hs hsn B 0 C T O (by omega) (by decide)) ⟨hG, hst.2.2⟩ rfl rfl (Nat.le_of_ble_eq_true rfl) hcs (fun v f H locs hh hT hL hP => ?_)
    rw [Int.add_zero] at hT
    obtain ⟨rfl, hP⟩ := hP
    have hst := rm_st_c hst hP
    have e1 : B + 1 = B + C := by omega
    rw [e1] at hst
    exact t63 f H locs hh hT hst
theorem h_settles (a0 : Nat) (s : Int32) (sn : Nat) (hs : s.toInt = (sn : Int)) (hsn : sn < 40) (B S C T O : Int) (hr1 : rm_R1 B S C) : rm_Hm base l cI c1 c2 c3 c4 c5 D ad adV rk_q_X12_settles [.ref a0, .int s] (fun G _ f => G a0 = some 12 ∧ rm_so G f a0 sn B S C T O) (fun G _ f v u => v = none ∧ ∃ B1 S1 C1 T1 : Int, rm_st G f u a0 sn B1 S1 C1 T1 O ∧ rm_R1 B1 S1 C1 ∧ rm_R2 T1 O ∧ B1 + C1 ≤ B + C) 2 3 := by
  unfold rm_Hm
  refine rm_start (M := rk_q_X12_settles) (rk_hNw base ad adV) (rk_hNc base ad adV) (by decide +kernel) (mt := rk_mt [rk_q_X12_at, rk_q_X12_becomes, rk_q_X12_falls, rk_q_X12_isLive, rk_q_X12_puts]) (ml := rk_mlf [(36, 0, 3, 12), (73, 1, 3, 12), (88, 2, 3, 12), (85, 3, 2, 12), (42, 4, 4, 12)]) (fl := rk_flf rk_ftX12) (fun s args h hN => rk_MlOk_of (List.forall_mem_cons.mpr ⟨rk_mck_ok (fun w hw => List.mem_cons_of_mem _ hw) h hN rk_cm_X12_at rk_lk_X12_36, List.forall_mem_cons.mpr ⟨rk_mck_ok (fun w hw => List.mem_cons_of_mem _ hw) h hN rk_cm_X12_becomes rk_lk_X12_73, List.forall_mem_cons.mpr ⟨rk_mck_ok (fun w hw => List.mem_cons_of_mem _ hw) h hN rk_cm_X12_falls rk_lk_X12_88, List.forall_mem_cons.mpr ⟨rk_mck_ok (fun w hw => List.mem_cons_of_mem _ hw) h hN rk_cm_X12_isLive rk_lk_X12_85, List.forall_mem_cons.mpr ⟨rk_mck_ok (fun w hw => List.mem_cons_of_mem _ hw) h hN rk_cm_X12_puts rk_lk_X12_42, fun _ h => absurd h List.not_mem_nil⟩⟩⟩⟩⟩) (by decide +kernel)) (fun s args h hN => rk_flX12 (fun w hw => List.mem_cons_of_mem _ hw) h hN) (rm_cat1 rfl) (Nat.le_of_ble_eq_true rfl) ?_
  intro p e st m below meth c G X L f0 A hC hh hX0 hXC hT hpre
  have hcs : 0 ≤ 0 ∧ 0 ≤ 0 := ⟨Nat.le_refl 0, Nat.le_refl 0⟩
  obtain ⟨hG, hso⟩ := hpre
  have hst := rm_st_rf hso
  obtain ⟨hb1, hb2, hb3, hb4, hb5⟩ := rm_so_b hT hG hsn hso
  have hBC : B + C ≤ 25 := by unfold rm_R1 at hr1; omega
  -- what the end wants
  have fin : ∀ (f : Nat → va_E) (B1 S1 C1 T1 : Int), rm_st G f0 f a0 sn B1 S1 C1 T1 O → rm_R1 B1 S1 C1 → rm_R2 T1 O → B1 + C1 ≤ B + C → rm_TY cI c1 c2 c3 c4 c5 ad G (X + 2) L f → rm_TY cI c1 c2 c3 c4 c5 ad G (X + 2) L f ∧ rm_Lv G 3 f0 f ∧ (none : Option Value) = none ∧ ∃ B1 S1 C1 T1 : Int, rm_st G f0 f a0 sn B1 S1 C1 T1 O ∧ rm_R1 B1 S1 C1 ∧ rm_R2 T1 O ∧ B1 + C1 ≤ B + C := fun f B1 S1 C1 T1 h1 h2 h3 h4 h5 => ⟨h5, rm_st_3 h1 hG hso (fun _ _ => ⟨h2, h3⟩) h4 hsn, rfl, B1, S1, C1, T1, h1, h2, h3, h4⟩
  -- it goes off
  have t57 : ∀ (k : Int32) (f : Nat → va_E) (H : Heap) (locs : List Loc), rm_h D A st L f H locs → rm_TY cI c1 c2 c3 c4 c5 ad G X L f → rm_st G f0 f a0 sn B S C T O → rv_G p l e { frames := rk_q_X12_settles.2.2.2.2.1, cells := 0, slots := 0, locals := rk_q_X12_settles.2.2.2.2.2 } st m ([.ref a0, .int s] : List Value).toArray below meth c (MQ below (rk_Q (fun v u => rm_TY cI c1 c2 c3 c4 c5 ad G (X + 2) L u ∧ rm_Lv G 3 f0 u ∧ (fun G _ f v u => v = none ∧ ∃ B1 S1 C1 T1 : Int, rm_st G f u a0 sn B1 S1 C1 T1 O ∧ rm_R1 B1 S1 C1 ∧ rm_R2 T1 O ∧ B1 + C1 ≤ B + C) G X f0 v u) (rk_B D (rk_tys cI c1 c2 c3 c4 c5) L A) A) ([.ref a0, .int s] : List Value).toArray st 0 0 A) rk_q_X12_settles.2.2.1 0 0 H locs 57 [] [(0, .ref a0), (1, .int s), (2, .int k)] := by
    intro k f H locs hh hT hst
    refine rv_run hC.1 hC.2.1 (T := rv_t_X12_settles) rv_k_X12_settles 80 ?_
    refine w_puts hC hh hT hG (by omega) (by omega) 1 42 (by decide +kernel) rfl rfl hs hsn 10 (by decide) (by decide) rfl (rm_hI (a := 0) (b := 324) rfl (by decide) (by decide)) (Nat.le_of_ble_eq_true rfl) hcs (fun f H locs hh hT hL hP => ?_)
    have hst := rm_st_1 hst hL hG hsn
    refine rv_run hC.1 hC.2.1 (T := rv_t_X12_settles) rv_k_X12_settles 80 ?_
    refine w_ki hC hh hT hG (by omega) (by omega) 85 (by decide +kernel) rfl (c_X12_isLive base l cI c1 c2 c3 c4 c5 D ad adV) (rk_all_c (rk_aM hG) (rk_all_c (rk_aI (by omega)) rk_all_0)) rfl rfl (Nat.le_of_ble_eq_true rfl) hcs (fun y f H locs hh hT hL hy => ?_)
    rw [Int.add_zero] at hT
    have hst := rm_st_1 hst (rm_lv_up hL rfl) hG hsn
    refine rv_run hC.1 hC.2.1 (T := rv_t_X12_settles) rv_k_X12_settles 1 ?_
    refine ⟨fun h => ?_, fun h => ?_⟩
    · refine rv_run hC.1 hC.2.1 (T := rv_t_X12_settles) rv_k_X12_settles 80 ?_
      refine w_h hC hh hT hG (by omega) (by omega) 73 (by decide +kernel) rfl (h_becomes base l cI c1 c2 c3 c4 c5 D ad adV a0 s _ sn hs hsn B S C T O (by decide)) ⟨hG, hst.2.2⟩ rfl rfl (Nat.le_of_ble_eq_true rfl) hcs (fun v f H locs hh hT hL hP => ?_)
      obtain ⟨rfl, hP⟩ := hP
      have hst := rm_st_c hst hP
      refine rv_run hC.1 hC.2.1 (T := rv_t_X12_settles) rv_k_X12_settles 80 ?_
      refine rm_vret hC hh (by decide +kernel) rfl (fin f B S C _ hst hr1 (fun h => absurd h (by decide)) (Int.le_refl _) (rk_TY_X (by omega) hT))
    · refine rv_run hC.1 hC.2.1 (T := rv_t_X12_settles) rv_k_X12_settles 80 ?_
      refine w_h hC hh hT hG (by omega) (by omega) 88 (by decide +kernel) rfl (h_falls base l cI c1 c2 c3 c4 c5 D ad adV a0 s _ sn hs hsn B S C T O (by decide) hr1) ⟨hG, hst.2.2⟩ rfl rfl (Nat.le_of_ble_eq_true rfl) hcs (fun v f H locs hh hT hL hP => ?_)
      obtain ⟨rfl, hP⟩ := hP
      have hst := rm_st_c hst hP
      refine rv_run hC.1 hC.2.1 (T := rv_t_X12_settles) rv_k_X12_settles 80 ?_
      refine rm_vret hC hh (by decide +kernel) rfl (fin f (B + C) 0 0 _ hst (Or.inl ⟨rfl, by omega⟩) (fun h => absurd h (by decide)) (by omega) hT)
  -- behind the first
  have t43 : ∀ (k : Int32) (T1 : Int) (f : Nat → va_E) (H : Heap) (locs : List Loc), rm_h D A st L f H locs → rm_TY cI c1 c2 c3 c4 c5 ad G (X + 1) L f → rm_st G f0 f a0 sn B S C T1 O → rm_R2 T1 O → ¬ k.toInt = 0 → rv_G p l e { frames := rk_q_X12_settles.2.2.2.2.1, cells := 0, slots := 0, locals := rk_q_X12_settles.2.2.2.2.2 } st m ([.ref a0, .int s] : List Value).toArray below meth c (MQ below (rk_Q (fun v u => rm_TY cI c1 c2 c3 c4 c5 ad G (X + 2) L u ∧ rm_Lv G 3 f0 u ∧ (fun G _ f v u => v = none ∧ ∃ B1 S1 C1 T1 : Int, rm_st G f u a0 sn B1 S1 C1 T1 O ∧ rm_R1 B1 S1 C1 ∧ rm_R2 T1 O ∧ B1 + C1 ≤ B + C) G X f0 v u) (rk_B D (rk_tys cI c1 c2 c3 c4 c5) L A) A) ([.ref a0, .int s] : List Value).toArray st 0 0 A) rk_q_X12_settles.2.2.1 0 0 H locs 43 [] [(0, .ref a0), (1, .int s), (2, .int k)] := by
    intro k T1 f H locs hh hT hst h2 hk
    refine rv_run hC.1 hC.2.1 (T := rv_t_X12_settles) rv_k_X12_settles 2 ?_
    refine ⟨fun h => ?_, fun h => absurd h (by show ¬ k.toInt = 0; exact hk)⟩
    refine rm_vret hC hh (by decide +kernel) rfl (fin f B S C T1 hst hr1 h2 (Int.le_refl _) (rk_TY_X (by omega) hT))
  have t23 : ∀ (k : Int32) (f : Nat → va_E) (H : Heap) (locs : List Loc), rm_h D A st L f H locs → rm_TY cI c1 c2 c3 c4 c5 ad G X L f → rm_st G f0 f a0 sn B S C T O → ((¬ k.toInt = 0 ∧ 1 ≤ O) ∨ k.toInt = 0) → rv_G p l e { frames := rk_q_X12_settles.2.2.2.2.1, cells := 0, slots := 0, locals := rk_q_X12_settles.2.2.2.2.2 } st m ([.ref a0, .int s] : List Value).toArray below meth c (MQ below (rk_Q (fun v u => rm_TY cI c1 c2 c3 c4 c5 ad G (X + 2) L u ∧ rm_Lv G 3 f0 u ∧ (fun G _ f v u => v = none ∧ ∃ B1 S1 C1 T1 : Int, rm_st G f u a0 sn B1 S1 C1 T1 O ∧ rm_R1 B1 S1 C1 ∧ rm_R2 T1 O ∧ B1 + C1 ≤ B + C) G X f0 v u) (rk_B D (rk_tys cI c1 c2 c3 c4 c5) L A) A) ([.ref a0, .int s] : List Value).toArray st 0 0 A) rk_q_X12_settles.2.2.1 0 0 H locs 24 [] [(0, .ref a0), (1, .int s), (2, .int k)] := by
    intro k f H locs hh hT hst hk
    refine rv_run hC.1 hC.2.1 (T := rv_t_X12_settles) rv_k_X12_settles 2 ?_
    refine ⟨fun h => ?_, fun h => ?_⟩
    · have h : k.toInt = 0 := h
      refine rv_run hC.1 hC.2.1 (T := rv_t_X12_settles) rv_k_X12_settles 2 ?_
      refine ⟨fun h9 => absurd h h9, fun _ => ?_⟩
      refine rv_run hC.1 hC.2.1 (T := rv_t_X12_settles) rv_k_X12_settles 80 ?_
      refine w_at hC hh hT hG (by omega) (by omega) 36 (by decide +kernel) rfl rfl hs hsn 3 (by decide) (by decide) (Nat.le_of_ble_eq_true rfl) hcs (fun y H locs hh hy => ?_)
      have ey : y.toInt = T := by rw [hy]; exact hst.2.2.2.2.2.1
      refine rv_run hC.1 hC.2.1 (T := rv_t_X12_settles) rv_k_X12_settles 1 ?_
      refine ⟨fun h => t57 k f H locs hh hT hst, fun h => ?_⟩
      have h0 : y.toInt = 0 := h
      refine rm_vret hC hh (by decide +kernel) rfl (fin f B S C T hst hr1 (fun h9 => by omega) (Int.le_refl _) (rk_TY_X (by omega) hT))
    · have h : ¬ k.toInt = 0 := h
      have hO : 1 ≤ O := by omega
      refine rv_run hC.1 hC.2.1 (T := rv_t_X12_settles) rv_k_X12_settles 80 ?_
      refine w_at hC hh hT hG (by omega) (by omega) 36 (by decide +kernel) rfl rfl hs hsn 3 (by decide) (by decide) (Nat.le_of_ble_eq_true rfl) hcs (fun y H locs hh hy => ?_)
      have ey : y.toInt = T := by rw [hy]; exact hst.2.2.2.2.2.1
      refine rv_run hC.1 hC.2.1 (T := rv_t_X12_settles) rv_k_X12_settles 1 ?_
      refine ⟨fun h9 => t43 k T f H locs hh (rk_TY_X (by omega) hT) hst (fun _ => hO) h, fun h9 => ?_⟩
      refine rv_run hC.1 hC.2.1 (T := rv_t_X12_settles) rv_k_X12_settles 80 ?_
      refine w_h hC hh hT hG (by omega) (by omega) 73 (by decide +kernel) rfl (h_becomes base l cI c1 c2 c3 c4 c5 D ad adV a0 s _ sn hs hsn B S C T O (by decide)) ⟨hG, hst.2.2⟩ rfl rfl (Nat.le_of_ble_eq_true rfl) hcs (fun v f H locs hh hT hL hP => ?_)
      obtain ⟨rfl, hP⟩ := hP
      exact t43 k _ f H locs hh hT (rm_st_c hst hP) (fun _ => hO) h
  refine rv_run hC.1 hC.2.1 (T := rv_t_X12_settles) rv_k_X12_settles 80 ?_
  refine w_at hC hh hT hG (by omega) (by omega) 36 (by decide +kernel) rfl rfl hs hsn 0 (by decide) (by decide) (Nat.le_of_ble_eq_true rfl) hcs (fun y H locs hh hy => ?_)
  have ey : y.toInt = O := by rw [hy]; exact hst.2.2.2.2.2.2
  refine rv_run hC.1 hC.2.1 (T := rv_t_X12_settles) rv_k_X12_settles 1 ?_
  refine ⟨fun h => ?_, fun h => ?_⟩
  · refine rv_run hC.1 hC.2.1 (T := rv_t_X12_settles) rv_k_X12_settles 2 ?_
    exact t23 _ f0 H locs hh hT hst (Or.inr rfl)
  · have h : 0 < y.toInt := h
    refine rv_run hC.1 hC.2.1 (T := rv_t_X12_settles) rv_k_X12_settles 80 ?_
    refine w_at hC hh hT hG (by omega) (by omega) 36 (by decide +kernel) rfl rfl hs hsn 2 (by decide) (by decide) (Nat.le_of_ble_eq_true rfl) hcs (fun z H locs hh hz => ?_)
    refine rv_run hC.1 hC.2.1 (T := rv_t_X12_settles) rv_k_X12_settles 1 ?_
    refine ⟨fun h => ?_, fun h => ?_⟩
    · refine rv_run hC.1 hC.2.1 (T := rv_t_X12_settles) rv_k_X12_settles 2 ?_
      exact t23 _ f0 H locs hh hT hst (Or.inr rfl)
    · refine rv_run hC.1 hC.2.1 (T := rv_t_X12_settles) rv_k_X12_settles 3 ?_
      exact t23 _ f0 H locs hh hT hst (Or.inl ⟨by decide, by omega⟩)
end RMX
