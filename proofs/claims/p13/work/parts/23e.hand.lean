theorem rm_sE_3 {G : Nat → Option Nat} {f u : Nat → va_E} {a0 : Nat} (hL : rm_Lv G 15 f u) (hE : rm_sE G f u a0) (hG : G a0 = some 12) : rm_Lv G 3 f u := by
  refine rm_fin3 hL (rm_two hG (fun hi => ?_))
  obtain ⟨i2, i3⟩ := rm_inv_AI (rm_lvb hL (by decide) rfl : rm_Rb 8 G f u) hG hi
  refine ⟨⟨fun s hs => rm_iS_eq (fun w hw => hE s hs w hw) (hi.1 s hs), i2, i3⟩, fun s hs => ?_⟩
  unfold rm_phi
  rw [hE s hs 20 rfl, hE s hs 13 rfl]
  exact Int.le_refl _
def rv_t_X12_nextData : rv_T := (.branch 0 (.branch 0 (.branch 0 (.branch 0 (.branch 0 (.branch 0 (.leaf (0, .iload_n 1, 1)) (.leaf (32, .aload_n 0, 1))) (.branch 0 (.branch 0 (.leaf (16, .ifCond .le (14), 3)) (.leaf (80, .invokevirtual 159, 3))) (.branch 0 (.leaf (48, .invokevirtual 42, 3)) (.leaf (112, .iconst 0, 1))))) (.branch 0 (.branch 0 (.leaf (8, .bipush (32), 2)) (.branch 0 (.leaf (40, .if_icmp .ne (15), 3)) (.leaf (104, .iconst 0, 1)))) (.branch 0 (.branch 0 (.leaf (24, .invokevirtual 76, 3)) (.leaf (88, .iconst (-1), 1))) (.branch 0 (.leaf (56, .iload_n 1, 1)) (.leaf (120, .iconst 0, 1)))))) (.branch 0 (.branch 0 (.branch 0 (.leaf (68, .bipush (20), 2)) (.branch 0 (.leaf (36, .invokevirtual 36, 3)) (.leaf (100, .aload_n 0, 1)))) (.branch 0 (.branch 0 (.leaf (20, .iload_n 1, 1)) (.leaf (84, .aload_n 0, 1))) (.leaf (116, .aload_n 0, 1)))) (.branch 0 (.branch 0 (.leaf (76, .iconst (-1), 1)) (.branch 0 (.leaf (44, .iload_n 1, 1)) (.leaf (108, .aload_n 0, 1)))) (.branch 0 (.leaf (92, .aload_n 0, 1)) (.branch 0 (.leaf (60, .istore_n 2, 1)) (.leaf (124, .iload_n 3, 1))))))) (.branch 0 (.branch 0 (.branch 0 (.branch 0 (.leaf (66, .aload_n 0, 1)) (.leaf (34, .bipush (11), 2))) (.leaf (99999, .nop, 1))) (.leaf (10, .isub, 1))) (.branch 0 (.branch 0 (.branch 0 (.branch 0 (.leaf (6, .aload_n 0, 1)) (.leaf (70, .invokevirtual 36, 3))) (.leaf (102, .bipush (21), 2))) (.branch 0 (.leaf (86, .bipush (23), 2)) (.branch 0 (.leaf (54, .ireturn, 1)) (.leaf (118, .bipush (23), 2))))) (.branch 0 (.branch 0 (.leaf (78, .aload_n 0, 1)) (.leaf (110, .bipush (22), 2))) (.branch 0 (.branch 0 (.leaf (30, .iconst (-1), 1)) (.leaf (94, .invokevirtual 79, 3))) (.leaf (62, .iconst (-1), 1))))))) (.branch 0 (.branch 0 (.branch 0 (.branch 0 (.branch 0 (.leaf (1, .bipush (32), 2)) (.branch 0 (.leaf (33, .iload_n 1, 1)) (.leaf (97, .ifCond .eq (27), 3)))) (.leaf (113, .invokevirtual 42, 3))) (.branch 0 (.branch 0 (.leaf (73, .ifCond .ne (5), 3)) (.leaf (105, .invokevirtual 42, 3))) (.branch 0 (.leaf (89, .invokevirtual 42, 3)) (.branch 0 (.leaf (57, .invokevirtual 62, 3)) (.leaf (121, .invokevirtual 42, 3)))))) (.branch 0 (.branch 0 (.leaf (101, .iload_n 2, 1)) (.branch 0 (.branch 0 (.leaf (21, .bipush (32), 2)) (.leaf (85, .iload_n 2, 1))) (.leaf (117, .iload_n 2, 1)))) (.branch 0 (.branch 0 (.branch 0 (.leaf (13, .invokevirtual 50, 3)) (.leaf (77, .ireturn, 1))) (.branch 0 (.leaf (45, .bipush (11), 2)) (.leaf (109, .iload_n 2, 1)))) (.branch 0 (.leaf (93, .iload_n 3, 1)) (.branch 0 (.leaf (61, .iload_n 2, 1)) (.leaf (125, .ireturn, 1))))))) (.branch 0 (.branch 0 (.branch 0 (.branch 0 (.branch 0 (.leaf (3, .if_icmp .lt (29), 3)) (.leaf (67, .iload_n 2, 1))) (.leaf (99999, .nop, 1))) (.branch 0 (.branch 0 (.leaf (19, .aload_n 0, 1)) (.leaf (83, .istore_n 3, 1))) (.leaf (51, .sipush (257), 3)))) (.branch 0 (.branch 0 (.leaf (11, .bipush (8), 2)) (.leaf (43, .aload_n 0, 1))) (.leaf (27, .goto (4), 3)))) (.branch 0 (.branch 0 (.branch 0 (.leaf (7, .iload_n 1, 1)) (.leaf (39, .iconst 1, 1))) (.branch 0 (.leaf (23, .isub, 1)) (.leaf (55, .aload_n 0, 1)))) (.branch 0 (.branch 0 (.leaf (79, .iload_n 2, 1)) (.leaf (47, .iconst 0, 1))) (.branch 0 (.leaf (31, .ireturn, 1)) (.leaf (63, .if_icmp .eq (13), 3))))))))
theorem rv_k_X12_nextData : rv_tok cX12_nextData rv_t_X12_nextData = true := by decide +kernel
section RMX
variable (base : Nat) (l : Launch) (cI c1 c2 c3 c4 c5 : ClassId) (D : va_G) (ad adV : Nat → Nat)
theorem h_nextData (a0 : Nat) (s : Int32) (sn : Nat) (hs : s.toInt = (sn : Int)) (hsn : sn < 40) : rm_Hm base l cI c1 c2 c3 c4 c5 D ad adV rk_q_X12_nextData [.ref a0, .int s] (fun G _ f => G a0 = some 12 ∧ rm_one G ∧ rm_INV G f a0) (fun G _ f v u => ∃ x : Int32, v = some (.int x) ∧ -1 ≤ x.toInt ∧ x.toInt ≤ 257) 0 3 := by
  unfold rm_Hm
  refine rm_start (M := rk_q_X12_nextData) (rk_hNw base ad adV) (rk_hNc base ad adV) (by decide +kernel) (mt := rk_mt [rk_q_X12_at, rk_q_X12_isMark, rk_q_X12_ofEnd, rk_q_X12_puts, rk_q_X12_routedTo, rk_q_X12_takes, rk_q_X12_takesQueue]) (ml := rk_mlf [(36, 0, 3, 12), (79, 1, 2, 12), (50, 2, 3, 12), (42, 3, 4, 12), (62, 4, 2, 12), (159, 5, 2, 12), (76, 6, 2, 12)]) (fl := rk_flf rk_ftX12) (fun s args h hN => rk_MlOk_of (List.forall_mem_cons.mpr ⟨rk_mck_ok (fun w hw => List.mem_cons_of_mem _ hw) h hN rk_cm_X12_at rk_lk_X12_36, List.forall_mem_cons.mpr ⟨rk_mck_ok (fun w hw => List.mem_cons_of_mem _ hw) h hN rk_cm_X12_isMark rk_lk_X12_79, List.forall_mem_cons.mpr ⟨rk_mck_ok (fun w hw => List.mem_cons_of_mem _ hw) h hN rk_cm_X12_ofEnd rk_lk_X12_50, List.forall_mem_cons.mpr ⟨rk_mck_ok (fun w hw => List.mem_cons_of_mem _ hw) h hN rk_cm_X12_puts rk_lk_X12_42, List.forall_mem_cons.mpr ⟨rk_mck_ok (fun w hw => List.mem_cons_of_mem _ hw) h hN rk_cm_X12_routedTo rk_lk_X12_62, List.forall_mem_cons.mpr ⟨rk_mck_ok (fun w hw => List.mem_cons_of_mem _ hw) h hN rk_cm_X12_takes rk_lk_X12_159, List.forall_mem_cons.mpr ⟨rk_mck_ok (fun w hw => List.mem_cons_of_mem _ hw) h hN rk_cm_X12_takesQueue rk_lk_X12_76, fun _ h => absurd h List.not_mem_nil⟩⟩⟩⟩⟩⟩⟩) (by decide +kernel)) (fun s args h hN => rk_flX12 (fun w hw => List.mem_cons_of_mem _ hw) h hN) (rm_cat1 rfl) (Nat.le_of_ble_eq_true rfl) ?_
  intro p e st m below meth c G X L f0 A hC hh hX0 hXC hT hpre
  have hcs : 0 ≤ 0 ∧ 0 ≤ 0 := ⟨Nat.le_refl 0, Nat.le_refl 0⟩
  obtain ⟨hG, h1, hI⟩ := hpre
  have hLt := rm_lv_rf (G := G) (f := f0) 3
  refine rv_run hC.1 hC.2.1 (T := rv_t_X12_nextData) rv_k_X12_nextData 3 ?_
  refine ⟨fun h => ?_, fun h => ?_⟩
  · have h32 : s.toInt < 32 := h
    refine rv_run hC.1 hC.2.1 (T := rv_t_X12_nextData) rv_k_X12_nextData 80 ?_
    refine w_at hC hh hT hG (by omega) (by omega) 36 (by decide +kernel) rfl rfl hs hsn 11 (by decide) (by decide) (Nat.le_of_ble_eq_true rfl) hcs (fun y H locs hh hy => ?_)
    refine rv_run hC.1 hC.2.1 (T := rv_t_X12_nextData) rv_k_X12_nextData 2 ?_
    refine ⟨fun _ => ?_, fun _ => ?_⟩
    · refine rv_run hC.1 hC.2.1 (T := rv_t_X12_nextData) rv_k_X12_nextData 80 ?_
      refine w_h hC hh hT hG (by omega) (by omega) 62 (by decide +kernel) rfl (h_routedTo base l cI c1 c2 c3 c4 c5 D ad adV a0 s sn hs hsn) hG rfl rfl (Nat.le_of_ble_eq_true rfl) hcs (fun v f1 H locs hh1 hT1 hL hP => ?_)
      obtain ⟨⟨rr, rfl, hr⟩, hu⟩ := hP
      subst hu
      have hh := hh1
      have hT := hT1
      clear hh1 hT1 hL
      rw [Int.add_zero] at hT
      refine rv_run hC.1 hC.2.1 (T := rv_t_X12_nextData) rv_k_X12_nextData 4 ?_
      refine ⟨fun _ => ?_, fun h => ?_⟩
      · refine rv_run hC.1 hC.2.1 (T := rv_t_X12_nextData) rv_k_X12_nextData 1 ?_
        refine rm_iret hC hh (by decide +kernel) rfl ⟨by rw [Int.add_zero]; exact hT, hLt, ⟨_, rfl, by decide, by decide⟩⟩
      · have hr1 : ¬ rr.toInt = -1 := h
        have hr2 : 0 ≤ rr.toInt ∧ rr.toInt < 40 := by
          rcases hr with ⟨h9, -⟩ | ⟨p9, g1, g2, g3, g4⟩
          · exact absurd h9 hr1
          · omega
        obtain ⟨rn, hrn⟩ : ∃ n : Nat, rr.toInt = (n : Int) := ⟨rr.toInt.toNat, by omega⟩
        have hr40 : rn < 40 := by omega
        refine rv_run hC.1 hC.2.1 (T := rv_t_X12_nextData) rv_k_X12_nextData 80 ?_
        refine w_at hC hh hT hG (by omega) (by omega) 36 (by decide +kernel) rfl rfl hrn hr40 20 (by decide) (by decide) (Nat.le_of_ble_eq_true rfl) hcs (fun z H locs hh hz => ?_)
        have ez : z.toInt = rm_sc (rm_now G f1 a0) rn 20 := by rw [hz]; rfl
        have hso := rm_so_of G f1 a0 rn
        obtain ⟨hb1, -⟩ := rm_so_b hT hG hr40 hso
        refine rv_run hC.1 hC.2.1 (T := rv_t_X12_nextData) rv_k_X12_nextData 1 ?_
        refine ⟨fun h => ?_, fun _ => ?_⟩
        · have hz0 : ¬ z.toInt = 0 := h
          refine rv_run hC.1 hC.2.1 (T := rv_t_X12_nextData) rv_k_X12_nextData 80 ?_
          refine w_h hC hh hT hG (by omega) (by omega) 159 (by decide +kernel) rfl (h_takes base l cI c1 c2 c3 c4 c5 D ad adV a0 rr rn hrn hr40 _ _ _ _ _ (by omega)) ⟨hG, hso⟩ rfl rfl (Nat.le_of_ble_eq_true rfl) hcs (fun v f H locs hh hT hL hP => ?_)
          rw [Int.add_zero] at hT
          obtain ⟨⟨c9, rfl, hc⟩, hst⟩ := hP
          have hL3 := rm_st_3 hst hG hso (fun r1 r2 => ⟨by unfold rm_R1 at r1 ⊢; omega, r2⟩) (by omega) hr40
          have hLt := rm_lv_tr (k := 3) hLt hL3 rfl rfl
          have hI := rm_I3 hL3 h1 hG hI
          refine rv_run hC.1 hC.2.1 (T := rv_t_X12_nextData) rv_k_X12_nextData 80 ?_
          refine w_puts hC hh hT hG (by omega) (by omega) 1 42 (by decide +kernel) rfl rfl hrn hr40 23 (by decide) (by decide) rfl (rm_hF rfl) (Nat.le_of_ble_eq_true rfl) hcs (fun f H locs hh hT hL hP => ?_)
          have hLt := rm_lv_tr (k := 3) hLt hL rfl rfl
          have hI := rm_I1 hL hG hI
          refine rv_run hC.1 hC.2.1 (T := rv_t_X12_nextData) rv_k_X12_nextData 80 ?_
          refine w_k hC hh hT hG (by omega) (by omega) 79 (by decide +kernel) rfl (c_X12_isMark base l cI c1 c2 c3 c4 c5 D ad adV) (rk_all_c (rk_aM hG) (rk_all_c rk_aF rk_all_0)) rfl rfl (Nat.le_of_ble_eq_true rfl) hcs (fun v f H locs hh hT hL hA => ?_)
          rw [Int.add_zero] at hT
          have hLt := rm_lv_tr (k := 3) hLt hL rfl rfl
          obtain ⟨x, rfl⟩ := rk_alt_i hA rfl
          have r124 : ∀ (f : Nat → va_E) (H : Heap) (locs : List Loc), rm_h D A st L f H locs → rm_TY cI c1 c2 c3 c4 c5 ad G X L f → rm_Lv G 3 f1 f → rv_G p l e { frames := rk_q_X12_nextData.2.2.2.2.1, cells := 0, slots := 0, locals := rk_q_X12_nextData.2.2.2.2.2 } st m ([.ref a0, .int s] : List Value).toArray below meth c (MQ below (rk_Q (fun v u => rm_TY cI c1 c2 c3 c4 c5 ad G (X + 0) L u ∧ rm_Lv G 3 f1 u ∧ (fun G _ f v u => ∃ x : Int32, v = some (.int x) ∧ -1 ≤ x.toInt ∧ x.toInt ≤ 257) G X f1 v u) (rk_B D (rk_tys cI c1 c2 c3 c4 c5) L A) A) ([.ref a0, .int s] : List Value).toArray st 0 0 A) rk_q_X12_nextData.2.2.1 0 0 H locs 124 [] [(0, .ref a0), (1, .int s), (2, .int rr), (3, .int c9)] := by
            intro f H locs hh hT hL
            refine rv_run hC.1 hC.2.1 (T := rv_t_X12_nextData) rv_k_X12_nextData 1 ?_
            refine rm_iret hC hh (by decide +kernel) rfl ⟨by rw [Int.add_zero]; exact hT, hL, ⟨c9, rfl, by omega, by omega⟩⟩
          refine rv_run hC.1 hC.2.1 (T := rv_t_X12_nextData) rv_k_X12_nextData 1 ?_
          refine ⟨fun _ => r124 f H locs hh hT hLt, fun _ => ?_⟩
          refine rv_run hC.1 hC.2.1 (T := rv_t_X12_nextData) rv_k_X12_nextData 80 ?_
          refine w_puts hC hh hT hG (by omega) (by omega) 1 42 (by decide +kernel) rfl rfl hrn hr40 21 (by decide) (by decide) rfl (rm_hI (a := 0) (b := 2) rfl (by decide) (by decide)) (Nat.le_of_ble_eq_true rfl) hcs (fun f H locs hh hT hL hP => ?_)
          have hLt := rm_lv_tr (k := 3) hLt hL rfl rfl
          refine rv_run hC.1 hC.2.1 (T := rv_t_X12_nextData) rv_k_X12_nextData 80 ?_
          refine w_puts hC hh hT hG (by omega) (by omega) 1 42 (by decide +kernel) rfl rfl hrn hr40 22 (by decide) (by decide) rfl (rm_hI (a := 0) (b := 31) rfl (by decide) (by decide)) (Nat.le_of_ble_eq_true rfl) hcs (fun f H locs hh hT hL hP => ?_)
          have hLt := rm_lv_tr (k := 3) hLt hL rfl rfl
          refine rv_run hC.1 hC.2.1 (T := rv_t_X12_nextData) rv_k_X12_nextData 80 ?_
          refine w_puts hC hh hT hG (by omega) (by omega) 1 42 (by decide +kernel) rfl rfl hrn hr40 23 (by decide) (by decide) rfl (rm_hF rfl) (Nat.le_of_ble_eq_true rfl) hcs (fun f H locs hh hT hL hP => ?_)
          have hLt := rm_lv_tr (k := 3) hLt hL rfl rfl
          exact r124 f H locs hh hT hLt
        · refine rv_run hC.1 hC.2.1 (T := rv_t_X12_nextData) rv_k_X12_nextData 1 ?_
          refine rm_iret hC hh (by decide +kernel) rfl ⟨by rw [Int.add_zero]; exact hT, hLt, ⟨_, rfl, by decide, by decide⟩⟩
    · refine rv_run hC.1 hC.2.1 (T := rv_t_X12_nextData) rv_k_X12_nextData 80 ?_
      refine w_puts hC hh hT hG (by omega) (by omega) 1 42 (by decide +kernel) rfl rfl hs hsn 11 (by decide) (by decide) rfl (rm_hI (a := 0) (b := 1) rfl (by decide) (by decide)) (Nat.le_of_ble_eq_true rfl) hcs (fun f H locs hh hT hL hP => ?_)
      have hLt := rm_lv_tr (k := 3) hLt hL rfl rfl
      have hI := rm_I1 hL hG hI
      refine rv_run hC.1 hC.2.1 (T := rv_t_X12_nextData) rv_k_X12_nextData 1 ?_
      refine rm_iret hC hh (by decide +kernel) rfl ⟨by rw [Int.add_zero]; exact hT, hLt, ⟨_, rfl, by decide, by decide⟩⟩
  · have h32 : 32 ≤ s.toInt := h
    have e8 := rm_su (x := s) (y := (Int8.ofInt 32).toInt32) hs (b := 32) rfl (by omega) (by decide)
    have e9 : (s - (Int8.ofInt 32).toInt32).toInt = ((sn - 32 : Nat) : Int) := by rw [e8]; omega
    refine rv_run hC.1 hC.2.1 (T := rv_t_X12_nextData) rv_k_X12_nextData 80 ?_
    refine w_ofEnd hC hh hT hG (by omega) (by omega) 50 (by decide +kernel) rfl rfl e9 (by omega) 8 (by decide) (by decide) (Nat.le_of_ble_eq_true rfl) hcs (fun y H locs hh hy => ?_)
    have ey : y.toInt = rm_ec (rm_now G f0 a0) (sn - 32) 8 := by rw [hy]; rfl
    refine rv_run hC.1 hC.2.1 (T := rv_t_X12_nextData) rv_k_X12_nextData 1 ?_
    refine ⟨fun _ => ?_, fun h => ?_⟩
    · refine rv_run hC.1 hC.2.1 (T := rv_t_X12_nextData) rv_k_X12_nextData 1 ?_
      refine rm_iret hC hh (by decide +kernel) rfl ⟨by rw [Int.add_zero]; exact hT, hLt, ⟨_, rfl, by decide, by decide⟩⟩
    · have hy0 : 0 < y.toInt := h
      refine rv_run hC.1 hC.2.1 (T := rv_t_X12_nextData) rv_k_X12_nextData 80 ?_
      refine w_h hC hh hT hG (by omega) (by omega) 76 (by decide +kernel) rfl (h_takesQueue base l cI c1 c2 c3 c4 c5 D ad adV a0 _ (sn - 32) e9 (by omega) _ (by omega)) ⟨hG, rfl⟩ rfl rfl (Nat.le_of_ble_eq_true rfl) hcs (fun v f H locs hh hT hL hP => ?_)
      rw [Int.add_zero] at hT
      obtain ⟨⟨c9, rfl, hc⟩, hq⟩ := hP
      refine rv_run hC.1 hC.2.1 (T := rv_t_X12_nextData) rv_k_X12_nextData 1 ?_
      refine rm_iret hC hh (by decide +kernel) rfl ⟨by rw [Int.add_zero]; exact hT, rm_sE_3 hq.1 hq.2.1 hG, ⟨c9, rfl, by omega, by omega⟩⟩
end RMX
