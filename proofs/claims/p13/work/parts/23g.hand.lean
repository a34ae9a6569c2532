def rv_t_X12_sends : rv_T := (.branch 0 (.branch 0 (.branch 0 (.branch 0 (.branch 0 (.branch 0 (.branch 0 (.leaf (0, .aload_n 0, 1)) (.leaf (64, .aload_n 0, 1))) (.leaf (32, .ireturn, 1))) (.leaf (16, .if_icmp .ne (17), 3))) (.branch 0 (.branch 0 (.branch 0 (.leaf (8, .iconst 3, 1)) (.leaf (72, .iconst 1, 1))) (.leaf (40, .invokevirtual 202, 3))) (.leaf (24, .ifCond .eq (9), 3)))) (.branch 0 (.branch 0 (.leaf (68, .sipush (6461), 3)) (.leaf (20, .iload_n 1, 1))) (.branch 0 (.branch 0 (.branch 0 (.leaf (12, .iconst (-1), 1)) (.leaf (76, .ireturn, 1))) (.leaf (99999, .nop, 1))) (.leaf (28, .iload_n 1, 1))))) (.branch 0 (.branch 0 (.branch 0 (.branch 0 (.leaf (2, .iconst 3, 1)) (.leaf (34, .iconst 5, 1))) (.leaf (50, .iload_n 3, 1))) (.branch 0 (.leaf (74, .iastore, 1)) (.leaf (58, .getfield 7, 3)))) (.branch 0 (.branch 0 (.branch 0 (.leaf (6, .istore_n 2, 1)) (.leaf (38, .aload_n 0, 1))) (.leaf (54, .if_icmp .ne (21), 3))) (.branch 0 (.branch 0 (.leaf (14, .iload_n 2, 1)) (.leaf (46, .sipush (258), 3))) (.leaf (99999, .nop, 1)))))) (.branch 0 (.branch 0 (.branch 0 (.branch 0 (.branch 0 (.branch 0 (.leaf (1, .iload_n 1, 1)) (.leaf (65, .getfield 7, 3))) (.leaf (33, .iload_n 2, 1))) (.leaf (49, .istore_n 3, 1))) (.branch 0 (.branch 0 (.branch 0 (.leaf (9, .if_icmp .ge (5), 3)) (.leaf (73, .iadd, 1))) (.leaf (99999, .nop, 1))) (.leaf (57, .aload_n 0, 1)))) (.branch 0 (.leaf (21, .invokevirtual 193, 3)) (.branch 0 (.leaf (13, .ireturn, 1)) (.branch 0 (.leaf (29, .invokevirtual 196, 3)) (.leaf (61, .sipush (6461), 3)))))) (.branch 0 (.branch 0 (.branch 0 (.branch 0 (.leaf (3, .invokevirtual 36, 3)) (.leaf (35, .if_icmp .ne (11), 3))) (.branch 0 (.leaf (19, .aload_n 0, 1)) (.leaf (51, .sipush (258), 3)))) (.branch 0 (.branch 0 (.leaf (75, .iload_n 3, 1)) (.leaf (43, .goto (6), 3))) (.leaf (27, .aload_n 0, 1)))) (.branch 0 (.branch 0 (.branch 0 (.branch 0 (.leaf (7, .iload_n 2, 1)) (.leaf (71, .iaload, 1))) (.leaf (39, .iload_n 1, 1))) (.leaf (99999, .nop, 1))) (.leaf (15, .iconst 4, 1))))))
theorem rv_k_X12_sends : rv_tok cX12_sends rv_t_X12_sends = true := by decide +kernel
section RMX
variable (base : Nat) (l : Launch) (cI c1 c2 c3 c4 c5 : ClassId) (D : va_G) (ad adV : Nat → Nat)
theorem h_sends (a0 : Nat) (s : Int32) (sn : Nat) (hs : s.toInt = (sn : Int)) (hsn : sn < 40) : rm_Hm base l cI c1 c2 c3 c4 c5 D ad adV rk_q_X12_sends [.ref a0, .int s] (fun G _ f => G a0 = some 12 ∧ rm_one G ∧ rm_INV G f a0) (fun G _ f v u => ∃ x : Int32, v = some (.int x) ∧ -1 ≤ x.toInt ∧ x.toInt ≤ 323) 0 3 := by
  unfold rm_Hm
  refine rm_start (M := rk_q_X12_sends) (rk_hNw base ad adV) (rk_hNc base ad adV) (by decide +kernel) (mt := rk_mt [rk_q_X12_at, rk_q_X12_maySell, rk_q_X12_sells, rk_q_X12_sendsInRun]) (ml := rk_mlf [(36, 0, 3, 12), (193, 1, 2, 12), (196, 2, 2, 12), (202, 3, 2, 12)]) (fl := rk_flf rk_ftX12) (fun s args h hN => rk_MlOk_of (List.forall_mem_cons.mpr ⟨rk_mck_ok (fun w hw => List.mem_cons_of_mem _ hw) h hN rk_cm_X12_at rk_lk_X12_36, List.forall_mem_cons.mpr ⟨rk_mck_ok (fun w hw => List.mem_cons_of_mem _ hw) h hN rk_cm_X12_maySell rk_lk_X12_193, List.forall_mem_cons.mpr ⟨rk_mck_ok (fun w hw => List.mem_cons_of_mem _ hw) h hN rk_cm_X12_sells rk_lk_X12_196, List.forall_mem_cons.mpr ⟨rk_mck_ok (fun w hw => List.mem_cons_of_mem _ hw) h hN rk_cm_X12_sendsInRun rk_lk_X12_202, fun _ h => absurd h List.not_mem_nil⟩⟩⟩⟩) (by decide +kernel)) (fun s args h hN => rk_flX12 (fun w hw => List.mem_cons_of_mem _ hw) h hN) (rm_cat1 rfl) (Nat.le_of_ble_eq_true rfl) ?_
  intro p e st m below meth c G X L f0 A hC hh hX0 hXC hT hpre
  have hcs : 0 ≤ 0 ∧ 0 ≤ 0 := ⟨Nat.le_refl 0, Nat.le_refl 0⟩
  obtain ⟨hG, h1, hI⟩ := hpre
  have hLt := rm_lv_rf (G := G) (f := f0) 3
  refine rv_run hC.1 hC.2.1 (T := rv_t_X12_sends) rv_k_X12_sends 80 ?_
  refine w_at hC hh hT hG (by omega) (by omega) 36 (by decide +kernel) rfl rfl hs hsn 3 (by decide) (by decide) (Nat.le_of_ble_eq_true rfl) hcs (fun y H locs hh hy => ?_)
  -- the end
  have t49 : ∀ (c9 : Int32) (f : Nat → va_E) (H : Heap) (locs : List Loc), rm_h D A st L f H locs → rm_TY cI c1 c2 c3 c4 c5 ad G X L f → rm_Lv G 3 f0 f → 0 ≤ c9.toInt ∧ c9.toInt ≤ 323 → rv_G p l e { frames := rk_q_X12_sends.2.2.2.2.1, cells := 0, slots := 0, locals := rk_q_X12_sends.2.2.2.2.2 } st m ([.ref a0, .int s] : List Value).toArray below meth c (MQ below (rk_Q (fun v u => rm_TY cI c1 c2 c3 c4 c5 ad G (X + 0) L u ∧ rm_Lv G 3 f0 u ∧ (fun G _ f v u => ∃ x : Int32, v = some (.int x) ∧ -1 ≤ x.toInt ∧ x.toInt ≤ 323) G X f0 v u) (rk_B D (rk_tys cI c1 c2 c3 c4 c5) L A) A) ([.ref a0, .int s] : List Value).toArray st 0 0 A) rk_q_X12_sends.2.2.1 0 0 H locs 49 [.int c9] [(0, .ref a0), (1, .int s), (2, .int y)] := by
    intro c9 f H locs hh hT hLt hc
    refine rv_run hC.1 hC.2.1 (T := rv_t_X12_sends) rv_k_X12_sends 4 ?_
    refine ⟨fun _ => ?_, fun _ => ?_⟩
    · refine rv_run hC.1 hC.2.1 (T := rv_t_X12_sends) rv_k_X12_sends 1 ?_
      refine rm_iret hC hh (by decide +kernel) rfl ⟨by rw [Int.add_zero]; exact hT, hLt, ⟨c9, rfl, by omega, by omega⟩⟩
    · refine rv_run hC.1 hC.2.1 (T := rv_t_X12_sends) rv_k_X12_sends 80 ?_
      refine w_gn hC hh hT hG (by omega) (by decide +kernel) rfl (fun fs aN g e1 n1 n2 hLN eN tN eg => ?_)
      refine rv_run hC.1 hC.2.1 (T := rv_t_X12_sends) rv_k_X12_sends 80 ?_
      refine rm_get (idx := 7) hC hh (by decide +kernel) rfl (rm_me hT hG).1 e1 n1 ?_
      refine rv_run hC.1 hC.2.1 (T := rv_t_X12_sends) rv_k_X12_sends 80 ?_
      refine rm_iald hC hh (by decide +kernel) hLN eN rfl (by decide) (by decide) ?_
      refine rv_run hC.1 hC.2.1 (T := rv_t_X12_sends) rv_k_X12_sends 80 ?_
      refine w_nst hC hh hT hG (by omega) 1 6461 (by decide +kernel) e1 n1 n2 hLN eN tN (by decide) (by decide) (rk_full_ok _) rfl (fun f H locs hh hT hL hP => ?_)
      have hLt := rm_lv_tr (k := 3) hLt hL rfl rfl
      refine rv_run hC.1 hC.2.1 (T := rv_t_X12_sends) rv_k_X12_sends 1 ?_
      refine rm_iret hC hh (by decide +kernel) rfl ⟨by rw [Int.add_zero]; exact hT, hLt, ⟨c9, rfl, by omega, by omega⟩⟩
  have t33 : ∀ (f : Nat → va_E) (H : Heap) (locs : List Loc), rm_h D A st L f H locs → rm_TY cI c1 c2 c3 c4 c5 ad G X L f → rm_Lv G 3 f0 f → rm_INV G f a0 → rv_G p l e { frames := rk_q_X12_sends.2.2.2.2.1, cells := 0, slots := 0, locals := rk_q_X12_sends.2.2.2.2.2 } st m ([.ref a0, .int s] : List Value).toArray below meth c (MQ below (rk_Q (fun v u => rm_TY cI c1 c2 c3 c4 c5 ad G (X + 0) L u ∧ rm_Lv G 3 f0 u ∧ (fun G _ f v u => ∃ x : Int32, v = some (.int x) ∧ -1 ≤ x.toInt ∧ x.toInt ≤ 323) G X f0 v u) (rk_B D (rk_tys cI c1 c2 c3 c4 c5) L A) A) ([.ref a0, .int s] : List Value).toArray st 0 0 A) rk_q_X12_sends.2.2.1 0 0 H locs 33 [] [(0, .ref a0), (1, .int s), (2, .int y)] := by
    intro f H locs hh hT hLt hI
    refine rv_run hC.1 hC.2.1 (T := rv_t_X12_sends) rv_k_X12_sends 3 ?_
    refine ⟨fun _ => ?_, fun _ => ?_⟩
    · refine rv_run hC.1 hC.2.1 (T := rv_t_X12_sends) rv_k_X12_sends 1 ?_
      exact t49 _ f H locs hh hT hLt (by decide)
    · refine rv_run hC.1 hC.2.1 (T := rv_t_X12_sends) rv_k_X12_sends 80 ?_
      refine w_h hC hh hT hG (by omega) (by omega) 202 (by decide +kernel) rfl (h_sendsInRun base l cI c1 c2 c3 c4 c5 D ad adV a0 s sn hs hsn) ⟨hG, h1, hI⟩ rfl rfl (Nat.le_of_ble_eq_true rfl) hcs (fun v f H locs hh hT hL hP => ?_)
      rw [Int.add_zero] at hT
      obtain ⟨c9, rfl, hc⟩ := hP
      refine rv_run hC.1 hC.2.1 (T := rv_t_X12_sends) rv_k_X12_sends 1 ?_
      exact t49 c9 f H locs hh hT (rm_lv_tr (k := 3) hLt hL rfl rfl) hc
  refine rv_run hC.1 hC.2.1 (T := rv_t_X12_sends) rv_k_X12_sends 4 ?_
  refine ⟨fun _ => ?_, fun _ => ?_⟩
  · refine rv_run hC.1 hC.2.1 (T := rv_t_X12_sends) rv_k_X12_sends 3 ?_
    refine ⟨fun _ => t33 _ H locs hh hT hLt hI, fun _ => ?_⟩
    refine rv_run hC.1 hC.2.1 (T := rv_t_X12_sends) rv_k_X12_sends 80 ?_
    refine w_h hC hh hT hG (by omega) (by omega) 193 (by decide +kernel) rfl (h_maySell base l cI c1 c2 c3 c4 c5 D ad adV a0 s sn hs hsn _ _ _ _ _) ⟨hG, rm_so_of G _ a0 sn⟩ rfl rfl (Nat.le_of_ble_eq_true rfl) hcs (fun v f1 H locs hh1 hT1 hL hP => ?_)
    obtain ⟨⟨x, rfl, hx⟩, hu⟩ := hP
    subst hu
    have hh := hh1
    have hT := hT1
    clear hh1 hT1 hL
    rw [Int.add_zero] at hT
    refine rv_run hC.1 hC.2.1 (T := rv_t_X12_sends) rv_k_X12_sends 1 ?_
    refine ⟨fun _ => t33 _ H locs hh hT hLt hI, fun h => ?_⟩
    have hx0 : ¬ x.toInt = 0 := h
    refine rv_run hC.1 hC.2.1 (T := rv_t_X12_sends) rv_k_X12_sends 80 ?_
    refine w_h hC hh hT hG (by omega) (by omega) 196 (by decide +kernel) rfl (h_sells base l cI c1 c2 c3 c4 c5 D ad adV a0 s sn hs hsn _ _ _ _ _ (hx.resolve_left hx0)) ⟨hG, rm_so_of G _ a0 sn⟩ rfl rfl (Nat.le_of_ble_eq_true rfl) hcs (fun v f H locs hh hT hL hP => ?_)
    rw [Int.add_zero] at hT
    have hP : v = some (.int (Int16.ofInt 259).toInt32) := hP
    subst hP
    refine rm_iret hC hh (by decide +kernel) rfl ⟨by rw [Int.add_zero]; exact hT, hL, ⟨_, rfl, by decide, by decide⟩⟩
  · refine rv_run hC.1 hC.2.1 (T := rv_t_X12_sends) rv_k_X12_sends 1 ?_
    refine rm_iret hC hh (by decide +kernel) rfl ⟨by rw [Int.add_zero]; exact hT, hLt, ⟨_, rfl, by decide, by decide⟩⟩
end RMX
