def rv_t_X12_log : rv_T := (.branch 0 (.branch 0 (.branch 0 (.branch 0 (.branch 0 (.branch 0 (.branch 0 (.leaf (0, .aload_n 0, 1)) (.leaf (64, .iload_n 2, 1))) (.leaf (99999, .nop, 1))) (.branch 0 (.leaf (16, .aload_n 0, 1)) (.leaf (48, .getfield 7, 3)))) (.branch 0 (.leaf (40, .getfield 7, 3)) (.branch 0 (.leaf (24, .if_icmp .ge (13), 3)) (.leaf (56, .isub, 1))))) (.branch 0 (.leaf (20, .sipush (6456), 3)) (.branch 0 (.leaf (12, .if_icmp .ge (25), 3)) (.leaf (28, .iload_n 2, 1))))) (.branch 0 (.branch 0 (.branch 0 (.branch 0 (.branch 0 (.leaf (2, .putfield 29, 3)) (.leaf (66, .iaload, 1))) (.leaf (34, .ifCond .ne (5), 3))) (.leaf (99999, .nop, 1))) (.branch 0 (.leaf (10, .bipush (60), 2)) (.leaf (58, .isub, 1)))) (.branch 0 (.branch 0 (.branch 0 (.leaf (6, .ifCond .lt (31), 3)) (.leaf (38, .ireturn, 1))) (.leaf (54, .iaload, 1))) (.branch 0 (.leaf (46, .iconst 3, 1)) (.branch 0 (.leaf (30, .iconst 2, 1)) (.leaf (62, .imul, 1))))))) (.branch 0 (.branch 0 (.branch 0 (.branch 0 (.branch 0 (.branch 0 (.leaf (1, .iconst 0, 1)) (.leaf (65, .iadd, 1))) (.leaf (99999, .nop, 1))) (.leaf (17, .getfield 7, 3))) (.branch 0 (.leaf (9, .iload_n 1, 1)) (.leaf (57, .iload_n 1, 1)))) (.branch 0 (.branch 0 (.branch 0 (.leaf (5, .iload_n 1, 1)) (.leaf (37, .iconst (-1), 1))) (.leaf (99999, .nop, 1))) (.branch 0 (.leaf (99999, .nop, 1)) (.branch 0 (.leaf (29, .iconst 0, 1)) (.leaf (61, .irem, 1)))))) (.branch 0 (.branch 0 (.branch 0 (.leaf (67, .ireturn, 1)) (.leaf (51, .sipush (6456), 3))) (.branch 0 (.leaf (43, .sipush (6276), 3)) (.branch 0 (.leaf (27, .aload_n 0, 1)) (.leaf (59, .bipush (60), 2))))) (.branch 0 (.branch 0 (.leaf (39, .aload_n 0, 1)) (.branch 0 (.leaf (23, .iaload, 1)) (.leaf (55, .iconst 1, 1)))) (.branch 0 (.branch 0 (.leaf (15, .iload_n 1, 1)) (.leaf (47, .aload_n 0, 1))) (.branch 0 (.leaf (31, .invokevirtual 104, 3)) (.leaf (63, .iadd, 1))))))))
theorem rv_k_X12_log : rv_tok cX12_log rv_t_X12_log = true := by decide +kernel
section RMX
variable (base : Nat) (l : Launch) (cI c1 c2 c3 c4 c5 : ClassId) (D : va_G) (ad adV : Nat → Nat)
theorem h_log (a0 : Nat) (k w : Int32) : rm_Hm base l cI c1 c2 c3 c4 c5 D ad adV rk_q_X12_log [.ref a0, .int k, .int w] (fun G _ f => G a0 = some 12) (fun G _ f v u => ∃ x : Int32, v = some (.int x)) 0 1 := by
  unfold rm_Hm
  refine rm_start (M := rk_q_X12_log) (rk_hNw base ad adV) (rk_hNc base ad adV) (by decide +kernel) (mt := rk_mt [rk_q_X12_isIn]) (ml := rk_mlf [(104, 0, 4, 12)]) (fl := rk_flf rk_ftX12) (fun s args h hN => rk_MlOk_of (List.forall_mem_cons.mpr ⟨rk_mck_ok (fun w hw => List.mem_cons_of_mem _ hw) h hN rk_cm_X12_isIn rk_lk_X12_104, fun _ h => absurd h List.not_mem_nil⟩) (by decide +kernel)) (fun s args h hN => rk_flX12 (fun w hw => List.mem_cons_of_mem _ hw) h hN) (rm_cat1 rfl) (Nat.le_of_ble_eq_true rfl) ?_
  intro p e st m below meth c G X L f0 A hC hh hX0 hXC hT hpre
  have hcs : 0 ≤ 0 ∧ 0 ≤ 0 := ⟨Nat.le_refl 0, Nat.le_refl 0⟩
  have hG : G a0 = some 12 := hpre
  have no : ∀ (f : Nat → va_E) (H : Heap) (locs : List Loc), rm_h D A st L f H locs → rm_TY cI c1 c2 c3 c4 c5 ad G X L f → rm_Lv G 1 f0 f → rv_G p l e { frames := rk_q_X12_log.2.2.2.2.1, cells := 0, slots := 0, locals := rk_q_X12_log.2.2.2.2.2 } st m ([.ref a0, .int k, .int w] : List Value).toArray below meth c (MQ below (rk_Q (fun v u => rm_TY cI c1 c2 c3 c4 c5 ad G (X + 0) L u ∧ rm_Lv G 1 f0 u ∧ (fun G _ f v u => ∃ x : Int32, v = some (.int x)) G X f0 v u) (rk_B D (rk_tys cI c1 c2 c3 c4 c5) L A) A) ([.ref a0, .int k, .int w] : List Value).toArray st 0 0 A) rk_q_X12_log.2.2.1 0 0 H locs 37 [] [(0, .ref a0), (1, .int k), (2, .int w)] := by
    intro f H locs hh hT hL
    refine rv_run hC.1 hC.2.1 (T := rv_t_X12_log) rv_k_X12_log 1 ?_
    refine rm_iret hC hh (by decide +kernel) rfl ⟨by rw [Int.add_zero]; exact hT, hL, ⟨_, rfl⟩⟩
  refine rv_run hC.1 hC.2.1 (T := rv_t_X12_log) rv_k_X12_log 80 ?_
  refine w_pf hC hh hT hG (by omega) 1 29 (by decide +kernel) rfl rfl (Or.inl ⟨rfl, _, rfl⟩) ⟨_, rfl, by decide, by decide⟩ rfl (by decide) (fun f H locs hh hT hL hP => ?_)
  have hLt := hL
  refine rv_run hC.1 hC.2.1 (T := rv_t_X12_log) rv_k_X12_log 2 ?_
  refine ⟨fun _ => no f H locs hh hT hLt, fun h => ?_⟩
  have hk0 : 0 ≤ k.toInt := h
  refine rv_run hC.1 hC.2.1 (T := rv_t_X12_log) rv_k_X12_log 3 ?_
  refine ⟨fun _ => no f H locs hh hT hLt, fun h => ?_⟩
  have hk6 : k.toInt < 60 := h
  refine rv_run hC.1 hC.2.1 (T := rv_t_X12_log) rv_k_X12_log 80 ?_
  refine w_gn hC hh hT hG (by omega) (by decide +kernel) rfl (fun fs aN g e1 n1 n2 hLN eN tN eg => ?_)
  refine rv_run hC.1 hC.2.1 (T := rv_t_X12_log) rv_k_X12_log 80 ?_
  refine rm_iald hC hh (by decide +kernel) hLN eN rfl (by decide) (by decide) ?_
  refine rv_run hC.1 hC.2.1 (T := rv_t_X12_log) rv_k_X12_log 1 ?_
  refine ⟨fun _ => no f H locs hh hT hLt, fun h => ?_⟩
  have hkg : k.toInt < (g 6456).toInt := h
  rw [← eg] at hkg
  refine rv_run hC.1 hC.2.1 (T := rv_t_X12_log) rv_k_X12_log 80 ?_
  refine w_k hC hh hT hG (by omega) (by omega) 104 (by decide +kernel) rfl (c_X12_isIn_10 base l cI c1 c2 c3 c4 c5 D ad adV) (rk_all_c (rk_aM hG) (rk_all_c rk_aF (rk_all_c (rk_aI (by decide)) (rk_all_c (rk_aI (by decide)) rk_all_0)))) rfl rfl (Nat.le_of_ble_eq_true rfl) hcs (fun v f H locs hh hT hL hA => ?_)
  rw [Int.add_zero] at hT
  have hLt := rm_lv_tr (k := 1) hLt hL rfl rfl
  have hkg : k.toInt < (rm_now G f a0 6456).toInt := by
    rw [show f = _ from (rm_lvb hL (by decide) rfl : rm_Rb 0 G _ f)]
    exact hkg
  obtain ⟨x, rfl, hx⟩ := rk_alt_2 hA
  refine rv_run hC.1 hC.2.1 (T := rv_t_X12_log) rv_k_X12_log 1 ?_
  refine ⟨fun h => ?_, fun _ => no f H locs hh hT hLt⟩
  have hw : 0 ≤ w.toInt ∧ w.toInt ≤ 2 := by
    rcases hx with ⟨-, hx⟩ | hx
    · obtain ⟨w9, e9, x9, e10, y1, y2⟩ := hx _ List.mem_cons_self
      cases e9
      cases e10
      exact ⟨y1, y2⟩
    · exact absurd hx h
  refine rv_run hC.1 hC.2.1 (T := rv_t_X12_log) rv_k_X12_log 80 ?_
  refine w_gn hC hh hT hG (by omega) (by decide +kernel) rfl (fun fs1 aN1 g1 e11 n11 n21 hLN1 eN1 tN1 eg1 => ?_)
  refine rv_run hC.1 hC.2.1 (T := rv_t_X12_log) rv_k_X12_log 80 ?_
  refine w_gn hC hh hT hG (by omega) (by decide +kernel) rfl (fun fs aN g e1 n1 n2 hLN eN tN eg => ?_)
  refine rv_run hC.1 hC.2.1 (T := rv_t_X12_log) rv_k_X12_log 80 ?_
  refine rm_iald hC hh (by decide +kernel) hLN eN rfl (by decide) (by decide) ?_
  rw [eg] at hkg
  have hkg : k.toInt < (g (Int16.ofInt 6456).toInt32.toNatClampNeg).toInt := hkg
  have hi := rm_ring (Int8.ofInt 60).toInt32 60 rfl (by decide) hk0 hkg
  have e7 := rm_mu (x := Int32.ofInt 3) (a := 3) rfl (by decide) hi (by decide)
  have e8 := rm_ad (x := (Int16.ofInt 6276).toInt32) (a := 6276) rfl e7 (by decide) (by omega)
  have e9 := rm_ad (y := w) e8 rfl (by omega) (by omega)
  refine rv_run hC.1 hC.2.1 (T := rv_t_X12_log) rv_k_X12_log 10 ?_
  refine ⟨by decide, ?_⟩
  refine rm_iald hC hh (by decide +kernel) hLN1 eN1 rfl (by rw [e9]; omega) (by rw [e9]; omega) ?_
  refine rm_iret hC hh (by decide +kernel) rfl ⟨by rw [Int.add_zero]; exact hT, hLt, ⟨_, rfl⟩⟩
end RMX
