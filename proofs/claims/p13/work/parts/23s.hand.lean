def rv_t_X12_sign : rv_T := (.branch 0 (.branch 0 (.branch 0 (.branch 0 (.branch 0 (.branch 0 (.leaf (0, .aload_n 0, 1)) (.leaf (32, .getfield 236, 3))) (.leaf (16, .aload_n 0, 1))) (.leaf (8, .aload_n 0, 1))) (.branch 0 (.leaf (4, .ifCond .eq (4), 3)) (.leaf (12, .iload_n 1, 1)))) (.branch 0 (.branch 0 (.leaf (18, .getfield 236, 3)) (.leaf (26, .goto (13), 3))) (.branch 0 (.branch 0 (.leaf (38, .pop, 1)) (.leaf (22, .iadd, 1))) (.leaf (30, .iconst 1, 1))))) (.branch 0 (.branch 0 (.branch 0 (.branch 0 (.leaf (1, .getfield 245, 3)) (.leaf (17, .aload_n 0, 1))) (.leaf (9, .invokevirtual 264, 3))) (.branch 0 (.leaf (21, .iconst 1, 1)) (.branch 0 (.leaf (13, .if_icmp .ne (16), 3)) (.leaf (29, .aload_n 0, 1))))) (.branch 0 (.leaf (35, .invokevirtual 270, 3)) (.branch 0 (.branch 0 (.branch 0 (.leaf (7, .return_, 1)) (.leaf (39, .return_, 1))) (.leaf (23, .putfield 236, 3))) (.leaf (31, .aload_n 0, 1))))))
theorem rv_k_X12_sign : rv_tok cX12_sign rv_t_X12_sign = true := by decide +kernel
section RMX
variable (base : Nat) (l : Launch) (cI c1 c2 c3 c4 c5 : ClassId) (D : va_G) (ad adV : Nat → Nat)
theorem h_sign (a0 : Nat) (ch : Int32) (hc : 0 ≤ ch.toInt ∧ ch.toInt ≤ 255) : rm_Hm base l cI c1 c2 c3 c4 c5 D ad adV rk_q_X12_sign [.ref a0, .int ch] (fun G _ f => G a0 = some 12) (fun G _ f v u => v = none) 0 1 := by
  unfold rm_Hm
  refine rm_start (M := rk_q_X12_sign) (rk_hNw base ad adV) (rk_hNc base ad adV) (by decide +kernel) (mt := rk_mt [rk_q_X12_behindBlanks, rk_q_X12_errs]) (ml := rk_mlf [(264, 0, 1, 12), (270, 1, 3, 12)]) (fl := rk_flf rk_ftX12) (fun s args h hN => rk_MlOk_of (List.forall_mem_cons.mpr ⟨rk_mck_ok (fun w hw => List.mem_cons_of_mem _ hw) h hN rk_cm_X12_behindBlanks rk_lk_X12_264, List.forall_mem_cons.mpr ⟨rk_mck_ok (fun w hw => List.mem_cons_of_mem _ hw) h hN rk_cm_X12_errs rk_lk_X12_270, fun _ h => absurd h List.not_mem_nil⟩⟩) (by decide +kernel)) (fun s args h hN => rk_flX12 (fun w hw => List.mem_cons_of_mem _ hw) h hN) (rm_cat1 rfl) (Nat.le_of_ble_eq_true rfl) ?_
  intro p e st m below meth c G X L f0 A hC hh hX0 hXC hT hpre
  have hcs : 0 ≤ 0 ∧ 0 ≤ 0 := ⟨Nat.le_refl 0, Nat.le_refl 0⟩
  have hG : G a0 = some 12 := hpre
  refine rv_run hC.1 hC.2.1 (T := rv_t_X12_sign) rv_k_X12_sign 80 ?_
  refine w_gf hC hh hT hG (by omega) 245 (by decide +kernel) rfl rfl (fun x hx hx2 => ?_)
  refine rv_run hC.1 hC.2.1 (T := rv_t_X12_sign) rv_k_X12_sign 1 ?_
  refine ⟨fun _ => ?_, fun _ => ?_⟩
  · refine rv_run hC.1 hC.2.1 (T := rv_t_X12_sign) rv_k_X12_sign 80 ?_
    refine w_h hC hh hT hG (by omega) (by omega) 264 (by decide +kernel) rfl (h_behindBlanks base l cI c1 c2 c3 c4 c5 D ad adV a0) hG rfl rfl (Nat.le_of_ble_eq_true rfl) hcs (fun v f H locs hh hT hL hP => ?_)
    rw [Int.add_zero] at hT
    obtain ⟨y, rfl, hy1, hy2, hy3, -⟩ := hP
    have hLt := hL
    refine rv_run hC.1 hC.2.1 (T := rv_t_X12_sign) rv_k_X12_sign 2 ?_
    refine ⟨fun _ => ?_, fun h => ?_⟩
    · refine rv_run hC.1 hC.2.1 (T := rv_t_X12_sign) rv_k_X12_sign 80 ?_
      refine w_gf hC hh hT hG (by omega) 236 (by decide +kernel) rfl rfl (fun z hz hz2 => ?_)
      refine w_h hC hh hT hG (by omega) (by omega) 270 (by decide +kernel) rfl (h_errs base l cI c1 c2 c3 c4 c5 D ad adV a0 _ _) hG rfl rfl (Nat.le_of_ble_eq_true rfl) hcs (fun v f H locs hh hT hL hP => ?_)
      rw [Int.add_zero] at hT
      obtain ⟨⟨x9, rfl, -⟩, -⟩ := hP
      refine rv_run hC.1 hC.2.1 (T := rv_t_X12_sign) rv_k_X12_sign 1 ?_
      refine rm_vret hC hh (by decide +kernel) rfl ⟨by rw [Int.add_zero]; exact hT, rm_lv_tr (k := 1) hLt hL rfl rfl, rfl⟩
    · have h : y.toInt = ch.toInt := h
      have b8 := rm_fiT hT hG (i := 8) rfl
      refine rv_run hC.1 hC.2.1 (T := rv_t_X12_sign) rv_k_X12_sign 80 ?_
      refine w_gf hC hh hT hG (by omega) 236 (by decide +kernel) rfl rfl (fun z hz hz2 => ?_)
      have e3 := rm_ad (x := z) rfl rm_e1 (by omega) (by decide)
      refine rv_run hC.1 hC.2.1 (T := rv_t_X12_sign) rv_k_X12_sign 80 ?_
      refine w_pf hC hh hT hG (by omega) 513 236 (by decide +kernel) rfl rfl (Or.inl ⟨rfl, _, rfl⟩) ⟨_, rfl, by rw [e3]; omega, by rw [e3]; omega⟩ rfl (by decide) (fun u H locs hh hT hL hP => ?_)
      have e7 := rm_fi_of hP.1
      have e8 : rm_fi u a0 8 = rm_fi f a0 8 := by
        unfold rm_fi
        rw [hP.2.1 8 (by decide)]
      have hL1 := rm_fin9 hL (fun b hb => by
        by_cases hba : b = a0
        · subst hba
          exact ⟨e8, by omega⟩
        · unfold rm_fi
          rw [hP.2.2.1 b hba]
          exact ⟨rfl, Int.le_refl _⟩)
      refine rv_run hC.1 hC.2.1 (T := rv_t_X12_sign) rv_k_X12_sign 1 ?_
      refine rm_vret hC hh (by decide +kernel) rfl ⟨by rw [Int.add_zero]; exact hT, rm_lv_tr (k := 1) hLt hL1 rfl rfl, rfl⟩
  · refine rm_vret hC hh (by decide +kernel) rfl ⟨by rw [Int.add_zero]; exact hT, rm_lv_rf 1, rfl⟩
end RMX
