def rv_t_X12_queues : rv_T := (.branch 0 (.branch 0 (.branch 0 (.branch 0 (.branch 0 (.leaf (0, .aload_n 0, 1)) (.leaf (16, .aload_n 0, 1))) (.leaf (8, .invokevirtual 50, 3))) (.branch 0 (.branch 0 (.leaf (4, .aload_n 0, 1)) (.leaf (20, .invokevirtual 82, 3))) (.leaf (12, .iload_n 2, 1)))) (.branch 0 (.branch 0 (.branch 0 (.leaf (2, .bipush (9), 2)) (.leaf (18, .bipush (8), 2))) (.leaf (99999, .nop, 1))) (.leaf (6, .bipush (8), 2)))) (.branch 0 (.branch 0 (.branch 0 (.branch 0 (.leaf (1, .iload_n 1, 1)) (.leaf (17, .iload_n 1, 1))) (.leaf (99999, .nop, 1))) (.branch 0 (.leaf (5, .iload_n 1, 1)) (.leaf (13, .invokevirtual 53, 3)))) (.branch 0 (.leaf (11, .iadd, 1)) (.leaf (23, .return_, 1)))))
theorem rv_k_X12_queues : rv_tok cX12_queues rv_t_X12_queues = true := by decide +kernel
section RMX
variable (base : Nat) (l : Launch) (cI c1 c2 c3 c4 c5 : ClassId) (D : va_G) (ad adV : Nat → Nat)
theorem h_queues (a0 : Nat) (s x : Int32) (sn : Nat) (hs : s.toInt = (sn : Int)) (hsn : sn < 8) (B : Int) (hB : B ≤ 119) (hx : 0 ≤ x.toInt ∧ x.toInt ≤ 257) : rm_Hm base l cI c1 c2 c3 c4 c5 D ad adV rk_q_X12_queues [.ref a0, .int s, .int x] (fun G _ f => G a0 = some 12 ∧ rm_ec (rm_now G f a0) sn 8 = B) (fun G _ f v u => v = none ∧ rm_qs G f u a0 sn (B + 1)) 0 15 := by
  unfold rm_Hm
  refine rm_start (M := rk_q_X12_queues) (rk_hNw base ad adV) (rk_hNc base ad adV) (by decide +kernel) (mt := rk_mt [rk_q_X12_moreEnd, rk_q_X12_ofEnd, rk_q_X12_putsEnd]) (ml := rk_mlf [(82, 0, 3, 12), (50, 1, 3, 12), (53, 2, 4, 12)]) (fl := rk_flf rk_ftX12) (fun s args h hN => rk_MlOk_of (List.forall_mem_cons.mpr ⟨rk_mck_ok (fun w hw => List.mem_cons_of_mem _ hw) h hN rk_cm_X12_moreEnd rk_lk_X12_82, List.forall_mem_cons.mpr ⟨rk_mck_ok (fun w hw => List.mem_cons_of_mem _ hw) h hN rk_cm_X12_ofEnd rk_lk_X12_50, List.forall_mem_cons.mpr ⟨rk_mck_ok (fun w hw => List.mem_cons_of_mem _ hw) h hN rk_cm_X12_putsEnd rk_lk_X12_53, fun _ h => absurd h List.not_mem_nil⟩⟩⟩) (by decide +kernel)) (fun s args h hN => rk_flX12 (fun w hw => List.mem_cons_of_mem _ hw) h hN) (rm_cat1 rfl) (Nat.le_of_ble_eq_true rfl) ?_
  intro p e st m below meth c G X L f0 A hC hh hX0 hXC hT hpre
  have hcs : 0 ≤ 0 ∧ 0 ≤ 0 := ⟨Nat.le_refl 0, Nat.le_refl 0⟩
  obtain ⟨hG, hso⟩ := hpre
  have hst := rm_qs_rf hso
  have hb1 := rm_ecT hT hG (w := 8) hsn (by decide) rfl
  rw [hso] at hb1
  refine rv_run hC.1 hC.2.1 (T := rv_t_X12_queues) rv_k_X12_queues 80 ?_
  refine w_ofEnd hC hh hT hG (by omega) (by omega) 50 (by decide +kernel) rfl rfl hs hsn 8 (by decide) (by decide) (Nat.le_of_ble_eq_true rfl) hcs (fun y H locs hh hy => ?_)
  have ey : y.toInt = B := by rw [hy]; exact hso
  obtain ⟨Bn, hBn⟩ : ∃ n : Nat, B = (n : Int) := ⟨B.toNat, by omega⟩
  obtain ⟨q1, q2, q3⟩ := rm_mD_q (9 + Bn) (by omega) (by omega)
  refine rv_run hC.1 hC.2.1 (T := rv_t_X12_queues) rv_k_X12_queues 80 ?_
  refine w_putsEnd hC hh hT hG (by omega) (by omega) 1 53 (by decide +kernel) rfl rfl hs hsn (9 + Bn) (by rw [rm_ad (a := 9) (b := B) rfl ey (by decide) (by omega)]; omega) (by omega) (by rw [q2, q3]; rfl) (rm_hI q1 hx.1 hx.2) (Nat.le_of_ble_eq_true rfl) hcs (fun f H locs hh hT hL hP => ?_)
  have hst := rm_qs_1 hst hL hG hsn
  have e2 : (rm_now G f a0 (2860 + 427 * sn + 8)).toInt = B := hst.2.2
  have e3 := rm_ad e2 rm_e1 (by omega) (by decide)
  refine rv_run hC.1 hC.2.1 (T := rv_t_X12_queues) rv_k_X12_queues 80 ?_
  refine w_moreEnd hC hh hT hG (by omega) 0 (by decide) (by omega) 15 82 (by decide +kernel) rfl rfl hs hsn 8 (by decide) (by decide) rfl (rm_hI (a := 0) (b := 120) rfl (by rw [e3]; omega) (by rw [e3]; omega)) (Nat.le_of_ble_eq_true rfl) hcs (fun f H locs hh hT hL hP => ?_)
  have hst := rm_qs_8 hst hL hP
  rw [e3] at hst
  refine rv_run hC.1 hC.2.1 (T := rv_t_X12_queues) rv_k_X12_queues 80 ?_
  refine rm_vret hC hh (by decide +kernel) rfl ⟨hT, hst.1, rfl, hst⟩
end RMX
