def rv_t_X12_isIn : rv_T := (.branch 0 (.branch 0 (.leaf (0, .iload_n 1, 1)) (.branch 0 (.branch 0 (.leaf (2, .if_icmp .lt (12), 3)) (.leaf (10, .iconst 1, 1))) (.branch 0 (.leaf (6, .iload_n 3, 1)) (.leaf (14, .iconst 0, 1))))) (.branch 0 (.branch 0 (.leaf (1, .iload_n 2, 1)) (.leaf (5, .iload_n 1, 1))) (.branch 0 (.leaf (11, .goto (4), 3)) (.branch 0 (.leaf (7, .if_icmp .gt (7), 3)) (.leaf (15, .ireturn, 1))))))
theorem rv_k_X12_isIn : rv_tok cX12_isIn rv_t_X12_isIn = true := by decide +kernel
section RMX
variable (base : Nat) (l : Launch) (cI c1 c2 c3 c4 c5 : ClassId) (D : va_G) (ad adV : Nat → Nat)
theorem h_isIn (a0 : Nat) (x a b : Int32) : rm_Hm base l cI c1 c2 c3 c4 c5 D ad adV rk_q_X12_isIn [.ref a0, .int x, .int a, .int b] (fun G _ f => G a0 = some 12) (fun G _ f v u => (∃ y : Int32, v = some (.int y) ∧ ((y.toInt = 1 ∧ a.toInt ≤ x.toInt ∧ x.toInt ≤ b.toInt) ∨ (y.toInt = 0 ∧ (x.toInt < a.toInt ∨ b.toInt < x.toInt)))) ∧ u = f) 0 0 := by
  unfold rm_Hm
  refine rm_start (M := rk_q_X12_isIn) (rk_hNw base ad adV) (rk_hNc base ad adV) (by decide +kernel) (mt := rk_mt []) (ml := rk_mlf []) (fl := rk_flf rk_ftX12) (fun s args h hN => rk_MlOk_of (fun _ h => absurd h List.not_mem_nil) (by decide +kernel)) (fun s args h hN => rk_flX12 (fun w hw => List.mem_cons_of_mem _ hw) h hN) (rm_cat1 rfl) (Nat.le_of_ble_eq_true rfl) ?_
  intro p e st m below meth c G X L f0 A hC hh hX0 hXC hT hpre
  have hcs : 0 ≤ 0 ∧ 0 ≤ 0 := ⟨Nat.le_refl 0, Nat.le_refl 0⟩
  refine rv_run hC.1 hC.2.1 (T := rv_t_X12_isIn) rv_k_X12_isIn 3 ?_
  refine ⟨fun h => ?_, fun h => ?_⟩
  · have h : x.toInt < a.toInt := h
    refine rv_run hC.1 hC.2.1 (T := rv_t_X12_isIn) rv_k_X12_isIn 1 ?_
    refine rm_zret hC hh (by decide +kernel) rfl (Or.inl rfl) ⟨by rw [Int.add_zero]; exact hT, rm_lv_rf 0, ⟨_, rfl, Or.inr ⟨rfl, Or.inl h⟩⟩, rfl⟩
  · have h1 : a.toInt ≤ x.toInt := h
    refine rv_run hC.1 hC.2.1 (T := rv_t_X12_isIn) rv_k_X12_isIn 3 ?_
    refine ⟨fun h => ?_, fun h => ?_⟩
    · have h : b.toInt < x.toInt := h
      refine rv_run hC.1 hC.2.1 (T := rv_t_X12_isIn) rv_k_X12_isIn 1 ?_
      refine rm_zret hC hh (by decide +kernel) rfl (Or.inl rfl) ⟨by rw [Int.add_zero]; exact hT, rm_lv_rf 0, ⟨_, rfl, Or.inr ⟨rfl, Or.inr h⟩⟩, rfl⟩
    · have h2 : x.toInt ≤ b.toInt := h
      refine rv_run hC.1 hC.2.1 (T := rv_t_X12_isIn) rv_k_X12_isIn 2 ?_
      refine rm_zret hC hh (by decide +kernel) rfl (Or.inr rfl) ⟨by rw [Int.add_zero]; exact hT, rm_lv_rf 0, ⟨_, rfl, Or.inl ⟨rfl, h1, h2⟩⟩, rfl⟩
end RMX
