theorem rs_k_X11_init : rs_Tok rs_MT rs_ds rs_t_X11_init rs_m_X11_init rk_ftX11 ∧ rs_Mok rs_m_X11_init rk_ftX11 := ⟨rs_TokE (by decide +kernel), rs_MokE (own := RX11) (by decide +kernel) rfl rk_fcX11⟩
theorem rs_k_X12_init : rs_Tok rs_MT rs_ds rs_t_X12_init rs_m_X12_init rk_ftX12 ∧ rs_Mok rs_m_X12_init rk_ftX12 := ⟨rs_TokE (by decide +kernel), rs_MokE (own := RX12) (by decide +kernel) rfl rk_fcX12⟩
theorem rs_k_X0_init : rs_Tok rs_MT rs_ds rs_t_X0_init rs_m_X0_init rk_ftX0 ∧ rs_Mok rs_m_X0_init rk_ftX0 := ⟨rs_TokE (by decide +kernel), rs_MokE (own := RX0) (by decide +kernel) rfl rk_fcX0⟩
theorem rs_k_X1_init : rs_Tok rs_MT rs_ds rs_t_X1_init rs_m_X1_init rk_ftX1 ∧ rs_Mok rs_m_X1_init rk_ftX1 := ⟨rs_TokE (by decide +kernel), rs_MokE (own := RX1) (by decide +kernel) rfl rk_fcX1⟩
theorem rs_k_X2_init : rs_Tok rs_MT rs_ds rs_t_X2_init rs_m_X2_init rk_ftX2 ∧ rs_Mok rs_m_X2_init rk_ftX2 := ⟨rs_TokE (by decide +kernel), rs_MokE (own := RX2) (by decide +kernel) rfl rk_fcX2⟩
theorem rs_k_X3_init : rs_Tok rs_MT rs_ds rs_t_X3_init rs_m_X3_init rk_ftX3 ∧ rs_Mok rs_m_X3_init rk_ftX3 := ⟨rs_TokE (by decide +kernel), rs_MokE (own := RX3) (by decide +kernel) rfl rk_fcX3⟩
theorem rs_k_X4_init : rs_Tok rs_MT rs_ds rs_t_X4_init rs_m_X4_init rk_ftX4 ∧ rs_Mok rs_m_X4_init rk_ftX4 := ⟨rs_TokE (by decide +kernel), rs_MokE (own := RX4) (by decide +kernel) rfl rk_fcX4⟩
theorem rs_k_X6_init : rs_Tok rs_MT rs_ds rs_t_X6_init rs_m_X6_init rk_ftX6 ∧ rs_Mok rs_m_X6_init rk_ftX6 := ⟨rs_TokE (by decide +kernel), rs_MokE (own := RX6) (by decide +kernel) rfl rk_fcX6⟩
theorem rs_k_X7_init : rs_Tok rs_MT rs_ds rs_t_X7_init rs_m_X7_init rk_ftX7 ∧ rs_Mok rs_m_X7_init rk_ftX7 := ⟨rs_TokE (by decide +kernel), rs_MokE (own := RX7) (by decide +kernel) rfl rk_fcX7⟩
theorem rs_k_X8_init : rs_Tok rs_MT rs_ds rs_t_X8_init rs_m_X8_init rk_ftX8 ∧ rs_Mok rs_m_X8_init rk_ftX8 := ⟨rs_TokE (by decide +kernel), rs_MokE (own := RX8) (by decide +kernel) rfl rk_fcX8⟩
theorem rs_k_X9_init : rs_Tok rs_MT rs_ds rs_t_X9_init rs_m_X9_init rk_ftX9 ∧ rs_Mok rs_m_X9_init rk_ftX9 := ⟨rs_TokE (by decide +kernel), rs_MokE (own := RX9) (by decide +kernel) rfl rk_fcX9⟩
theorem rs_k_X10_init : rs_Tok rs_MT rs_ds rs_t_X10_init rs_m_X10_init rk_ftX10 ∧ rs_Mok rs_m_X10_init rk_ftX10 := ⟨rs_TokE (by decide +kernel), rs_MokE (own := RX10) (by decide +kernel) rfl rk_fcX10⟩
theorem rs_k_J7_fill_53178 : rs_Tok rs_MT rs_ds rs_t_J7_fill_53178 rs_m_J7_fill_53178 [] ∧ rs_Mok rs_m_J7_fill_53178 [] := ⟨rs_TokE (by decide +kernel), ⟨by decide +kernel, fun s args _ _ => rk_FlOk_of (fun _ h => absurd h List.not_mem_nil)⟩⟩
