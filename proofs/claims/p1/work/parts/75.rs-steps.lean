theorem rs_Sm : rs_kc0 87 [(4, 363, 0)] rs_eT rs_Wm 369 (rs_krS 16 16 rs_Wm 369) = true := by decide +kernel
theorem rs_Sc : rs_kc0 164 [(4, 1, 0)] rs_eT rs_Wc 369 (rs_krS 7 9 rs_Wc 369) = true := by decide +kernel
theorem rs_St : rs_kc0 164 [(4, 369, 0)] rs_eT rs_Wt 727 (rs_krS 7 9 rs_Wt 727) = true := by decide +kernel
noncomputable def rs_kSm : rs_KC := rs_kcS 16 16 87 363 369 364 6457 rs_Wm
noncomputable def rs_kSc : rs_KC := rs_kcS 7 9 164 1 369 1 6 rs_Wc
noncomputable def rs_kSt : rs_KC := rs_kcS 7 9 164 369 727 369 6 rs_Wt
theorem rs_kSm_ok : rs_KCall rs_kSm := rs_kcS_ok rs_Sm rfl
theorem rs_kSc_ok : rs_KCall rs_kSc := rs_kcS_ok rs_Sc rfl
theorem rs_kSt_ok : rs_KCall rs_kSt := rs_kcS_ok rs_St rfl
