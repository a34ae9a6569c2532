theorem rs_r0_2147483668 : rs_go rs_kc0 (rs_e1 0 2147483668 2147483671) = true := by decide +kernel
theorem rs_r0_2147483672 : rs_go rs_kc0 (rs_e1 0 2147483672 2147483675) = true := by decide +kernel
