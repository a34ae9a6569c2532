theorem rs_r19_0 : rs_go rs_kc0 (rs_e1 19 0 4294967295) = true := by decide +kernel
theorem rs_r25_0 : rs_go rs_kc0 (rs_e1 25 0 4294967295) = true := by decide +kernel
theorem rs_r26_0 : rs_go rs_kc0 (rs_e1 26 0 4294967295) = true := by decide +kernel
theorem rs_r31_0 : rs_go rs_kc0 (rs_e1 31 0 4294967295) = true := by decide +kernel
