theorem rs_r16_0 : rs_go rs_kc0 (rs_e1 16 0 4294967295) = true := by decide +kernel
theorem rs_r18_0 : rs_go rs_kc0 (rs_e1 18 0 4294967295) = true := by decide +kernel
