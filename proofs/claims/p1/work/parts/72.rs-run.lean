theorem rs_r0_2147483684 : rs_go rs_kc0 (rs_e1 0 2147483684 2147483687) = true := by decide +kernel
theorem rs_r0_2147483688 : rs_go rs_kc0 (rs_e1 0 2147483688 4294967295) = true := by decide +kernel
