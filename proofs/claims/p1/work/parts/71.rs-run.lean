theorem rs_r0_2147483676 : rs_go rs_kc0 (rs_e1 0 2147483676 2147483679) = true := by decide +kernel
theorem rs_r0_2147483680 : rs_go rs_kc0 (rs_e1 0 2147483680 2147483683) = true := by decide +kernel
