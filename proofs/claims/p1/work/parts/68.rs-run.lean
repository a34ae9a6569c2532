theorem rs_r0_2147483652 : rs_go rs_kc0 (rs_e1 0 2147483652 2147483655) = true := by decide +kernel
theorem rs_r0_2147483656 : rs_go rs_kc0 (rs_e1 0 2147483656 2147483659) = true := by decide +kernel
