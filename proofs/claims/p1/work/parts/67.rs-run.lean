theorem rs_r0_0 : rs_go rs_kc0 (rs_e1 0 0 2147483647) = true := by decide +kernel
theorem rs_r0_2147483648 : rs_go rs_kc0 (rs_e1 0 2147483648 2147483651) = true := by decide +kernel
