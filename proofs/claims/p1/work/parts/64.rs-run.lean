theorem rs_r30_0 : rs_go rs_kc0 (rs_e1 30 0 2147483647) = true := by decide +kernel
theorem rs_r30_2147483648 : rs_go rs_kc0 (rs_e1 30 2147483648 2147483648) = true := by decide +kernel
theorem rs_r30_2147483649 : rs_go rs_kc0 (rs_e1 30 2147483649 4294967295) = true := by decide +kernel
