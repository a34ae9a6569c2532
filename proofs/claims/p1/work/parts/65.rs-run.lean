theorem rs_r7_0 : rs_go rs_kc0 (rs_e1 7 0 2147483647) = true := by decide +kernel
theorem rs_r7_2147483648 : rs_go rs_kc0 (rs_e1 7 2147483648 2147483648) = true := by decide +kernel
theorem rs_r7_2147483649 : rs_go rs_kc0 (rs_e1 7 2147483649 2147483649) = true := by decide +kernel
