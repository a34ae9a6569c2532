theorem rs_r0_2147483660 : rs_go rs_kc0 (rs_e1 0 2147483660 2147483663) = true := by decide +kernel
theorem rs_r0_2147483664 : rs_go rs_kc0 (rs_e1 0 2147483664 2147483667) = true := by decide +kernel
