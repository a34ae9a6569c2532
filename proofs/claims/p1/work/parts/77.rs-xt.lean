theorem rs_Cxt_1 : rs_fd rs_hs (rt_g rs_ct 10) rs_kSc (rs_krP (1, 1, 0)) 100000 0 [] [(4, 0, 0), (1, 1, 0)] (rs_eP 2147483649 2147483660) (rs_ins 0 rs_Wc, 369, 0, 0) = true := by decide +kernel
theorem rs_Cxt_13 : rs_fd rs_hs (rt_g rs_ct 10) rs_kSc (rs_krP (1, 1, 0)) 100000 0 [] [(4, 0, 0), (1, 1, 0)] (rs_eP 2147483661 2147483679) (rs_ins 0 rs_Wc, 369, 0, 0) = true := by decide +kernel
