theorem rs_Cmt : rs_fd rs_hs (rt_g rs_ct 88) rs_kSm (rs_krP (1, 1, 0)) 100000 0 [] [(4, 363, 0), (1, 1, 0)] (rs_eP 2147483649 2147483748) (rs_ins 0 rs_Wm, 369, 0, 0) = true := by decide +kernel
