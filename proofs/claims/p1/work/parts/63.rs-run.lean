theorem rs_r13_0 : rs_go rs_kc0 (rs_e1 13 0 4294967295) = true := by decide +kernel
