theorem rs_r7_2147483650 : rs_go rs_kc0 (rs_e1 7 2147483650 2147483650) = true := by decide +kernel
theorem rs_r7_2147483651 : rs_go rs_kc0 (rs_e1 7 2147483651 2147483651) = true := by decide +kernel
theorem rs_r7_2147483652 : rs_go rs_kc0 (rs_e1 7 2147483652 4294967295) = true := by decide +kernel
