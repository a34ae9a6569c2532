theorem rs_r9_0 : rs_go rs_kc0 (rs_e1 9 0 2147483648) = true := by decide +kernel
theorem rs_r9_2147483749 : rs_go rs_kc0 (rs_e1 9 2147483749 4294967295) = true := by decide +kernel
theorem rs_r9_2147483649 : rs_go (rs_kt 2147483649 2147483660) (rs_e1 9 2147483649 2147483660) = true := by decide +kernel
theorem rs_r9_2147483661 : rs_go (rs_kt 2147483661 2147483679) (rs_e1 9 2147483661 2147483679) = true := by decide +kernel
theorem rs_r28_0 : rs_go (rs_kl 0 2147483647) (rs_e1 28 0 2147483647) = true := by decide +kernel
theorem rs_r28_2147483648 : rs_go (rs_kl 2147483648 2147483648) (rs_e1 28 2147483648 2147483648) = true := by decide +kernel
