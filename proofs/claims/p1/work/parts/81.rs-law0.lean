theorem rs_r9_0 : rs_go rs_kc0 (rs_e1 9 0 2147483648) = true := by decide +kernel
theorem rs_r9_2147483749 : rs_go rs_kc0 (rs_e1 9 2147483749 4294967295) = true := by decide +kernel
theorem rs_r9_2147483649 : rs_go (rs_kt 2147483649 2147483660) (rs_e1 9 2147483649 2147483660) = true := by decide +kernel
theorem rs_r9_2147483661 : rs_go (rs_kt 2147483661 2147483679) (rs_e1 9 2147483661 2147483679) = true := by decide +kernel
theorem rs_r9_2147483680 : rs_go (rs_kt 2147483680 2147483692) (rs_e1 9 2147483680 2147483692) = true := by decide +kernel
theorem rs_r9_2147483693 : rs_go (rs_kt 2147483693 2147483702) (rs_e1 9 2147483693 2147483702) = true := by decide +kernel
