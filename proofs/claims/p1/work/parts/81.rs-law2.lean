theorem rs_r9_2147483742 : rs_go (rs_kt 2147483742 2147483746) (rs_e1 9 2147483742 2147483746) = true := by decide +kernel
theorem rs_r9_2147483747 : rs_go (rs_kt 2147483747 2147483748) (rs_e1 9 2147483747 2147483748) = true := by decide +kernel
theorem rs_r28_0 : rs_go (rs_kl 0 2147483647) (rs_e1 28 0 2147483647) = true := by decide +kernel
theorem rs_r28_2147483648 : rs_go (rs_kl 2147483648 2147483648) (rs_e1 28 2147483648 2147483648) = true := by decide +kernel
theorem rs_r28_2147483649 : rs_go (rs_kl 2147483649 2147483649) (rs_e1 28 2147483649 2147483649) = true := by decide +kernel
theorem rs_r28_2147483650 : rs_go (rs_kl 2147483650 2147483650) (rs_e1 28 2147483650 2147483650) = true := by decide +kernel
