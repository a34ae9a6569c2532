theorem rs_r28_2147483651 : rs_go (rs_kl 2147483651 2147483651) (rs_e1 28 2147483651 2147483651) = true := by decide +kernel
theorem rs_r28_2147483652 : rs_go (rs_kl 2147483652 2147483652) (rs_e1 28 2147483652 2147483652) = true := by decide +kernel
theorem rs_r28_2147483653 : rs_go (rs_kl 2147483653 2147483653) (rs_e1 28 2147483653 2147483653) = true := by decide +kernel
theorem rs_r28_2147483654 : rs_go (rs_kl 2147483654 2147483654) (rs_e1 28 2147483654 2147483654) = true := by decide +kernel
theorem rs_r28_2147483655 : rs_go (rs_kl 2147483655 2147483655) (rs_e1 28 2147483655 2147483655) = true := by decide +kernel
theorem rs_r28_2147483656 : rs_go (rs_kl 2147483656 4294967295) (rs_e1 28 2147483656 4294967295) = true := by decide +kernel
