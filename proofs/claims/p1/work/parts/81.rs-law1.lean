theorem rs_r9_2147483703 : rs_go (rs_kt 2147483703 2147483710) (rs_e1 9 2147483703 2147483710) = true := by decide +kernel
theorem rs_r9_2147483711 : rs_go (rs_kt 2147483711 2147483717) (rs_e1 9 2147483711 2147483717) = true := by decide +kernel
theorem rs_r9_2147483718 : rs_go (rs_kt 2147483718 2147483724) (rs_e1 9 2147483718 2147483724) = true := by decide +kernel
theorem rs_r9_2147483725 : rs_go (rs_kt 2147483725 2147483730) (rs_e1 9 2147483725 2147483730) = true := by decide +kernel
theorem rs_r9_2147483731 : rs_go (rs_kt 2147483731 2147483736) (rs_e1 9 2147483731 2147483736) = true := by decide +kernel
theorem rs_r9_2147483737 : rs_go (rs_kt 2147483737 2147483741) (rs_e1 9 2147483737 2147483741) = true := by decide +kernel
