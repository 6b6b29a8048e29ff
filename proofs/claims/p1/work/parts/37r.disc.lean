set_option maxRecDepth 100000 in
theorem r_3_in : s_runO O_dis 100000000 244 482 s_L0 [] (s_X s_H1 (s_EO (2147483648, 2147483651, []) s_fu s_fu s_fu s_fu s_fu s_fu) s_t0) = true := by decide +kernel
