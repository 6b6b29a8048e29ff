/-! runs by symbols: values, sheet -/
set_option maxRecDepth 100000 in
theorem r_11_in : s_runO O_cut 100000000 244 1098 s_L0 [] (s_X s_H1 [s_fu, (2147483648, 2147483651, []), s_fu, s_fu, s_fu, s_fu, s_fu] s_t0) = true := by decide +kernel
set_option maxRecDepth 100000 in
theorem r_13_in : s_runO O_cut 100000000 244 1246 s_L0 [] (s_X s_H1 [s_fu, (2147483648, 2147483651, []), s_fu, s_fu, s_fu, s_fu, s_fu] s_t0) = true := by decide +kernel
