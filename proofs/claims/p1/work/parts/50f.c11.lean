/-! runs by symbols: values, sheet -/
set_option maxRecDepth 100000 in
theorem r_11_0 : s_runO O_cuh 100000000 244 1098 s_L0 [] (s_X s_H1 [s_fu, (2147483648, 2147483651, []), (0, 2147483647, []), s_fu, s_fu, s_fu, s_fu] s_t0) = true := by decide +kernel
set_option maxRecDepth 100000 in
theorem r_11_1 : s_runO O_cuh 100000000 244 1098 s_L0 [] (s_X s_H1 [s_fu, (2147483648, 2147483651, []), (2147483648, 2147483648, []), s_fu, s_fu, s_fu, s_fu] s_t0) = true := by decide +kernel
set_option maxRecDepth 100000 in
theorem r_11_2 : s_runO O_cuh 100000000 244 1098 s_L0 [] (s_X s_H1 [s_fu, (2147483648, 2147483651, []), (2147483649, 2147483649, []), s_fu, s_fu, s_fu, s_fu] s_t0) = true := by decide +kernel
set_option maxRecDepth 100000 in
theorem r_11_3 : s_runO O_cuh 100000000 244 1098 s_L0 [] (s_X s_H1 [s_fu, (2147483648, 2147483651, []), (2147483650, 2147483650, []), s_fu, s_fu, s_fu, s_fu] s_t0) = true := by decide +kernel
set_option maxRecDepth 100000 in
theorem r_11_4 : s_runO O_cuh 100000000 244 1098 s_L0 [] (s_X s_H1 [s_fu, (2147483648, 2147483651, []), (2147483651, 2147483651, []), s_fu, s_fu, s_fu, s_fu] s_t0) = true := by decide +kernel
set_option maxRecDepth 100000 in
theorem r_11_5 : s_runO O_cuh 100000000 244 1098 s_L0 [] (s_X s_H1 [s_fu, (2147483648, 2147483651, []), (2147483652, 4294967295, []), s_fu, s_fu, s_fu, s_fu] s_t0) = true := by decide +kernel
set_option maxRecDepth 100000 in
theorem r_13_in : s_runO O_cuh 100000000 244 1246 s_L0 [] (s_X s_H1 [s_fu, (2147483648, 2147483651, []), s_fu, s_fu, s_fu, s_fu, s_fu] s_t0) = true := by decide +kernel
