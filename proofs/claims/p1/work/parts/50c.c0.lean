/-! runs by symbols: fresh -/
set_option maxRecDepth 100000 in
theorem r_0_0 : s_run 100000000 244 180 s_L0 [] (s_X s_H1 [s_fu, (2147483648, 2147483651, []), (0, 2147483648, []), s_fu, s_fu, s_fu, s_fu] s_t0) = true := by decide +kernel
set_option maxRecDepth 100000 in
theorem r_0_1 : s_run 100000000 244 180 s_L0 [] (s_X s_H1 [s_fu, (2147483648, 2147483651, []), (2147483649, 2147483654, []), s_fu, s_fu, s_fu, s_fu] s_t0) = true := by decide +kernel
set_option maxRecDepth 100000 in
theorem r_0_2 : s_run 100000000 244 180 s_L0 [] (s_X s_H1 [s_fu, (2147483648, 2147483651, []), (2147483655, 2147483657, []), s_fu, s_fu, s_fu, s_fu] s_t0) = true := by decide +kernel
set_option maxRecDepth 100000 in
theorem r_0_3 : s_run 100000000 244 180 s_L0 [] (s_X s_H1 [s_fu, (2147483648, 2147483651, []), (2147483658, 2147483659, []), s_fu, s_fu, s_fu, s_fu] s_t0) = true := by decide +kernel
set_option maxRecDepth 100000 in
theorem r_0_4 : s_run 100000000 244 180 s_L0 [] (s_X s_H1 [s_fu, (2147483648, 2147483651, []), (2147483660, 2147483661, []), s_fu, s_fu, s_fu, s_fu] s_t0) = true := by decide +kernel
set_option maxRecDepth 100000 in
theorem r_0_5 : s_run 100000000 244 180 s_L0 [] (s_X s_H1 [s_fu, (2147483648, 2147483651, []), (2147483662, 2147483663, []), s_fu, s_fu, s_fu, s_fu] s_t0) = true := by decide +kernel
set_option maxRecDepth 100000 in
theorem r_0_6 : s_run 100000000 244 180 s_L0 [] (s_X s_H1 [s_fu, (2147483648, 2147483651, []), (2147483664, 2147483664, []), s_fu, s_fu, s_fu, s_fu] s_t0) = true := by decide +kernel
set_option maxRecDepth 100000 in
theorem r_0_7 : s_run 100000000 244 180 s_L0 [] (s_X s_H1 [s_fu, (2147483648, 2147483651, []), (2147483665, 4294967295, []), s_fu, s_fu, s_fu, s_fu] s_t0) = true := by decide +kernel
