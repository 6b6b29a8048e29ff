/-! runs by symbols: filter -/
set_option maxRecDepth 100000 in
theorem r_10_0 : s_run 100000000 244 1030 s_L0 [] (s_X s_H1 [s_fu, (2147483648, 2147483651, []), (0, 2147483647, []), s_fu, s_fu, s_fu, s_fu] s_t0) = true := by decide +kernel
set_option maxRecDepth 100000 in
theorem r_10_1 : s_run 100000000 244 1030 s_L0 [] (s_X s_H1 [s_fu, (2147483648, 2147483651, []), (2147483648, 2147483648, []), s_fu, s_fu, s_fu, s_fu] s_t0) = true := by decide +kernel
set_option maxRecDepth 100000 in
theorem r_10_2 : s_run 100000000 244 1030 s_L0 [] (s_X s_H1 [s_fu, (2147483648, 2147483651, []), (2147483649, 2147483649, []), s_fu, s_fu, s_fu, s_fu] s_t0) = true := by decide +kernel
set_option maxRecDepth 100000 in
theorem r_10_3 : s_run 100000000 244 1030 s_L0 [] (s_X s_H1 [s_fu, (2147483648, 2147483651, []), (2147483650, 2147483650, []), s_fu, s_fu, s_fu, s_fu] s_t0) = true := by decide +kernel
set_option maxRecDepth 100000 in
theorem r_10_4 : s_run 100000000 244 1030 s_L0 [] (s_X s_H1 [s_fu, (2147483648, 2147483651, []), (2147483651, 2147483651, []), s_fu, s_fu, s_fu, s_fu] s_t0) = true := by decide +kernel
set_option maxRecDepth 100000 in
theorem r_10_5 : s_run 100000000 244 1030 s_L0 [] (s_X s_H1 [s_fu, (2147483648, 2147483651, []), (2147483652, 2147483652, []), s_fu, s_fu, s_fu, s_fu] s_t0) = true := by decide +kernel
set_option maxRecDepth 100000 in
theorem r_10_6 : s_run 100000000 244 1030 s_L0 [] (s_X s_H1 [s_fu, (2147483648, 2147483651, []), (2147483653, 2147483653, []), s_fu, s_fu, s_fu, s_fu] s_t0) = true := by decide +kernel
set_option maxRecDepth 100000 in
theorem r_10_7 : s_run 100000000 244 1030 s_L0 [] (s_X s_H1 [s_fu, (2147483648, 2147483651, []), (2147483654, 2147483654, []), s_fu, s_fu, s_fu, s_fu] s_t0) = true := by decide +kernel
set_option maxRecDepth 100000 in
theorem r_10_8 : s_run 100000000 244 1030 s_L0 [] (s_X s_H1 [s_fu, (2147483648, 2147483651, []), (2147483655, 2147483655, []), s_fu, s_fu, s_fu, s_fu] s_t0) = true := by decide +kernel
set_option maxRecDepth 100000 in
theorem r_10_9 : s_run 100000000 244 1030 s_L0 [] (s_X s_H1 [s_fu, (2147483648, 2147483651, []), (2147483656, 2147483656, []), s_fu, s_fu, s_fu, s_fu] s_t0) = true := by decide +kernel
set_option maxRecDepth 100000 in
theorem r_10_10 : s_run 100000000 244 1030 s_L0 [] (s_X s_H1 [s_fu, (2147483648, 2147483651, []), (2147483657, 4294967295, []), s_fu, s_fu, s_fu, s_fu] s_t0) = true := by decide +kernel
