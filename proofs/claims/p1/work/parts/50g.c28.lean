/-! carvedBy: refusals and none -/
set_option maxRecDepth 100000 in
theorem r_28_a : s_run 100000000 244 2359 s_L0 [] (s_X s_H1 [s_fu, (2147483648, 2147483651, []), (0, 2147483648, []), s_fu, s_fu, s_fu, s_fu] s_t0) = true := by decide +kernel
set_option maxRecDepth 100000 in
theorem r_28_z : s_run 100000000 244 2359 s_L0 [] (s_X s_H1 [s_fu, (2147483648, 2147483651, []), (2147483656, 4294967295, []), s_fu, s_fu, s_fu, s_fu] s_t0) = true := by decide +kernel
