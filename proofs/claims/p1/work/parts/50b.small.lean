/-! runs by symbols: small cases -/
set_option maxRecDepth 100000 in
theorem r_7_in : s_run 100000000 244 826 s_L0 [] (s_X s_H1 [s_fu, (2147483648, 2147483651, []), s_fu, s_fu, s_fu, s_fu, s_fu] s_t0) = true := by decide +kernel
set_option maxRecDepth 100000 in
theorem r_12_in : s_run 100000000 244 1166 s_L0 [] (s_X s_H1 [s_fu, (2147483648, 2147483651, []), s_fu, s_fu, s_fu, s_fu, s_fu] s_t0) = true := by decide +kernel
set_option maxRecDepth 100000 in
theorem r_14_in : s_run 100000000 244 1314 s_L0 [] (s_X s_H1 [s_fu, (2147483648, 2147483651, []), s_fu, s_fu, s_fu, s_fu, s_fu] s_t0) = true := by decide +kernel
set_option maxRecDepth 100000 in
theorem r_15_in : s_run 100000000 244 1394 s_L0 [] (s_X s_H1 [s_fu, (2147483648, 2147483651, []), s_fu, s_fu, s_fu, s_fu, s_fu] s_t0) = true := by decide +kernel
set_option maxRecDepth 100000 in
theorem r_17_in : s_run 100000000 244 1551 s_L0 [] (s_X s_H1 [s_fu, (2147483648, 2147483651, []), s_fu, s_fu, s_fu, s_fu, s_fu] s_t0) = true := by decide +kernel
set_option maxRecDepth 100000 in
theorem r_20_in : s_run 100000000 244 1779 s_L0 [] (s_X s_H1 [s_fu, (2147483648, 2147483651, []), s_fu, s_fu, s_fu, s_fu, s_fu] s_t0) = true := by decide +kernel
set_option maxRecDepth 100000 in
theorem r_21_in : s_run 100000000 244 1871 s_L0 [] (s_X s_H1 [s_fu, (2147483648, 2147483651, []), s_fu, s_fu, s_fu, s_fu, s_fu] s_t0) = true := by decide +kernel
set_option maxRecDepth 100000 in
theorem r_22_in : s_run 100000000 244 1939 s_L0 [] (s_X s_H1 [s_fu, (2147483648, 2147483651, []), s_fu, s_fu, s_fu, s_fu, s_fu] s_t0) = true := by decide +kernel
set_option maxRecDepth 100000 in
theorem r_23_in : s_run 100000000 244 2031 s_L0 [] (s_X s_H1 [s_fu, (2147483648, 2147483651, []), s_fu, s_fu, s_fu, s_fu, s_fu] s_t0) = true := by decide +kernel
set_option maxRecDepth 100000 in
theorem r_24_in : s_run 100000000 244 2099 s_L0 [] (s_X s_H1 [s_fu, (2147483648, 2147483651, []), s_fu, s_fu, s_fu, s_fu, s_fu] s_t0) = true := by decide +kernel
set_option maxRecDepth 100000 in
theorem r_25_in : s_run 100000000 244 2155 s_L0 [] (s_X s_H1 [s_fu, (2147483648, 2147483651, []), s_fu, s_fu, s_fu, s_fu, s_fu] s_t0) = true := by decide +kernel
set_option maxRecDepth 100000 in
theorem r_8_no : s_run 100000000 244 894 s_L0 [] (s_X s_H0 [s_fu, s_fu, s_fu, s_fu, s_fu, s_fu, s_fu] s_t0) = true := by decide +kernel
set_option maxRecDepth 100000 in
theorem r_9_no : s_run 100000000 244 962 s_L0 [] (s_X s_H0 [s_fu, s_fu, s_fu, s_fu, s_fu, s_fu, s_fu] s_t0) = true := by decide +kernel
set_option maxRecDepth 100000 in
theorem r_26_in : s_run 100000000 244 2211 s_L0 [] (s_X s_H1 [s_fu, (2147483648, 2147483651, []), s_fu, s_fu, s_fu, s_fu, s_fu] s_t0) = true := by decide +kernel
