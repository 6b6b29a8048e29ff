/-! runs by symbols: dot, holes, partOf, partsAt -/
set_option maxRecDepth 100000 in
theorem r_1_0 : s_run 100000000 244 272 s_L0 [] (s_X s_H1 [s_fu, (2147483648, 2147483651, []), (0, 2147483647, []), s_fu, s_fu, s_fu, s_fu] s_t0) = true := by decide +kernel
set_option maxRecDepth 100000 in
theorem r_1_1 : s_run 100000000 244 272 s_L0 [] (s_X s_H1 [s_fu, (2147483648, 2147483651, []), (2147483648, 2147483651, []), s_fu, s_fu, s_fu, s_fu] s_t0) = true := by decide +kernel
set_option maxRecDepth 100000 in
theorem r_1_2 : s_run 100000000 244 272 s_L0 [] (s_X s_H1 [s_fu, (2147483648, 2147483651, []), (2147483652, 2147483655, []), s_fu, s_fu, s_fu, s_fu] s_t0) = true := by decide +kernel
set_option maxRecDepth 100000 in
theorem r_1_3 : s_run 100000000 244 272 s_L0 [] (s_X s_H1 [s_fu, (2147483648, 2147483651, []), (2147483656, 4294967295, []), s_fu, s_fu, s_fu, s_fu] s_t0) = true := by decide +kernel
set_option maxRecDepth 100000 in
theorem r_18_0 : s_run 100000000 244 1619 s_L0 [] (s_X s_H1 [s_fu, (2147483648, 2147483651, []), (0, 2147483651, []), s_fu, s_fu, s_fu, s_fu] s_t0) = true := by decide +kernel
set_option maxRecDepth 100000 in
theorem r_18_1 : s_run 100000000 244 1619 s_L0 [] (s_X s_H1 [s_fu, (2147483648, 2147483651, []), (2147483652, 2147483652, []), s_fu, s_fu, s_fu, s_fu] s_t0) = true := by decide +kernel
set_option maxRecDepth 100000 in
theorem r_18_2 : s_run 100000000 244 1619 s_L0 [] (s_X s_H1 [s_fu, (2147483648, 2147483651, []), (2147483653, 2147483655, []), s_fu, s_fu, s_fu, s_fu] s_t0) = true := by decide +kernel
set_option maxRecDepth 100000 in
theorem r_18_3 : s_run 100000000 244 1619 s_L0 [] (s_X s_H1 [s_fu, (2147483648, 2147483651, []), (2147483656, 2147483656, []), s_fu, s_fu, s_fu, s_fu] s_t0) = true := by decide +kernel
set_option maxRecDepth 100000 in
theorem r_18_4 : s_run 100000000 244 1619 s_L0 [] (s_X s_H1 [s_fu, (2147483648, 2147483651, []), (2147483657, 4294967295, []), s_fu, s_fu, s_fu, s_fu] s_t0) = true := by decide +kernel
set_option maxRecDepth 100000 in
theorem r_19_0 : s_run 100000000 244 1687 s_L0 [] (s_X s_H1 [s_fu, (2147483648, 2147483651, []), (0, 2147483651, []), s_fu, s_fu, s_fu, s_fu] s_t0) = true := by decide +kernel
set_option maxRecDepth 100000 in
theorem r_19_1 : s_run 100000000 244 1687 s_L0 [] (s_X s_H1 [s_fu, (2147483648, 2147483651, []), (2147483652, 2147483652, []), s_fu, s_fu, s_fu, s_fu] s_t0) = true := by decide +kernel
set_option maxRecDepth 100000 in
theorem r_19_2 : s_run 100000000 244 1687 s_L0 [] (s_X s_H1 [s_fu, (2147483648, 2147483651, []), (2147483653, 2147483655, []), s_fu, s_fu, s_fu, s_fu] s_t0) = true := by decide +kernel
set_option maxRecDepth 100000 in
theorem r_19_3 : s_run 100000000 244 1687 s_L0 [] (s_X s_H1 [s_fu, (2147483648, 2147483651, []), (2147483656, 2147483656, []), s_fu, s_fu, s_fu, s_fu] s_t0) = true := by decide +kernel
set_option maxRecDepth 100000 in
theorem r_19_4 : s_run 100000000 244 1687 s_L0 [] (s_X s_H1 [s_fu, (2147483648, 2147483651, []), (2147483657, 4294967295, []), s_fu, s_fu, s_fu, s_fu] s_t0) = true := by decide +kernel
set_option maxRecDepth 100000 in
theorem r_27_0 : s_run 100000000 244 2279 s_L0 [] (s_X s_H1 [s_fu, (2147483648, 2147483651, []), (0, 2147483651, []), s_fu, s_fu, s_fu, s_fu] s_t0) = true := by decide +kernel
set_option maxRecDepth 100000 in
theorem r_27_1 : s_run 100000000 244 2279 s_L0 [] (s_X s_H1 [s_fu, (2147483648, 2147483651, []), (2147483652, 2147483652, []), s_fu, s_fu, s_fu, s_fu] s_t0) = true := by decide +kernel
set_option maxRecDepth 100000 in
theorem r_27_2 : s_run 100000000 244 2279 s_L0 [] (s_X s_H1 [s_fu, (2147483648, 2147483651, []), (2147483653, 2147483655, []), s_fu, s_fu, s_fu, s_fu] s_t0) = true := by decide +kernel
set_option maxRecDepth 100000 in
theorem r_27_3 : s_run 100000000 244 2279 s_L0 [] (s_X s_H1 [s_fu, (2147483648, 2147483651, []), (2147483656, 2147483656, []), s_fu, s_fu, s_fu, s_fu] s_t0) = true := by decide +kernel
set_option maxRecDepth 100000 in
theorem r_27_4 : s_run 100000000 244 2279 s_L0 [] (s_X s_H1 [s_fu, (2147483648, 2147483651, []), (2147483657, 4294967295, []), s_fu, s_fu, s_fu, s_fu] s_t0) = true := by decide +kernel
