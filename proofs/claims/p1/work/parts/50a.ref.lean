/-! runs by symbols: refusals; two sheets -/
set_option maxRecDepth 100000 in
theorem r_0_lo : s_run 100000000 244 180 s_L0 [] (s_X s_H0 [s_fu, (0, 2147483647, []), s_fu, s_fu, s_fu, s_fu, s_fu] s_t0) = true := by decide +kernel
set_option maxRecDepth 100000 in
theorem r_0_hi : s_run 100000000 244 180 s_L0 [] (s_X s_H0 [s_fu, (2147483652, 4294967295, []), s_fu, s_fu, s_fu, s_fu, s_fu] s_t0) = true := by decide +kernel
set_option maxRecDepth 100000 in
theorem r_1_lo : s_run 100000000 244 272 s_L0 [] (s_X s_H0 [s_fu, (0, 2147483647, []), s_fu, s_fu, s_fu, s_fu, s_fu] s_t0) = true := by decide +kernel
set_option maxRecDepth 100000 in
theorem r_1_hi : s_run 100000000 244 272 s_L0 [] (s_X s_H0 [s_fu, (2147483652, 4294967295, []), s_fu, s_fu, s_fu, s_fu, s_fu] s_t0) = true := by decide +kernel
set_option maxRecDepth 100000 in
theorem r_2_lo : s_run 100000000 244 364 s_L0 [] (s_X s_H0 [s_fu, (0, 2147483647, []), s_fu, s_fu, s_fu, s_fu, s_fu] s_t0) = true := by decide +kernel
set_option maxRecDepth 100000 in
theorem r_2_hi : s_run 100000000 244 364 s_L0 [] (s_X s_H0 [s_fu, (2147483652, 4294967295, []), s_fu, s_fu, s_fu, s_fu, s_fu] s_t0) = true := by decide +kernel
set_option maxRecDepth 100000 in
theorem r_3_lo : s_run 100000000 244 482 s_L0 [] (s_X s_H0 [s_fu, (0, 2147483647, []), s_fu, s_fu, s_fu, s_fu, s_fu] s_t0) = true := by decide +kernel
set_option maxRecDepth 100000 in
theorem r_3_hi : s_run 100000000 244 482 s_L0 [] (s_X s_H0 [s_fu, (2147483652, 4294967295, []), s_fu, s_fu, s_fu, s_fu, s_fu] s_t0) = true := by decide +kernel
set_option maxRecDepth 100000 in
theorem r_4_lo : s_run 100000000 244 586 s_L0 [] (s_X s_H0 [s_fu, (0, 2147483647, []), s_fu, s_fu, s_fu, s_fu, s_fu] s_t0) = true := by decide +kernel
set_option maxRecDepth 100000 in
theorem r_4_hi : s_run 100000000 244 586 s_L0 [] (s_X s_H0 [s_fu, (2147483652, 4294967295, []), s_fu, s_fu, s_fu, s_fu, s_fu] s_t0) = true := by decide +kernel
set_option maxRecDepth 100000 in
theorem r_5_lo : s_run 100000000 244 678 s_L0 [] (s_X s_H0 [s_fu, (0, 2147483647, []), s_fu, s_fu, s_fu, s_fu, s_fu] s_t0) = true := by decide +kernel
set_option maxRecDepth 100000 in
theorem r_5_hi : s_run 100000000 244 678 s_L0 [] (s_X s_H0 [s_fu, (2147483652, 4294967295, []), s_fu, s_fu, s_fu, s_fu, s_fu] s_t0) = true := by decide +kernel
set_option maxRecDepth 100000 in
theorem r_6_lo : s_run 100000000 244 746 s_L0 [] (s_X s_H0 [s_fu, (0, 2147483647, []), s_fu, s_fu, s_fu, s_fu, s_fu] s_t0) = true := by decide +kernel
set_option maxRecDepth 100000 in
theorem r_6_hi : s_run 100000000 244 746 s_L0 [] (s_X s_H0 [s_fu, (2147483652, 4294967295, []), s_fu, s_fu, s_fu, s_fu, s_fu] s_t0) = true := by decide +kernel
set_option maxRecDepth 100000 in
theorem r_7_lo : s_run 100000000 244 826 s_L0 [] (s_X s_H0 [s_fu, (0, 2147483647, []), s_fu, s_fu, s_fu, s_fu, s_fu] s_t0) = true := by decide +kernel
set_option maxRecDepth 100000 in
theorem r_7_hi : s_run 100000000 244 826 s_L0 [] (s_X s_H0 [s_fu, (2147483652, 4294967295, []), s_fu, s_fu, s_fu, s_fu, s_fu] s_t0) = true := by decide +kernel
set_option maxRecDepth 100000 in
theorem r_10_lo : s_run 100000000 244 1030 s_L0 [] (s_X s_H0 [s_fu, (0, 2147483647, []), s_fu, s_fu, s_fu, s_fu, s_fu] s_t0) = true := by decide +kernel
set_option maxRecDepth 100000 in
theorem r_10_hi : s_run 100000000 244 1030 s_L0 [] (s_X s_H0 [s_fu, (2147483652, 4294967295, []), s_fu, s_fu, s_fu, s_fu, s_fu] s_t0) = true := by decide +kernel
set_option maxRecDepth 100000 in
theorem r_11_lo : s_run 100000000 244 1098 s_L0 [] (s_X s_H0 [s_fu, (0, 2147483647, []), s_fu, s_fu, s_fu, s_fu, s_fu] s_t0) = true := by decide +kernel
set_option maxRecDepth 100000 in
theorem r_11_hi : s_run 100000000 244 1098 s_L0 [] (s_X s_H0 [s_fu, (2147483652, 4294967295, []), s_fu, s_fu, s_fu, s_fu, s_fu] s_t0) = true := by decide +kernel
set_option maxRecDepth 100000 in
theorem r_12_lo : s_run 100000000 244 1166 s_L0 [] (s_X s_H0 [s_fu, (0, 2147483647, []), s_fu, s_fu, s_fu, s_fu, s_fu] s_t0) = true := by decide +kernel
set_option maxRecDepth 100000 in
theorem r_12_hi : s_run 100000000 244 1166 s_L0 [] (s_X s_H0 [s_fu, (2147483652, 4294967295, []), s_fu, s_fu, s_fu, s_fu, s_fu] s_t0) = true := by decide +kernel
set_option maxRecDepth 100000 in
theorem r_13_lo : s_run 100000000 244 1246 s_L0 [] (s_X s_H0 [s_fu, (0, 2147483647, []), s_fu, s_fu, s_fu, s_fu, s_fu] s_t0) = true := by decide +kernel
set_option maxRecDepth 100000 in
theorem r_13_hi : s_run 100000000 244 1246 s_L0 [] (s_X s_H0 [s_fu, (2147483652, 4294967295, []), s_fu, s_fu, s_fu, s_fu, s_fu] s_t0) = true := by decide +kernel
set_option maxRecDepth 100000 in
theorem r_14_lo : s_run 100000000 244 1314 s_L0 [] (s_X s_H0 [s_fu, (0, 2147483647, []), s_fu, s_fu, s_fu, s_fu, s_fu] s_t0) = true := by decide +kernel
set_option maxRecDepth 100000 in
theorem r_14_hi : s_run 100000000 244 1314 s_L0 [] (s_X s_H0 [s_fu, (2147483652, 4294967295, []), s_fu, s_fu, s_fu, s_fu, s_fu] s_t0) = true := by decide +kernel
set_option maxRecDepth 100000 in
theorem r_15_lo : s_run 100000000 244 1394 s_L0 [] (s_X s_H0 [s_fu, (0, 2147483647, []), s_fu, s_fu, s_fu, s_fu, s_fu] s_t0) = true := by decide +kernel
set_option maxRecDepth 100000 in
theorem r_15_hi : s_run 100000000 244 1394 s_L0 [] (s_X s_H0 [s_fu, (2147483652, 4294967295, []), s_fu, s_fu, s_fu, s_fu, s_fu] s_t0) = true := by decide +kernel
set_option maxRecDepth 100000 in
theorem r_16_lo : s_run 100000000 244 1462 s_L0 [] (s_X s_H0 [s_fu, (0, 2147483647, []), s_fu, s_fu, s_fu, s_fu, s_fu] s_t0) = true := by decide +kernel
set_option maxRecDepth 100000 in
theorem r_16_hi : s_run 100000000 244 1462 s_L0 [] (s_X s_H0 [s_fu, (2147483652, 4294967295, []), s_fu, s_fu, s_fu, s_fu, s_fu] s_t0) = true := by decide +kernel
set_option maxRecDepth 100000 in
theorem r_17_lo : s_run 100000000 244 1551 s_L0 [] (s_X s_H0 [s_fu, (0, 2147483647, []), s_fu, s_fu, s_fu, s_fu, s_fu] s_t0) = true := by decide +kernel
set_option maxRecDepth 100000 in
theorem r_17_hi : s_run 100000000 244 1551 s_L0 [] (s_X s_H0 [s_fu, (2147483652, 4294967295, []), s_fu, s_fu, s_fu, s_fu, s_fu] s_t0) = true := by decide +kernel
set_option maxRecDepth 100000 in
theorem r_18_lo : s_run 100000000 244 1619 s_L0 [] (s_X s_H0 [s_fu, (0, 2147483647, []), s_fu, s_fu, s_fu, s_fu, s_fu] s_t0) = true := by decide +kernel
set_option maxRecDepth 100000 in
theorem r_18_hi : s_run 100000000 244 1619 s_L0 [] (s_X s_H0 [s_fu, (2147483652, 4294967295, []), s_fu, s_fu, s_fu, s_fu, s_fu] s_t0) = true := by decide +kernel
set_option maxRecDepth 100000 in
theorem r_19_lo : s_run 100000000 244 1687 s_L0 [] (s_X s_H0 [s_fu, (0, 2147483647, []), s_fu, s_fu, s_fu, s_fu, s_fu] s_t0) = true := by decide +kernel
set_option maxRecDepth 100000 in
theorem r_19_hi : s_run 100000000 244 1687 s_L0 [] (s_X s_H0 [s_fu, (2147483652, 4294967295, []), s_fu, s_fu, s_fu, s_fu, s_fu] s_t0) = true := by decide +kernel
set_option maxRecDepth 100000 in
theorem r_20_lo : s_run 100000000 244 1779 s_L0 [] (s_X s_H0 [s_fu, (0, 2147483647, []), s_fu, s_fu, s_fu, s_fu, s_fu] s_t0) = true := by decide +kernel
set_option maxRecDepth 100000 in
theorem r_20_hi : s_run 100000000 244 1779 s_L0 [] (s_X s_H0 [s_fu, (2147483652, 4294967295, []), s_fu, s_fu, s_fu, s_fu, s_fu] s_t0) = true := by decide +kernel
set_option maxRecDepth 100000 in
theorem r_21_lo : s_run 100000000 244 1871 s_L0 [] (s_X s_H0 [s_fu, (0, 2147483647, []), s_fu, s_fu, s_fu, s_fu, s_fu] s_t0) = true := by decide +kernel
set_option maxRecDepth 100000 in
theorem r_21_hi : s_run 100000000 244 1871 s_L0 [] (s_X s_H0 [s_fu, (2147483652, 4294967295, []), s_fu, s_fu, s_fu, s_fu, s_fu] s_t0) = true := by decide +kernel
set_option maxRecDepth 100000 in
theorem r_22_lo : s_run 100000000 244 1939 s_L0 [] (s_X s_H0 [s_fu, (0, 2147483647, []), s_fu, s_fu, s_fu, s_fu, s_fu] s_t0) = true := by decide +kernel
set_option maxRecDepth 100000 in
theorem r_22_hi : s_run 100000000 244 1939 s_L0 [] (s_X s_H0 [s_fu, (2147483652, 4294967295, []), s_fu, s_fu, s_fu, s_fu, s_fu] s_t0) = true := by decide +kernel
set_option maxRecDepth 100000 in
theorem r_23_lo : s_run 100000000 244 2031 s_L0 [] (s_X s_H0 [s_fu, (0, 2147483647, []), s_fu, s_fu, s_fu, s_fu, s_fu] s_t0) = true := by decide +kernel
set_option maxRecDepth 100000 in
theorem r_23_hi : s_run 100000000 244 2031 s_L0 [] (s_X s_H0 [s_fu, (2147483652, 4294967295, []), s_fu, s_fu, s_fu, s_fu, s_fu] s_t0) = true := by decide +kernel
set_option maxRecDepth 100000 in
theorem r_24_lo : s_run 100000000 244 2099 s_L0 [] (s_X s_H0 [s_fu, (0, 2147483647, []), s_fu, s_fu, s_fu, s_fu, s_fu] s_t0) = true := by decide +kernel
set_option maxRecDepth 100000 in
theorem r_24_hi : s_run 100000000 244 2099 s_L0 [] (s_X s_H0 [s_fu, (2147483652, 4294967295, []), s_fu, s_fu, s_fu, s_fu, s_fu] s_t0) = true := by decide +kernel
set_option maxRecDepth 100000 in
theorem r_25_lo : s_run 100000000 244 2155 s_L0 [] (s_X s_H0 [s_fu, (0, 2147483647, []), s_fu, s_fu, s_fu, s_fu, s_fu] s_t0) = true := by decide +kernel
set_option maxRecDepth 100000 in
theorem r_25_hi : s_run 100000000 244 2155 s_L0 [] (s_X s_H0 [s_fu, (2147483652, 4294967295, []), s_fu, s_fu, s_fu, s_fu, s_fu] s_t0) = true := by decide +kernel
set_option maxRecDepth 100000 in
theorem r_26_lo : s_run 100000000 244 2211 s_L0 [] (s_X s_H0 [s_fu, (0, 2147483647, []), s_fu, s_fu, s_fu, s_fu, s_fu] s_t0) = true := by decide +kernel
set_option maxRecDepth 100000 in
theorem r_26_hi : s_run 100000000 244 2211 s_L0 [] (s_X s_H0 [s_fu, (2147483652, 4294967295, []), s_fu, s_fu, s_fu, s_fu, s_fu] s_t0) = true := by decide +kernel
set_option maxRecDepth 100000 in
theorem r_27_lo : s_run 100000000 244 2279 s_L0 [] (s_X s_H0 [s_fu, (0, 2147483647, []), s_fu, s_fu, s_fu, s_fu, s_fu] s_t0) = true := by decide +kernel
set_option maxRecDepth 100000 in
theorem r_27_hi : s_run 100000000 244 2279 s_L0 [] (s_X s_H0 [s_fu, (2147483652, 4294967295, []), s_fu, s_fu, s_fu, s_fu, s_fu] s_t0) = true := by decide +kernel
set_option maxRecDepth 100000 in
theorem r_28_lo : s_run 100000000 244 2359 s_L0 [] (s_X s_H0 [s_fu, (0, 2147483647, []), s_fu, s_fu, s_fu, s_fu, s_fu] s_t0) = true := by decide +kernel
set_option maxRecDepth 100000 in
theorem r_28_hi : s_run 100000000 244 2359 s_L0 [] (s_X s_H0 [s_fu, (2147483652, 4294967295, []), s_fu, s_fu, s_fu, s_fu, s_fu] s_t0) = true := by decide +kernel
set_option maxRecDepth 100000 in
theorem r_5_il : s_run 100000000 244 678 s_L0 [] (s_X s_H1 [s_fu, (2147483648, 2147483651, []), (0, 2147483647, []), s_fu, s_fu, s_fu, s_fu] s_t0) = true := by decide +kernel
set_option maxRecDepth 100000 in
theorem r_5_ih : s_run 100000000 244 678 s_L0 [] (s_X s_H1 [s_fu, (2147483648, 2147483651, []), (2147483652, 4294967295, []), s_fu, s_fu, s_fu, s_fu] s_t0) = true := by decide +kernel
set_option maxRecDepth 100000 in
theorem r_5_sm : s_run 100000000 244 678 s_L0 [] (s_X s_H1 [s_fu, (2147483648, 2147483651, []), s_fu, s_fu, s_fu, s_fu, s_fu] s_t1) = true := by decide +kernel
set_option maxRecDepth 100000 in
theorem r_5_tw : s_run 100000000 244 678 s_L0 [] (s_X s_H2 [s_fu, (2147483648, 2147483651, []), (2147483648, 2147483651, []), s_fu, s_fu, s_fu, s_fu] s_t0) = true := by decide +kernel
set_option maxRecDepth 100000 in
theorem r_6_il : s_run 100000000 244 746 s_L0 [] (s_X s_H1 [s_fu, (2147483648, 2147483651, []), (0, 2147483647, []), s_fu, s_fu, s_fu, s_fu] s_t0) = true := by decide +kernel
set_option maxRecDepth 100000 in
theorem r_6_ih : s_run 100000000 244 746 s_L0 [] (s_X s_H1 [s_fu, (2147483648, 2147483651, []), (2147483652, 4294967295, []), s_fu, s_fu, s_fu, s_fu] s_t0) = true := by decide +kernel
set_option maxRecDepth 100000 in
theorem r_6_sm : s_run 100000000 244 746 s_L0 [] (s_X s_H1 [s_fu, (2147483648, 2147483651, []), s_fu, s_fu, s_fu, s_fu, s_fu] s_t1) = true := by decide +kernel
set_option maxRecDepth 100000 in
theorem r_6_tw : s_run 100000000 244 746 s_L0 [] (s_X s_H2 [s_fu, (2147483648, 2147483651, []), (2147483648, 2147483651, []), s_fu, s_fu, s_fu, s_fu] s_t0) = true := by decide +kernel
set_option maxRecDepth 100000 in
theorem r_16_il : s_run 100000000 244 1462 s_L0 [] (s_X s_H1 [s_fu, (2147483648, 2147483651, []), (0, 2147483647, []), s_fu, s_fu, s_fu, s_fu] s_t0) = true := by decide +kernel
set_option maxRecDepth 100000 in
theorem r_16_ih : s_run 100000000 244 1462 s_L0 [] (s_X s_H1 [s_fu, (2147483648, 2147483651, []), (2147483652, 4294967295, []), s_fu, s_fu, s_fu, s_fu] s_t0) = true := by decide +kernel
set_option maxRecDepth 100000 in
theorem r_16_sm : s_run 100000000 244 1462 s_L0 [] (s_X s_H1 [s_fu, (2147483648, 2147483651, []), s_fu, s_fu, s_fu, s_fu, s_fu] s_t1) = true := by decide +kernel
set_option maxRecDepth 100000 in
theorem r_16_tw : s_run 100000000 244 1462 s_L0 [] (s_X s_H2 [s_fu, (2147483648, 2147483651, []), (2147483648, 2147483651, []), s_fu, s_fu, s_fu, s_fu] s_t0) = true := by decide +kernel
