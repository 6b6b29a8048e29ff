/-! digest in pieces -/
set_option maxRecDepth 100000 in
theorem dg_p0 : s_runO (O_stp dg_T1 104 73 O_cuh) 100000000 244 2427 s_L0 [] (s_X s_Hf [s_fu, s_fu, s_fu, s_fu, s_fu, s_fu, s_fu] s_t0) = true := by decide +kernel
set_option maxRecDepth 100000 in
theorem dg_p1 : s_runO (O_stp dg_T2 104 21 O_cuh) 100000000 104 73 dg_T1.1 dg_T1.2.1 dg_T1.2.2 = true := by decide +kernel
set_option maxRecDepth 100000 in
theorem dg_p2 : s_runO (O_stp dg_T3 104 87 O_cuh) 100000000 104 21 dg_T2.1 dg_T2.2.1 dg_T2.2.2 = true := by decide +kernel
set_option maxRecDepth 100000 in
theorem dg_p3 : s_runO (O_stp dg_T4 104 43 O_cuh) 100000000 104 87 dg_T3.1 dg_T3.2.1 dg_T3.2.2 = true := by decide +kernel
set_option maxRecDepth 100000 in
theorem dg_p4 : s_runO (O_stp dg_T5 105 11 O_cuh) 100000000 104 43 dg_T4.1 dg_T4.2.1 dg_T4.2.2 = true := by decide +kernel
