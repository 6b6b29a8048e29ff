/-! digest in pieces -/
set_option maxRecDepth 100000 in
theorem dg_p5 : s_runO (O_stp dg_T6 104 43 O_cuh) 100000000 105 11 dg_T5.1 dg_T5.2.1 dg_T5.2.2 = true := by decide +kernel
set_option maxRecDepth 100000 in
theorem dg_p6 : s_runO (O_stp dg_T7 105 11 O_cuh) 100000000 104 43 dg_T6.1 dg_T6.2.1 dg_T6.2.2 = true := by decide +kernel
set_option maxRecDepth 100000 in
theorem dg_p7 : s_runO (O_stp dg_T8 191 84 O_cuh) 100000000 105 11 dg_T7.1 dg_T7.2.1 dg_T7.2.2 = true := by decide +kernel
set_option maxRecDepth 100000 in
theorem dg_p8 : s_runO (O_stp dg_T9 191 84 O_cuh) 100000000 191 84 dg_T8.1 dg_T8.2.1 dg_T8.2.2 = true := by decide +kernel
set_option maxRecDepth 100000 in
theorem dg_p9 : s_runO (O_stp dg_T10 191 95 O_cuh) 100000000 191 84 dg_T9.1 dg_T9.2.1 dg_T9.2.2 = true := by decide +kernel
