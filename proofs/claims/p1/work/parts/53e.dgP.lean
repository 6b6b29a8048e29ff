/-! digest in pieces -/
set_option maxRecDepth 100000 in
theorem dg_p15 : s_runO (O_stp dg_T16 191 95 O_cuh) 100000000 191 84 dg_T15.1 dg_T15.2.1 dg_T15.2.2 = true := by decide +kernel
set_option maxRecDepth 100000 in
theorem dg_p16 : s_runO (O_stp dg_T17 191 84 O_cuh) 100000000 191 95 dg_T16.1 dg_T16.2.1 dg_T16.2.2 = true := by decide +kernel
set_option maxRecDepth 100000 in
theorem dg_p17 : s_runO (O_stp dg_T18 191 84 O_cuh) 100000000 191 84 dg_T17.1 dg_T17.2.1 dg_T17.2.2 = true := by decide +kernel
set_option maxRecDepth 100000 in
theorem dg_p18 : s_runO (O_stp dg_T19 191 95 O_cuh) 100000000 191 84 dg_T18.1 dg_T18.2.1 dg_T18.2.2 = true := by decide +kernel
set_option maxRecDepth 100000 in
theorem dg_p19 : s_runO O_cuh 100000000 191 95 dg_T19.1 dg_T19.2.1 dg_T19.2.2 = true := by decide +kernel
