/-! digest in pieces -/
set_option maxRecDepth 100000 in
theorem dg_p10 : s_runO (O_stp dg_T11 191 84 O_cuh) 100000000 191 95 dg_T10.1 dg_T10.2.1 dg_T10.2.2 = true := by decide +kernel
set_option maxRecDepth 100000 in
theorem dg_p11 : s_runO (O_stp dg_T12 191 84 O_cuh) 100000000 191 84 dg_T11.1 dg_T11.2.1 dg_T11.2.2 = true := by decide +kernel
set_option maxRecDepth 100000 in
theorem dg_p12 : s_runO (O_stp dg_T13 191 95 O_cuh) 100000000 191 84 dg_T12.1 dg_T12.2.1 dg_T12.2.2 = true := by decide +kernel
set_option maxRecDepth 100000 in
theorem dg_p13 : s_runO (O_stp dg_T14 191 84 O_cuh) 100000000 191 95 dg_T13.1 dg_T13.2.1 dg_T13.2.2 = true := by decide +kernel
set_option maxRecDepth 100000 in
theorem dg_p14 : s_runO (O_stp dg_T15 191 84 O_cuh) 100000000 191 84 dg_T14.1 dg_T14.2.1 dg_T14.2.2 = true := by decide +kernel
