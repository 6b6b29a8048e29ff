/-! the blocks are what s_cmp makes of the data: method by method -/
set_option maxRecDepth 100000 in
theorem bq_244 : bm_244 = s_bks 244 bc_244 := rfl
