set_option maxRecDepth 100000 in
theorem cs_ok_t : cs_of cs_r1 cs_r2 = true := by decide +kernel
