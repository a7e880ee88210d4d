theorem ck_235 : op_235.all (ex_chk ex_ms me_235) = true := by decide +kernel
theorem ck_236 : op_236.all (ex_chk ex_ms me_236) = true := by decide +kernel
theorem ck_237 : op_237.all (ex_chk ex_ms me_237) = true := by decide +kernel
theorem ck_238 : op_238.all (ex_chk ex_ms me_238) = true := by decide +kernel
theorem ck_239 : op_239.all (ex_chk ex_ms me_239) = true := by decide +kernel
theorem ck_240 : op_240.all (ex_chk ex_ms me_240) = true := by decide +kernel
theorem ck_241 : op_241.all (ex_chk ex_ms me_241) = true := by decide +kernel
theorem ck_242 : op_242.all (ex_chk ex_ms me_242) = true := by decide +kernel
theorem ck_243 : op_243.all (ex_chk ex_ms me_243) = true := by decide +kernel
theorem ck_244 : op_244.all (ex_chk ex_ms me_244) = true := by decide +kernel
theorem ck_245 : op_245.all (ex_chk ex_ms me_245) = true := by decide +kernel
theorem ck_246 : op_246.all (ex_chk ex_ms me_246) = true := by decide +kernel
theorem ck_247 : op_247.all (ex_chk ex_ms me_247) = true := by decide +kernel
theorem ck_248 : op_248.all (ex_chk ex_ms me_248) = true := by decide +kernel
theorem ck_249 : op_249.all (ex_chk ex_ms me_249) = true := by decide +kernel
theorem ck_250 : op_250.all (ex_chk ex_ms me_250) = true := by decide +kernel
theorem ck_251 : op_251.all (ex_chk ex_ms me_251) = true := by decide +kernel
theorem ck_252 : op_252.all (ex_chk ex_ms me_252) = true := by decide +kernel
theorem ck_253_0 : op_253_0.all (ex_chk ex_ms me_253) = true := by decide +kernel
theorem ck_253_1 : op_253_1.all (ex_chk ex_ms me_253) = true := by decide +kernel
theorem ck_253 : op_253.all (ex_chk ex_ms me_253) = true := by
  unfold op_253
  simp only [List.all_append, Bool.and_eq_true]
  exact ⟨ck_253_0, ck_253_1⟩
