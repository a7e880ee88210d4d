theorem ck_275_0 : op_275_0.all (ex_chk ex_ms me_275) = true := by decide +kernel
theorem ck_275_1 : op_275_1.all (ex_chk ex_ms me_275) = true := by decide +kernel
theorem ck_275 : op_275.all (ex_chk ex_ms me_275) = true := by
  unfold op_275
  simp only [List.all_append, Bool.and_eq_true]
  exact ⟨ck_275_0, ck_275_1⟩
theorem ck_276 : op_276.all (ex_chk ex_ms me_276) = true := by decide +kernel
theorem ck_277_0 : op_277_0.all (ex_chk ex_ms me_277) = true := by decide +kernel
theorem ck_277_1 : op_277_1.all (ex_chk ex_ms me_277) = true := by decide +kernel
theorem ck_277 : op_277.all (ex_chk ex_ms me_277) = true := by
  unfold op_277
  simp only [List.all_append, Bool.and_eq_true]
  exact ⟨ck_277_0, ck_277_1⟩
theorem ck_278_0 : op_278_0.all (ex_chk ex_ms me_278) = true := by decide +kernel
theorem ck_278_1 : op_278_1.all (ex_chk ex_ms me_278) = true := by decide +kernel
theorem ck_278 : op_278.all (ex_chk ex_ms me_278) = true := by
  unfold op_278
  simp only [List.all_append, Bool.and_eq_true]
  exact ⟨ck_278_0, ck_278_1⟩
theorem ck_279 : op_279.all (ex_chk ex_ms me_279) = true := by decide +kernel
theorem ck_280 : op_280.all (ex_chk ex_ms me_280) = true := by decide +kernel
theorem ck_281 : op_281.all (ex_chk ex_ms me_281) = true := by decide +kernel
theorem ck_282 : op_282.all (ex_chk ex_ms me_282) = true := by decide +kernel
theorem ck_283 : op_283.all (ex_chk ex_ms me_283) = true := by decide +kernel
theorem ck_284 : op_284.all (ex_chk ex_ms me_284) = true := by decide +kernel
theorem ck_285 : op_285.all (ex_chk ex_ms me_285) = true := by decide +kernel
theorem ck_286 : op_286.all (ex_chk ex_ms me_286) = true := by decide +kernel
theorem ck_287 : op_287.all (ex_chk ex_ms me_287) = true := by decide +kernel
theorem ck_288 : op_288.all (ex_chk ex_ms me_288) = true := by decide +kernel
