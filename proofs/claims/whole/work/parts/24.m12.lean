theorem ck_315 : op_315.all (ex_chk ex_ms me_315) = true := by decide +kernel
theorem ck_316 : op_316.all (ex_chk ex_ms me_316) = true := by decide +kernel
theorem ck_317 : op_317.all (ex_chk ex_ms me_317) = true := by decide +kernel
theorem ck_318 : op_318.all (ex_chk ex_ms me_318) = true := by decide +kernel
theorem ck_319 : op_319.all (ex_chk ex_ms me_319) = true := by decide +kernel
theorem ck_320 : op_320.all (ex_chk ex_ms me_320) = true := by decide +kernel
theorem ck_321 : op_321.all (ex_chk ex_ms me_321) = true := by decide +kernel
theorem ck_322 : op_322.all (ex_chk ex_ms me_322) = true := by decide +kernel
theorem ck_323 : op_323.all (ex_chk ex_ms me_323) = true := by decide +kernel
theorem ck_324 : op_324.all (ex_chk ex_ms me_324) = true := by decide +kernel
theorem ck_325 : op_325.all (ex_chk ex_ms me_325) = true := by decide +kernel
theorem ck_326 : op_326.all (ex_chk ex_ms me_326) = true := by decide +kernel
theorem ck_327 : op_327.all (ex_chk ex_ms me_327) = true := by decide +kernel
theorem ck_328_0 : op_328_0.all (ex_chk ex_ms me_328) = true := by decide +kernel
theorem ck_328_1 : op_328_1.all (ex_chk ex_ms me_328) = true := by decide +kernel
theorem ck_328 : op_328.all (ex_chk ex_ms me_328) = true := by
  unfold op_328
  simp only [List.all_append, Bool.and_eq_true]
  exact ⟨ck_328_0, ck_328_1⟩
theorem ck_329 : op_329.all (ex_chk ex_ms me_329) = true := by decide +kernel
theorem ck_330 : op_330.all (ex_chk ex_ms me_330) = true := by decide +kernel
theorem ck_331 : op_331.all (ex_chk ex_ms me_331) = true := by decide +kernel
theorem ck_332 : op_332.all (ex_chk ex_ms me_332) = true := by decide +kernel
theorem ck_333 : op_333.all (ex_chk ex_ms me_333) = true := by decide +kernel
theorem ck_334 : op_334.all (ex_chk ex_ms me_334) = true := by decide +kernel
