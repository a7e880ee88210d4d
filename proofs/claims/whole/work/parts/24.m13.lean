theorem ck_335_0 : op_335_0.all (ex_chk ex_ms me_335) = true := by decide +kernel
theorem ck_335_1 : op_335_1.all (ex_chk ex_ms me_335) = true := by decide +kernel
theorem ck_335 : op_335.all (ex_chk ex_ms me_335) = true := by
  unfold op_335
  simp only [List.all_append, Bool.and_eq_true]
  exact ⟨ck_335_0, ck_335_1⟩
theorem ck_336 : op_336.all (ex_chk ex_ms me_336) = true := by decide +kernel
theorem ck_337 : op_337.all (ex_chk ex_ms me_337) = true := by decide +kernel
theorem ck_338 : op_338.all (ex_chk ex_ms me_338) = true := by decide +kernel
theorem ck_339 : op_339.all (ex_chk ex_ms me_339) = true := by decide +kernel
theorem ck_340 : op_340.all (ex_chk ex_ms me_340) = true := by decide +kernel
theorem ck_341 : op_341.all (ex_chk ex_ms me_341) = true := by decide +kernel
theorem ck_342 : op_342.all (ex_chk ex_ms me_342) = true := by decide +kernel
theorem ck_343 : op_343.all (ex_chk ex_ms me_343) = true := by decide +kernel
theorem ck_344 : op_344.all (ex_chk ex_ms me_344) = true := by decide +kernel
theorem ck_345 : op_345.all (ex_chk ex_ms me_345) = true := by decide +kernel
theorem ck_346 : op_346.all (ex_chk ex_ms me_346) = true := by decide +kernel
theorem ck_347 : op_347.all (ex_chk ex_ms me_347) = true := by decide +kernel
theorem ck_348 : op_348.all (ex_chk ex_ms me_348) = true := by decide +kernel
theorem ck_349 : op_349.all (ex_chk ex_ms me_349) = true := by decide +kernel
theorem ck_350 : op_350.all (ex_chk ex_ms me_350) = true := by decide +kernel
theorem ck_351 : op_351.all (ex_chk ex_ms me_351) = true := by decide +kernel
theorem ck_352 : op_352.all (ex_chk ex_ms me_352) = true := by decide +kernel
theorem ck_353 : op_353.all (ex_chk ex_ms me_353) = true := by decide +kernel
theorem ck_354 : op_354.all (ex_chk ex_ms me_354) = true := by decide +kernel
theorem ck_355 : op_355.all (ex_chk ex_ms me_355) = true := by decide +kernel
theorem ck_356 : op_356.all (ex_chk ex_ms me_356) = true := by decide +kernel
theorem ck_357 : op_357.all (ex_chk ex_ms me_357) = true := by decide +kernel
