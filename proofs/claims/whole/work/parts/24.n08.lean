theorem ck_0_8_0 : (List.take 25 (op_0_8)).all (ex_chk ex_ms me_0) = true := by decide +kernel
theorem ck_0_8_1 : (List.take 25 (List.drop 25 (op_0_8))).all (ex_chk ex_ms me_0) = true := by decide +kernel
theorem ck_0_8_2 : (List.take 25 (List.drop 25 (List.drop 25 (op_0_8)))).all (ex_chk ex_ms me_0) = true := by decide +kernel
theorem ck_0_8_3 : (List.drop 25 (List.drop 25 (List.drop 25 (op_0_8)))).all (ex_chk ex_ms me_0) = true := by decide +kernel
theorem ck_0_8 : op_0_8.all (ex_chk ex_ms me_0) = true := ck_sp 25 ck_0_8_0 (ck_sp 25 ck_0_8_1 (ck_sp 25 ck_0_8_2 (ck_0_8_3)))
