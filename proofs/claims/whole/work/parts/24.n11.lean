theorem ck_0_11_0 : (List.take 25 (op_0_11)).all (ex_chk ex_ms me_0) = true := by decide +kernel
theorem ck_0_11_1 : (List.take 25 (List.drop 25 (op_0_11))).all (ex_chk ex_ms me_0) = true := by decide +kernel
theorem ck_0_11_2 : (List.take 25 (List.drop 25 (List.drop 25 (op_0_11)))).all (ex_chk ex_ms me_0) = true := by decide +kernel
theorem ck_0_11_3 : (List.drop 25 (List.drop 25 (List.drop 25 (op_0_11)))).all (ex_chk ex_ms me_0) = true := by decide +kernel
theorem ck_0_11 : op_0_11.all (ex_chk ex_ms me_0) = true := ck_sp 25 ck_0_11_0 (ck_sp 25 ck_0_11_1 (ck_sp 25 ck_0_11_2 (ck_0_11_3)))
