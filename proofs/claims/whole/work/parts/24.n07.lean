theorem ck_0_7_0 : (List.take 25 (op_0_7)).all (ex_chk ex_ms me_0) = true := by decide +kernel
theorem ck_0_7_1 : (List.take 25 (List.drop 25 (op_0_7))).all (ex_chk ex_ms me_0) = true := by decide +kernel
theorem ck_0_7_2 : (List.take 25 (List.drop 25 (List.drop 25 (op_0_7)))).all (ex_chk ex_ms me_0) = true := by decide +kernel
theorem ck_0_7_3 : (List.drop 25 (List.drop 25 (List.drop 25 (op_0_7)))).all (ex_chk ex_ms me_0) = true := by decide +kernel
theorem ck_0_7 : op_0_7.all (ex_chk ex_ms me_0) = true := ck_sp 25 ck_0_7_0 (ck_sp 25 ck_0_7_1 (ck_sp 25 ck_0_7_2 (ck_0_7_3)))
