theorem ck_0_2_0 : (List.take 25 (op_0_2)).all (ex_chk ex_ms me_0) = true := by decide +kernel
theorem ck_0_2_1 : (List.take 25 (List.drop 25 (op_0_2))).all (ex_chk ex_ms me_0) = true := by decide +kernel
theorem ck_0_2_2 : (List.take 25 (List.drop 25 (List.drop 25 (op_0_2)))).all (ex_chk ex_ms me_0) = true := by decide +kernel
theorem ck_0_2_3 : (List.drop 25 (List.drop 25 (List.drop 25 (op_0_2)))).all (ex_chk ex_ms me_0) = true := by decide +kernel
theorem ck_0_2 : op_0_2.all (ex_chk ex_ms me_0) = true := ck_sp 25 ck_0_2_0 (ck_sp 25 ck_0_2_1 (ck_sp 25 ck_0_2_2 (ck_0_2_3)))
