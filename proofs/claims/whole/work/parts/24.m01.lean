theorem ck_46 : op_46.all (ex_chk ex_ms me_46) = true := by decide +kernel
theorem ck_47 : op_47.all (ex_chk ex_ms me_47) = true := by decide +kernel
theorem ck_48 : op_48.all (ex_chk ex_ms me_48) = true := by decide +kernel
theorem ck_49 : op_49.all (ex_chk ex_ms me_49) = true := by decide +kernel
theorem ck_50 : op_50.all (ex_chk ex_ms me_50) = true := by decide +kernel
theorem ck_51 : op_51.all (ex_chk ex_ms me_51) = true := by decide +kernel
theorem ck_52 : op_52.all (ex_chk ex_ms me_52) = true := by decide +kernel
theorem ck_53 : op_53.all (ex_chk ex_ms me_53) = true := by decide +kernel
theorem ck_54 : op_54.all (ex_chk ex_ms me_54) = true := by decide +kernel
theorem ck_55 : op_55.all (ex_chk ex_ms me_55) = true := by decide +kernel
theorem ck_56 : op_56.all (ex_chk ex_ms me_56) = true := by decide +kernel
theorem ck_57_0 : op_57_0.all (ex_chk ex_ms me_57) = true := by decide +kernel
theorem ck_57_1 : op_57_1.all (ex_chk ex_ms me_57) = true := by decide +kernel
theorem ck_57 : op_57.all (ex_chk ex_ms me_57) = true := by
  unfold op_57
  simp only [List.all_append, Bool.and_eq_true]
  exact ⟨ck_57_0, ck_57_1⟩
theorem ck_58 : op_58.all (ex_chk ex_ms me_58) = true := by decide +kernel
theorem ck_59 : op_59.all (ex_chk ex_ms me_59) = true := by decide +kernel
theorem ck_60 : op_60.all (ex_chk ex_ms me_60) = true := by decide +kernel
theorem ck_61 : op_61.all (ex_chk ex_ms me_61) = true := by decide +kernel
theorem ck_62 : op_62.all (ex_chk ex_ms me_62) = true := by decide +kernel
theorem ck_63 : op_63.all (ex_chk ex_ms me_63) = true := by decide +kernel
theorem ck_64 : op_64.all (ex_chk ex_ms me_64) = true := by decide +kernel
theorem ck_65 : op_65.all (ex_chk ex_ms me_65) = true := by decide +kernel
theorem ck_66 : op_66.all (ex_chk ex_ms me_66) = true := by decide +kernel
