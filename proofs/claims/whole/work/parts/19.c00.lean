theorem ck_0_0 : op_0_0.all (ex_chk ex_ms me_0) = true := by decide +kernel
theorem ck_0_1 : op_0_1.all (ex_chk ex_ms me_0) = true := by decide +kernel
theorem ck_0_2 : op_0_2.all (ex_chk ex_ms me_0) = true := by decide +kernel
theorem ck_0_3 : op_0_3.all (ex_chk ex_ms me_0) = true := by decide +kernel
theorem ck_0_4 : op_0_4.all (ex_chk ex_ms me_0) = true := by decide +kernel
theorem ck_0_5 : op_0_5.all (ex_chk ex_ms me_0) = true := by decide +kernel
theorem ck_0_6 : op_0_6.all (ex_chk ex_ms me_0) = true := by decide +kernel
theorem ck_0_7 : op_0_7.all (ex_chk ex_ms me_0) = true := by decide +kernel
theorem ck_0_8 : op_0_8.all (ex_chk ex_ms me_0) = true := by decide +kernel
theorem ck_0_9 : op_0_9.all (ex_chk ex_ms me_0) = true := by decide +kernel
theorem ck_0_10 : op_0_10.all (ex_chk ex_ms me_0) = true := by decide +kernel
theorem ck_0_11 : op_0_11.all (ex_chk ex_ms me_0) = true := by decide +kernel
theorem ck_0_12 : op_0_12.all (ex_chk ex_ms me_0) = true := by decide +kernel
theorem ck_0_13 : op_0_13.all (ex_chk ex_ms me_0) = true := by decide +kernel
theorem ck_0_14 : op_0_14.all (ex_chk ex_ms me_0) = true := by decide +kernel
theorem ck_0 : op_0.all (ex_chk ex_ms me_0) = true := by
  unfold op_0
  simp only [List.all_append, Bool.and_eq_true]
  exact ⟨ck_0_0, ⟨ck_0_1, ⟨ck_0_2, ⟨ck_0_3, ⟨ck_0_4, ⟨ck_0_5, ⟨ck_0_6, ⟨ck_0_7, ⟨ck_0_8, ⟨ck_0_9, ⟨ck_0_10, ⟨ck_0_11, ⟨ck_0_12, ⟨ck_0_13, ck_0_14⟩⟩⟩⟩⟩⟩⟩⟩⟩⟩⟩⟩⟩⟩
