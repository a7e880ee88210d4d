/-! the tables of the law's main, checked -/
theorem ck_sp {α : Type} {p : α → Bool} {l : List α} (n : Nat) (h1 : (l.take n).all p = true) (h2 : (l.drop n).all p = true) : l.all p = true := by
  rw [← List.take_append_drop n l, List.all_append, h1, h2]
  rfl
theorem ck_0_0_0 : (List.take 25 (op_0_0)).all (ex_chk ex_ms me_0) = true := by decide +kernel
theorem ck_0_0_1 : (List.take 25 (List.drop 25 (op_0_0))).all (ex_chk ex_ms me_0) = true := by decide +kernel
theorem ck_0_0_2 : (List.take 25 (List.drop 25 (List.drop 25 (op_0_0)))).all (ex_chk ex_ms me_0) = true := by decide +kernel
theorem ck_0_0_3 : (List.drop 25 (List.drop 25 (List.drop 25 (op_0_0)))).all (ex_chk ex_ms me_0) = true := by decide +kernel
theorem ck_0_0 : op_0_0.all (ex_chk ex_ms me_0) = true := ck_sp 25 ck_0_0_0 (ck_sp 25 ck_0_0_1 (ck_sp 25 ck_0_0_2 (ck_0_0_3)))
